/-! The first of those with the least key; how many there are -/
def nv (x : Int32) : Nat := x.toNatClampNeg
theorem nv_nI {n : Nat} (h : n < 2 ^ 31) : nv (nI n) = n := nI_clamp h
def enc (r : Option Nat) : Int32 := match r with
  | none => -1
  | some m => nI m
def mins (P : Nat → Bool) (key : Nat → Int32) : Nat → Option Nat
  | 0 => none
  | n + 1 => match mins P key n with
    | none => if P n then some n else none
    | some m => if P n && decide (key n < key m) then some n else some m
theorem mins_lt {P : Nat → Bool} {key : Nat → Int32} : ∀ {n m : Nat}, mins P key n = some m → m < n ∧ P m = true
  | 0, m, h => by cases h
  | n + 1, m, h => by
    unfold mins at h
    cases e : mins P key n with
    | none =>
      rw [e] at h
      dsimp only at h
      split at h
      · rename_i hp
        cases h
        exact ⟨Nat.lt_succ_self n, hp⟩
      · cases h
    | some j =>
      rw [e] at h
      dsimp only at h
      have ih := mins_lt e
      split at h
      · rename_i hp
        cases h
        exact ⟨Nat.lt_succ_self n, (Bool.and_eq_true_iff.mp hp).1⟩
      · cases h
        exact ⟨Nat.lt_succ_of_lt ih.1, ih.2⟩
theorem mins_none {P : Nat → Bool} {key : Nat → Int32} : ∀ {n : Nat}, mins P key n = none → ∀ j, j < n → P j = false
  | 0, _, j, hj => absurd hj (Nat.not_lt_zero j)
  | n + 1, h, j, hj => by
    unfold mins at h
    cases e : mins P key n with
    | none =>
      rw [e] at h
      dsimp only at h
      split at h
      · cases h
      · rename_i hp
        rcases Nat.lt_succ_iff_lt_or_eq.mp hj with q | q
        · exact mins_none e j q
        · subst q
          cases hb : P j with
          | true => exact absurd hb hp
          | false => rfl
    | some i =>
      rw [e] at h
      dsimp only at h
      split at h <;> cases h
/-- the key of the one found is no greater than any, and less than those of smaller numbers -/
theorem mins_le {P : Nat → Bool} {key : Nat → Int32} : ∀ {n m : Nat}, mins P key n = some m → ∀ j, j < n → P j = true → key m ≤ key j ∧ (j < m → key m < key j)
  | 0, m, h, j, hj, _ => by cases h
  | n + 1, m, h, j, hj, hp => by
    unfold mins at h
    cases e : mins P key n with
    | none =>
      rw [e] at h
      dsimp only at h
      split at h
      · cases h
        rcases Nat.lt_succ_iff_lt_or_eq.mp hj with q | q
        · rw [mins_none e j q] at hp; cases hp
        · subst q; exact ⟨Int32.le_refl _, fun z => absurd z (Nat.lt_irrefl _)⟩
      · cases h
    | some i =>
      rw [e] at h
      dsimp only at h
      have ih := mins_le e
      split at h
      · rename_i hq
        cases h
        have hk := of_decide_eq_true (Bool.and_eq_true_iff.mp hq).2
        rcases Nat.lt_succ_iff_lt_or_eq.mp hj with q | q
        · have h1 := (ih j q hp).1
          exact ⟨Int32.le_of_lt (Int32.lt_of_lt_of_le hk h1), fun _ => Int32.lt_of_lt_of_le hk h1⟩
        · subst q; exact ⟨Int32.le_refl _, fun z => absurd z (Nat.lt_irrefl _)⟩
      · rename_i hq
        cases h
        rcases Nat.lt_succ_iff_lt_or_eq.mp hj with q | q
        · exact ih j q hp
        · subst q
          have hk : ¬ key j < key m := fun z => hq (Bool.and_eq_true_iff.mpr ⟨hp, decide_eq_true z⟩)
          exact ⟨Int32.not_lt.mp hk, fun z => absurd z (Nat.not_lt.mpr (Nat.le_of_lt (mins_lt e).1))⟩
theorem mins_some {P : Nat → Bool} {key : Nat → Int32} {n m : Nat} (hm : m < n) (hp : P m = true) (hl : ∀ j, j < n → P j = true → key m ≤ key j ∧ (j < m → key m < key j)) : mins P key n = some m := by
  cases e : mins P key n with
  | none => rw [mins_none e m hm] at hp; cases hp
  | some i =>
    have h1 := mins_lt e
    have h2 := mins_le e m hm hp
    have h3 := hl i h1.1 h1.2
    rcases Nat.lt_trichotomy i m with q | q | q
    · exact absurd (h3.2 q) (Int32.not_lt.mpr h2.1)
    · rw [q]
    · exact absurd (h2.2 q) (Int32.not_lt.mpr h3.1)
theorem mins_no {P : Nat → Bool} {key : Nat → Int32} {n : Nat} (h : ∀ j, j < n → P j = false) : mins P key n = none := by
  cases e : mins P key n with
  | none => rfl
  | some i =>
    have h1 := mins_lt e
    rw [h i h1.1] at h1
    cases h1.2
theorem mins_congr {P P' : Nat → Bool} {key key' : Nat → Int32} {n : Nat} (hP : ∀ j, j < n → P' j = P j) (hk : ∀ j, j < n → P j = true → key' j = key j) : mins P' key' n = mins P key n := by
  cases e : mins P key n with
  | none => exact mins_no (fun j hj => by rw [hP j hj]; exact mins_none e j hj)
  | some i =>
    have h1 := mins_lt e
    refine mins_some h1.1 (by rw [hP i h1.1]; exact h1.2) (fun j hj hp => ?_)
    rw [hP j hj] at hp
    rw [hk i h1.1 h1.2, hk j hj hp]
    exact mins_le e j hj hp
def cnt (P : Nat → Bool) : Nat → Nat
  | 0 => 0
  | n + 1 => cnt P n + (if P n then 1 else 0)
theorem cnt_le (P : Nat → Bool) : ∀ n : Nat, cnt P n ≤ n
  | 0 => Nat.le_refl 0
  | n + 1 => by
    have := cnt_le P n
    unfold cnt
    split <;> omega
theorem cnt_congr {P P' : Nat → Bool} : ∀ {n : Nat}, (∀ j, j < n → P' j = P j) → cnt P' n = cnt P n
  | 0, _ => rfl
  | n + 1, h => by
    unfold cnt
    rw [cnt_congr (fun j hj => h j (Nat.lt_succ_of_lt hj)), h n (Nat.lt_succ_self n)]
theorem cnt_pos {P : Nat → Bool} : ∀ {n j : Nat}, j < n → P j = true → 0 < cnt P n
  | 0, j, hj, _ => absurd hj (Nat.not_lt_zero j)
  | n + 1, j, hj, hp => by
    unfold cnt
    rcases Nat.lt_succ_iff_lt_or_eq.mp hj with q | q
    · have := cnt_pos q hp; omega
    · subst q; rw [if_pos hp]; omega
theorem cnt_off {P P' : Nat → Bool} {t : Nat} (hp : P t = true) (hp' : P' t = false) : ∀ {n : Nat}, t < n → (∀ j, j < n → j ≠ t → P' j = P j) → cnt P n = cnt P' n + 1
  | 0, ht, _ => absurd ht (Nat.not_lt_zero t)
  | n + 1, ht, h => by
    unfold cnt
    rcases Nat.lt_succ_iff_lt_or_eq.mp ht with q | q
    · rw [cnt_off hp hp' q (fun j hj hn => h j (Nat.lt_succ_of_lt hj) hn), h n (Nat.lt_succ_self n) (by omega)]
      omega
    · subst q
      rw [cnt_congr (fun j hj => h j (Nat.lt_succ_of_lt hj) (by omega)), hp, hp']
      simp
theorem mins_of_cnt {P : Nat → Bool} {key : Nat → Int32} {n : Nat} (h : cnt P n = 0) : mins P key n = none :=
  mins_no (fun j hj => by
    cases e : P j with
    | false => rfl
    | true => exact absurd (cnt_pos hj e) (by omega))
theorem enc_neg {r : Option Nat} (hr : ∀ m, r = some m → m < 2 ^ 31) : (enc r < 0) ↔ r = none := by
  cases r with
  | none => exact ⟨fun _ => rfl, fun _ => by decide⟩
  | some m => exact ⟨fun h => absurd h (nI_pos (hr m rfl)), fun h => by cases h⟩
theorem mins_step0 {P : Nat → Bool} {key : Nat → Int32} {k : Nat} (hp : P k = false) : mins P key (k + 1) = mins P key k := by
  conv => lhs; unfold mins
  cases e : mins P key k <;> simp [hp]
theorem mins_stepN {P : Nat → Bool} {key : Nat → Int32} {k : Nat} (h : mins P key k = none) (hp : P k = true) : mins P key (k + 1) = some k := by
  conv => lhs; unfold mins
  rw [h]; simp [hp]
theorem mins_stepS {P : Nat → Bool} {key : Nat → Int32} {k j : Nat} (h : mins P key k = some j) (hp : P k = true) (hk : ¬ key j ≤ key k) : mins P key (k + 1) = some k := by
  conv => lhs; unfold mins
  rw [h]; simp [hp, Int32.not_le.mp hk]
theorem mins_stepK {P : Nat → Bool} {key : Nat → Int32} {k j : Nat} (h : mins P key k = some j) (hk : key j ≤ key k) : mins P key (k + 1) = mins P key k := by
  conv => lhs; unfold mins
  rw [h]; simp [Int32.not_lt.mpr hk]
theorem inc1 (k : Nat) : nI k + Int32.ofInt 1 = nI (k + 1) := nI_1 k
