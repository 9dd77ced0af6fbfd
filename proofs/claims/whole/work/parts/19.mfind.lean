/-! The reference: waking, what is ready, a turn, a step -/
def mDue (b : tH) (T : Nat) : Option Nat := mins (fun t => decide (b.1 24 0 t = 4) && decide (b.1 35 0 t ≤ b.1 20 0 8)) (fun t => b.1 35 0 t) T
def mWk1 (b : tH) (t : Nat) : tH := mEnq (put b 35 0 t (-3)) t
def mWake (T : Nat) : Nat → tH → tH
  | 0, b => b
  | f + 1, b => match mDue b T with
    | none => b
    | some t => mWake T f (mWk1 b t)
theorem mWake_none {T f : Nat} {b : tH} (h : mDue b T = none) : mWake T f b = b := by
  cases f with
  | zero => rfl
  | succ f => unfold mWake; rw [h]
theorem mWake_some {T f t : Nat} {b : tH} (h : mDue b T = some t) : mWake T (f + 1) b = mWake T f (mWk1 b t) := by
  conv => lhs; unfold mWake
  rw [h]
theorem mDue_st {b : tH} {T t : Nat} (h : mDue b T = some t) : t < T ∧ b.1 24 0 t = 4 ∧ b.1 35 0 t ≤ b.1 20 0 8 := by
  have h1 := mins_lt h
  have h2 := Bool.and_eq_true_iff.mp h1.2
  exact ⟨h1.1, of_decide_eq_true h2.1, of_decide_eq_true h2.2⟩
theorem mWk1_st {b : tH} {t s : Nat} : (mWk1 b t).1 24 0 s = if s = t then 0 else b.1 24 0 s := by
  by_cases h : s = t <;> simp [mWk1, mEnq, put_rd, h]
theorem mWk1_un {b : tH} {t s : Nat} : (mWk1 b t).1 35 0 s = if s = t then -3 else b.1 35 0 s := by
  by_cases h : s = t <;> simp [mWk1, mEnq, put_rd, h]
theorem mWk1_cl {b : tH} {t : Nat} : (mWk1 b t).1 20 0 8 = b.1 20 0 8 := by simp [mWk1, mEnq, put_rd]
theorem cnt_wk {b : tH} {T t : Nat} (hs : t < T ∧ b.1 24 0 t = 4 ∧ b.1 35 0 t ≤ b.1 20 0 8) : cnt (fun s => decide (b.1 24 0 s = 4) && decide (b.1 35 0 s ≤ b.1 20 0 8)) T = cnt (fun s => decide ((mWk1 b t).1 24 0 s = 4) && decide ((mWk1 b t).1 35 0 s ≤ (mWk1 b t).1 20 0 8)) T + 1 := by
  refine cnt_off (t := t) ?_ ?_ hs.1 (fun j hj hne => ?_)
  · simp only [hs.2.1, hs.2.2, decide_true, Bool.and_self]
  · rw [mWk1_st, if_pos rfl]; rfl
  · rw [mWk1_st, if_neg hne, mWk1_un, if_neg hne, mWk1_cl]
theorem IQ.wk {b : tH} {T t : Nat} {L : List Nat} (Z : IQ b none T L) (hs : t < T) (h4 : b.1 24 0 t ≠ 0) : IQ (mWk1 b t) none T (L ++ [t]) := IQ.enq (b := put b 35 0 t (-3)) Z hs (Z.notin h4) (fun e => by cases e)

set_option maxHeartbeats 4000000 in
set_option maxRecDepth 100000 in
theorem l1_X7_wake {a b : tH} {T : Nat} {B : tH} (hT : b.1 20 0 11 = nI T) (h24 : T ≤ 24) (K : Vw yX7_wake.cls cX7_wake 3 none 1 (fun r h' => r = none ∧ h' = mix a B) 72 [some (.inr (some (20, 0))), some (.inl (enc (mDue b T))), some (.inl (nI T))] [] (mix a b)) : ∀ (m k : Nat), T = k + m → Vw yX7_wake.cls cX7_wake 3 none 1 (fun r h' => r = none ∧ h' = mix a B) 10 [some (.inr (some (20, 0))), some (.inl (enc (mins (fun t => decide (b.1 24 0 t = 4) && decide (b.1 35 0 t ≤ b.1 20 0 8)) (fun t => b.1 35 0 t) k))), some (.inl (nI k))] [] (mix a b) := by
  intro m
  induction m with
  | zero =>
    intro k hk
    obtain rfl : T = k := hk
    refine v_iload_n dX7_wake_10 rfl ?_
    refine v_aload_n dX7_wake_11 rfl ?_
    refine m_gk hT (by decide) fX7_92 dX7_wake_12 rfl rfl Nat.zero_lt_one ?_
    refine v_icmp_ge 72 dX7_wake_15 (by decide) (fun h_15 => ?_) (fun h_15 => absurd (Int32.le_refl _) h_15)
    exact K
  | succ m ih =>
    intro k hk
    have hk24 : k < 24 := by omega
    have hb : ∀ j, mins (fun t => decide (b.1 24 0 t = 4) && decide (b.1 35 0 t ≤ b.1 20 0 8)) (fun t => b.1 35 0 t) k = some j → j < 2 ^ 31 := fun j hj => by have := (mins_lt hj).1; omega
    refine v_iload_n dX7_wake_10 rfl ?_
    refine v_aload_n dX7_wake_11 rfl ?_
    refine m_gk hT (by decide) fX7_92 dX7_wake_12 rfl rfl Nat.zero_lt_one ?_
    refine v_icmp_ge 72 dX7_wake_15 (by decide) (fun h_15 => absurd h_15 (nI_ge (by omega) (by omega))) (fun h_15 => ?_)
    refine v_aload_n dX7_wake_18 rfl ?_
    refine v_gr 0 fX7_19 dX7_wake_19 rfl rfl rfl Nat.zero_lt_one ?_
    refine v_iload_n dX7_wake_22 rfl ?_
    refine m_iald k (by decide) rfl dX7_wake_23 Nat.zero_lt_one rfl hk24 ?_
    refine v_iconst 4 dX7_wake_24 (by decide) ?_
    refine v_icmp_ne 64 dX7_wake_25 (by decide) (fun h_25 => ?_) (fun h_25 => ?_)
    · refine v_iload_n dX7_wake_64 rfl ?_
      refine v_istore_n [_, _, _] dX7_wake_65 rfl (by decide) ?_
      refine v_iinc [_, _, _] dX7_wake_66 rfl (by first | exact inc1 _ | rfl) rfl (by decide) ?_
      refine v_goto 10 dX7_wake_69 (by decide) ?_
      have q := ih (k + 1) (by omega)
      rw [mins_step0 (by simp only [h_25, decide_false, Bool.false_and])] at q
      exact q
    · refine v_aload_n dX7_wake_28 rfl ?_
      refine v_gr 0 fX7_53 dX7_wake_29 rfl rfl rfl Nat.zero_lt_one ?_
      refine v_iload_n dX7_wake_32 rfl ?_
      refine m_iald k (by decide) rfl dX7_wake_33 Nat.zero_lt_one rfl hk24 ?_
      refine v_aload_n dX7_wake_34 rfl ?_
      refine m_gi (by decide) fX7_112 dX7_wake_35 rfl rfl Nat.zero_lt_one ?_
      refine v_icmp_gt 64 dX7_wake_38 (by decide) (fun h_38 => ?_) (fun h_38 => ?_)
      · refine v_iload_n dX7_wake_64 rfl ?_
        refine v_istore_n [_, _, _] dX7_wake_65 rfl (by decide) ?_
        refine v_iinc [_, _, _] dX7_wake_66 rfl (by first | exact inc1 _ | rfl) rfl (by decide) ?_
        refine v_goto 10 dX7_wake_69 (by decide) ?_
        have q := ih (k + 1) (by omega)
        rw [mins_step0 (by simp only [Int32.not_le.mpr h_38, decide_false, Bool.and_false])] at q
        exact q
      · refine v_iload_n dX7_wake_41 rfl ?_
        refine v_if_lt 60 dX7_wake_42 (by decide) (fun h_42 => ?_) (fun h_42 => ?_)
        · have hj := (enc_neg hb).mp h_42
          refine v_iload_n dX7_wake_60 rfl ?_
          refine v_goto 65 dX7_wake_61 (by decide) ?_
          refine v_istore_n [_, _, _] dX7_wake_65 rfl (by decide) ?_
          refine v_iinc [_, _, _] dX7_wake_66 rfl (by first | exact inc1 _ | rfl) rfl (by decide) ?_
          refine v_goto 10 dX7_wake_69 (by decide) ?_
          have q := ih (k + 1) (by omega)
          rw [mins_stepN hj (by simp only [h_25, Int32.not_lt.mp h_38, decide_true, Bool.and_self])] at q
          exact q
        · obtain ⟨j, hj⟩ : ∃ j, mins (fun t => decide (b.1 24 0 t = 4) && decide (b.1 35 0 t ≤ b.1 20 0 8)) (fun t => b.1 35 0 t) k = some j := by
            cases e : mins (fun t => decide (b.1 24 0 t = 4) && decide (b.1 35 0 t ≤ b.1 20 0 8)) (fun t => b.1 35 0 t) k with
            | none => exact absurd ((enc_neg hb).mpr e) h_42
            | some j => exact ⟨j, rfl⟩
          have hj24 : j < 24 := by have := (mins_lt hj).1; omega
          refine v_aload_n dX7_wake_45 rfl ?_
          refine v_gr 0 fX7_53 dX7_wake_46 rfl rfl rfl Nat.zero_lt_one ?_
          refine v_iload_n dX7_wake_49 rfl ?_
          refine m_iald k (by decide) rfl dX7_wake_50 Nat.zero_lt_one rfl hk24 ?_
          refine v_aload_n dX7_wake_51 rfl ?_
          refine v_gr 0 fX7_53 dX7_wake_52 rfl rfl rfl Nat.zero_lt_one ?_
          refine v_iload_n dX7_wake_55 rfl ?_
          refine m_iald j (by decide) rfl dX7_wake_56 Nat.zero_lt_one (by rw [hj]; rfl) hj24 ?_
          refine v_icmp_ge 64 dX7_wake_57 (by decide) (fun h_57 => ?_) (fun h_57 => ?_)
          · refine v_iload_n dX7_wake_64 rfl ?_
            refine v_istore_n [_, _, _] dX7_wake_65 rfl (by decide) ?_
            refine v_iinc [_, _, _] dX7_wake_66 rfl (by first | exact inc1 _ | rfl) rfl (by decide) ?_
            refine v_goto 10 dX7_wake_69 (by decide) ?_
            have q := ih (k + 1) (by omega)
            rw [mins_stepK hj h_57] at q
            exact q
          · refine v_iload_n dX7_wake_60 rfl ?_
            refine v_goto 65 dX7_wake_61 (by decide) ?_
            refine v_istore_n [_, _, _] dX7_wake_65 rfl (by decide) ?_
            refine v_iinc [_, _, _] dX7_wake_66 rfl (by first | exact inc1 _ | rfl) rfl (by decide) ?_
            refine v_goto 10 dX7_wake_69 (by decide) ?_
            have q := ih (k + 1) (by omega)
            rw [mins_stepS hj (by simp only [h_25, Int32.not_lt.mp h_38, decide_true, Bool.and_self]) h_57] at q
            exact q
set_option maxHeartbeats 4000000 in
set_option maxRecDepth 100000 in
theorem l_X7_wake {a : tH} {T : Nat} : ∀ (f : Nat) (b : tH) (L : List Nat) (t0 : Nat) (L2 : Option tV), t0 < 2 ^ 31 → IQ b none T L → cnt (fun t => decide (b.1 24 0 t = 4) && decide (b.1 35 0 t ≤ b.1 20 0 8)) T ≤ f → Vw yX7_wake.cls cX7_wake 3 none 1 (fun r h' => r = none ∧ h' = mix a (mWake T f b)) 2 [some (.inr (some (20, 0))), some (.inl (nI t0)), L2] [] (mix a b) := by
  intro f
  induction f with
  | zero =>
    intro b L t0 L2 ht0 Z hc
    have hj : mDue b T = none := mins_of_cnt (by omega)
    refine v_iload_n dX7_wake_2 rfl ?_
    refine v_if_lt 92 dX7_wake_3 (by decide) (fun h_3 => absurd h_3 (nI_pos ht0)) (fun h_3 => ?_)
    refine v_iconst (-1) dX7_wake_6 (by decide) ?_
    refine v_istore_n [_, _, _] dX7_wake_7 rfl (by decide) ?_
    refine v_iconst 0 dX7_wake_8 (by decide) ?_
    refine v_istore_n [_, _, _] dX7_wake_9 rfl (by decide) ?_
    refine l1_X7_wake Z.1 Z.2.1 ?_ T 0 (by omega)
    rw [hj]
    refine v_iload_n dX7_wake_72 rfl ?_
    refine v_if_lt 2 dX7_wake_73 (by decide) (fun h_73 => ?_) (fun h_73 => absurd (by decide) h_73)
    refine v_iload_n dX7_wake_2 rfl ?_
    refine v_if_lt 92 dX7_wake_3 (by decide) (fun h_3 => ?_) (fun h_3 => absurd (by decide) h_3)
    exact v_vret dX7_wake_92 ⟨rfl, rfl⟩
  | succ f ih =>
    intro b L t0 L2 ht0 Z hc
    cases hj : mDue b T with
    | none =>
      rw [mWake_none hj]
      refine v_iload_n dX7_wake_2 rfl ?_
      refine v_if_lt 92 dX7_wake_3 (by decide) (fun h_3 => absurd h_3 (nI_pos ht0)) (fun h_3 => ?_)
      refine v_iconst (-1) dX7_wake_6 (by decide) ?_
      refine v_istore_n [_, _, _] dX7_wake_7 rfl (by decide) ?_
      refine v_iconst 0 dX7_wake_8 (by decide) ?_
      refine v_istore_n [_, _, _] dX7_wake_9 rfl (by decide) ?_
      refine l1_X7_wake Z.1 Z.2.1 ?_ T 0 (by omega)
      rw [hj]
      refine v_iload_n dX7_wake_72 rfl ?_
      refine v_if_lt 2 dX7_wake_73 (by decide) (fun h_73 => ?_) (fun h_73 => absurd (by decide) h_73)
      refine v_iload_n dX7_wake_2 rfl ?_
      refine v_if_lt 92 dX7_wake_3 (by decide) (fun h_3 => ?_) (fun h_3 => absurd (by decide) h_3)
      exact v_vret dX7_wake_92 ⟨rfl, rfl⟩
    | some t =>
      have hs := mDue_st hj
      have ht24 : t < 24 := by have := Z.2.1; omega
      rw [mWake_some hj]
      refine v_iload_n dX7_wake_2 rfl ?_
      refine v_if_lt 92 dX7_wake_3 (by decide) (fun h_3 => absurd h_3 (nI_pos ht0)) (fun h_3 => ?_)
      refine v_iconst (-1) dX7_wake_6 (by decide) ?_
      refine v_istore_n [_, _, _] dX7_wake_7 rfl (by decide) ?_
      refine v_iconst 0 dX7_wake_8 (by decide) ?_
      refine v_istore_n [_, _, _] dX7_wake_9 rfl (by decide) ?_
      refine l1_X7_wake Z.1 Z.2.1 ?_ T 0 (by omega)
      rw [hj]
      refine v_iload_n dX7_wake_72 rfl ?_
      refine v_if_lt 2 dX7_wake_73 (by decide) (fun h_73 => absurd h_73 (nI_pos (by omega))) (fun h_73 => ?_)
      refine v_aload_n dX7_wake_76 rfl ?_
      refine v_gr 0 fX7_53 dX7_wake_77 rfl rfl rfl Nat.zero_lt_one ?_
      refine v_iload_n dX7_wake_80 rfl ?_
      refine v_bipush (-3) dX7_wake_81 (by decide) ?_
      refine m_iast t (by decide) rfl dX7_wake_83 Nat.zero_lt_one rfl ht24 ?_
      refine v_aload_n dX7_wake_84 rfl ?_
      refine v_iload_n dX7_wake_85 rfl ?_
      refine v_call1n lX7_95 kX7_enqueue (c_X7_enqueue (q := L.length) ht24 (by exact Z.2.2.1) Z.len) dX7_wake_86 rfl rfl Nat.zero_lt_one rfl (by decide) (by decide) (st8 rfl) ?_
      refine v_goto 2 dX7_wake_89 (by decide) ?_
      exact ih (mWk1 b t) (L ++ [t]) t _ (by omega) (Z.wk hs.1 (by rw [hs.2.1]; decide)) (by have := cnt_wk hs; omega)
set_option maxHeartbeats 4000000 in
set_option maxRecDepth 100000 in
theorem c_X7_wake {a b : tH} {T : Nat} {L : List Nat} (Z : IQ b none T L) : Cn yX7_wake cX7_wake 3 1 [.inr (some (20, 0))] (mix a b) (mix a (mWake T 24 b)) := by
  refine Ct.of (by decide) [_, _, _] rfl (Nat.le_of_ble_eq_true rfl) ?_
  refine v_iconst 0 dX7_wake_0 (by decide) ?_
  refine v_istore_n [_, _, _] dX7_wake_1 rfl (by decide) ?_
  exact l_X7_wake 24 b L 0 none (by omega) Z (Nat.le_trans (cnt_le _ T) Z.2.1)
theorem IQ.wake {T : Nat} : ∀ (f : Nat) (b : tH) (L : List Nat), IQ b none T L → ∃ L', IQ (mWake T f b) none T L'
  | 0, b, L, Z => ⟨L, Z⟩
  | f + 1, b, L, Z => by
    cases hj : mDue b T with
    | none => rw [mWake_none hj]; exact ⟨L, Z⟩
    | some t =>
      rw [mWake_some hj]
      have hs := mDue_st hj
      exact IQ.wake f (mWk1 b t) (L ++ [t]) (Z.wk hs.1 (by rw [hs.2.1]; decide))
theorem mWk1_off {b : tH} {t c i k : Nat} (h1 : c ≠ 24) (h2 : c ≠ 35) (h3 : c ≠ 38) (h4 : ¬ (c = 20 ∧ i = 0 ∧ k = 27)) : (mWk1 b t).1 c i k = b.1 c i k := by
  unfold mWk1 mEnq
  rw [put_ne (by omega), put_ne (by omega), put_ne (by omega), put_ne (by omega)]
theorem mWake_off {T c i k : Nat} (h1 : c ≠ 24) (h2 : c ≠ 35) (h3 : c ≠ 38) (h4 : ¬ (c = 20 ∧ i = 0 ∧ k = 27)) : ∀ (f : Nat) (b : tH), (mWake T f b).1 c i k = b.1 c i k
  | 0, b => rfl
  | f + 1, b => by
    cases hj : mDue b T with
    | none => rw [mWake_none hj]
    | some t => rw [mWake_some hj, mWake_off h1 h2 h3 h4 f, mWk1_off h1 h2 h3 h4]
theorem IH.wake {T : Nat} {b : tH} (I : IH b T) (f : Nat) : IH (mWake T f b) T := by
  intro t ht
  obtain ⟨hc, pc, h4, p4, e1, e2⟩ := I t ht
  exact ⟨hc, pc, h4, p4, (mWake_off (by omega) (by omega) (by omega) (by omega) f b).trans e1, (mWake_off (by omega) (by omega) (by omega) (by omega) f b).trans e2⟩
/-- those delayed have a time that isn't negative -/
def IU (b : tH) (T : Nat) : Prop := ∀ t, t < T → b.1 24 0 t = 4 → ∃ u, u < 2 ^ 31 ∧ b.1 35 0 t = nI u
theorem IU.wk {b : tH} {T t : Nat} (h : IU b T) : IU (mWk1 b t) T := by
  intro s hs h4
  rw [mWk1_st] at h4
  by_cases e : s = t
  · rw [if_pos e] at h4; exact absurd h4 (by decide)
  · rw [if_neg e] at h4
    rw [mWk1_un, if_neg e]
    exact h s hs h4
theorem IU.wake {T : Nat} : ∀ (f : Nat) (b : tH), IU b T → IU (mWake T f b) T
  | 0, b, h => h
  | f + 1, b, h => by
    cases hj : mDue b T with
    | none => rw [mWake_none hj]; exact h
    | some t => rw [mWake_some hj]; exact IU.wake f (mWk1 b t) h.wk
def mDel (b : tH) (T : Nat) : Option Nat := mins (fun t => decide (b.1 24 0 t = 4)) (fun t => b.1 35 0 t) T
def lea (b : tH) (r : Option Nat) : Int32 := match r with
  | none => -1
  | some j => b.1 35 0 j
def mTen1 (b : tH) (T k : Nat) : tH := if b.1 24 0 k < 1 ∨ 3 < b.1 24 0 k then b else mExc (put b 20 0 10 (b.1 20 0 10 + 1)) T k 10
def mTenL (T : Nat) : Nat → Nat → tH → tH
  | 0, _, b => b
  | m + 1, k, b => mTenL T m (k + 1) (mTen1 b T k)
def mFindB (b : tH) (T : Nat) : tH := match mDel b T with
  | none => mTenL T T 0 b
  | some j => mWake T 24 (put b 20 0 8 (b.1 35 0 j))
def mFind (b : tH) (T : Nat) : tH := if (mWake T 24 b).1 20 0 27 = 0 then mFindB (mWake T 24 b) T else mWake T 24 b
theorem mDel_st {b : tH} {T t : Nat} (h : mDel b T = some t) : t < T ∧ b.1 24 0 t = 4 := by
  have h1 := mins_lt h
  exact ⟨h1.1, of_decide_eq_true h1.2⟩
theorem IM_ten1 {b : tH} {T k : Nat} {L : List Nat} (Z : IQ b none T L) (I : IH b T) (hk : k < T) : (∃ L', IQ (mTen1 b T k) none T L') ∧ IH (mTen1 b T k) T := by
  unfold mTen1
  split
  · exact ⟨⟨L, Z⟩, I⟩
  · have := IM_exc (b := put b 20 0 10 (b.1 20 0 10 + 1)) (n := 10) Z I hk (fun e => by cases e)
    exact ⟨this.1, this.2.1⟩
set_option maxHeartbeats 4000000 in
set_option maxRecDepth 100000 in
theorem l3_X7_findReady {a : tH} {T : Nat} {L1 : Option tV} : ∀ (m k : Nat) (b : tH) (L : List Nat), T = k + m → IQ b none T L → IH b T → Vw yX7_findReady.cls cX7_findReady 3 none 3 (fun r h' => r = none ∧ h' = mix a (mTenL T m k b)) 81 [some (.inr (some (20, 0))), L1, some (.inl (nI k))] [] (mix a b) := by
  intro m
  induction m with
  | zero =>
    intro k b L hk Z I
    obtain rfl : T = k := hk
    refine v_iload_n dX7_findReady_81 rfl ?_
    refine v_aload_n dX7_findReady_82 rfl ?_
    refine m_gk Z.1 (by decide) fX7_92 dX7_findReady_83 rfl rfl Nat.zero_lt_one ?_
    refine v_icmp_ge 126 dX7_findReady_86 (by decide) (fun h_86 => ?_) (fun h_86 => absurd (Int32.le_refl _) h_86)
    exact v_vret dX7_findReady_126 ⟨rfl, rfl⟩
  | succ m ih =>
    intro k b L hk Z I
    have hT24 := Z.2.1
    have hk24 : k < 24 := by omega
    have hkT : k < T := by omega
    have IM := IM_ten1 Z I hkT
    obtain ⟨L', Z'⟩ := IM.1
    obtain ⟨hc, pc, h4, p4, c1, c2⟩ := I k hkT
    refine v_iload_n dX7_findReady_81 rfl ?_
    refine v_aload_n dX7_findReady_82 rfl ?_
    refine m_gk Z.1 (by decide) fX7_92 dX7_findReady_83 rfl rfl Nat.zero_lt_one ?_
    refine v_icmp_ge 126 dX7_findReady_86 (by decide) (fun h_86 => absurd h_86 (nI_ge (by omega) (by omega))) (fun h_86 => ?_)
    refine v_aload_n dX7_findReady_89 rfl ?_
    refine v_gr 0 fX7_19 dX7_findReady_90 rfl rfl rfl Nat.zero_lt_one ?_
    refine v_iload_n dX7_findReady_93 rfl ?_
    refine m_iald k (by decide) rfl dX7_findReady_94 Nat.zero_lt_one rfl hk24 ?_
    refine v_iconst 1 dX7_findReady_95 (by decide) ?_
    refine v_iconst 3 dX7_findReady_96 (by decide) ?_
    refine v_calls3i lX7_84 kX7_in (c_X7_in) dX7_findReady_97 rfl (by decide) (by decide) (st8 rfl) ?_
    refine v_if_eq 120 dX7_findReady_100 (by decide) (fun h_100 => ?_) (fun h_100 => ?_)
    · rw [i001] at h_100
      refine v_iinc [_, _, _] dX7_findReady_120 rfl (by first | exact inc1 _ | rfl) rfl (by decide) ?_
      refine v_goto 81 dX7_findReady_123 (by decide) ?_
      have e1 : mTen1 b T k = b := if_pos h_100
      have q := ih (k + 1) (mTen1 b T k) L' (by omega) Z' IM.2
      have e2 : mTenL T (m + 1) k b = mTenL T m (k + 1) (mTen1 b T k) := rfl
      rw [e2]
      rw [e1] at q ⊢
      exact q
    · rw [i001] at h_100
      refine v_aload_n dX7_findReady_103 rfl ?_
      refine v_dup dX7_findReady_104 ?_
      refine m_gi (by decide) fX7_118 dX7_findReady_105 rfl rfl Nat.zero_lt_one ?_
      refine v_iconst 1 dX7_findReady_108 (by decide) ?_
      refine v_iadd dX7_findReady_109 ?_
      refine m_pi (by decide) fX7_118 dX7_findReady_110 rfl rfl Nat.zero_lt_one ?_
      refine v_aload_n dX7_findReady_113 rfl ?_
      refine v_iload_n dX7_findReady_114 rfl ?_
      refine v_bipush 10 dX7_findReady_115 (by decide) ?_
      refine v_call2n lX7_147 kX7_except (c_X7_except (T := T) hkT (by exact Z) ⟨hc, h4, c1⟩) dX7_findReady_117 rfl rfl Nat.zero_lt_one rfl (by decide) (by decide) (st8 rfl) ?_
      refine v_iinc [_, _, _] dX7_findReady_120 rfl (by first | exact inc1 _ | rfl) rfl (by decide) ?_
      refine v_goto 81 dX7_findReady_123 (by decide) ?_
      have e1 : mTen1 b T k = mExc (put b 20 0 10 (b.1 20 0 10 + 1)) T k 10 := if_neg h_100
      have q := ih (k + 1) (mTen1 b T k) L' (by omega) Z' IM.2
      have e2 : mTenL T (m + 1) k b = mTenL T m (k + 1) (mTen1 b T k) := rfl
      rw [e2]
      rw [e1] at q ⊢
      exact q
set_option maxHeartbeats 4000000 in
set_option maxRecDepth 100000 in
theorem l2_X7_findReady {a b : tH} {T : Nat} {B : tH} (hT : b.1 20 0 11 = nI T) (h24 : T ≤ 24) (U : IU b T) (K : Vw yX7_findReady.cls cX7_findReady 3 none 3 (fun r h' => r = none ∧ h' = mix a B) 65 [some (.inr (some (20, 0))), some (.inl (lea b (mDel b T))), some (.inl (nI T))] [] (mix a b)) : ∀ (m k : Nat), T = k + m → Vw yX7_findReady.cls cX7_findReady 3 none 3 (fun r h' => r = none ∧ h' = mix a B) 16 [some (.inr (some (20, 0))), some (.inl (lea b (mins (fun t => decide (b.1 24 0 t = 4)) (fun t => b.1 35 0 t) k))), some (.inl (nI k))] [] (mix a b) := by
  intro m
  induction m with
  | zero =>
    intro k hk
    obtain rfl : T = k := hk
    refine v_iload_n dX7_findReady_16 rfl ?_
    refine v_aload_n dX7_findReady_17 rfl ?_
    refine m_gk hT (by decide) fX7_92 dX7_findReady_18 rfl rfl Nat.zero_lt_one ?_
    refine v_icmp_ge 65 dX7_findReady_21 (by decide) (fun h_21 => ?_) (fun h_21 => absurd (Int32.le_refl _) h_21)
    exact K
  | succ m ih =>
    intro k hk
    have hk24 : k < 24 := by omega
    refine v_iload_n dX7_findReady_16 rfl ?_
    refine v_aload_n dX7_findReady_17 rfl ?_
    refine m_gk hT (by decide) fX7_92 dX7_findReady_18 rfl rfl Nat.zero_lt_one ?_
    refine v_icmp_ge 65 dX7_findReady_21 (by decide) (fun h_21 => absurd h_21 (nI_ge (by omega) (by omega))) (fun h_21 => ?_)
    refine v_aload_n dX7_findReady_24 rfl ?_
    refine v_gr 0 fX7_19 dX7_findReady_25 rfl rfl rfl Nat.zero_lt_one ?_
    refine v_iload_n dX7_findReady_28 rfl ?_
    refine m_iald k (by decide) rfl dX7_findReady_29 Nat.zero_lt_one rfl hk24 ?_
    refine v_iconst 4 dX7_findReady_30 (by decide) ?_
    refine v_icmp_ne 57 dX7_findReady_31 (by decide) (fun h_31 => ?_) (fun h_31 => ?_)
    · refine v_iload_n dX7_findReady_57 rfl ?_
      refine v_istore_n [_, _, _] dX7_findReady_58 rfl (by decide) ?_
      refine v_iinc [_, _, _] dX7_findReady_59 rfl (by first | exact inc1 _ | rfl) rfl (by decide) ?_
      refine v_goto 16 dX7_findReady_62 (by decide) ?_
      have q := ih (k + 1) (by omega)
      rw [mins_step0 (by simp only [h_31, decide_false])] at q
      exact q
    · refine v_iload_n dX7_findReady_34 rfl ?_
      refine v_if_lt 48 dX7_findReady_35 (by decide) (fun h_35 => ?_) (fun h_35 => ?_)
      · have hj : mins (fun t => decide (b.1 24 0 t = 4)) (fun t => b.1 35 0 t) k = none := by
          cases e : mins (fun t => decide (b.1 24 0 t = 4)) (fun t => b.1 35 0 t) k with
          | none => rfl
          | some j =>
            exfalso
            rw [e] at h_35
            have e1 := mins_lt e
            obtain ⟨u, hu, eu⟩ := U j (by omega) (of_decide_eq_true e1.2)
            exact absurd h_35 (by show ¬ b.1 35 0 j < 0; rw [eu]; exact nI_pos hu)
        refine v_aload_n dX7_findReady_48 rfl ?_
        refine v_gr 0 fX7_53 dX7_findReady_49 rfl rfl rfl Nat.zero_lt_one ?_
        refine v_iload_n dX7_findReady_52 rfl ?_
        refine m_iald k (by decide) rfl dX7_findReady_53 Nat.zero_lt_one rfl hk24 ?_
        refine v_goto 58 dX7_findReady_54 (by decide) ?_
        refine v_istore_n [_, _, _] dX7_findReady_58 rfl (by decide) ?_
        refine v_iinc [_, _, _] dX7_findReady_59 rfl (by first | exact inc1 _ | rfl) rfl (by decide) ?_
        refine v_goto 16 dX7_findReady_62 (by decide) ?_
        have q := ih (k + 1) (by omega)
        rw [mins_stepN hj (by simp only [h_31, decide_true])] at q
        exact q
      · obtain ⟨j, hj⟩ : ∃ j, mins (fun t => decide (b.1 24 0 t = 4)) (fun t => b.1 35 0 t) k = some j := by
          cases e : mins (fun t => decide (b.1 24 0 t = 4)) (fun t => b.1 35 0 t) k with
          | none => rw [e] at h_35; exact absurd (by show (-1 : Int32) < 0; decide) h_35
          | some j => exact ⟨j, rfl⟩
        refine v_aload_n dX7_findReady_38 rfl ?_
        refine v_gr 0 fX7_53 dX7_findReady_39 rfl rfl rfl Nat.zero_lt_one ?_
        refine v_iload_n dX7_findReady_42 rfl ?_
        refine m_iald k (by decide) rfl dX7_findReady_43 Nat.zero_lt_one rfl hk24 ?_
        refine v_iload_n dX7_findReady_44 rfl ?_
        rw [hj]
        refine v_icmp_ge 57 dX7_findReady_45 (by decide) (fun h_45 => ?_) (fun h_45 => ?_)
        · refine v_iload_n dX7_findReady_57 rfl ?_
          refine v_istore_n [_, _, _] dX7_findReady_58 rfl (by decide) ?_
          refine v_iinc [_, _, _] dX7_findReady_59 rfl (by first | exact inc1 _ | rfl) rfl (by decide) ?_
          refine v_goto 16 dX7_findReady_62 (by decide) ?_
          have q := ih (k + 1) (by omega)
          rw [mins_stepK hj h_45, hj] at q
          exact q
        · refine v_aload_n dX7_findReady_48 rfl ?_
          refine v_gr 0 fX7_53 dX7_findReady_49 rfl rfl rfl Nat.zero_lt_one ?_
          refine v_iload_n dX7_findReady_52 rfl ?_
          refine m_iald k (by decide) rfl dX7_findReady_53 Nat.zero_lt_one rfl hk24 ?_
          refine v_goto 58 dX7_findReady_54 (by decide) ?_
          refine v_istore_n [_, _, _] dX7_findReady_58 rfl (by decide) ?_
          refine v_iinc [_, _, _] dX7_findReady_59 rfl (by first | exact inc1 _ | rfl) rfl (by decide) ?_
          refine v_goto 16 dX7_findReady_62 (by decide) ?_
          have q := ih (k + 1) (by omega)
          rw [mins_stepS hj (by simp only [h_31, decide_true]) h_45] at q
          exact q
set_option maxHeartbeats 4000000 in
set_option maxRecDepth 100000 in
set_option maxHeartbeats 4000000 in
set_option maxRecDepth 100000 in
theorem c_X7_findReady {a b : tH} {T : Nat} {L : List Nat} (Z : IQ b none T L) (I : IH b T) (U : IU b T) : Cn yX7_findReady cX7_findReady 3 3 [.inr (some (20, 0))] (mix a b) (mix a (mFind b T)) := by
  obtain ⟨L1, Z1⟩ := Z.wake 24
  have I1 := I.wake 24
  have U1 := IU.wake 24 b U
  have hT24 := Z.2.1
  have hl := Z1.len
  refine Ct.of (by decide) [_, _, _] rfl (Nat.le_of_ble_eq_true rfl) ?_
  refine v_aload_n dX7_findReady_0 rfl ?_
  refine v_call0n lX7_169 kX7_wake (c_X7_wake (T := T) Z) dX7_findReady_1 rfl rfl Nat.zero_lt_one rfl (by decide) (by decide) (st8 rfl) ?_
  refine v_aload_n dX7_findReady_4 rfl ?_
  refine m_gk Z1.2.2.1 (by decide) fX7_99 dX7_findReady_5 rfl rfl Nat.zero_lt_one ?_
  refine v_if_le 12 dX7_findReady_8 (by decide) (fun h_8 => ?_) (fun h_8 => ?_)
  · have e0 : (mWake T 24 b).1 20 0 27 = 0 := by
      rw [Z1.2.2.1]
      rcases Nat.eq_zero_or_pos L1.length with e | e
      · rw [e]; rfl
      · exact absurd h_8 (nI_nle e (by omega))
    have e1 : mFind b T = mFindB (mWake T 24 b) T := if_pos e0
    rw [e1]
    refine v_iconst (-1) dX7_findReady_12 (by decide) ?_
    refine v_istore_n [_, _, _] dX7_findReady_13 rfl (by decide) ?_
    refine v_iconst 0 dX7_findReady_14 (by decide) ?_
    refine v_istore_n [_, _, _] dX7_findReady_15 rfl (by decide) ?_
    refine l2_X7_findReady Z1.1 hT24 U1 ?_ T 0 (by omega)
    cases hj : mDel (mWake T 24 b) T with
    | none =>
      have e2 : mFindB (mWake T 24 b) T = mTenL T T 0 (mWake T 24 b) := by unfold mFindB; rw [hj]
      rw [e2]
      refine v_iload_n dX7_findReady_65 rfl ?_
      refine v_if_lt 79 dX7_findReady_66 (by decide) (fun h_66 => ?_) (fun h_66 => absurd (by show (-1 : Int32) < 0; decide) h_66)
      refine v_iconst 0 dX7_findReady_79 (by decide) ?_
      refine v_istore_n [_, _, _] dX7_findReady_80 rfl (by decide) ?_
      exact l3_X7_findReady T 0 (mWake T 24 b) L1 (by omega) Z1 I1
    | some j =>
      have hs := mDel_st hj
      obtain ⟨u, hu, eu⟩ := U1 j hs.1 hs.2
      have e2 : mFindB (mWake T 24 b) T = mWake T 24 (put (mWake T 24 b) 20 0 8 ((mWake T 24 b).1 35 0 j)) := by unfold mFindB; rw [hj]
      rw [e2]
      refine v_iload_n dX7_findReady_65 rfl ?_
      refine v_if_lt 79 dX7_findReady_66 (by decide) (fun h_66 => absurd h_66 (by show ¬ (mWake T 24 b).1 35 0 j < 0; rw [eu]; exact nI_pos hu)) (fun h_66 => ?_)
      refine v_aload_n dX7_findReady_69 rfl ?_
      refine v_iload_n dX7_findReady_70 rfl ?_
      refine m_pi (by decide) fX7_112 dX7_findReady_71 rfl rfl Nat.zero_lt_one ?_
      refine v_aload_n dX7_findReady_74 rfl ?_
      refine v_call0n lX7_169 kX7_wake (c_X7_wake (T := T) (L := L1) (by exact Z1)) dX7_findReady_75 rfl rfl Nat.zero_lt_one rfl (by decide) (by decide) (st8 rfl) ?_
      exact v_vret dX7_findReady_78 ⟨rfl, rfl⟩
  · have e0 : ¬ (mWake T 24 b).1 20 0 27 = 0 := fun z => h_8 (by rw [← Z1.2.2.1, z]; exact Int32.le_refl 0)
    exact v_vret dX7_findReady_11 ⟨rfl, by unfold mFind; rw [if_neg e0]⟩
