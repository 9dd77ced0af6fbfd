/-! Acts keep the relation: helpers -/
theorem put_put {h : tH} {c i k : Nat} {x y : Int32} : put (put h c i k x) c i k y = put h c i k y := by
  refine Prod.ext (funext fun c' => funext fun i' => funext fun k' => ?_) rfl
  simp only [put_rd]
  by_cases q : c' = c ∧ i' = i ∧ k' = k
  · rw [if_pos q, if_pos q]
  · rw [if_neg q, if_neg q, if_neg q]
theorem put_comm {h : tH} {c i k c' i' k' : Nat} {x y : Int32} (hn : ¬ (c' = c ∧ i' = i ∧ k' = k)) : put (put h c i k x) c' i' k' y = put (put h c' i' k' y) c i k x := by
  refine Prod.ext (funext fun c2 => funext fun i2 => funext fun k2 => ?_) rfl
  simp only [put_rd]
  by_cases q : c2 = c' ∧ i2 = i' ∧ k2 = k'
  · rw [if_pos q, if_neg (by omega), if_pos q]
  · rw [if_neg q]
    by_cases w : c2 = c ∧ i2 = i ∧ k2 = k
    · rw [if_pos w, if_pos w]
    · rw [if_neg w, if_neg w, if_neg q]
theorem xRmL_put {t c i j : Nat} {x : Int32} (hc : ¬ (c = 10 ∧ i = 0 ∧ j = 1)) : ∀ (m n k : Nat) (a : tH), xRmL t m n k (put a c i j x) = put (xRmL t m n k a) c i j x
  | 0, n, k, a => put_comm (by omega)
  | m + 1, n, k, a => by
    show (if (put a c i j x).2 k = some t then xRmL t m n (k + 1) (put a c i j x) else xRmL t m (n + 1) (k + 1) (putq (put a c i j x) n ((put a c i j x).2 k))) = put (if a.2 k = some t then xRmL t m n (k + 1) a else xRmL t m (n + 1) (k + 1) (putq a n (a.2 k))) c i j x
    by_cases e : a.2 k = some t
    · rw [if_pos (show (put a c i j x).2 k = some t from e), if_pos e]
      exact xRmL_put hc m n (k + 1) a
    · rw [if_neg (show ¬ (put a c i j x).2 k = some t from e), if_neg e]
      exact xRmL_put hc m (n + 1) (k + 1) (putq a n (a.2 k))
theorem xRemove_put {a : tH} {t c i j : Nat} {x : Int32} (hc : ¬ (c = 10 ∧ i = 0 ∧ j = 1)) : xRemove (put a c i j x) t = put (xRemove a t) c i j x := by
  unfold xRemove
  rw [put_ne (by omega)]
  exact xRmL_put hc _ _ _ a
theorem mFinN_rd {b : tH} {t c k : Nat} {s : Int32} (h1 : c ≠ 38) (h2 : ¬ (c = 20 ∧ k = 27)) : (mFinN b t s).1 c 0 k = if c = 24 ∧ k = t then s else b.1 c 0 k := by
  unfold mFinN
  rw [mLeave_off.1 c 0 k h1 (by omega), put_rd]
  by_cases q : c = 24 ∧ k = t
  · rw [if_pos ⟨q.1, rfl, q.2⟩, if_pos q]
  · rw [if_neg (by omega), if_neg q]
theorem mExcN_20 {b : tH} {t k : Nat} {n : Int32} (hk : k ≠ 27) (I : ∃ hc, hc ≤ 4 ∧ b.1 28 0 t = nI hc) : (mExcN b t n).1 20 0 k = b.1 20 0 k ∧ (mExcN b t n).1 30 0 k = b.1 30 0 k := by
  obtain ⟨hc, h4, e⟩ := I
  cases hc with
  | zero =>
    rw [mExcN_0 e, mFinN_rd (by omega) (by omega), mFinN_rd (by omega) (by omega), if_neg (by omega), if_neg (by omega)]
    exact ⟨rfl, rfl⟩
  | succ hc =>
    rw [mExcN_1 e (by omega)]
    split
    · exact ⟨rfl, rfl⟩
    · unfold mEnq
      rw [put_ne (by omega), put_ne (by omega), put_ne (by omega), put_ne (by omega), put_ne (by omega), put_ne (by omega)]
      exact ⟨rfl, rfl⟩
theorem mExc_clo {b : tH} {T t : Nat} {n : Int32} (ho : b.1 20 0 6 = 0) (h5 : b.1 24 0 0 < 5) (I : ∃ hc, hc ≤ 4 ∧ b.1 28 0 t = nI hc) : mExc b T t n = mClo (mExcN b t n) T := by
  obtain ⟨hc, h4, e⟩ := I
  cases hc with
  | zero =>
    rw [mExc_0 e, mExcN_0 e]
    unfold mFin
    by_cases q : t = 0
    · subst q
      rw [if_pos rfl]
      unfold mClo
      rw [if_pos]
      refine ⟨?_, ?_⟩
      · rw [mFinN_rd (by omega) (by omega), if_neg (by omega)]
        exact ho
      · rw [mFinN_rd (by omega) (by omega), if_pos ⟨rfl, rfl⟩]
        decide
    · rw [if_neg q, mClo_id]
      rw [mFinN_rd (by omega) (by omega), if_neg (by omega)]
      exact h5
  | succ hc =>
    rw [mExc_1 e (by omega), mExcN_1 e (by omega), mClo_id]
    split
    · exact h5
    · unfold mEnq
      rw [put_ne (by omega), put_ne (by omega), put_rd]
      split
      · decide
      · exact h5
theorem mFin_clo {b : tH} {T t : Nat} (ho : b.1 20 0 6 = 0) (h5 : b.1 24 0 0 < 5) : mFin b T t 5 = mClo (mFinN b t 5) T := by
  unfold mFin
  by_cases q : t = 0
  · subst q
    rw [if_pos rfl]
    unfold mClo
    rw [if_pos]
    refine ⟨?_, ?_⟩
    · rw [mFinN_rd (by omega) (by omega), if_neg (by omega)]
      exact ho
    · rw [mFinN_rd (by omega) (by omega), if_pos ⟨rfl, rfl⟩]
      decide
  · rw [if_neg q, mClo_id]
    rw [mFinN_rd (by omega) (by omega), if_neg (by omega)]
    exact h5
/-- scalars that no act changes, and the first thread still goes -/
def KK (b b' : tH) : Prop := (∀ k, k ≠ 11 → k ≠ 26 → k ≠ 27 → k ≠ 31 → b'.1 20 0 k = b.1 20 0 k) ∧ (b.1 24 0 0 < 5 → b'.1 24 0 0 < 5)
theorem KK.rf {b : tH} : KK b b := ⟨fun _ _ _ _ _ => rfl, fun h => h⟩
theorem KK.tr {b b' b'' : tH} (h : KK b b') (g : KK b' b'') : KK b b'' := ⟨fun k h1 h2 h3 h4 => (g.1 k h1 h2 h3 h4).trans (h.1 k h1 h2 h3 h4), fun q => g.2 (h.2 q)⟩
theorem KK.pt {b b' : tH} {c k : Nat} {x : Int32} (h : KK b b') (h1 : c ≠ 20) (h2 : c ≠ 24) : KK b (put b' c 0 k x) := ⟨fun k' q1 q2 q3 q4 => (put_ne (by omega)).trans (h.1 k' q1 q2 q3 q4), fun q => by rw [put_ne (by omega)]; exact h.2 q⟩
theorem KK.pk {b b' : tH} {k : Nat} {x : Int32} (h : KK b b') (hk : k = 11 ∨ k = 26 ∨ k = 27 ∨ k = 31) : KK b (put b' 20 0 k x) := ⟨fun k' q1 q2 q3 q4 => (put_ne (by omega)).trans (h.1 k' q1 q2 q3 q4), fun q => by rw [put_ne (by omega)]; exact h.2 q⟩
theorem KK.ps {b b' : tH} {t : Nat} {x : Int32} (h : KK b b') (hx : x < 5) : KK b (put b' 24 0 t x) := ⟨fun k' q1 q2 q3 q4 => (put_ne (by omega)).trans (h.1 k' q1 q2 q3 q4), fun q => by
  rw [put_rd]
  split
  · exact hx
  · exact h.2 q⟩
theorem KK.enq {b b' : tH} {t : Nat} (h : KK b b') : KK b (mEnq b' t) := ((h.ps (by decide)).pt (by omega) (by omega)).pk (by omega)
theorem KK.go {b b' : tH} {t : Nat} (h : KK b b') : KK b (mGo b' t) := ((h.pt (by omega) (by omega)).pt (by omega) (by omega)).enq
theorem KK.rd {T x : Nat} {v : Int32} : ∀ (f : Nat) (b b' : tH), KK b b' → KK b (mRd T x v f b')
  | 0, _, _, h => h
  | f + 1, b, b', h => by
    cases e : mFirst b' T (nI x) 3 with
    | none => rw [mRd_none e]; exact h
    | some t => rw [mRd_some e]; exact KK.rd f b _ (h.pt (by omega) (by omega)).go
theorem KK.com {T x : Nat} {v : Int32} {b b' : tH} (h : KK b b') : KK b (mComes b' T x v) := by
  unfold mComes mCom2
  have h1 := KK.rd (T := T) (x := x) (v := v) 24 b b' h
  split
  · exact (h1.pt (by omega) (by omega)).pt (by omega) (by omega)
  · exact (h1.pt (by omega) (by omega)).go
theorem KK.tkn {T x : Nat} {b b' : tH} (h : KK b b') : KK b (mTaken b' T x) := by
  unfold mTaken
  split
  · exact h.pt (by omega) (by omega)
  · exact (h.pt (by omega) (by omega)).go.com
theorem KK.sh {t : Nat} {b : tH} : ∀ (m k : Nat) (b' : tH), KK b b' → KK b (mShL t m k b')
  | 0, _, _, h => h
  | m + 1, k, b', h => KK.sh m (k + 1) _ (h.pt (by omega) (by omega))
theorem KK.popS {t : Nat} {b b' : tH} (h : KK b b') : KK b (mPopS b' t) := KK.sh _ _ _ (h.pt (by omega) (by omega))
/-- what an act leaves: the relation, up to the end of all -/
def AR (a' b' b : tH) (t P C N δ : Nat) (y : Int32) : Prop := ∃ b1 T' rr' L', Z a' b1 (some t) T' P C N δ rr' L' ∧ b' = mClo b1 T' ∧ b1.1 20 0 6 = 0 ∧ b1.1 20 0 7 = b.1 20 0 7 ∧ b1.1 20 0 34 = y ∧ t < T'
section AC
variable {a b a' b' b1 : tH} {T P C N δ rr t : Nat} {L : List Nat} {v : Int32}
theorem AR.pl (z : Z a' b' (some t) T P C N δ rr L) (ht : t < T) (k : KK b b') (ho : b.1 20 0 6 = 0) (h5 : b.1 24 0 0 < 5) : AR a' b' b t P C N δ (b.1 20 0 34) :=
  ⟨b', T, rr, L, z, (mClo_id (k.2 h5)).symm, (k.1 6 (by omega) (by omega) (by omega) (by omega)).trans ho, k.1 7 (by omega) (by omega) (by omega) (by omega), k.1 34 (by omega) (by omega) (by omega) (by omega), ht⟩
theorem AR.ex {u : Nat} (I : ∃ hc, hc ≤ 4 ∧ b1.1 28 0 u = nI hc) (z : ∃ L', Z a' (mExcN b1 u v) (some t) T P C N δ rr L') (ht : t < T) (k : KK b b1) (ho : b.1 20 0 6 = 0) (h5 : b.1 24 0 0 < 5) : AR a' (mExc b1 T u v) b t P C N δ (b.1 20 0 34) := by
  obtain ⟨L', z⟩ := z
  exact ⟨_, T, rr, L', z, mExc_clo ((k.1 6 (by omega) (by omega) (by omega) (by omega)).trans ho) (k.2 h5) I, (mExcN_20 (by omega) I).1.trans ((k.1 6 (by omega) (by omega) (by omega) (by omega)).trans ho), (mExcN_20 (by omega) I).1.trans (k.1 7 (by omega) (by omega) (by omega) (by omega)), (mExcN_20 (by omega) I).1.trans (k.1 34 (by omega) (by omega) (by omega) (by omega)), ht⟩
theorem Z.hcb {ρ : Option Nat} {u : Nat} (z : Z a b ρ T P C N δ rr L) (hu : u < T) : ∃ hc, hc ≤ 4 ∧ b.1 28 0 u = nI hc := by
  obtain ⟨hc, pc, h1, -, h2, -⟩ := z.ih u hu
  exact ⟨hc, h1, h2⟩
theorem Znx {ρ : Option Nat} {n : Nat} (z : Z a b ρ T P C N δ rr L) (ht : t < T) (h0 : b.1 24 0 t = 0) (hn : b.1 26 0 t = nI n) (hn20 : n < 20) : Z (xNx a t) (mNx b t) ρ T P C N δ rr L := by
  obtain ⟨s, p, m, hc, pc, q0, q1, -, q3, q4, -⟩ := z.th t ht
  have hs0 : s = 0 := nI_s (w := 0) q0.1 (by omega) (q1.2.symm.trans h0)
  have e : a.1 7 t 5 = nI n := by
    have : m = n := (nI_eq (by omega) (by omega)).mp (q3.symm.trans hn)
    rw [q4 (Or.inl hs0), this]
  have h := Znext z ht (m := n + 1) (by omega) h0
  unfold xNx mNx
  rw [e, hn, nI_1]
  exact h
theorem xElde_put {y : Int32} : xElde (put a 7 t 5 y) t = put (xElde a t) 7 t 5 y := by
  have e1 : (put a 7 t 5 y).1 9 t 1 = a.1 9 t 1 := put_ne (by omega)
  have e2 : (put a 7 t 5 y).1 9 t 2 = a.1 9 t 2 := put_ne (by omega)
  have e3 : (put a 7 t 5 y).1 9 t 3 = a.1 9 t 3 := put_ne (by omega)
  have e8 : (put a 7 t 5 y).1 7 t 8 = a.1 7 t 8 := put_ne (by omega)
  unfold xElde
  rw [e1, e2, e3, e8, put_comm (c := 7) (i := t) (k := 5) (c' := 9) (i' := t) (k' := 0) (by omega), put_comm (c := 7) (i := t) (k := 5) (c' := 9) (i' := t) (k' := 1) (by omega), put_comm (c := 7) (i := t) (k := 5) (c' := 9) (i' := t) (k' := 2) (by omega), put_comm (c := 7) (i := t) (k := 5) (c' := 7) (i' := t) (k' := 8) (by omega)]
/-- an exception in the running thread, whose place the class had moved on -/
theorem Zraise1 {n y : Int32} (z : Z a b (some t) T P C N δ rr L) (ht : t < T) (h0 : b.1 24 0 t = 0) : ∃ L', Z (xRaise (put a 7 t 5 y) t n) (mExcN b t n) (some t) T P C N δ rr L' := by
  obtain ⟨s, p, m, hc, pc, q0, q1, -, -, -, -, -, h7, -⟩ := z.th t ht
  have hs0 : s = 0 := nI_s (w := 0) q0.1 (by omega) (q1.2.symm.trans h0)
  subst hs0
  have e7 : (put a 7 t 5 y).1 7 t 7 = a.1 7 t 7 := put_ne (by omega)
  cases hc with
  | zero =>
    rw [xRaise_0 (e7.trans h7.1), mExcN_0 h7.2]
    have e : xEndE (put a 7 t 5 y) t n = put (xEndE a t n) 7 t 5 y := by
      unfold xEndE
      rw [put_comm (c := 7) (i := t) (k := 5) (c' := 7) (i' := t) (k' := 3) (by omega), put_comm (c := 7) (i := t) (k := 5) (c' := 7) (i' := t) (k' := 10) (by omega)]
    rw [e, xRemove_put (by omega)]
    refine ⟨_, Zposa (ZexE z ht n) ht ?_ y⟩
    rw [mFinN_rd (by omega) (by omega), if_pos ⟨rfl, rfl⟩]
    decide
  | succ hc =>
    have e3 : (put a 7 t 5 y).1 7 t 3 = 0 := (put_ne (by omega)).trans q1.1
    rw [xRaise_1 (e7.trans h7.1) (by omega), mExcN_1 h7.2 (by omega), if_pos (Or.inl (by rw [e3]; decide)), if_pos h0]
    have e : xHnd (put a 7 t 5 y) t n hc = xHnd a t n hc := by
      show put (put (put (put a 7 t 5 y) 7 t 7 (nI hc)) 7 t 5 (a.1 8 t hc)) 7 t 6 n = put (put (put a 7 t 7 (nI hc)) 7 t 5 (a.1 8 t hc)) 7 t 6 n
      rw [put_comm (c := 7) (i := t) (k := 5) (c' := 7) (i' := t) (k' := 7) (by omega), put_put]
    rw [e]
    exact ⟨_, ZexH z ht n h7.2 (by omega) h0⟩
end AC
