/-! An act, and a turn's acts -/
section AM
variable {a b : tH} {T P C N δ rr t n : Nat} {L : List Nat} {x : Int32}
theorem xMkL_stop {f : Nat} (h : ¬ a.1 7 t 3 < 5) : xMkL t f a = a := by
  cases f with
  | zero => rfl
  | succ f => exact if_neg (fun q => h q.2)
theorem mMkL_stop {f : Nat} (h : ¬ b.1 24 0 t = 0) : mMkL T t f b = b := by
  cases f with
  | zero => rfl
  | succ f => exact if_neg (fun q => h q.2.2)
theorem mClo_ne0 (ht : t < T) (h : ¬ b.1 24 0 t < 5) : ¬ (mClo b T).1 24 0 t < 5 := by
  unfold mClo
  split
  · unfold mClose
    rw [(mClL_st _ _ _ _).1, if_pos (show 0 ≤ t ∧ t < 0 + T from ⟨Nat.zero_le _, by omega⟩)]
    have e : (put (put b 20 0 6 1) 20 0 27 0).1 24 0 t = b.1 24 0 t := rfl
    rw [e, if_pos (Int32.not_lt.mp h)]
    exact h
  · exact h
theorem ZMk (ht : t < T) : ∀ (f : Nat) (a b : tH) (L : List Nat), Z a b (some t) T P C N δ rr L → b.1 24 0 t = 0 → b.1 30 0 t = 0 → b.1 20 0 6 = 0 → b.1 24 0 0 < 5 → ∃ b1 L', Z (xMkL t f a) b1 (some t) T P C N δ rr L' ∧ mMkL T t f b = mClo b1 T ∧ ∀ k, k ≠ 11 → k ≠ 26 → k ≠ 27 → k ≠ 31 → b1.1 20 0 k = b.1 20 0 k
  | 0, a, b, L, z, h0, h30, ho, h5 => ⟨b, L, z, (mClo_id h5).symm, fun _ _ _ _ _ => rfl⟩
  | f + 1, a, b, L, z, h0, h30, ho, h5 => by
    have hT24 := z.xq.2.1
    obtain ⟨s, p, m, hc, pc, q0, q1, -, -, -, -, -, q7, q8, -⟩ := z.th t ht
    have es : a.1 7 t 3 = 0 := (z.posn ht h0).1
    rcases Nat.eq_zero_or_pos pc with e | e
    · have e1 : xMkL t (f + 1) a = a := if_neg (fun q => q.1 (q8.1.trans (nI_z e)))
      have e2 : mMkL T t (f + 1) b = b := if_neg (fun q => q.2.1 (q8.2.1.trans (nI_z e)))
      rw [e1, e2]
      exact ⟨b, L, z, (mClo_id h5).symm, fun _ _ _ _ _ => rfl⟩
    · obtain ⟨k, rfl⟩ : ∃ k, pc = k + 1 := ⟨pc - 1, by omega⟩
      have hp : ¬ nI (k + 1) = 0 := nI_ne0 (by omega) (by omega)
      have e1 : xMkL t (f + 1) a = xMkL t f (xRaise (xElde a t) t (a.1 9 t 0)) := if_pos ⟨by rw [q8.1]; exact hp, by rw [es]; decide⟩
      have e2 : mMkL T t (f + 1) b = mMkL T t f (mPop b T t) := if_pos ⟨h30, by rw [q8.2.1]; exact hp, h0⟩
      have zp := Zpop z ht q8.2.1 (by omega)
      have kp : KK b (mPopS b t) := KK.rf.popS
      have hs : (mPopS b t).1 24 0 t = 0 := by
        rw [mPopS_1 q8.2.1 (by omega), (mShL_off _ _ _).1 24 0 t (by omega), put_ne (by omega)]
        exact h0
      have hm : (mPopS b t).1 30 0 t = 0 := by
        rw [mPopS_1 q8.2.1 (by omega), (mShL_off _ _ _).1 30 0 t (by omega), put_ne (by omega)]
        exact h30
      have e9 : a.1 9 t 0 = b.1 32 0 (4 * t) := q8.2.2 0 (by omega)
      obtain ⟨L2, z2⟩ := Zraise (n := b.1 32 0 (4 * t)) zp ht (by rw [hs]; decide) (fun _ => hs)
      have I := zp.hcb ht
      have em : mPop b T t = mClo (mExcN (mPopS b t) t (b.1 32 0 (4 * t))) T := mExc_clo ((kp.1 6 (by omega) (by omega) (by omega) (by omega)).trans ho) (kp.2 h5) I
      rw [e1, e2, e9, em]
      obtain ⟨hc2, h4, ec⟩ := I
      rcases Nat.eq_zero_or_pos hc2 with g | g
      · have eN : mExcN (mPopS b t) t (b.1 32 0 (4 * t)) = mFinN (mExE (mPopS b t) t (b.1 32 0 (4 * t))) t 6 := mExcN_0 (ec.trans (nI_z g))
        have e6 : (mExcN (mPopS b t) t (b.1 32 0 (4 * t))).1 24 0 t = 6 := by rw [eN, mFinN_rd (by omega) (by omega), if_pos ⟨rfl, rfl⟩]
        have n5 : ¬ (mExcN (mPopS b t) t (b.1 32 0 (4 * t))).1 24 0 t < 5 := by rw [e6]; decide
        obtain ⟨s2, hs2, r1, r2⟩ := z2.st ht
        rw [xMkL_stop (by rw [r1, ← r2]; exact n5), mMkL_stop (fun w => mClo_ne0 ht n5 (by rw [w]; decide))]
        exact ⟨_, L2, z2, rfl, fun k h1 h2 h3 h4 => (mExcN_20 (by omega) ⟨hc2, by omega, ec⟩).1.trans (kp.1 k h1 h2 h3 h4)⟩
      · obtain ⟨k2, rfl⟩ : ∃ k2, hc2 = k2 + 1 := ⟨hc2 - 1, by omega⟩
        have eN : mExcN (mPopS b t) t (b.1 32 0 (4 * t)) = mExB (mPopS b t) t (b.1 32 0 (4 * t)) k2 := by rw [mExcN_1 ec (by omega), if_pos hs]
        have e24 : ∀ u, (mExcN (mPopS b t) t (b.1 32 0 (4 * t))).1 24 0 u = (mPopS b t).1 24 0 u := fun u => by rw [eN]; rfl
        have n5 : (mExcN (mPopS b t) t (b.1 32 0 (4 * t))).1 24 0 0 < 5 := by rw [e24]; exact kp.2 h5
        rw [mClo_id n5]
        have h20 : ∀ k, k ≠ 27 → _ := fun k hk => mExcN_20 (b := mPopS b t) (t := t) (n := b.1 32 0 (4 * t)) (k := k) hk ⟨k2 + 1, by omega, ec⟩
        obtain ⟨b1, L3, z3, m3, f3⟩ := ZMk ht f _ _ L2 z2 (by rw [e24]; exact hs) ((h20 t (by omega)).2.trans hm) ((h20 6 (by omega)).1.trans ((kp.1 6 (by omega) (by omega) (by omega) (by omega)).trans ho)) n5
        exact ⟨b1, L3, z3, m3, fun k h1 h2 h3 h4 => (f3 k h1 h2 h3 h4).trans ((h20 k (by omega)).1.trans (kp.1 k h1 h2 h3 h4))⟩
theorem Zk15 (z : Z a b (some t) T P C N δ rr L) (ht : t < T) (h0 : b.1 24 0 t = 0) (ho : b.1 20 0 6 = 0) (h5 : b.1 24 0 0 < 5) (hn : b.1 26 0 t = nI n) (hn20 : n < 20) : AR (xDo 15 x a T t) (mDo 15 x b T t) b t P C N δ (b.1 20 0 34) := by
  have e : xDo 15 x a T t = xMask (xNx a t) t (if x = 1 then 1 else 0) := if_pos rfl
  have e2 : mDo 15 x b T t = mMkL T t 4 (put (mNx b t) 30 0 t (if x = 1 then 1 else 0)) := rfl
  have z1 := Znx z ht h0 hn hn20
  rw [e, e2]
  unfold xMask
  by_cases q : x = 1
  · rw [if_pos q, if_neg (show ¬ (1 : Int32) = 0 by decide)]
    have e3 : mMkL T t 4 (put (mNx b t) 30 0 t 1) = put (mNx b t) 30 0 t 1 := if_neg (fun w => by
      have w1 := w.1
      rw [put_eq] at w1
      exact absurd w1 (by decide))
    rw [e3]
    exact AR.pl (Zmsk z1 ht 1) ht (kk_nx.pt (by omega) (by omega)) ho h5
  · rw [if_neg q, if_pos rfl]
    obtain ⟨b1, L', z2, m2, f2⟩ := ZMk ht 4 _ _ L (Zmsk z1 ht 0) h0 put_eq ho h5
    exact ⟨b1, T, rr, L', z2, m2, (f2 6 (by omega) (by omega) (by omega) (by omega)).trans ho, f2 7 (by omega) (by omega) (by omega) (by omega), f2 34 (by omega) (by omega) (by omega) (by omega), ht⟩
theorem Zact (z : Z a b (some t) T P C N δ rr L) (ht : t < T) (h0 : b.1 24 0 t = 0) (ho : b.1 20 0 6 = 0) (h5 : b.1 24 0 0 < 5) : AR (xStA a t) (mStA b t) b t P C N δ (if xKd a t = 6 then 1 else b.1 20 0 34) := by
  have hT24 := z.xq.2.1
  obtain ⟨s, p, n, hc, pc, q0, q1, q2, q3, -⟩ := z.th t ht
  have hP := z.pg.2.2.1
  obtain ⟨zc, z20, ez1, ez2, -, hk, hg⟩ := z.pg.2.2.2 p (by omega)
  have e5 : a.1 7 t 5 = nI n := (z.posn ht h0).2.1.trans q3
  unfold xStA mStA xKd
  rw [q2.1, q2.2, nv_nI (show p < 2 ^ 31 by omega), e5, q3, ez1, ez2, nv_nI (show n < 2 ^ 31 by omega), z.xq.1, z.iq.1, nv_nI (show T < 2 ^ 31 by omega)]
  by_cases q : n < zc
  · rw [if_pos (nI_lt q (by omega)), if_pos (nI_lt q (by omega)), if_pos (nI_lt q (by omega))]
    unfold mAct mKx
    rw [q2.2, q3, nv_nI (show p < 2 ^ 31 by omega), nv_nI (show n < 2 ^ 31 by omega), (hk n (by omega)).1, (hk n (by omega)).2]
    obtain ⟨j, hj, ej, g1, g2, g3, g4⟩ := hg n q
    have hn20 : n < 20 := by omega
    rw [ej, nv_nI (by omega)]
    obtain rfl | rfl | rfl | rfl | rfl | rfl | rfl | rfl | rfl | rfl | rfl | rfl | rfl | rfl | rfl | rfl | rfl : j = 0 ∨ j = 1 ∨ j = 2 ∨ j = 3 ∨ j = 4 ∨ j = 5 ∨ j = 6 ∨ j = 7 ∨ j = 8 ∨ j = 9 ∨ j = 10 ∨ j = 11 ∨ j = 12 ∨ j = 13 ∨ j = 14 ∨ j = 15 ∨ j = 16 := by omega
    · obtain ⟨y, hy, ey⟩ := g1 (by omega)
      rw [ey, if_neg (by decide)]
      exact Zk0 hy z ht h0 ho h5 q3 hn20
    · obtain ⟨y, hy, ey⟩ := g1 (by omega)
      rw [ey, if_neg (by decide)]
      exact Zk1 hy z ht h0 ho h5 q3 hn20
    · obtain ⟨y, hy, ey⟩ := g1 (by omega)
      rw [ey, if_neg (by decide)]
      exact Zk2 hy z ht h0 ho h5 q3 hn20
    · rw [if_neg (by decide)]
      exact Zk3 z ht h0 ho h5 q3 hn20
    · rw [if_neg (by decide)]
      exact Zk4 z ht h0 ho h5 q3 hn20
    · rw [if_neg (by decide)]
      exact Zk5 z ht h0 ho h5 q3 hn20 (g2 rfl)
    · rw [if_pos (by decide)]
      exact Zk6 z ht h0 ho h5 q3 hn20
    · rw [if_neg (by decide)]
      exact Zk7 z ht h0 ho h5 q3 hn20 (g3 rfl)
    · rw [if_neg (by decide)]
      exact Zk8 z ht h0 ho h5 (g4 (by omega))
    · rw [if_neg (by decide)]
      exact Zk9 z ht h0 ho h5 q3 hn20 (g4 (by omega))
    · rw [if_neg (by decide)]
      exact Zk10 z ht h0 ho h5 q3 hn20
    · rw [if_neg (by decide)]
      exact Zk11 z ht h0 ho h5 q3 hn20
    · rw [if_neg (by decide)]
      exact Zk12 z ht h0 ho h5 q3 hn20
    · rw [if_neg (by decide)]
      exact Zk13 z ht h0 ho h5 q3 hn20 (g4 (by omega))
    · rw [if_neg (by decide)]
      exact Zk14 z ht h0 ho h5 q3 hn20
    · rw [if_neg (by decide)]
      exact Zk15 z ht h0 ho h5 q3 hn20
    · rw [if_neg (by decide)]
      exact Zk16 z ht h0 ho h5 q3 hn20
  · have q' : ¬ nI n < nI zc := nI_nlt (by omega) (by omega)
    rw [if_neg q', if_neg q', if_neg q', if_neg (show ¬ (-1 : Int32) = 6 by decide), mFin_clo ho h5]
    have f20 : ∀ k, k ≠ 27 → (mFinN b t 5).1 20 0 k = b.1 20 0 k := fun k hk => by rw [mFinN_rd (by omega) (by omega), if_neg (by omega)]
    exact ⟨_, T, rr, L, Zend5 z ht h0, rfl, (f20 6 (by omega)).trans ho, f20 7 (by omega), f20 34 (by omega), ht⟩
/-- all has ended or not -/
def OV (b : tH) (T : Nat) : Prop := (b.1 20 0 6 = 0 ∧ (T = 0 ∨ b.1 24 0 0 < 5)) ∨ (¬ b.1 20 0 6 = 0 ∧ ∀ t, t < T → ¬ b.1 24 0 t < 5)
theorem OV.clo (ho : b.1 20 0 6 = 0) : OV (mClo b T) T := by
  unfold mClo
  split
  · rename_i q
    refine Or.inr ⟨?_, fun t ht => ?_⟩
    · unfold mClose
      rw [(mClL_off _ _ _).1 20 0 6 (by omega) (by omega) (by omega)]
      simp [put_rd]
    · unfold mClose
      rw [(mClL_st _ _ _ _).1, if_pos (show 0 ≤ t ∧ t < 0 + T from ⟨Nat.zero_le _, by omega⟩)]
      split
      · rename_i w
        exact Int32.not_lt.mpr w
      · decide
  · rename_i q
    refine Or.inl ⟨ho, ?_⟩
    by_cases w : b.1 24 0 0 < 5
    · exact Or.inr w
    · exact absurd ⟨ho, w⟩ q
theorem mClo_20 {k : Nat} (h6 : k ≠ 6) (h27 : k ≠ 27) : (mClo b T).1 20 0 k = b.1 20 0 k := by
  unfold mClo
  split
  · exact mClose_rd (by omega) (by omega) (by omega) (by omega)
  · rfl
/-- inside a turn of thread t -/
def RT (P C N δ t q : Nat) (a b : tH) : Prop := ∃ T rr L, Z a b (some t) T P C N δ rr L ∧ t < T ∧ OV b T ∧ b.1 20 0 7 = nI q
theorem RT.st {q : Nat} (r : RT P C N δ t q a b) : a.1 7 t 3 = b.1 24 0 t := by
  obtain ⟨T, rr, L, z, ht, -⟩ := r
  obtain ⟨s, -, e1, e2⟩ := z.st ht
  rw [e1, e2]
theorem RT.go {q : Nat} (r : RT P C N δ t q a b) (h0 : b.1 24 0 t = 0) : RT P C N δ t q (xStC a t) (mStA b t) ∧ (mStA b t).1 20 0 34 = (if xKd a t = 6 then 1 else b.1 20 0 34) ∧ FX a t ∧ FA b t := by
  obtain ⟨T, rr, L, z, ht, ov, eq⟩ := r
  have hT24 := z.xq.2.1
  rcases ov with ⟨ho, h5⟩ | ⟨-, h5⟩
  · have h5 : b.1 24 0 0 < 5 := h5.resolve_left (by omega)
    obtain ⟨b1, T', rr', L', z1, e1, o1, s7, s34, ht'⟩ := Zact z ht h0 ho h5
    have hT' := z1.xq.2.1
    have ex : xStC a t = xClose (xStA a t) T' := by
      unfold xStC
      rw [z1.xq.1, nv_nI (by omega)]
    obtain ⟨L2, z2⟩ := Zclo z1 (by omega)
    obtain ⟨s, p, n, hc, pc, q0, q1, q2, q3, -⟩ := z.th t ht
    have hP := z.pg.2.2.1
    obtain ⟨zc, z20, ez1, ez2, -, hk, hg⟩ := z.pg.2.2.2 p (by omega)
    have e5 : a.1 7 t 5 = nI n := (z.posn ht h0).2.1.trans q3
    refine ⟨⟨T', rr', L2, ?_, ht', ?_, ?_⟩, ?_, ⟨T, P, p, n, zc, rr, L, ht, z.xq, z.xh, q2.1, q0.2.1, e5, q0.2.2.1, ez1, z20, fun w => ?_, z.pg.1, hP, z.rw.1, z.rw.2.2.1, z.nu, T', by omega, hT', z1.xq.1⟩, ⟨T, P, p, n, zc, rr, L, ht, z.iq, z.ih, q2.2, by omega, q3, q0.2.2.1, ez2, z20, fun w => (hg n w).gdA, z.pg.2.1, z.rw.2.1, z.rw.2.2.1⟩⟩
    · rw [ex, e1]; exact z2
    · rw [e1]; exact OV.clo o1
    · rw [e1, mClo_20 (by omega) (by omega), s7]; exact eq
    · rw [e1, mClo_20 (by omega) (by omega)]; exact s34
    · rw [(hk n (by omega)).1, (hk n (by omega)).2]; exact (hg n w).gdA
  · exact absurd (by rw [h0]; decide) (h5 t ht)
theorem mTL_stop {m : Nat} (h : ¬ b.1 20 0 34 = 0) : mTL t m b = b := by
  cases m with
  | zero => rfl
  | succ m => exact if_neg (fun q => h q.2)
theorem RT.loop {q : Nat} : ∀ (m : Nat) (a b : tH), RT P C N δ t q a b → b.1 20 0 34 = 0 → RT P C N δ t q (xTL t m a) (mTL t m b)
  | 0, a, b, r, _ => r
  | m + 1, a, b, r, h => by
    by_cases h0 : b.1 24 0 t = 0
    · have e1 : mTL t (m + 1) b = mTL t m (mStA b t) := if_pos ⟨h0, h⟩
      have e2 : xTL t (m + 1) a = if xKd a t = 6 then xStC a t else xTL t m (xStC a t) := if_pos (r.st.trans h0)
      obtain ⟨r1, y1, -⟩ := r.go h0
      rw [e1, e2]
      by_cases k6 : xKd a t = 6
      · rw [if_pos k6] at y1 ⊢
        rw [mTL_stop (by rw [y1]; decide)]
        exact r1
      · rw [if_neg k6] at y1 ⊢
        exact RT.loop m _ _ r1 (y1.trans h)
    · have e1 : mTL t (m + 1) b = b := if_neg (fun w => h0 w.1)
      have e2 : xTL t (m + 1) a = a := if_neg (fun w => h0 (r.st.symm.trans w))
      rw [e1, e2]
      exact r
end AM
