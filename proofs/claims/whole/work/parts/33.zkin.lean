/-! Each kind of act keeps the relation -/
section AK
variable {a b : tH} {T P C N δ rr t n : Nat} {L : List Nat} {x : Int32}
theorem Z.posn (z : Z a b (some t) T P C N δ rr L) (ht : t < T) (h0 : b.1 24 0 t = 0) : a.1 7 t 3 = 0 ∧ a.1 7 t 5 = b.1 26 0 t ∧ a.1 7 t 6 = b.1 27 0 t := by
  obtain ⟨s, p, m, hc, pc, q0, q1, -, q3, q4, -, q6, -⟩ := z.th t ht
  have hs0 : s = 0 := nI_s (w := 0) q0.1 (by omega) (q1.2.symm.trans h0)
  refine ⟨by rw [q1.1, hs0]; rfl, by rw [q4 (Or.inl hs0), q3], q6⟩
theorem kk_nx : KK b (mNx b t) := KK.rf.pt (by omega) (by omega)
theorem xNx_ne {c i k : Nat} (h : ¬ (c = 7 ∧ i = t ∧ k = 5)) : (xNx a t).1 c i k = a.1 c i k := put_ne h
theorem mNx_ne {c k : Nat} (h : c ≠ 26) : (mNx b t).1 c 0 k = b.1 c 0 k := put_ne (by omega)
theorem Zk3 (z : Z a b (some t) T P C N δ rr L) (ht : t < T) (h0 : b.1 24 0 t = 0) (ho : b.1 20 0 6 = 0) (h5 : b.1 24 0 0 < 5) (hn : b.1 26 0 t = nI n) (hn20 : n < 20) : AR (xDo 3 x a T t) (mDo 3 x b T t) b t P C N δ (b.1 20 0 34) := by
  have e : xDo 3 x a T t = put (xNx a t) 7 t 6 x := if_pos rfl
  rw [e]
  exact AR.pl (Zreg (Znx z ht h0 hn hn20) ht x) ht (kk_nx.pt (by omega) (by omega)) ho h5
theorem Zk4 (z : Z a b (some t) T P C N δ rr L) (ht : t < T) (h0 : b.1 24 0 t = 0) (ho : b.1 20 0 6 = 0) (h5 : b.1 24 0 0 < 5) (hn : b.1 26 0 t = nI n) (hn20 : n < 20) : AR (xDo 4 x a T t) (mDo 4 x b T t) b t P C N δ (b.1 20 0 34) := by
  have e : xDo 4 x a T t = put (xNx a t) 7 t 6 ((xNx a t).1 7 t 6 + x) := if_pos rfl
  rw [e, xNx_ne (by omega), (z.posn ht h0).2.2]
  exact AR.pl (Zreg (Znx z ht h0 hn hn20) ht _) ht (kk_nx.pt (by omega) (by omega)) ho h5
theorem Zk16 (z : Z a b (some t) T P C N δ rr L) (ht : t < T) (h0 : b.1 24 0 t = 0) (ho : b.1 20 0 6 = 0) (h5 : b.1 24 0 0 < 5) (hn : b.1 26 0 t = nI n) (hn20 : n < 20) : AR (xDo 16 x a T t) (mDo 16 x b T t) b t P C N δ (b.1 20 0 34) := by
  have e : xDo 16 x a T t = put (xNx a t) 7 t 6 (nI t) := if_pos rfl
  rw [e]
  exact AR.pl (Zreg (Znx z ht h0 hn hn20) ht _) ht (kk_nx.pt (by omega) (by omega)) ho h5
theorem Zk6 (z : Z a b (some t) T P C N δ rr L) (ht : t < T) (h0 : b.1 24 0 t = 0) (ho : b.1 20 0 6 = 0) (h5 : b.1 24 0 0 < 5) (hn : b.1 26 0 t = nI n) (hn20 : n < 20) : AR (xDo 6 x a T t) (mDo 6 x b T t) b t P C N δ 1 := by
  have e : xDo 6 x a T t = xNx a t := if_pos rfl
  rw [e]
  exact ⟨put (mNx b t) 20 0 34 1, T, rr, L, Zyld (Znx z ht h0 hn hn20) 1, (mClo_id (b := put (mNx b t) 20 0 34 1) h5).symm, ho, rfl, put_eq, ht⟩
theorem Zk8 (z : Z a b (some t) T P C N δ rr L) (ht : t < T) (h0 : b.1 24 0 t = 0) (ho : b.1 20 0 6 = 0) (h5 : b.1 24 0 0 < 5) (hx : ∃ y, y ≤ 20 ∧ x = nI y) : AR (xDo 8 x a T t) (mDo 8 x b T t) b t P C N δ (b.1 20 0 34) := by
  obtain ⟨y, hy, rfl⟩ := hx
  have e : xDo 8 (nI y) a T t = put (xNx a t) 7 t 5 (nI y) := if_pos rfl
  rw [e]
  unfold xNx
  rw [put_put]
  exact AR.pl (Znext z ht hy h0) ht (KK.rf.pt (by omega) (by omega)) ho h5
theorem Zk9 (z : Z a b (some t) T P C N δ rr L) (ht : t < T) (h0 : b.1 24 0 t = 0) (ho : b.1 20 0 6 = 0) (h5 : b.1 24 0 0 < 5) (hn : b.1 26 0 t = nI n) (hn20 : n < 20) (hx : ∃ y, y ≤ 20 ∧ x = nI y) : AR (xDo 9 x a T t) (mDo 9 x b T t) b t P C N δ (b.1 20 0 34) := by
  obtain ⟨y, hy, rfl⟩ := hx
  have e : xDo 9 (nI y) a T t = put (xNx a t) 7 t 5 (if (xNx a t).1 7 t 6 = 0 then nI y else (xNx a t).1 7 t 5) := if_pos rfl
  have e2 : (xNx a t).1 7 t 5 = nI (n + 1) := by unfold xNx; rw [put_eq, (z.posn ht h0).2.1, hn, nI_1]
  have e3 : mDo 9 (nI y) b T t = put b 26 0 t (if b.1 27 0 t = 0 then nI y else b.1 26 0 t + 1) := rfl
  rw [e, e2, e3, xNx_ne (by omega), (z.posn ht h0).2.2, hn, nI_1]
  unfold xNx
  rw [put_put]
  split
  · exact AR.pl (Znext z ht hy h0) ht (KK.rf.pt (by omega) (by omega)) ho h5
  · exact AR.pl (Znext z ht (by omega) h0) ht (KK.rf.pt (by omega) (by omega)) ho h5
theorem Zk10 (z : Z a b (some t) T P C N δ rr L) (ht : t < T) (h0 : b.1 24 0 t = 0) (ho : b.1 20 0 6 = 0) (h5 : b.1 24 0 0 < 5) (hn : b.1 26 0 t = nI n) (hn20 : n < 20) : AR (xDo 10 x a T t) (mDo 10 x b T t) b t P C N δ (b.1 20 0 34) := by
  have e : xDo 10 x a T t = xLog (xNx a t) t := if_pos rfl
  have e2 : mDo 10 x b T t = mLog (mNx b t) t := rfl
  have z1 := Znx z ht h0 hn hn20
  have r1 := z1.rw.1
  have r2 := z1.rw.2.1
  have r3 := z1.rw.2.2.1
  rw [e, e2]
  unfold xLog mLog
  rw [r1, r2, nv_nI (by omega)]
  by_cases q : rr < 100
  · rw [if_neg (show ¬ (100 : Int32) ≤ nI rr from nI_ge (b := 100) q (by omega)), if_neg (show ¬ (100 : Int32) ≤ nI rr from nI_ge (b := 100) q (by omega)), nI_1]
    have e6 : (xNx a t).1 7 t 6 = (mNx b t).1 27 0 t := (xNx_ne (by omega)).trans ((z.posn ht h0).2.2.trans (mNx_ne (by omega)).symm)
    rw [e6]
    exact AR.pl (Zlog z1 q _ _) ht (((kk_nx.pt (by omega) (by omega)).pt (by omega) (by omega)).pk (by omega)) ho h5
  · rw [if_pos (show (100 : Int32) ≤ nI rr from nI_le (a := 100) (by omega) (by omega)), if_pos (show (100 : Int32) ≤ nI rr from nI_le (a := 100) (by omega) (by omega))]
    exact AR.pl z1 ht kk_nx ho h5
theorem Zk13 (z : Z a b (some t) T P C N δ rr L) (ht : t < T) (h0 : b.1 24 0 t = 0) (ho : b.1 20 0 6 = 0) (h5 : b.1 24 0 0 < 5) (hn : b.1 26 0 t = nI n) (hn20 : n < 20) (hx : ∃ y, y ≤ 20 ∧ x = nI y) : AR (xDo 13 x a T t) (mDo 13 x b T t) b t P C N δ (b.1 20 0 34) := by
  obtain ⟨y, hy, rfl⟩ := hx
  have e : xDo 13 (nI y) a T t = xCatch (xNx a t) t (nI y) := if_pos rfl
  have e2 : mDo 13 (nI y) b T t = mCatch (mNx b t) t (nI y) := rfl
  have z1 := Znx z ht h0 hn hn20
  obtain ⟨s, p, m, hc, pc, q0, -, -, -, -, -, -, q7, -⟩ := z1.th t ht
  rw [e, e2]
  unfold xCatch mCatch
  rw [q7.1, q7.2, nv_nI (by omega)]
  by_cases q : hc < 4
  · rw [if_neg (show ¬ (4 : Int32) ≤ nI hc from nI_ge (b := 4) q (by omega)), if_neg (show ¬ (4 : Int32) ≤ nI hc from nI_ge (b := 4) q (by omega)), nI_1]
    exact AR.pl (Zcat z1 ht q7.2 q hy) ht ((kk_nx.pt (by omega) (by omega)).pt (by omega) (by omega)) ho h5
  · rw [if_pos (show (4 : Int32) ≤ nI hc from nI_le (a := 4) (by omega) (by omega)), if_pos (show (4 : Int32) ≤ nI hc from nI_le (a := 4) (by omega) (by omega))]
    exact AR.pl z1 ht kk_nx ho h5
theorem mDrop_0 (h : b.1 28 0 t = 0) : mDrop b t = b := by
  unfold mDrop
  rw [h, if_pos (Int32.le_refl 0)]
  refine Prod.ext (funext fun c => funext fun i => funext fun k => ?_) rfl
  rw [put_rd]
  split
  · rename_i q
    rw [q.1, q.2.1, q.2.2, h]
    exact Int32.sub_zero _
  · rfl
theorem mDrop_1 {hc : Nat} (h : b.1 28 0 t = nI (hc + 1)) (h4 : hc < 4) : mDrop b t = put b 28 0 t (nI hc) := by
  unfold mDrop
  rw [h, if_neg (nI_nle (by omega) (by omega)), nI_pred]
theorem xDrop_0 (h : a.1 7 t 7 = 0) : xDrop a t = a := by
  unfold xDrop
  rw [h, if_pos (Int32.le_refl 0)]
theorem xDrop_1 {hc : Nat} (h : a.1 7 t 7 = nI (hc + 1)) (h4 : hc < 4) : xDrop a t = put a 7 t 7 (nI hc) := by
  unfold xDrop
  rw [h, if_neg (nI_nle (by omega) (by omega)), nI_pred]
theorem Zk14 (z : Z a b (some t) T P C N δ rr L) (ht : t < T) (h0 : b.1 24 0 t = 0) (ho : b.1 20 0 6 = 0) (h5 : b.1 24 0 0 < 5) (hn : b.1 26 0 t = nI n) (hn20 : n < 20) : AR (xDo 14 x a T t) (mDo 14 x b T t) b t P C N δ (b.1 20 0 34) := by
  have e : xDo 14 x a T t = xDrop (xNx a t) t := if_pos rfl
  have e2 : mDo 14 x b T t = mDrop (mNx b t) t := rfl
  have z1 := Znx z ht h0 hn hn20
  obtain ⟨s, p, m, hc, pc, q0, -, -, -, -, -, -, q7, -⟩ := z1.th t ht
  rw [e, e2]
  rcases Nat.eq_zero_or_pos hc with q | q
  · rw [xDrop_0 (q7.1.trans (nI_z q)), mDrop_0 (q7.2.trans (nI_z q))]
    exact AR.pl z1 ht kk_nx ho h5
  · obtain ⟨k, rfl⟩ : ∃ k, hc = k + 1 := ⟨hc - 1, by omega⟩
    rw [xDrop_1 q7.1 (by omega), mDrop_1 q7.2 (by omega)]
    exact AR.pl (Zdrp z1 ht q7.2 (by omega)) ht (kk_nx.pt (by omega) (by omega)) ho h5
theorem Zk11 (z : Z a b (some t) T P C N δ rr L) (ht : t < T) (h0 : b.1 24 0 t = 0) (ho : b.1 20 0 6 = 0) (h5 : b.1 24 0 0 < 5) (hn : b.1 26 0 t = nI n) (hn20 : n < 20) : AR (xDo 11 x a T t) (mDo 11 x b T t) b t P C N δ (b.1 20 0 34) := by
  have e : xDo 11 x a T t = xRaise (xNx a t) t x := if_pos rfl
  have z1 := Znx z ht h0 hn hn20
  have h01 : (mNx b t).1 24 0 t = 0 := h0
  rw [e]
  exact AR.ex (z1.hcb ht) (Zraise z1 ht (by rw [h01]; decide) (fun _ => h01)) ht kk_nx ho h5
theorem Zk5 (z : Z a b (some t) T P C N δ rr L) (ht : t < T) (h0 : b.1 24 0 t = 0) (ho : b.1 20 0 6 = 0) (h5 : b.1 24 0 0 < 5) (hn : b.1 26 0 t = nI n) (hn20 : n < 20) (hx : ∃ y, y < 12 ∧ x = nI y) : AR (xDo 5 x a T t) (mDo 5 x b T t) b t P C N δ (b.1 20 0 34) := by
  obtain ⟨y, hy, rfl⟩ := hx
  have e : xDo 5 (nI y) a T t = xFork (xNx a t) T t (nI y) := if_pos rfl
  have e2 : mDo 5 (nI y) b T t = mFork (mNx b t) T t (nI y) := rfl
  have z1 := Znx z ht h0 hn hn20
  have hT := z1.xq.1
  have hT2 := z1.iq.1
  have hT24 := z1.xq.2.1
  have hP := z1.pg.1
  have hP2 := z1.pg.2.1
  have hP12 := z1.pg.2.2.1
  rw [e, e2]
  unfold xFork mFork
  rw [hT, hT2, hP, hP2]
  by_cases q : T < 24 ∧ y < P
  · rw [if_neg, if_neg]
    · have e6 : (xNx a t).1 7 t 6 = (mNx b t).1 27 0 t := (xNx_ne (by omega)).trans ((z.posn ht h0).2.2.trans (mNx_ne (by omega)).symm)
      rw [e6]
      obtain ⟨g1, g2, g3, g4, g5, g6, g7, g8, g9, g10, g11, g12, g13⟩ := z1.gl
      have z2 := Znew (v := (mNx b t).1 27 0 t) z1.pg ⟨g1, g2, g3, g4, g5, g6, g7, g8, g9, g10, g11, fun w => ⟨by omega, (g12 w).2⟩, fun w => absurd (g13 w) (by omega)⟩ z1.th z1.bx z1.rw z1.hd z1.nu z1.xq z1.iq q.1 q.2 (fun w => by cases w; omega)
      refine AR.pl (Zreg z2 (t := t) (by omega) (nI T)) (by omega) ?_ ho h5
      refine KK.pt ?_ (by omega) (by omega)
      unfold mNew
      refine KK.enq (KK.pk ?_ (by omega))
      repeat (refine KK.pt ?_ (by omega) (by omega))
      exact kk_nx.ps (by decide)
    · intro w
      rcases w with w | w
      · have := (nI_eq (b := 24) (by omega) (by omega)).mp w; omega
      · exact nI_ge q.2 (by omega) w
    · intro w
      rcases w with w | w | w
      · exact nI_ge q.1 (by omega) w
      · exact nI_pos (by omega) w
      · exact nI_ge q.2 (by omega) w
  · rw [if_pos, if_pos]
    · exact AR.pl (Zreg z1 ht (-1)) ht (kk_nx.pt (by omega) (by omega)) ho h5
    · by_cases w : T < 24
      · exact Or.inr (nI_le (by omega) (by omega))
      · have : T = 24 := by omega
        exact Or.inl (by rw [this]; rfl)
    · by_cases w : T < 24
      · exact Or.inr (Or.inr (nI_le (by omega) (by omega)))
      · exact Or.inl (nI_le (by omega) (by omega))
theorem ZpopR {w : Int32} (z : Z a b (some t) T P C N δ rr L) (ht : t < T) (h0 : b.1 24 0 t = 0) (ho : b.1 20 0 6 = 0) (h5 : b.1 24 0 0 < 5) (hn : b.1 26 0 t = nI n) (hn20 : n < 20) (hp : ¬ b.1 31 0 t = 0) : AR (xRaise (xElde (xNx a t) t) t ((xNx a t).1 9 t 0)) (mPop b T t) b t P C N δ (b.1 20 0 34) := by
  obtain ⟨s, p, m, hc, pc, q0, -, -, -, -, -, -, -, q8, -⟩ := z.th t ht
  cases pc with
  | zero => exact absurd q8.2.1 hp
  | succ pc =>
    have zp := Zpop z ht q8.2.1 (by omega)
    have e9 : (xNx a t).1 9 t 0 = b.1 32 0 (4 * t) := (xNx_ne (by omega)).trans (q8.2.2 0 (by omega))
    have hs : (mPopS b t).1 24 0 t = 0 := by
      rw [mPopS_1 q8.2.1 (by omega), (mShL_off _ _ _).1 24 0 t (by omega), put_ne (by omega)]
      exact h0
    unfold xNx at e9 ⊢
    rw [e9, xElde_put]
    exact AR.ex (b1 := mPopS b t) (zp.hcb ht) (Zraise1 zp ht hs) ht KK.rf.popS ho h5
theorem ZW {w y : Nat} (hw1 : 1 ≤ w) (hw3 : w ≤ 3) (hy : y < 8) (z : Z a b (some t) T P C N δ rr L) (ht : t < T) (h0 : b.1 24 0 t = 0) (ho : b.1 20 0 6 = 0) (h5 : b.1 24 0 0 < 5) (hn : b.1 26 0 t = nI n) (hn20 : n < 20) (hb : w = 2 ∨ w = 3 → ¬ b.1 40 0 y = 1) : AR (xWt (xNx a t) t (nI w) (nI y)) (mWait b T t (nI y) (nI w)) b t P C N δ (b.1 20 0 34) := by
  obtain ⟨s, p, m, hc, pc, q0, -, -, -, -, -, -, -, q8, -⟩ := z.th t ht
  unfold xWt mWait
  have e8 : (xNx a t).1 7 t 8 = nI pc := (xNx_ne (by omega)).trans q8.1
  rw [e8, q8.2.1]
  cases pc with
  | zero =>
    rw [if_pos (by decide), if_pos (by decide)]
    have e4 : ¬ nI w = 4 := fun e => by have := (nI_eq (b := 4) (by omega) (by omega)).mp e; omega
    unfold xPause mWaitS
    rw [if_neg e4]
    have e12 : (xNx a t).1 18 0 12 = b.1 20 0 26 := (xNx_ne (by omega)).trans z.gl.2.2.2.2.2.2.2.2.2.2.1
    rw [e12]
    exact AR.pl (Ztick (Zwt z ht hw1 hw3 hy hb h0 hn hn20 z.iq.notrun (b.1 20 0 26)) (b.1 20 0 26 + 1)) ht ((((KK.rf.ps (nI_lt (b := 5) (by omega) (by omega))).pt (by omega) (by omega)).pt (by omega) (by omega)).pk (by omega)) ho h5
  | succ pc =>
    have hp : ¬ nI (pc + 1) = 0 := nI_ne0 (by omega) (by omega)
    rw [if_neg hp, if_neg hp]
    exact ZpopR (w := 0) z ht h0 ho h5 hn hn20 (by rw [q8.2.1]; exact hp)
theorem Zk7 (z : Z a b (some t) T P C N δ rr L) (ht : t < T) (h0 : b.1 24 0 t = 0) (ho : b.1 20 0 6 = 0) (h5 : b.1 24 0 0 < 5) (hn : b.1 26 0 t = nI n) (hn20 : n < 20) (hx : ∃ y, y ≤ 100 ∧ x = nI y) : AR (xDo 7 x a T t) (mDo 7 x b T t) b t P C N δ (b.1 20 0 34) := by
  obtain ⟨y, hy, rfl⟩ := hx
  have e : xDo 7 (nI y) a T t = xWt (xNx a t) t 4 (nI y) := if_neg (show ¬ (4 : Int32) = 0 by decide)
  have e2 : mDo 7 (nI y) b T t = mDelay (mNx b t) T t (nI y) := rfl
  have z1 := Znx z ht h0 hn hn20
  have h01 : (mNx b t).1 24 0 t = 0 := h0
  obtain ⟨s, p, m, hc, pc, q0, -, -, -, -, -, -, -, q8, -⟩ := z1.th t ht
  rw [e, e2]
  unfold xWt mDelay
  rw [q8.1, q8.2.1]
  cases pc with
  | zero =>
    rw [if_pos (by decide), if_pos (by decide)]
    unfold xPause
    rw [if_pos rfl]
    have e9 : (xNx a t).1 18 0 9 = nI C := z1.gl.2.2.2.1
    have e10 : (mNx b t).1 20 0 8 = nI C := z1.gl.2.2.2.2.1
    rw [e9, e10, nI_add]
    exact AR.pl (Zdl z1 ht (u := C + y) (by omega) h01 z1.iq.notrun) ht ((kk_nx.ps (by decide)).pt (by omega) (by omega)) ho h5
  | succ pc =>
    have hp : ¬ nI (pc + 1) = 0 := nI_ne0 (by omega) (by omega)
    rw [if_neg hp, if_neg hp]
    have zp := Zpop z1 ht q8.2.1 (by omega)
    have e9 : (xNx a t).1 9 t 0 = (mNx b t).1 32 0 (4 * t) := q8.2.2 0 (by omega)
    have hs : (mPopS (mNx b t) t).1 24 0 t = 0 := by
      rw [mPopS_1 q8.2.1 (by omega), (mShL_off _ _ _).1 24 0 t (by omega), put_ne (by omega)]
      exact h01
    rw [e9]
    exact AR.ex (b1 := mPopS (mNx b t) t) (zp.hcb ht) (Zraise zp ht (by rw [hs]; decide) (fun _ => hs)) ht kk_nx.popS ho h5
theorem Zk0 {y : Nat} (hy : y < 8) (z : Z a b (some t) T P C N δ rr L) (ht : t < T) (h0 : b.1 24 0 t = 0) (ho : b.1 20 0 6 = 0) (h5 : b.1 24 0 0 < 5) (hn : b.1 26 0 t = nI n) (hn20 : n < 20) : AR (xDo 0 (nI y) a T t) (mDo 0 (nI y) b T t) b t P C N δ (b.1 20 0 34) := by
  have ea : (xNx a t).1 13 0 y = b.1 40 0 y := (xNx_ne (by omega)).trans (z.bx y hy).1
  have e2 : mDo 0 (nI y) b T t = mPut b T t (nI y) := rfl
  have es : xSt 0 (nI y) (xNx a t) = if b.1 40 0 y = 0 then 0 else 1 := by rw [xSt_0, nv_nI (by omega), ea]
  rw [e2, xDo_0, es]
  unfold mPut
  rw [nv_nI (by omega)]
  by_cases q : b.1 40 0 y = 0
  · rw [if_pos q, if_pos rfl, if_pos q, xPf_0, nv_nI (by omega), xNx_ne (by omega), (z.posn ht h0).2.2]
    obtain ⟨L', z2⟩ := Zbring (v := b.1 27 0 t) (Znx z ht h0 hn hn20) hy (fun r er => by cases er; exact h0)
    exact AR.pl z2 ht kk_nx.com ho h5
  · rw [if_neg q, if_neg (show ¬ (1 : Int32) = 0 by decide), if_neg q]
    exact ZW (w := 1) (by omega) (by omega) hy z ht h0 ho h5 hn hn20 (by omega)
theorem Zk1 {y : Nat} (hy : y < 8) (z : Z a b (some t) T P C N δ rr L) (ht : t < T) (h0 : b.1 24 0 t = 0) (ho : b.1 20 0 6 = 0) (h5 : b.1 24 0 0 < 5) (hn : b.1 26 0 t = nI n) (hn20 : n < 20) : AR (xDo 1 (nI y) a T t) (mDo 1 (nI y) b T t) b t P C N δ (b.1 20 0 34) := by
  have ea : (xNx a t).1 13 0 y = b.1 40 0 y := (xNx_ne (by omega)).trans (z.bx y hy).1
  have e2 : mDo 1 (nI y) b T t = mTake b T t (nI y) := rfl
  have es : xSt 1 (nI y) (xNx a t) = if b.1 40 0 y = 0 then 2 else 0 := by rw [xSt_1, nv_nI (by omega), ea]
  rw [e2, xDo_0, es]
  unfold mTake
  rw [nv_nI (by omega)]
  by_cases q : b.1 40 0 y = 0
  · rw [if_pos q, if_neg (show ¬ (2 : Int32) = 0 by decide), if_pos q]
    exact ZW (w := 2) (by omega) (by omega) hy z ht h0 ho h5 hn hn20 (fun _ w => by rw [q] at w; exact absurd w (by decide))
  · have q1 : b.1 40 0 y = 1 := (z.bx y hy).2.1.resolve_left q
    rw [if_neg q, if_pos rfl, if_neg q, xPf_1, nv_nI (by omega)]
    have ev : (xNx a t).1 14 0 y = b.1 39 0 y := (xNx_ne (by omega)).trans ((z.bx y hy).2.2 q1).1
    obtain ⟨L', z2⟩ := Ztaken (Zreg (Znx z ht h0 hn hn20) ht (b.1 39 0 y)) hy (fun r er => by cases er; exact h0) q1
    unfold xTakeF xTkB
    rw [ev]
    exact AR.pl z2 ht (kk_nx.pt (by omega) (by omega)).tkn ho h5
theorem Zk2 {y : Nat} (hy : y < 8) (z : Z a b (some t) T P C N δ rr L) (ht : t < T) (h0 : b.1 24 0 t = 0) (ho : b.1 20 0 6 = 0) (h5 : b.1 24 0 0 < 5) (hn : b.1 26 0 t = nI n) (hn20 : n < 20) : AR (xDo 2 (nI y) a T t) (mDo 2 (nI y) b T t) b t P C N δ (b.1 20 0 34) := by
  have ea : (xNx a t).1 13 0 y = b.1 40 0 y := (xNx_ne (by omega)).trans (z.bx y hy).1
  have e2 : mDo 2 (nI y) b T t = mRead b T t (nI y) := rfl
  have es : xSt 2 (nI y) (xNx a t) = if b.1 40 0 y = 0 then 3 else 0 := by rw [xSt_2, nv_nI (by omega), ea]
  rw [e2, xDo_0, es]
  unfold mRead
  rw [nv_nI (by omega)]
  by_cases q : b.1 40 0 y = 0
  · rw [if_pos q, if_neg (show ¬ (3 : Int32) = 0 by decide), if_pos q]
    exact ZW (w := 3) (by omega) (by omega) hy z ht h0 ho h5 hn hn20 (fun _ w => by rw [q] at w; exact absurd w (by decide))
  · have q1 : b.1 40 0 y = 1 := (z.bx y hy).2.1.resolve_left q
    rw [if_neg q, if_pos rfl, if_neg q, xPf_2, nv_nI (by omega)]
    have ev : (xNx a t).1 14 0 y = b.1 39 0 y := (xNx_ne (by omega)).trans ((z.bx y hy).2.2 q1).1
    rw [ev]
    exact AR.pl (Zreg (Znx z ht h0 hn hn20) ht (b.1 39 0 y)) ht (kk_nx.pt (by omega) (by omega)) ho h5
theorem Zk12 (z : Z a b (some t) T P C N δ rr L) (ht : t < T) (h0 : b.1 24 0 t = 0) (ho : b.1 20 0 6 = 0) (h5 : b.1 24 0 0 < 5) (hn : b.1 26 0 t = nI n) (hn20 : n < 20) : AR (xDo 12 x a T t) (mDo 12 x b T t) b t P C N δ (b.1 20 0 34) := by
  have e : xDo 12 x a T t = xThrow (xNx a t) t x := if_pos rfl
  have e2 : mDo 12 x b T t = mThrow (mNx b t) T t x := rfl
  have z1 := Znx z ht h0 hn hn20
  have h01 : (mNx b t).1 24 0 t = 0 := h0
  have hT := z1.xq.1
  have hT2 := z1.iq.1
  have hT24 := z1.xq.2.1
  have e6 : (xNx a t).1 7 t 6 = (mNx b t).1 27 0 t := (xNx_ne (by omega)).trans ((z.posn ht h0).2.2.trans (mNx_ne (by omega)).symm)
  rw [e, e2]
  generalize hA : xNx a t = a1 at *
  generalize hB : mNx b t = b1 at *
  have kk : KK b b1 := by rw [← hB]; exact kk_nx
  unfold xThrow mThrow xTgt mTgt
  rw [e6, hT, hT2]
  by_cases q : b1.1 27 0 t < 0
  · have n1 : ¬ b1.1 27 0 t = nI t := fun w => nI_pos (n := t) (by omega) (by rw [← w]; exact q)
    rw [if_pos q, if_neg n1]
    exact AR.pl z1 ht kk ho h5
  · obtain ⟨u, hu, eu⟩ := nI_of q
    rw [eu, if_neg (nI_pos hu)]
    by_cases w : T ≤ u
    · rw [if_pos (nI_le w hu), if_neg (fun w2 => by have := (nI_eq hu (by omega)).mp w2; omega)]
      exact AR.pl z1 ht kk ho h5
    · have hu2 : u < T := by omega
      rw [if_neg (nI_ge hu2 (by omega)), nv_nI hu]
      by_cases et : u = t
      · subst et
        rw [if_pos rfl]
        show AR (xThr a1 u u x) _ b u P C N δ _
        unfold xThr
        have es : a1.1 7 u 3 = 0 := (z1.posn ht h01).1
        rw [if_pos (by rw [es]; decide), if_pos (Or.inl rfl)]
        exact AR.ex (z1.hcb ht) (Zraise z1 ht (by rw [h01]; decide) (fun _ => h01)) ht kk ho h5
      · rw [if_neg (fun w2 => et ((nI_eq hu (by omega)).mp w2))]
        show AR (xThr a1 u t x) (mThr b1 T u x) b t P C N δ _
        obtain ⟨s, p, m, hc, pc, q0, q1, -, -, -, -, -, -, q8, q9, -⟩ := z1.th u hu2
        unfold xThr mThr
        rw [q1.1, q1.2]
        by_cases s5 : s < 5
        · rw [if_pos ((nI_5 q0.1).mpr s5), if_neg (show ¬ (5 : Int32) ≤ nI s from fun w2 => by have := (nI_5' q0.1).mp w2; omega)]
          by_cases c : b1.1 30 0 u = 0 ∨ ¬ nI s = 0
          · rw [if_pos c, if_pos (show u = t ∨ a1.1 7 u 9 = 0 ∨ ¬ (nI s < 1 ∨ 4 < nI s) from ?_)]
            · exact AR.ex (z1.hcb hu2) (Zraise z1 hu2 (by rw [q1.2]; exact (nI_5 q0.1).mpr s5) (fun w2 => by cases w2; exact absurd rfl et)) ht kk ho h5
            · refine Or.inr (c.imp (fun w2 => q9.1.trans w2) (fun w2 w3 => ?_))
              have s1 : 1 ≤ s := by
                rcases Nat.eq_zero_or_pos s with r | r
                · exact absurd (by rw [r]; rfl) w2
                · exact r
              rcases w3 with w3 | w3
              · exact nI_nlt (b := 1) s1 (by omega) w3
              · exact nI_nlt (a := 4) (b := s) (by omega) (by omega) w3
          · have c1 : ¬ b1.1 30 0 u = 0 := fun w2 => c (Or.inl w2)
            have c2 : nI s = 0 := Classical.not_not.mp (fun w2 => c (Or.inr w2))
            rw [if_neg c, if_neg (show ¬ (u = t ∨ a1.1 7 u 9 = 0 ∨ ¬ (nI s < 1 ∨ 4 < nI s)) from ?_)]
            · unfold xPend
              rw [q8.1, q8.2.1, nv_nI (by omega)]
              by_cases p4 : pc < 4
              · rw [if_neg (show ¬ (4 : Int32) ≤ nI pc from nI_ge (b := 4) p4 (by omega)), if_neg (show ¬ (4 : Int32) ≤ nI pc from nI_ge (b := 4) p4 (by omega)), nI_1]
                exact AR.pl (Zpend z1 hu2 x q8.2.1 p4) ht ((kk.pt (by omega) (by omega)).pt (by omega) (by omega)) ho h5
              · rw [if_pos (show (4 : Int32) ≤ nI pc from nI_le (a := 4) (by omega) (by omega)), if_pos (show (4 : Int32) ≤ nI pc from nI_le (a := 4) (by omega) (by omega))]
                exact AR.pl z1 ht kk ho h5
            · rintro (w2 | w2 | w2)
              · exact et w2
              · exact c1 (q9.1.symm.trans w2)
              · exact w2 (Or.inl (by rw [c2]; decide))
        · rw [if_neg (fun w2 => s5 ((nI_5 q0.1).mp w2)), if_pos ((nI_5' q0.1).mpr (by omega))]
          exact AR.pl z1 ht kk ho h5
end AK
