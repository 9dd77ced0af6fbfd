/-! Waking, idleness, whole turns, steps -/
section WS
variable {a b : tH} {ρ : Option Nat} {T P C N δ rr t : Nat} {L : List Nat}
theorem Zdel (z : Z a b ρ T P C N δ rr L) : xDelayed a T = mDel b T := by
  unfold xDelayed mDel
  refine mins_congr (fun j hj => ?_) (fun j hj hp => ?_)
  · obtain ⟨s, -, e1, e2⟩ := z.st hj
    rw [e1, e2]
  · obtain ⟨s, p, m, hc, pc, q0, q1, -, -, -, -, -, -, -, -, q10, -⟩ := z.th j hj
    have h4 := of_decide_eq_true hp
    rw [q1.2] at h4
    obtain ⟨u, -, e1, e2⟩ := q10 (nI_s (w := 4) q0.1 (by omega) h4)
    rw [e1, e2]
theorem mDue_none (h : mDel b T = none) : mDue b T = none := mins_no (fun j hj => by
  have h1 := mins_none h j hj
  rw [h1]; rfl)
theorem mDue_late (h : mDel b T = some t) (hl : ¬ b.1 35 0 t ≤ b.1 20 0 8) : mDue b T = none := mins_no (fun j hj => by
  cases q : (decide (b.1 24 0 j = 4) && decide (b.1 35 0 j ≤ b.1 20 0 8)) with
  | false => rfl
  | true =>
    have q2 := Bool.and_eq_true_iff.mp q
    have h1 := (mins_le h j hj q2.1).1
    exact absurd (Int32.le_trans h1 (of_decide_eq_true q2.2)) hl)
theorem mDue_now (h : mDel b T = some t) (hl : b.1 35 0 t ≤ b.1 20 0 8) : mDue b T = some t := by
  have h1 := mins_lt h
  refine mins_some h1.1 (by rw [Bool.and_eq_true_iff]; exact ⟨h1.2, decide_eq_true hl⟩) (fun j hj hp => ?_)
  exact mins_le h j hj (Bool.and_eq_true_iff.mp hp).1
theorem cnt4_wk (hs : t < T) (h4 : b.1 24 0 t = 4) : cnt (fun s => decide (b.1 24 0 s = 4)) T = cnt (fun s => decide ((mWk1 b t).1 24 0 s = 4)) T + 1 := by
  refine cnt_off (t := t) (decide_eq_true h4) ?_ hs (fun j hj hn => ?_)
  · rw [mWk1_st, if_pos rfl]; decide
  · rw [mWk1_st, if_neg hn]
theorem Zwake : ∀ (f g : Nat) (a b : tH) (L : List Nat), Z a b none T P C N δ rr L → cnt (fun s => decide (b.1 24 0 s = 4)) T ≤ f → cnt (fun s => decide (b.1 24 0 s = 4)) T ≤ g → ∃ L', Z (xWake T f a) (mWake T g b) none T P C N δ rr L' ∧ L.length ≤ L'.length ∧ (∀ j, mDel b T = some j → b.1 35 0 j ≤ b.1 20 0 8 → L' ≠ []) ∧ (∀ j, mDel (mWake T g b) T = some j → ¬ (mWake T g b).1 35 0 j ≤ (mWake T g b).1 20 0 8) ∧ (∀ k, k ≠ 27 → (mWake T g b).1 20 0 k = b.1 20 0 k) ∧ (∀ s, b.1 24 0 s < 5 → (mWake T g b).1 24 0 s < 5)
  | f, g, a, b, L, z, hf, hg => by
    cases e : mDel b T with
    | none =>
      rw [xWake_none ((Zdel z).trans e), mWake_none (mDue_none e)]
      exact ⟨L, z, Nat.le_refl _, fun j h => (by cases h), fun j h => (by rw [e] at h; cases h), fun _ _ => rfl, fun _ h => h⟩
    | some j =>
      have hst := mDel_st e
      obtain ⟨s, p, m, hc, pc, q0, q1, -, -, -, -, -, -, -, -, q10, -⟩ := z.th j hst.1
      obtain ⟨u, -, u1, u2⟩ := q10 (nI_s (w := 4) q0.1 (by omega) (q1.2.symm.trans hst.2))
      have ec : a.1 18 0 9 = b.1 20 0 8 := z.gl.2.2.2.1.trans z.gl.2.2.2.2.1.symm
      by_cases hl : b.1 35 0 j ≤ b.1 20 0 8
      · have c1 := cnt4_wk hst.1 hst.2
        cases f with
        | zero => omega
        | succ f =>
          cases g with
          | zero => omega
          | succ g =>
            have hx : a.1 7 j 12 ≤ a.1 18 0 9 := by rw [u1, ← u2, ec]; exact hl
            rw [xWake_some ((Zdel z).trans e) hx, mWake_some (mDue_now e hl)]
            obtain ⟨L', z', l1, -, d1, k1, s1⟩ := Zwake f g _ _ _ (Zwk z hst.1 hst.2 (fun w => by cases w)) (by omega) (by omega)
            simp at l1
            refine ⟨L', z', by omega, fun _ _ _ w => ?_, d1, fun k hk => ?_, fun s hs => s1 s ?_⟩
            · rw [w] at l1; simp at l1
            · rw [k1 k hk, mWk1_off (by omega) (by omega) (by omega) (by omega)]
            · rw [mWk1_st]
              split
              · decide
              · exact hs
      · have hx : ¬ a.1 7 j 12 ≤ a.1 18 0 9 := by rw [u1, ← u2, ec]; exact hl
        rw [xWake_late ((Zdel z).trans e) hx, mWake_none (mDue_late e hl)]
        exact ⟨L, z, Nat.le_refl _, fun k h h2 => (by cases h; exact absurd h2 hl), fun k h => (by rw [e] at h; cases h; exact hl), fun _ _ => rfl, fun _ h => h⟩
  termination_by f => f
theorem put_same {h : tH} {c i k : Nat} {x : Int32} (e : h.1 c i k = x) : put h c i k x = h := by
  refine Prod.ext (funext fun c' => funext fun i' => funext fun k' => ?_) rfl
  rw [put_rd]
  split
  · rename_i q
    rw [q.1, q.2.1, q.2.2, e]
  · rfl
theorem Zqlen (z : Z a b ρ T P C N δ rr L) : (a.1 10 0 1 = 0 ↔ L = []) ∧ (b.1 20 0 27 = 0 ↔ L = []) := by
  have hl := z.iq.len
  have h1 : nI L.length = 0 ↔ L = [] := by
    constructor
    · intro h
      cases L with
      | nil => rfl
      | cons x l => exact absurd h (nI_ne0 (by simp) (by omega))
    · intro h; rw [h]; rfl
  rw [z.xq.2.2.1, z.iq.2.2.1]
  exact ⟨h1, h1⟩
theorem mTen1_no {k : Nat} (h : ¬ b.1 24 0 k < 5) : mTen1 b T k = b := by
  unfold mTen1
  rw [if_pos]
  refine Or.inr ?_
  have h5 := Int32.not_lt.mp h
  rw [Int32.le_iff_toInt_le] at h5
  rw [Int32.lt_iff_toInt_lt]
  have e5 : (5 : Int32).toInt = 5 := by decide
  have e3 : (3 : Int32).toInt = 3 := by decide
  omega
theorem Zres1 {k : Nat} (z : Z a b none T P C N δ rr L) (ov : OV b T) (hk : k < T) : (∃ L', Z (xRes1 a T k) (mTen1 b T k) none T P C N δ rr L') ∧ OV (mTen1 b T k) T ∧ (mTen1 b T k).1 20 0 7 = b.1 20 0 7 := by
  obtain ⟨s, hs, e1, e2⟩ := z.st hk
  unfold xRes1 mTen1
  rw [e1, e2]
  by_cases w : nI s < 1 ∨ 3 < nI s
  · rw [if_pos w, if_pos w]
    exact ⟨⟨L, z⟩, ov, rfl⟩
  · rw [if_neg w, if_neg w]
    have s5 : s < 5 := by
      rcases Nat.lt_or_ge s 5 with q | q
      · exact q
      · exact absurd (Or.inr (nI_lt (a := 3) (b := s) (by omega) (by omega))) w
    rcases ov with ⟨ho, h5⟩ | ⟨-, h5⟩
    · have h5 : b.1 24 0 0 < 5 := h5.resolve_left (by omega)
      have eb : a.1 18 0 11 = b.1 20 0 10 := z.gl.2.2.2.2.2.2.2.2.2.1
      rw [eb]
      have z1 := Zblk z (b.1 20 0 10 + 1)
      obtain ⟨L1, z2⟩ := Zraise (n := 10) z1 hk (by show b.1 24 0 k < 5; rw [e2]; exact (nI_5 hs).mpr s5) (fun q => by cases q)
      have I := z1.hcb hk
      rw [mExc_clo (b := put b 20 0 10 (b.1 20 0 10 + 1)) ho h5 I]
      have f20 := fun (j : Nat) (hj : j ≠ 27) => (mExcN_20 (n := 10) (k := j) hj I).1
      exact ⟨Zclo z2 (by omega), OV.clo ((f20 6 (by omega)).trans ho), (mClo_20 (by omega) (by omega)).trans (f20 7 (by omega))⟩
    · exact absurd (by rw [e2]; exact (nI_5 hs).mpr s5) (h5 k hk)
theorem Zresc : ∀ (m k : Nat) (a b : tH) (L : List Nat), T = k + m → Z a b none T P C N δ rr L → OV b T → (∃ L', Z (xResc T m k a) (mTenL T m k b) none T P C N δ rr L') ∧ OV (mTenL T m k b) T ∧ (mTenL T m k b).1 20 0 7 = b.1 20 0 7
  | 0, k, a, b, L, _, z, ov => ⟨⟨L, z⟩, ov, rfl⟩
  | m + 1, k, a, b, L, h, z, ov => by
    obtain ⟨⟨L1, z1⟩, o1, k1⟩ := Zres1 (k := k) z ov (by omega)
    obtain ⟨h1, h2, h3⟩ := Zresc m (k + 1) _ _ L1 (by omega) z1 o1
    exact ⟨h1, h2, h3.trans k1⟩
/-- what is found to run -/
theorem Zfind (z : Z a b none T P C N 0 rr L) (ho : b.1 20 0 6 = 0) (h5 : b.1 24 0 0 < 5) (h1 : 1 ≤ T) (hC : C ≤ 101 * N) : ∃ C' L', Z (xNext a T) (mFind b T) none T P C' N 0 rr L' ∧ OV (mFind b T) T ∧ (L' = [] → C' ≤ 101 * N) ∧ (mFind b T).1 20 0 7 = b.1 20 0 7 := by
  have hT24 := z.xq.2.1
  obtain ⟨L1, z1, -, -, d1, k1, s1⟩ := Zwake T 24 a b L z (cnt_le _ T) (Nat.le_trans (cnt_le _ T) hT24)
  have o1 : (mWake T 24 b).1 20 0 6 = 0 := (k1 6 (by omega)).trans ho
  have o5 : (mWake T 24 b).1 24 0 0 < 5 := s1 0 h5
  unfold xNext mFind
  by_cases q : L1 = []
  · rw [if_pos ((Zqlen z1).1.mpr q), if_pos ((Zqlen z1).2.mpr q)]
    unfold xIdle mFindB
    rw [Zdel z1]
    cases e : mDel (mWake T 24 b) T with
    | none =>
      obtain ⟨⟨L2, z2⟩, o2, e2⟩ := Zresc T 0 _ _ L1 (by omega) z1 (Or.inl ⟨o1, Or.inr o5⟩)
      exact ⟨C, L2, z2, o2, fun _ => hC, e2.trans (k1 7 (by omega))⟩
    | some j =>
      have hst := mDel_st e
      obtain ⟨s, p, m, hc, pc, q0, q1, -, -, -, -, -, -, -, -, q10, -⟩ := z1.th j hst.1
      obtain ⟨u, u0, u1, u2⟩ := q10 (nI_s (w := 4) q0.1 (by omega) (q1.2.symm.trans hst.2))
      have hN := z.gl.2.2.2.2.2.2.2.2.1
      have hu : C < u := by
        have := d1 j e
        rw [u2, z1.gl.2.2.2.2.1] at this
        rcases Nat.lt_or_ge C u with w | w
        · exact w
        · exact absurd (nI_le w (by omega)) this
      dsimp only
      rw [u1, u2]
      obtain ⟨g1, g2, g3, g4, g5, g6, g7, g8, g9, g10, g11, g12, g13⟩ := z1.gl
      have z2 : Z (put (xWake T T a) 18 0 9 (nI u)) (put (mWake T 24 b) 20 0 8 (nI u)) none T P u N 0 rr L1 := z1.glob (fun c i k w => put_ne (by omega)) rfl (fun c k w => put_ne (by omega)) ⟨g1, g2, g3, put_eq, put_eq, g6, g7, by omega, g9, g10, g11, g12, g13⟩ (by omega)
      obtain ⟨L3, z3, -, n3, -, k3, s3⟩ := Zwake T 24 _ _ L1 z2 (cnt_le _ T) (Nat.le_trans (cnt_le _ T) hT24)
      have e' : mDel (put (mWake T 24 b) 20 0 8 (nI u)) T = some j := e
      refine ⟨u, L3, z3, Or.inl ⟨(k3 6 (by omega)).trans o1, Or.inr (s3 0 o5)⟩, fun w => absurd w (n3 j e' ?_), (k3 7 (by omega)).trans (k1 7 (by omega))⟩
      rw [put_eq, put_ne (by omega), u2]
      exact Int32.le_refl _
  · rw [if_neg (fun w => q ((Zqlen z1).1.mp w)), if_neg (fun w => q ((Zqlen z1).2.mp w))]
    exact ⟨C, L1, z1, Or.inl ⟨o1, Or.inr o5⟩, fun w => absurd w q, k1 7 (by omega)⟩
theorem Z.ro {ρ' : Option Nat} (z : Z a b ρ T P C N δ rr L) (hr : ∀ t ∈ L, ρ' ≠ some t) : Z a b ρ' T P C N δ rr L := by
  obtain ⟨q1, q2, q3, q4, q5, q6, q7⟩ := z.xq
  exact ⟨z.pg, z.gl, z.th, z.bx, z.rw, z.hd, z.nu, ⟨q1, q2, q3, q4, q5, fun t ht => ⟨(q6 t ht).1, (q6 t ht).2.1, hr t ht⟩, q7⟩, z.iq.ro hr⟩
theorem Zrem (z : Z a b ρ T P C N δ rr L) (ht : t < T) : Z (xRemove a t) (mLeave b t) ρ T P C N δ rr (L.filter (neb t)) := by
  have hT24 := z.xq.2.1
  have xr := z.xq.rem (a' := a) (t := t) rfl rfl rfl (fun _ _ => rfl)
  have mr := z.iq.leave (t := t) (by omega)
  have ob : ∀ c k, c ≠ 38 → ¬ (c = 20 ∧ k = 27) → (mLeave b t).1 c 0 k = b.1 c 0 k := fun c k h1 h2 => mr.2.1 c 0 k h1 (by omega)
  refine z.thread (t := t) ht (FrA.rf.rem xr.2) FrB.rf.leave ((z.th t ht).cg (fun k => xr.2 _ _ _ (by omega)) (fun k => xr.2 _ _ _ (by omega)) (fun c _ _ _ _ => ob _ _ (by omega) (by omega)) (fun k hk => ob _ _ (by omega) (by omega)) (fun k hk => ob _ _ (by omega) (by omega))) xr.1 mr.1 (fun x hx h40 hst hw => ?_) (fun k hk => ?_) (xr.2 _ _ _ (by omega))
  · rw [ob _ _ (by omega) (by omega)] at hst hw
    exact ((z.bx x hx).2.2 h40).2 t ht hst hw
  · rw [xr.2 8 t k (by omega), ob 29 (4 * t + k) (by omega) (by omega)]
    exact z.hdt ht hk
theorem filter_cons {t : Nat} {L : List Nat} (h : (t :: L).Nodup) : (t :: L).filter (neb t) = L := by
  have h1 := List.nodup_cons.mp h
  have e : neb t t = false := by unfold neb; simp
  rw [List.filter_cons_of_neg (by rw [e]; simp), filter_no h1.1]
/-- a turn begins -/
theorem Ztb {q : Nat} (z : Z a b none T P C N 0 rr (t :: L)) (ov : OV b T) (h7 : b.1 20 0 7 = nI q) : RT P C N 1 t q (xTb a t) (mTb b t) ∧ (mTb b t).1 20 0 34 = 0 := by
  have ht : t < T := (z.iq.2.2.2.2.2 t (by simp)).1
  have z1 := Zrem z ht
  rw [filter_cons z.iq.2.2.2.2.1] at z1
  have hnL : t ∉ L := (List.nodup_cons.mp z.iq.2.2.2.2.1).1
  have z2 := Z.ro (ρ' := some t) z1 (fun s hs e => hnL (by cases e; exact hs))
  have e11 : (xRemove a t).1 7 t 11 = (mLeave b t).1 34 0 t := by
    obtain ⟨s, p, m, hc, pc, -, -, -, -, -, -, -, -, -, q9, -⟩ := z1.th t ht
    exact q9.2.2
  have z3 := Zhad (Zyld z2 0) ht ((mLeave b t).1 34 0 t + 1)
  obtain ⟨g1, g2, g3, g4, g5, g6, g7, g8, g9, g10, g11, g12, g13⟩ := z3.gl
  have lv : ∀ k, k ≠ 27 → (mLeave b t).1 20 0 k = b.1 20 0 k := fun k hk => mLeave_off.1 20 0 k (by omega) (by omega)
  have e9 : (mLeave b t).1 20 0 9 + 1 = nI (N + 1) := by
    rw [show (mLeave b t).1 20 0 9 = nI (N + 0) from z2.gl.2.2.2.2.2.2.1, nI_1]
  refine ⟨⟨T, rr, L, ?_, ht, ?_, ?_⟩, ?_⟩
  · unfold xTb mTb
    rw [e11, e9]
    exact z3.glob (fun c i k w => rfl) rfl (fun c k w => put_ne (by omega)) ⟨g1, g2, g3, g4, g5, g6, put_eq, g8, g9, g10, g11, g12, g13⟩ (Nat.le_refl C)
  · have e6 : (mTb b t).1 20 0 6 = b.1 20 0 6 := lv 6 (by omega)
    have e24 : ∀ s, (mTb b t).1 24 0 s = b.1 24 0 s := fun s => mLeave_off.1 24 0 s (by omega) (by omega)
    unfold OV
    rw [e6]
    simp only [e24]
    exact ov
  · exact (lv 7 (by omega)).trans h7
  · show (put (put (put (mLeave b t) 20 0 34 0) 34 0 t _) 20 0 9 _).1 20 0 34 = 0
    rw [put_ne (by omega), put_ne (by omega), put_eq]
theorem Zadd (z : Z a b none T P C N δ rr L) (ht : t < T) (h0 : b.1 24 0 t = 0) (hnL : t ∉ L) : Z (xAdd a t) (mEnq b t) none T P C N δ rr (L ++ [t]) := by
  obtain ⟨s, p, m, hc, pc, q0, q1, q2, q3, q4, q5, q6, q7, q8, q9, q10, q11, q12⟩ := z.th t ht
  have hs0 : s = 0 := nI_s (w := 0) q0.1 (by omega) (q1.2.symm.trans h0)
  have ob : ∀ c k, c ≠ 38 → ¬ (c = 20 ∧ k = 27) → (mEnq b t).1 c 0 k = b.1 c 0 k := by
    intro c k h1 h2
    unfold mEnq
    rw [put_ne (by omega), put_ne (by omega), put_rd]
    split
    · rename_i q
      rw [q.1, q.2.2, h0]
    · rfl
  have oa : ∀ c i k, ¬ (c = 10 ∧ i = 0 ∧ k = 1) → (xAdd a t).1 c i k = a.1 c i k := fun c i k h => by
    unfold xAdd
    rw [put_ne h]
    rfl
  refine z.thread (t := t) ht FrA.rf.add FrB.rf.enq ((z.th t ht).cg (fun k => oa _ _ _ (by omega)) (fun k => oa _ _ _ (by omega)) (fun c _ _ _ _ => ob _ _ (by omega) (by omega)) (fun k hk => ob _ _ (by omega) (by omega)) (fun k hk => ob _ _ (by omega) (by omega))) (z.xq.add ht hnL (fun w => by cases w) (by rw [q1.1, hs0]; rfl)) (z.iq.enq ht hnL (fun w => by cases w)) (fun x hx h40 hst hw => ?_) (fun k hk => ?_) (oa _ _ _ (by omega))
  · rw [ob _ _ (by omega) (by omega)] at hst hw
    exact ((z.bx x hx).2.2 h40).2 t ht hst hw
  · rw [oa 8 t k (by omega), ob 29 (4 * t + k) (by omega) (by omega)]
    exact z.hdt ht hk
/-- between the calls -/
def ZO (N : Nat) (a b : tH) : Prop := ∃ T P C rr L, Z a b none T P C N 0 rr L ∧ OV b T ∧ C ≤ 101 * N
/-- a turn ends -/
theorem Zte {q : Nat} (r : RT P C N 1 t q a b) (hN : N + 1 ≤ 3000) : ZO (N + 1) (xTe a t) (mTe b t) := by
  obtain ⟨T, rr, L, z, ht, ov, -⟩ := r
  have hnL : t ∉ L := z.iq.notrun
  have z0 := Z.ro (ρ' := none) z (fun s _ e => by cases e)
  have hst : a.1 7 t 3 = b.1 24 0 t := by
    obtain ⟨s, -, e1, e2⟩ := z.st ht
    rw [e1, e2]
  obtain ⟨L1, z1, o1⟩ : ∃ L1, Z (xTe1 a t) (mTe1 b t) none T P C N 1 rr L1 ∧ OV (mTe1 b t) T := by
    unfold xTe1 mTe1
    rw [hst]
    by_cases h0 : b.1 24 0 t = 0
    · rw [if_pos h0, if_pos h0]
      refine ⟨_, Zadd z0 ht h0 hnL, ?_⟩
      rcases ov with ⟨ho, h5⟩ | ⟨-, h5⟩
      · refine Or.inl ⟨?_, h5.imp id (fun w => ?_)⟩
        · unfold mEnq
          rw [put_ne (by omega), put_ne (by omega), put_ne (by omega)]
          exact ho
        · unfold mEnq
          rw [put_ne (by omega), put_ne (by omega), put_rd]
          split
          · decide
          · exact w
      · exact absurd (by rw [h0]; decide) (h5 t ht)
    · rw [if_neg h0, if_neg h0]
      exact ⟨L, z0, ov⟩
  obtain ⟨g1, g2, g3, g4, g5, g6, g7, g8, g9, g10, g11, g12, g13⟩ := z1.gl
  refine ⟨T, P, C + 1, rr, L1, ?_, ?_, by omega⟩
  · unfold xTe mTe
    rw [g4, g6, g5, nI_1, nI_1]
    refine z1.glob (fun c i k w => (put_ne (by omega)).trans (put_ne (by omega))) rfl (fun c k w => put_ne (by omega)) ⟨?_, ?_, ?_, ?_, put_eq, put_eq, ?_, by omega, hN, ?_, ?_, ?_, g13⟩ (by omega)
    · exact g1
    · exact g2
    · exact g3
    · rw [put_ne (by omega), put_eq]
    · exact g7
    · exact g10
    · exact g11
    · exact g12
  · exact o1
theorem ZO.turn (z : ZO N a b) (hb : b.1 20 0 5 = 1) (hN : N + 1 ≤ 3000) : (xTurn a).1 = (mTurn b).1 ∧ ZO (if (mTurn b).1 = 0 then N else N + 1) (xTurn a).2 (mTurn b).2 ∧ (mTurn b).2.1 20 0 5 = 1 ∧ XO a ∧ TO b := by
  obtain ⟨T, P, C, rr, L, z, ov, hC⟩ := z
  have hT24 := z.xq.2.1
  obtain ⟨hT1, h8, q, q10, h7⟩ := z.gl.2.2.2.2.2.2.2.2.2.2.2.1 hb
  have e7 : a.1 18 0 7 = b.1 20 0 6 := z.gl.2.2.1
  have eT : nv (a.1 18 0 5) = T := by rw [z.xq.1, nv_nI (by omega)]
  have eT2 : nv (b.1 20 0 11) = T := by rw [z.iq.1, nv_nI (by omega)]
  have eq1 : nv (a.1 18 0 8) = q := by rw [h8, h7, nv_nI (by omega)]
  have eq2 : nv (b.1 20 0 7) = q := by rw [h7, nv_nI (by omega)]
  by_cases ho : b.1 20 0 6 = 0
  · have h5 : b.1 24 0 0 < 5 := by
      rcases ov with ⟨-, h⟩ | ⟨h, -⟩
      · exact h.resolve_left (by omega)
      · exact absurd ho h
    obtain ⟨C', L', z1, o1, c1, k7⟩ := Zfind z ho h5 hT1 hC
    have hb1 : (mFind b T).1 20 0 5 = 1 := by
      rcases z1.gl.2.1 with w | w
      · have := z1.gl.2.2.2.2.2.2.2.2.2.2.2.2 w; omega
      · exact w
    cases L' with
    | nil =>
      have l1 := (Zqlen z1).1.mpr rfl
      have l2 := (Zqlen z1).2.mpr rfl
      have ex : xTurn a = (0, xNext a T) := by
        unfold xTurn
        rw [if_pos (e7.trans ho), eT, if_pos l1, put_same l1]
      have em : mTurn b = (0, mFind b T) := by
        unfold mTurn
        rw [if_pos ho, eT2, if_neg (fun w => w.2 l2)]
      refine ⟨by rw [ex, em], ?_, ?_, fun b' => ?_, fun a' => ?_⟩
      · rw [ex, em]
        exact ⟨T, P, C', rr, [], z1, o1, c1 rfl⟩
      · rw [em]; exact hb1
      · rw [ex]
        have h := c_X5_takeTurn_none (b := b') z.xq z.xh hT1 (e7.trans ho) l1
        rw [put_same l1] at h
        exact h
      · rw [em]
        exact c_X7_isTurn_none z.iq z.ih (z.iu (by omega)) ho (Or.inr l2)
    | cons t L2 =>
      have l1 : (xNext a T).1 10 0 1 = nI (L2.length + 1) := z1.xq.2.2.1
      have l2 : (mFind b T).1 20 0 27 = nI (L2.length + 1) := z1.iq.2.2.1
      have hlen := z1.xq.len
      simp at hlen
      have n1 : ¬ nI (L2.length + 1) = 0 := nI_ne0 (by omega) (by omega)
      have ht : t < T := (z1.iq.2.2.2.2.2 t (by simp)).1
      have hst : (mFind b T).1 24 0 t = 0 := (z1.iq.2.2.2.2.2 t (by simp)).2.1
      have o6 : (mFind b T).1 20 0 6 = 0 := by
        rcases o1 with ⟨h, -⟩ | ⟨-, h⟩
        · exact h
        · exact absurd (by rw [hst]; decide) (h t ht)
      have p1 : (xNext a T).2 0 = some t := z1.xq.2.2.2.1 0 t (by simp)
      have p2 : (mFind b T).1 38 0 0 = nI t := z1.iq.2.2.2.1 0 t (by simp)
      have ex : xTurn a = (1, xTurnB (xNext a T) t q) := by
        unfold xTurn
        rw [if_pos (e7.trans ho), eT, if_neg (by rw [l1]; exact n1), p1, eq1]
        rfl
      have em : mTurn b = (1, mTurnB (mFind b T) t q) := by
        unfold mTurn
        rw [if_pos ho, eT2, if_pos ⟨o6, by rw [l2]; exact n1⟩, p2, nv_nI (by omega), eq2]
      obtain ⟨r0, y0⟩ := Ztb z1 o1 (k7.trans h7)
      have rE := RT.loop q _ _ r0 y0
      have zE := Zte rE hN
      have J1 : ∀ a b, RT P C' N 1 t q a b → a.1 7 t 3 = 0 → FX a t ∧ RT P C' N 1 t q (xStC a t) (mStA b t) := fun a b r h => ⟨(r.go (r.st.symm.trans h)).2.2.1, (r.go (r.st.symm.trans h)).1⟩
      have tl : ∀ a b, RT P C' N 1 t q a b → ∃ T L rr, t < T ∧ Z a b (some t) T P C' N 1 rr L := fun a b r => by
        obtain ⟨T, rr, L, z, ht, -⟩ := r
        exact ⟨T, L, rr, ht, z⟩
      refine ⟨by rw [ex, em], ?_, ?_, fun b' => ?_, fun a' => ?_⟩
      · rw [ex, em]
        exact zE
      · obtain ⟨T2, P2, C2, rr2, L2', z2, -⟩ := zE
        rw [em]
        show (mTurnB (mFind b T) t q).1 20 0 5 = 1
        rcases z2.gl.2.1 with w | w
        · exfalso
          have hT2 := z2.gl.2.2.2.2.2.2.2.2.2.2.2.2 w
          obtain ⟨T3, L3, rr3, ht3, z3⟩ := tl _ _ rE
          have w3 : (mTL t q (mTb (mFind b T) t)).1 20 0 5 = 0 := by
            have e : (mTurnB (mFind b T) t q).1 20 0 5 = (mTL t q (mTb (mFind b T) t)).1 20 0 5 := by
              unfold mTurnB mTe mTe1
              rw [put_ne (by omega)]
              split
              · unfold mEnq
                rw [put_ne (by omega), put_ne (by omega), put_ne (by omega)]
              · rfl
            rw [← e]; exact w
          have := z3.gl.2.2.2.2.2.2.2.2.2.2.2.2 w3
          omega
        · exact w
      · rw [ex]
        refine c_X5_takeTurn_turn (b := b') z.xq z.xh hT1 (e7.trans ho) (by omega) l1 (by omega) p1 z1.xq.2.2.2.2.2.2 q10 (fun a => ∃ b, RT P C' N 1 t q a b) ?_ ?_ ?_ ?_
        · rintro a ⟨b, T3, rr3, L3, z3, ht3, -, k3⟩
          rcases z3.gl.2.1 with w | w
          · have := z3.gl.2.2.2.2.2.2.2.2.2.2.2.2 w; omega
          · exact ((z3.gl.2.2.2.2.2.2.2.2.2.2.2.1 w).2.1).trans k3
        · rintro a ⟨b, r⟩ h
          exact ⟨(J1 a b r h).1, _, (J1 a b r h).2⟩
        · exact ⟨_, r0⟩
        · rintro ⟨b3, r3⟩ h3
          obtain ⟨T3, L3, rr3, ht3, z3⟩ := tl _ _ r3
          have := z3.iq.lenr ht3
          exact ⟨L3.length, by omega, z3.xq.2.2.1⟩
      · rw [em]
        refine c_X7_isTurn_turn z.iq z.ih (z.iu (by omega)) ho o6 l2 (by omega) p2 (by omega) q10 (fun b => ∃ a, RT P C' N 1 t q a b) ?_ ?_ ?_ ?_
        · rintro b ⟨a, T3, rr3, L3, z3, ht3, -, k3⟩
          exact k3
        · rintro b ⟨a, r⟩ h h'
          exact ⟨(r.go h).2.2.2, _, (r.go h).1⟩
        · exact ⟨_, r0⟩
        · rintro ⟨a3, r3⟩ h3
          obtain ⟨T3, L3, rr3, ht3, z3⟩ := tl _ _ r3
          exact ⟨L3.length, z3.iq.len, z3.iq.2.2.1⟩
  · have ex : xTurn a = (0, a) := by
      unfold xTurn
      rw [if_neg (fun w => ho (e7.symm.trans w))]
    have em : mTurn b = (0, b) := by
      unfold mTurn
      rw [if_neg ho]
    refine ⟨by rw [ex, em], ?_, by rw [em]; exact hb, fun b' => ?_, fun a' => ?_⟩
    · rw [ex, em]
      exact ⟨T, P, C, rr, L, z, ov, hC⟩
    · rw [ex]
      exact c_X5_takeTurn_over (fun w => ho (e7.symm.trans w))
    · rw [em]
      exact c_X7_isTurn_over ho
theorem ZO.steps : ∀ (m d N : Nat) (a b : tH), ZO N a b → b.1 20 0 5 = 1 → N + m ≤ 3000 → (xStepL m d a).1 = (mStepL m d b).1 ∧ (∃ N', N' ≤ 3000 ∧ ZO N' (xStepL m d a).2 (mStepL m d b).2) ∧ SXn m a ∧ STn m b
  | 0, d, N, a, b, z, _, hN => ⟨rfl, ⟨N, by omega, z⟩, trivial, trivial⟩
  | m + 1, d, N, a, b, z, hb, hN => by
    obtain ⟨t1, t2, t3, t4, t5⟩ := z.turn hb (by omega)
    by_cases q : (mTurn b).1 = 0
    · have ex : xStepL (m + 1) d a = (d, (xTurn a).2) := if_pos (t1.trans q)
      have em : mStepL (m + 1) d b = (d, (mTurn b).2) := if_pos q
      rw [if_pos q] at t2
      rw [ex, em]
      exact ⟨rfl, ⟨N, by omega, t2⟩, ⟨t4, fun w => absurd (t1.trans q) w⟩, ⟨t5, fun w => absurd q w⟩⟩
    · have ex : xStepL (m + 1) d a = xStepL m (d + 1) (xTurn a).2 := if_neg (fun w => q (t1.symm.trans w))
      have em : mStepL (m + 1) d b = mStepL m (d + 1) (mTurn b).2 := if_neg q
      rw [if_neg q] at t2
      obtain ⟨s1, s2, s3, s4⟩ := ZO.steps m (d + 1) (N + 1) _ _ t2 t3 (by omega)
      rw [ex, em]
      exact ⟨s1, s2, ⟨t4, fun _ => s3⟩, ⟨t5, fun _ => s4⟩⟩
end WS
