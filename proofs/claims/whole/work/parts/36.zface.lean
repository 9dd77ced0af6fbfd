/-! The calls: class and reference answer alike, and the relation holds behind -/
def Zp (a b : tH) : Prop := ∃ N, ZO N a b
def OP (y6 : MethodName) (c6 : ByteArray) (l6 d6 : Nat) (y7 : MethodName) (c7 : ByteArray) (l7 d7 : Nat) (as : List tV) (a b : tH) : Prop := ∃ v a' b', Ci y6 c6 l6 .int d6 (.inr (some (0, 0)) :: as) (mix a b) v (mix a' b) ∧ Ci y7 c7 l7 .int d7 (.inr (some (20, 0)) :: as) (mix a' b) v (mix a' b') ∧ Zp a' b'
section OPs
variable {a b : tH} {ρ : Option Nat} {T P C N δ rr t : Nat} {L : List Nat} {y6 y7 : MethodName} {c6 c7 : ByteArray} {l6 d6 l7 d7 : Nat} {as : List tV} {v : Int32}
theorem Zt0 {v : Int32} (z : Z a b ρ T P C N δ rr L) : Z a (put b 20 0 0 v) ρ T P C N δ rr L :=
  z.glob (fun c i k q => rfl) rfl (fun c k q => put_ne (by omega)) z.gl (Nat.le_refl C)
theorem ZOt0 {v : Int32} (z : ZO N a b) : ZO N a (put b 20 0 0 v) := by
  obtain ⟨T, P, C, rr, L, z, ov, hC⟩ := z
  exact ⟨T, P, C, rr, L, Zt0 z, ov, hC⟩
theorem OP.same (h6 : Ci y6 c6 l6 .int d6 (.inr (some (0, 0)) :: as) (mix a b) v (mix a b)) (h7 : Ci y7 c7 l7 .int d7 (.inr (some (20, 0)) :: as) (mix a b) v (mix a (z0 b))) (z : Zp a b) : OP y6 c6 l6 d6 y7 c7 l7 d7 as a b := by
  obtain ⟨N, z⟩ := z
  exact ⟨v, a, z0 b, h6, h7, N, ZOt0 z⟩
theorem rngI {x : Int32} {n : Nat} (hn : n < 2 ^ 31) : (x < 0 ∨ nI n ≤ x) ∨ ∃ y, y < n ∧ x = nI y := by
  by_cases h : x < 0
  · exact Or.inl (Or.inl h)
  · obtain ⟨j, hj, rfl⟩ := nI_of h
    by_cases q : j < n
    · exact Or.inr ⟨j, q, rfl⟩
    · exact Or.inl (Or.inr (nI_le (by omega) hj))
theorem rngG {x M N : Int32} {n : Nat} (hn : n < 2 ^ 31) (eM : M = nI n) (h : M.toInt = N.toInt + 1) : (x < 0 ∨ N < x) ∨ ∃ y, y < n ∧ x = nI y := by
  rcases rngI (x := x) hn with (q | q) | q
  · exact Or.inl (Or.inl q)
  · exact Or.inl (Or.inr ((ge_gt h).mp (by rw [eM]; exact q)))
  · exact Or.inr q
theorem Zprog (z : Z a b ρ T P C N δ rr L) (hP : P < 12) : Z (put a 1 0 3 (nI (P + 1))) (put (put (z0 b) 21 0 P 0) 20 0 1 (nI (P + 1))) ρ T (P + 1) C N δ rr L := by
  have ea : ∀ c i k, ¬ (c = 1 ∧ k = 3) → (put a 1 0 3 (nI (P + 1))).1 c i k = a.1 c i k := fun c i k h => put_ne (by omega)
  have eb : ∀ c k, ¬ (c = 21 ∧ k = P) → ¬ (c = 20 ∧ k ≤ 1) → (put (put (z0 b) 21 0 P 0) 20 0 1 (nI (P + 1))).1 c 0 k = b.1 c 0 k := fun c k h1 h2 => (put_ne (by omega)).trans ((put_ne (by omega)).trans (put_ne (by omega)))
  refine ⟨⟨put_eq, put_eq, by omega, fun p hp => ?_⟩, z.gl.cg (fun k _ _ => ea _ _ _ (by omega)) (fun k hk => eb _ _ (by omega) (by omega)), fun s hs => ?_, fun y hy => ?_, ⟨(ea _ _ _ (by omega)).trans z.rw.1, (eb _ _ (by omega) (by omega)).trans z.rw.2.1, z.rw.2.2.1, fun k hk => ?_⟩, fun s hs k hk => ?_, fun s hs => ?_, z.xq.cg (ea _ _ _ (by omega)) (ea _ _ _ (by omega)) rfl (fun s _ => ea _ _ _ (by omega)), z.iq.cg (eb _ _ (by omega) (by omega)) (eb _ _ (by omega) (by omega)) (funext fun j => eb _ _ (by omega) (by omega)) (fun s _ => eb _ _ (by omega) (by omega))⟩
  · obtain ⟨zc, h1, h2, h3, h4, h5, h6⟩ := z.pg.2.2.2 p hp
    refine ⟨zc, h1, (ea _ _ _ (by omega)).trans h2, ?_, fun w => h4 (by omega), fun i hi => ?_, fun i hi => ?_⟩
    · by_cases e : p = P
      · subst e
        rw [put_ne (by omega), put_eq, h4 (Nat.le_refl _)]
        rfl
      · exact (eb _ _ (by omega) (by omega)).trans h3
    · rw [ea 4 p i (by omega), ea 6 p i (by omega), eb 22 _ (by omega) (by omega), eb 23 _ (by omega) (by omega)]
      exact h5 i hi
    · rw [eb 22 _ (by omega) (by omega), eb 23 _ (by omega) (by omega)]
      exact h6 i hi
  · obtain ⟨s', p, n, hc, pc, h0, h⟩ := (z.th s hs).cg (a' := put a 1 0 3 (nI (P + 1))) (b' := put (put (z0 b) 21 0 P 0) 20 0 1 (nI (P + 1))) (fun k => ea _ _ _ (by omega)) (fun k => ea _ _ _ (by omega)) (fun c _ _ _ _ => eb _ _ (by omega) (by omega)) (fun k hk => eb _ _ (by omega) (by omega)) (fun k hk => eb _ _ (by omega) (by omega))
    exact ⟨s', p, n, hc, pc, ⟨h0.1, by omega, h0.2.2⟩, h⟩
  · rw [ea 13 0 y (by omega), eb 40 y (by omega) (by omega), ea 14 0 y (by omega), eb 39 y (by omega) (by omega)]
    refine ⟨(z.bx y hy).1, (z.bx y hy).2.1, fun q => ⟨((z.bx y hy).2.2 q).1, fun t ht hst => ?_⟩⟩
    rw [eb 24 t (by omega) (by omega)] at hst
    rw [eb 36 t (by omega) (by omega)]
    exact ((z.bx y hy).2.2 q).2 t ht hst
  · rw [ea 16 0 k (by omega), ea 17 0 k (by omega), eb 41 k (by omega) (by omega), eb 42 k (by omega) (by omega)]
    exact z.rw.2.2.2 k hk
  · rw [ea 8 s k (by omega), eb 29 (4 * s + k) (by omega) (by omega)]
    exact z.hd s hs k hk
  · rw [ea 7 s 0 (by omega)]; exact z.nu s hs
theorem op_program (z : Zp a b) : OP yX6_program cX6_program 1 1 yX7_program cX7_program 1 0 [] a b := by
  obtain ⟨N, T, P, C, rr, L, z, ov, hC⟩ := z
  have hP := z.pg.2.2.1
  have h6 := c_X6_program (b := b) z.pg.1 hP
  by_cases q : P < 12
  · rw [if_pos q, if_pos q] at h6
    exact ⟨_, _, _, h6, c_X7_program_ok z.pg.2.1 q, N, T, P + 1, C, rr, L, Zprog z q, ov, hC⟩
  · rw [if_neg q, if_neg q] at h6
    have e : P = 12 := by omega
    exact OP.same h6 (c_X7_program4 (by rw [z.pg.2.1, e]; rfl)) ⟨N, T, P, C, rr, L, z, ov, hC⟩
theorem inI_of {x M : Int32} {n : Nat} (hn : n < 2 ^ 31) (e : M = nI n) (h : ¬ inI x 0 M = 0) : ∃ y, y ≤ n ∧ x = nI y := by
  unfold inI at h
  by_cases q : x < 0
  · rw [if_pos q] at h; exact absurd rfl h
  · rw [if_neg q] at h
    by_cases w : M < x
    · rw [if_pos w] at h; exact absurd rfl h
    · obtain ⟨j, hj, rfl⟩ := nI_of q
      refine ⟨j, ?_, rfl⟩
      rcases Nat.lt_or_ge n j with u | u
      · exact absurd (by rw [e]; exact nI_lt u hj) w
      · exact u
theorem gk_gd {j : Nat} {x : Int32} (hj : j ≤ 16) (h : ¬ gk j x = 0) : gdZ (nI j) x := by
  refine ⟨j, hj, rfl, fun q => ?_, fun q => ?_, fun q => ?_, fun q => ?_⟩
  · have h2 : ¬ inI x 0 7 = 0 := by
      obtain rfl | rfl | rfl : j = 0 ∨ j = 1 ∨ j = 2 := by omega
      · exact h
      · exact h
      · exact h
    obtain ⟨y, hy, e⟩ := inI_of (n := 7) (by omega) rfl h2
    exact ⟨y, by omega, e⟩
  · subst q
    obtain ⟨y, hy, e⟩ := inI_of (n := 11) (by omega) rfl h
    exact ⟨y, by omega, e⟩
  · subst q
    exact inI_of (n := 100) (by omega) rfl h
  · have h2 : ¬ inI x 0 20 = 0 := by
      obtain rfl | rfl | rfl := q
      · exact h
      · exact h
      · exact h
    exact inI_of (n := 20) (by omega) rfl h2
theorem Zapp {p zc j : Nat} {x : Int32} (z : Z a b ρ T (p + 1) C N δ rr L) (hz : b.1 21 0 p = nI zc) (hz20 : zc < 20) (hg : gdZ (nI j) x) : Z (put (put (put a 4 p zc (nI j)) 6 p zc x) 2 0 p (nI (zc + 1))) (put (put (put (z0 b) 22 0 (20 * p + zc) (nI j)) 23 0 (20 * p + zc) x) 21 0 p (nI (zc + 1))) ρ T (p + 1) C N δ rr L := by
  have hp12 := z.pg.2.2.1
  have ea : ∀ c i k, ¬ (c = 4 ∧ i = p ∧ k = zc) → ¬ (c = 6 ∧ i = p ∧ k = zc) → ¬ (c = 2 ∧ k = p) → (put (put (put a 4 p zc (nI j)) 6 p zc x) 2 0 p (nI (zc + 1))).1 c i k = a.1 c i k := fun c i k h1 h2 h3 => (put_ne (by omega)).trans ((put_ne (by omega)).trans (put_ne (by omega)))
  have eb : ∀ c k, ¬ (c = 22 ∧ k = 20 * p + zc) → ¬ (c = 23 ∧ k = 20 * p + zc) → ¬ (c = 21 ∧ k = p) → ¬ (c = 20 ∧ k = 0) → (put (put (put (z0 b) 22 0 (20 * p + zc) (nI j)) 23 0 (20 * p + zc) x) 21 0 p (nI (zc + 1))).1 c 0 k = b.1 c 0 k := fun c k h1 h2 h3 h4 => (put_ne (by omega)).trans ((put_ne (by omega)).trans ((put_ne (by omega)).trans (put_ne (by omega))))
  refine ⟨⟨(ea _ _ _ (by omega) (by omega) (by omega)).trans z.pg.1, (eb _ _ (by omega) (by omega) (by omega) (by omega)).trans z.pg.2.1, hp12, fun p' hp' => ?_⟩, z.gl.cg (fun k _ _ => ea _ _ _ (by omega) (by omega) (by omega)) (fun k hk => eb _ _ (by omega) (by omega) (by omega) (by omega)), fun s hs => ?_, fun y hy => ?_, ⟨(ea _ _ _ (by omega) (by omega) (by omega)).trans z.rw.1, (eb _ _ (by omega) (by omega) (by omega) (by omega)).trans z.rw.2.1, z.rw.2.2.1, fun k hk => ?_⟩, fun s hs k hk => ?_, fun s hs => ?_, z.xq.cg (ea _ _ _ (by omega) (by omega) (by omega)) (ea _ _ _ (by omega) (by omega) (by omega)) rfl (fun s _ => ea _ _ _ (by omega) (by omega) (by omega)), z.iq.cg (eb _ _ (by omega) (by omega) (by omega) (by omega)) (eb _ _ (by omega) (by omega) (by omega) (by omega)) (funext fun j => eb _ _ (by omega) (by omega) (by omega) (by omega)) (fun s _ => eb _ _ (by omega) (by omega) (by omega) (by omega))⟩
  · obtain ⟨zc', h1, h2, h3, h4, h5, h6⟩ := z.pg.2.2.2 p' hp'
    by_cases e : p' = p
    · subst e
      have ez : zc' = zc := (nI_eq (by omega) (by omega)).mp (h3.symm.trans hz)
      subst ez
      refine ⟨zc' + 1, by omega, put_eq, put_eq, fun w => by omega, fun i hi => ?_, fun i hi => ?_⟩
      · by_cases ei : i = zc'
        · subst ei
          simp [put_rd]
        · rw [ea 4 p' i (by omega) (by omega) (by omega), ea 6 p' i (by omega) (by omega) (by omega), eb 22 _ (by omega) (by omega) (by omega) (by omega), eb 23 _ (by omega) (by omega) (by omega) (by omega)]
          exact h5 i hi
      · by_cases ei : i = zc'
        · subst ei
          rw [put_ne (by omega), put_ne (by omega), put_eq, put_ne (by omega), put_eq]
          exact hg
        · rw [eb 22 _ (by omega) (by omega) (by omega) (by omega), eb 23 _ (by omega) (by omega) (by omega) (by omega)]
          exact h6 i (by omega)
    · refine ⟨zc', h1, (ea _ _ _ (by omega) (by omega) (by omega)).trans h2, (eb _ _ (by omega) (by omega) (by omega) (by omega)).trans h3, h4, fun i hi => ?_, fun i hi => ?_⟩
      · rw [ea 4 p' i (by omega) (by omega) (by omega), ea 6 p' i (by omega) (by omega) (by omega), eb 22 _ (by omega) (by omega) (by omega) (by omega), eb 23 _ (by omega) (by omega) (by omega) (by omega)]
        exact h5 i hi
      · rw [eb 22 _ (by omega) (by omega) (by omega) (by omega), eb 23 _ (by omega) (by omega) (by omega) (by omega)]
        exact h6 i hi
  · exact (z.th s hs).cg (fun k => ea _ _ _ (by omega) (by omega) (by omega)) (fun k => ea _ _ _ (by omega) (by omega) (by omega)) (fun c _ _ _ _ => eb _ _ (by omega) (by omega) (by omega) (by omega)) (fun k hk => eb _ _ (by omega) (by omega) (by omega) (by omega)) (fun k hk => eb _ _ (by omega) (by omega) (by omega) (by omega))
  · rw [ea 13 0 y (by omega) (by omega) (by omega), eb 40 y (by omega) (by omega) (by omega) (by omega), ea 14 0 y (by omega) (by omega) (by omega), eb 39 y (by omega) (by omega) (by omega) (by omega)]
    refine ⟨(z.bx y hy).1, (z.bx y hy).2.1, fun q => ⟨((z.bx y hy).2.2 q).1, fun t ht hst => ?_⟩⟩
    rw [eb 24 t (by omega) (by omega) (by omega) (by omega)] at hst
    rw [eb 36 t (by omega) (by omega) (by omega) (by omega)]
    exact ((z.bx y hy).2.2 q).2 t ht hst
  · rw [ea 16 0 k (by omega) (by omega) (by omega), ea 17 0 k (by omega) (by omega) (by omega), eb 41 k (by omega) (by omega) (by omega) (by omega), eb 42 k (by omega) (by omega) (by omega) (by omega)]
    exact z.rw.2.2.2 k hk
  · rw [ea 8 s k (by omega) (by omega) (by omega), eb 29 (4 * s + k) (by omega) (by omega) (by omega) (by omega)]
    exact z.hd s hs k hk
  · rw [ea 7 s 0 (by omega) (by omega) (by omega)]; exact z.nu s hs
theorem op_act (k x : Int32) (z : Zp a b) : OP yX6_act cX6_act 3 2 yX7_act cX7_act 4 2 [.inl k, .inl x] a b := by
  rcases rngG (x := k) (M := 17) (N := 16) (n := 17) (by omega) rfl (by decide) with q | ⟨j, hj, rfl⟩
  · exact OP.same (c_X6_act2o q) (c_X7_act2o q) z
  · have hj' : j ≤ 16 := by omega
    by_cases g : gk j x = 0
    · exact OP.same (c_X6_act2 hj' g) (c_X7_act2 hj' g) z
    · obtain ⟨N, T, P, C, rr, L, z, ov, hC⟩ := z
      have zz : Zp a b := ⟨N, T, P, C, rr, L, z, ov, hC⟩
      cases P with
      | zero => exact OP.same (c_X6_act3 hj' g z.pg.1) (c_X7_act3e hj' g z.pg.2.1) zz
      | succ p =>
        have hp := z.pg.2.2.1
        obtain ⟨zc, h1, h2, h3, -⟩ := z.pg.2.2.2 p (by omega)
        have h6 := c_X6_act_ok (b := b) hj' g z.pg.1 (by omega) h2 h1
        by_cases w : zc < 20
        · rw [if_pos w, if_pos w] at h6
          exact ⟨_, _, _, h6, c_X7_act_ok hj' g z.pg.2.1 (by omega) h3 w, N, T, p + 1, C, rr, L, Zapp z h3 w (gk_gd hj' g), ov, hC⟩
        · rw [if_neg w, if_neg w] at h6
          have e : zc = 20 := by omega
          exact OP.same h6 (c_X7_act4e hj' g z.pg.2.1 (by omega) (by rw [h3, e]; rfl)) zz
theorem xBg0_off {q : Int32} {c i k : Nat} (h1 : ¬ (c = 10 ∧ i = 0 ∧ k = 1)) (h2 : ¬ (c = 15 ∧ i = 0 ∧ k = 2)) (h3 : ¬ (c = 13 ∧ i = 0 ∧ k < 8)) (h4 : ¬ (c = 18 ∧ i = 0 ∧ 5 ≤ k ∧ k ≤ 12)) : (xBg0 a q).1 c i k = a.1 c i k := by
  unfold xBg0
  rw [put_ne (by omega), put_ne (by omega), put_ne (by omega), put_ne (by omega), put_ne (by omega), put_ne (by omega), put_ne (by omega), put_ne (by omega), put_ne (by omega), put_ne (by omega), put_ne (by omega), put_ne (by omega), put_ne (by omega), put_ne (by omega), put_ne (by omega), put_ne (by omega), put_ne (by omega), put_ne (by omega)]
theorem mBg1_off {q : Int32} {c k : Nat} (h1 : ¬ (c = 20 ∧ (k = 0 ∨ 5 ≤ k ∧ k ≤ 11 ∨ k = 26 ∨ k = 27 ∨ k = 31))) (h2 : ¬ (c = 40 ∧ k < 8)) : (mBg1 b q).1 c 0 k = b.1 c 0 k := by
  unfold mBg1 mBg0
  rw [put_ne (by omega), put_ne (by omega), put_ne (by omega), put_ne (by omega), put_ne (by omega), put_ne (by omega), put_ne (by omega), put_ne (by omega), put_ne (by omega), put_ne (by omega), put_ne (by omega), put_ne (by omega), put_ne (by omega), put_ne (by omega), put_ne (by omega), put_ne (by omega), put_ne (by omega), put_ne (by omega), put_ne (by omega)]
theorem Zbegin {p q : Nat} {r : Int32} (z : Z a b ρ T P C N δ rr L) (hp : p < P) (hq : q ≤ 10) : Z (xBegin a (nI p) (nI q) r) (mBegin b (nI p) (nI q) r) none 1 P 0 0 0 0 [0] ∧ OV (mBegin b (nI p) (nI q) r) 1 := by
  refine ⟨?_, Or.inl ⟨by simp [mBegin, mNew, mEnq, mBg1, mBg0, put_rd], Or.inr (by simp [mBegin, mNew, mEnq, put_rd])⟩⟩
  unfold xBegin mBegin
  refine Znew (T := 0) (L := []) (z.pg.cg (xBg0_off (by omega) (by omega) (by omega) (by omega)) (fun k => xBg0_off (by omega) (by omega) (by omega) (by omega)) (fun i k => xBg0_off (by omega) (by omega) (by omega) (by omega)) (fun i k => xBg0_off (by omega) (by omega) (by omega) (by omega)) (mBg1_off (by omega) (by omega)) (fun k => mBg1_off (by omega) (by omega)) (fun k => mBg1_off (by omega) (by omega)) (fun k => mBg1_off (by omega) (by omega))) ?_ (fun t ht => by omega) (fun x hx => ?_) ⟨?_, ?_, by omega, fun k hk => ?_⟩ (fun t ht k hk => ?_) (fun t ht => ?_) ?_ ?_ (by omega) hp (fun w => by cases w)
  · refine ⟨?_, Or.inr ?_, ?_, ?_, ?_, ?_, ?_, by omega, by omega, ?_, ?_, fun _ => ⟨by omega, ?_, q, hq, ?_⟩, fun w => ?_⟩
    · simp [xBg0, mBg1, mBg0, put_rd]
    · simp [mBg1, mBg0, put_rd]
    · simp [xBg0, mBg1, mBg0, put_rd]
    · simp [xBg0, put_rd]; rfl
    · simp [mBg1, mBg0, put_rd]; rfl
    · simp [xBg0, put_rd]; rfl
    · simp [mBg1, mBg0, put_rd]; rfl
    · simp [xBg0, mBg1, mBg0, put_rd]
    · simp [xBg0, mBg1, mBg0, put_rd]
    · simp [xBg0, mBg1, mBg0, put_rd]
    · simp [mBg1, mBg0, put_rd]
    · simp [mBg1, mBg0, put_rd] at w
  · obtain rfl | rfl | rfl | rfl | rfl | rfl | rfl | rfl : x = 0 ∨ x = 1 ∨ x = 2 ∨ x = 3 ∨ x = 4 ∨ x = 5 ∨ x = 6 ∨ x = 7 := by omega
    all_goals exact ⟨by simp [xBg0, mBg1, mBg0, put_rd], Or.inl (by simp [mBg1, mBg0, put_rd]), fun w => by simp [mBg1, mBg0, put_rd] at w⟩
  · simp [xBg0, put_rd]; rfl
  · simp [mBg1, mBg0, put_rd]; rfl
  · rw [xBg0_off (by omega) (by omega) (by omega) (by omega), xBg0_off (by omega) (by omega) (by omega) (by omega), mBg1_off (by omega) (by omega), mBg1_off (by omega) (by omega)]
    exact z.rw.2.2.2 k hk
  · rw [xBg0_off (by omega) (by omega) (by omega) (by omega), mBg1_off (by omega) (by omega)]
    exact z.hd t ht k hk
  · rw [xBg0_off (by omega) (by omega) (by omega) (by omega)]
    exact z.nu t ht
  · exact ⟨by simp [xBg0, put_rd]; rfl, by omega, by simp [xBg0, put_rd]; rfl, fun j s h => by simp at h, List.nodup_nil, fun t h => by simp at h, z.xq.2.2.2.2.2.2⟩
  · exact ⟨by simp [mBg1, mBg0, put_rd]; rfl, by omega, by simp [mBg1, mBg0, put_rd]; rfl, fun j s h => by simp at h, List.nodup_nil, fun t h => by simp at h⟩
theorem op_begin (p q r : Int32) (z : Zp a b) : OP yX6_begin cX6_begin 4 3 yX7_begin cX7_begin 5 2 [.inl p, .inl q, .inl r] a b := by
  obtain ⟨N, T, P, C, rr, L, z, ov, hC⟩ := z
  have zz : Zp a b := ⟨N, T, P, C, rr, L, z, ov, hC⟩
  have hP := z.pg.2.2.1
  rcases rngI (x := p) (n := P) (by omega) with w | ⟨j, hj, rfl⟩
  · exact OP.same (c_X6_begin1 (by rw [z.pg.1]; exact w)) (c_X7_begin1 z.pg.2.1 hP w) zz
  · by_cases w : q < 1 ∨ 10 < q
    · exact OP.same (c_X6_begin2 z.pg.1 hP hj w) (c_X7_begin2 z.pg.2.1 hP hj w) zz
    · obtain ⟨q', hq', rfl⟩ : ∃ q', q' ≤ 10 ∧ q = nI q' := by
        rcases rngG (x := q) (M := 11) (N := 10) (n := 11) (by omega) rfl (by decide) with u | ⟨y, hy, e⟩
        · rcases u with u | u
          · exact absurd (Or.inl (Int32.lt_trans u (by decide))) w
          · exact absurd (Or.inr u) w
        · exact ⟨y, by omega, e⟩
      obtain ⟨z1, o1⟩ := Zbegin (r := r) z hj hq'
      exact ⟨1, _, _, c_X6_begin_ok z.pg.1 hP hj w (z.nu 0 (by omega)), c_X7_begin_ok z.pg.2.1 hP hj w, 0, 1, P, 0, 0, [0], z1, o1, by omega⟩
theorem op_fill (x v : Int32) (z : Zp a b) : OP yX6_fill cX6_fill 3 3 yX7_fill cX7_fill 3 3 [.inl x, .inl v] a b := by
  rcases rngI (x := x) (n := 8) (by omega) with w | ⟨j, hj, rfl⟩
  · exact OP.same (c_X6_fill1 w) (c_X7_fill1 (w.imp id (fun u => (ge_gt (M := 8) (N := 7) (by decide)).mp u))) z
  · obtain ⟨N, T, P, C, rr, L, z, ov, hC⟩ := z
    have zz : Zp a b := ⟨N, T, P, C, rr, L, z, ov, hC⟩
    by_cases w : b.1 20 0 5 = 0 ∨ ¬ b.1 20 0 6 = 0 ∨ ¬ b.1 40 0 j = 0
    · exact OP.same (c_X6_fill3 hj (by rw [z.gl.1, z.gl.2.2.1, (z.bx j hj).1]; exact w)) (c_X7_fill3 hj w) zz
    · have w1 : ¬ b.1 20 0 5 = 0 := fun u => w (Or.inl u)
      have w2 : b.1 20 0 6 = 0 := Classical.not_not.mp (fun u => w (Or.inr (Or.inl u)))
      have w3 : b.1 40 0 j = 0 := Classical.not_not.mp (fun u => w (Or.inr (Or.inr u)))
      obtain ⟨L', z1⟩ := Zbring (v := v) (Zt0 (v := 0) z) hj (fun r e => by cases e)
      refine ⟨1, _, _, c_X6_fill_ok hj z.xq (fun r e => by cases e) (by rw [z.gl.1]; exact w1) (by rw [z.gl.2.2.1]; exact w2) (by rw [(z.bx j hj).1]; exact w3), c_X7_fill_ok hj z.iq (fun r e => by cases e) w1 w2 w3, N, T, P, C, rr, L', z1, ?_, hC⟩
      have kk : KK (z0 b) (mComes (z0 b) T j v) := KK.rf.com
      rcases ov with ⟨o1, o2⟩ | ⟨o1, -⟩
      · exact Or.inl ⟨(kk.1 6 (by omega) (by omega) (by omega) (by omega)).trans o1, o2.imp id kk.2⟩
      · exact absurd w2 o1
theorem op_step (n : Int32) (z : Zp a b) : OP yX6_step cX6_step 3 6 yX7_step cX7_step 3 7 [.inl n] a b := by
  by_cases w : n < 1 ∨ 500 < n
  · exact OP.same (c_X6_step2 w) (c_X7_step2 w) z
  · obtain ⟨m, h1, h5, rfl⟩ : ∃ m, 1 ≤ m ∧ m ≤ 500 ∧ n = nI m := by
      rcases rngG (x := n) (M := 501) (N := 500) (n := 501) (by omega) rfl (by decide) with u | ⟨y, hy, e⟩
      · rcases u with u | u
        · exact absurd (Or.inl (Int32.lt_trans u (by decide))) w
        · exact absurd (Or.inr u) w
      · refine ⟨y, ?_, by omega, e⟩
        rcases Nat.eq_zero_or_pos y with u | u
        · exact absurd (Or.inl (by rw [e, u]; decide)) w
        · exact u
    obtain ⟨N, z⟩ := z
    have zz : Zp a b := ⟨N, z⟩
    obtain ⟨T, P, C, rr, L, z, ov, hC⟩ := id z
    have hN := z.gl.2.2.2.2.2.2.2.2.1
    have eN : a.1 18 0 10 = nI N := z.gl.2.2.2.2.2.1
    have eN2 : b.1 20 0 9 = nI N := z.gl.2.2.2.2.2.2.1
    by_cases hb : b.1 20 0 5 = 0
    · exact OP.same (c_X6_step3 h1 h5 (by rw [z.gl.1]; exact hb)) (c_X7_step3 h1 h5 hb) zz
    · have hb' : ¬ a.1 18 0 6 = 0 := by rw [z.gl.1]; exact hb
      by_cases h3 : N + m ≤ 3000
      · obtain ⟨s1, ⟨N', -, s2⟩, s3, s4⟩ := ZO.steps m 0 N a (z0 b) (ZOt0 ⟨T, P, C, rr, L, z, ov, hC⟩) (z.gl.2.1.resolve_left hb) h3
        have h7 := c_X7_step_ok (a := (xStepL m 0 a).2) h1 h5 hb eN2 h3 s4
        have h6 := c_X6_step_ok (b := b) h1 h5 hb' eN h3 s3
        rw [s1] at h6
        exact ⟨_, _, _, h6, h7, N', s2⟩
      · exact OP.same (c_X6_step4 h1 h5 hb' eN (by omega) (by omega)) (c_X7_step4 h1 h5 hb eN2 (by omega) (by omega)) zz
theorem op_told (w : Int32) (z : Zp a b) : OP yX6_told cX6_told 2 1 yX7_told cX7_told 2 1 [.inl w] a b := by
  rcases rngG (x := w) (M := 6) (N := 5) (n := 6) (by omega) rfl (by decide) with u | ⟨j, hj, rfl⟩
  · exact OP.same (c_X6_told2 u) (c_X7_told2 u) z
  · obtain ⟨N, T, P, C, rr, L, z, ov, hC⟩ := id z
    have e0 := z.gl.1
    have hT := z.xq.1.trans z.iq.1.symm
    have hq := z.xq.2.2.1.trans z.iq.2.2.1.symm
    have hc := z.gl.2.2.2.1.trans z.gl.2.2.2.2.1.symm
    have hn : a.1 18 0 10 = b.1 20 0 9 := z.gl.2.2.2.2.2.1.trans z.gl.2.2.2.2.2.2.1.symm
    have hbk := z.gl.2.2.2.2.2.2.2.2.2.1
    by_cases hb : b.1 20 0 5 = 0
    · have hb' : a.1 18 0 6 = 0 := e0.trans hb
      obtain rfl | rfl | rfl | rfl | rfl | rfl : j = 0 ∨ j = 1 ∨ j = 2 ∨ j = 3 ∨ j = 4 ∨ j = 5 := by omega
      · exact OP.same (c_X6_told3_0 hb') (c_X7_told3_0 hb) ‹Zp a b›
      · exact OP.same (c_X6_told3_1 hb') (c_X7_told3_1 hb) ‹Zp a b›
      · exact OP.same (c_X6_told3_2 hb') (c_X7_told3_2 hb) ‹Zp a b›
      · exact OP.same (c_X6_told3_3 hb') (c_X7_told3_3 hb) ‹Zp a b›
      · exact OP.same (c_X6_told3_4 hb') (c_X7_told3_4 hb) ‹Zp a b›
      · exact OP.same (c_X6_told3_5 hb') (c_X7_told3_5 hb) ‹Zp a b›
    · have hb' : ¬ a.1 18 0 6 = 0 := fun u => hb (e0.symm.trans u)
      obtain rfl | rfl | rfl | rfl | rfl | rfl : j = 0 ∨ j = 1 ∨ j = 2 ∨ j = 3 ∨ j = 4 ∨ j = 5 := by omega
      · have h6 := c_X6_told_0 (b := b) hb'
        rw [z.gl.2.2.1] at h6
        exact OP.same h6 (c_X7_told_0 hb) ‹Zp a b›
      · have h6 := c_X6_told_1 (b := b) hb'
        rw [hc] at h6
        exact OP.same h6 (c_X7_told_1 hb) ‹Zp a b›
      · have h6 := c_X6_told_2 (b := b) hb'
        rw [hn] at h6
        exact OP.same h6 (c_X7_told_2 hb) ‹Zp a b›
      · have h6 := c_X6_told_3 (b := b) hb'
        rw [hT] at h6
        exact OP.same h6 (c_X7_told_3 hb) ‹Zp a b›
      · have h6 := c_X6_told_4 (b := b) hb'
        rw [hq] at h6
        exact OP.same h6 (c_X7_told_4 hb) ‹Zp a b›
      · have h6 := c_X6_told_5 (b := b) hb'
        rw [hbk] at h6
        exact OP.same h6 (c_X7_told_5 hb) ‹Zp a b›
theorem Z.begun (z : Z a b ρ T P C N δ rr L) (h1 : 1 ≤ T) : ¬ b.1 20 0 5 = 0 := fun h => by
  have := z.gl.2.2.2.2.2.2.2.2.2.2.2.2 h
  omega
theorem outT {w : Int32} (h : w < 0 ∨ 9 < w) : w.toInt < 0 ∨ 9 < w.toInt := by
  rw [Int32.lt_iff_toInt_lt, Int32.lt_iff_toInt_lt] at h
  exact h
theorem op_thread (t w : Int32) (z : Zp a b) : OP yX6_thread cX6_thread 4 3 yX7_thread cX7_thread 3 1 [.inl t, .inl w] a b := by
  have zz := z
  obtain ⟨N, T, P, C, rr, L, z, ov, hC⟩ := z
  have h24 := z.xq.2.1
  rcases rngI (x := t) (n := T) (by omega) with u | ⟨j, hj, rfl⟩
  · exact OP.same (c_X6_thread1 (by rw [z.xq.1]; exact u)) (c_X7_thread1 z.iq.1 h24 (Or.inr u)) zz
  · have hb := z.begun (by omega)
    rcases rngG (x := w) (M := 10) (N := 9) (n := 10) (by omega) rfl (by decide) with u | ⟨i, hi, rfl⟩
    · exact OP.same (c_X6_thread2 z.xq.1 h24 hj u) (c_X7_thread2 z.iq.1 h24 hj hb (outT u)) zz
    · obtain ⟨s, p, n, hc, pc, q0, q1, q2, q3, q4, q5, q6, q7, q8, q9, q10, q11, -⟩ := z.th j hj
      obtain rfl | rfl | rfl | rfl | rfl | rfl | rfl | rfl | rfl | rfl : i = 0 ∨ i = 1 ∨ i = 2 ∨ i = 3 ∨ i = 4 ∨ i = 5 ∨ i = 6 ∨ i = 7 ∨ i = 8 ∨ i = 9 := by omega
      · have h6 := c_X6_thread_0 (b := b) z.xq.1 h24 hj
        rw [q1.1.trans q1.2.symm] at h6
        exact OP.same h6 (c_X7_thread_0 z.iq.1 h24 hj hb) zz
      · have h6 := c_X6_thread_1 (b := b) z.xq.1 h24 hj
        rw [q2.1.trans q2.2.symm] at h6
        exact OP.same h6 (c_X7_thread_1 z.iq.1 h24 hj hb) zz
      · have h6 := c_X6_thread_2 (b := b) z.xq.1 h24 hj
        have h7 := c_X7_thread_2 (a := a) z.iq.1 h24 hj hb
        have e : (if a.1 7 j 3 < 5 then if a.1 7 j 3 < 1 then a.1 7 j 5 else if 3 < a.1 7 j 3 then a.1 7 j 5 else a.1 7 j 5 - 1 else (-3)) = (if b.1 24 0 j ≤ 4 then b.1 26 0 j else (-3)) := by
          rw [q1.1, q1.2, q3]
          by_cases s5 : s < 5
          · rw [if_pos ((nI_5 q0.1).mpr s5), if_pos (show nI s ≤ 4 from nI_le (b := 4) (by omega) (by omega))]
            by_cases s1 : s < 1
            · rw [if_pos (show nI s < 1 from nI_lt (b := 1) s1 (by omega))]
              exact q4 (Or.inl (by omega))
            · rw [if_neg (show ¬ nI s < 1 from nI_nlt (b := 1) (by omega) (by omega))]
              by_cases s4 : s = 4
              · rw [if_pos (show 3 < nI s from nI_lt (a := 3) (by omega) (by omega))]
                exact q4 (Or.inr s4)
              · rw [if_neg (show ¬ 3 < nI s from nI_nlt (a := 3) (by omega) (by omega)), (q5 (by omega) (by omega)).2.1, nI_pred]
          · rw [if_neg (fun u => s5 ((nI_5 q0.1).mp u)), if_neg (show ¬ nI s ≤ 4 from nI_ge (a := 4) (by omega) (by omega))]
        rw [e] at h6
        exact OP.same h6 h7 zz
      · have h6 := c_X6_thread_3 (b := b) z.xq.1 h24 hj
        rw [q6] at h6
        exact OP.same h6 (c_X7_thread_3 z.iq.1 h24 hj hb) zz
      · have h6 := c_X6_thread_4 (b := b) z.xq.1 h24 hj
        rw [q7.1.trans q7.2.symm] at h6
        exact OP.same h6 (c_X7_thread_4 z.iq.1 h24 hj hb) zz
      · have h6 := c_X6_thread_5 (b := b) z.xq.1 h24 hj
        rw [q9.1] at h6
        exact OP.same h6 (c_X7_thread_5 z.iq.1 h24 hj hb) zz
      · have h6 := c_X6_thread_6 (b := b) z.xq.1 h24 hj
        rw [q8.1.trans q8.2.1.symm] at h6
        exact OP.same h6 (c_X7_thread_6 z.iq.1 h24 hj hb) zz
      · have h6 := c_X6_thread_7 (b := b) z.xq.1 h24 hj
        rw [q9.2.1] at h6
        exact OP.same h6 (c_X7_thread_7 z.iq.1 h24 hj hb) zz
      · have h6 := c_X6_thread_8 (b := b) z.xq.1 h24 hj
        rw [q9.2.2] at h6
        exact OP.same h6 (c_X7_thread_8 z.iq.1 h24 hj hb) zz
      · have h6 := c_X6_thread_9 (b := b) z.xq.1 h24 hj
        have e : (if a.1 7 j 3 = 4 then a.1 7 j 12 else (-3)) = b.1 35 0 j := by
          rw [q1.1]
          by_cases s4 : s = 4
          · obtain ⟨u, -, e1, e2⟩ := q10 s4
            rw [if_pos (by rw [s4]; rfl), e1, e2]
          · rw [if_neg (show ¬ nI s = 4 from fun u => s4 (nI_s (w := 4) q0.1 (by omega) u)), q11 s4]
        rw [e] at h6
        exact OP.same h6 (c_X7_thread_9 z.iq.1 h24 hj hb) zz
theorem op_queued (i : Int32) (z : Zp a b) : OP yX6_queued cX6_queued 3 1 yX7_queued cX7_queued 2 1 [.inl i] a b := by
  have zz := z
  obtain ⟨N, T, P, C, rr, L, z, ov, hC⟩ := z
  have hl := z.xq.len
  have h24 := z.xq.2.1
  rcases rngI (x := i) (n := L.length) (by omega) with u | ⟨j, hj, rfl⟩
  · exact OP.same (c_X6_queued1 (by rw [z.xq.2.2.1]; exact u)) (c_X7_queued1 z.iq.2.2.1 hl (Or.inr u)) zz
  · have hg : L[j]? = some L[j] := List.getElem?_eq_getElem hj
    have ht := (z.iq.2.2.2.2.2 L[j] (List.getElem_mem hj)).1
    have h6 := c_X6_queued_ok (b := b) z.xq.2.2.1 hj hl (z.xq.2.2.2.1 j _ hg) (by omega)
    rw [(z.nu L[j] (by omega)).trans (z.iq.2.2.2.1 j _ hg).symm] at h6
    exact OP.same h6 (c_X7_queued_ok z.iq.2.2.1 hl hj (z.begun (by omega))) zz
theorem Zcnt {x w : Nat} (z : Z a b ρ T P C N δ rr L) (hw1 : 1 ≤ w) (hw3 : w ≤ 3) : cnt (fun t => decide (a.1 7 t 3 = nI w) && decide (a.1 7 t 13 = nI x)) T = cnt (fun t => decide (b.1 24 0 t = nI w) && decide (b.1 36 0 t = nI x)) T := by
  refine cnt_congr (fun j hj => ?_)
  obtain ⟨s, p, m, hc, pc, h0, h1, -, -, -, h5, -⟩ := z.th j hj
  by_cases e : s = w
  · subst e
    obtain ⟨-, -, ⟨y, hy, e1, e2⟩, -⟩ := h5 hw1 hw3
    rw [h1.1, h1.2, e1, e2]
  · have : ¬ nI s = nI w := fun q => e (nI_s h0.1 (by omega) q)
    rw [h1.1, h1.2, decide_eq_false this]
    simp
theorem op_box (x w : Int32) (z : Zp a b) : OP yX6_box cX6_box 3 2 yX7_box cX7_box 5 1 [.inl x, .inl w] a b := by
  have zz := z
  obtain ⟨N, T, P, C, rr, L, z, ov, hC⟩ := z
  have h24 := z.xq.2.1
  by_cases hb : b.1 20 0 5 = 0
  · exact OP.same (c_X6_box1 (Or.inl (z.gl.1.trans hb))) (c_X7_box1 (Or.inl hb)) zz
  · have hb' : ¬ a.1 18 0 6 = 0 := fun u => hb (z.gl.1.symm.trans u)
    rcases rngI (x := x) (n := 8) (by omega) with u | ⟨j, hj, rfl⟩
    · exact OP.same (c_X6_box1 (Or.inr u)) (c_X7_box1 (Or.inr (u.imp id (fun u => (ge_gt (M := 8) (N := 7) (by decide)).mp u)))) zz
    · rcases rngG (x := w) (M := 5) (N := 4) (n := 5) (by omega) rfl (by decide) with u | ⟨i, hi, rfl⟩
      · exact OP.same (c_X6_box2 hj hb' u) (c_X7_box2 hj hb u) zz
      · have bx := z.bx j hj
        obtain rfl | rfl | rfl | rfl | rfl : i = 0 ∨ i = 1 ∨ i = 2 ∨ i = 3 ∨ i = 4 := by omega
        · have h6 := c_X6_box_0 (b := b) hj hb'
          have e : (if a.1 13 0 j = 0 then (-3) else a.1 14 0 j) = (if b.1 40 0 j = 0 then (-3) else b.1 39 0 j) := by
            rw [bx.1]
            by_cases q : b.1 40 0 j = 0
            · rw [if_pos q, if_pos q]
            · rw [if_neg q, if_neg q, (bx.2.2 (bx.2.1.resolve_left q)).1]
          rw [e] at h6
          exact OP.same h6 (c_X7_box_0 hj hb) zz
        · have h6 := c_X6_box_1 (b := b) hj hb'
          rw [bx.1] at h6
          exact OP.same h6 (c_X7_box_1 hj hb) zz
        · have h6 := c_X6_box_2 (b := b) hj hb' z.xq.1 h24
          have e : cnt (fun t => decide (a.1 7 t 3 = 1) && decide (a.1 7 t 13 = nI j)) T = cnt (fun t => decide (b.1 24 0 t = 1) && decide (b.1 36 0 t = nI j)) T := Zcnt (w := 1) z (by omega) (by omega)
          rw [e] at h6
          exact OP.same h6 (c_X7_box_2 hj hb z.iq.1 h24) zz
        · have h6 := c_X6_box_3 (b := b) hj hb' z.xq.1 h24
          have e : cnt (fun t => decide (a.1 7 t 3 = 2) && decide (a.1 7 t 13 = nI j)) T = cnt (fun t => decide (b.1 24 0 t = 2) && decide (b.1 36 0 t = nI j)) T := Zcnt (w := 2) z (by omega) (by omega)
          rw [e] at h6
          exact OP.same h6 (c_X7_box_3 hj hb z.iq.1 h24) zz
        · have h6 := c_X6_box_4 (b := b) hj hb' z.xq.1 h24
          have e : cnt (fun t => decide (a.1 7 t 3 = 3) && decide (a.1 7 t 13 = nI j)) T = cnt (fun t => decide (b.1 24 0 t = 3) && decide (b.1 36 0 t = nI j)) T := Zcnt (w := 3) z (by omega) (by omega)
          rw [e] at h6
          exact OP.same h6 (c_X7_box_4 hj hb z.iq.1 h24) zz
theorem op_trace (i w : Int32) (z : Zp a b) : OP yX6_trace cX6_trace 4 1 yX7_trace cX7_trace 3 1 [.inl i, .inl w] a b := by
  have zz := z
  obtain ⟨N, T, P, C, rr, L, z, ov, hC⟩ := z
  have r1 := z.rw.1
  have r2 := z.rw.2.1
  have r3 := z.rw.2.2.1
  by_cases hb : b.1 20 0 5 = 0
  · exact OP.same (c_X6_trace1 (Or.inl (z.gl.1.trans hb))) (c_X7_trace1 r2 r3 (Or.inl hb)) zz
  · have hb' : ¬ a.1 18 0 6 = 0 := fun u => hb (z.gl.1.symm.trans u)
    by_cases hi : i < -1 ∨ nI rr ≤ i
    · exact OP.same (c_X6_trace1 (Or.inr (by rw [r1]; exact hi))) (c_X7_trace1 r2 r3 (Or.inr hi)) zz
    · have hi' : ¬ (i < -1 ∨ a.1 15 0 2 ≤ i) := by rw [r1]; exact hi
      by_cases hw : w < 0 ∨ 1 < w
      · exact OP.same (c_X6_trace2 hb' hi' hw) (c_X7_trace2 r2 r3 hb hi hw) zz
      · by_cases hm : i < 0
        · have e1 : i = -1 := by
            have h1 : ¬ i < -1 := fun u => hi (Or.inl u)
            rw [Int32.lt_iff_toInt_lt] at h1 hm
            have e3 : (-1 : Int32).toInt = -1 := by decide
            have e4 : (0 : Int32).toInt = 0 := by decide
            exact Int32.toInt_inj.mp (by omega)
          subst e1
          have h6 := c_X6_trace_n (b := b) hb' hi' hw
          rw [r1.trans r2.symm] at h6
          exact OP.same h6 (c_X7_trace_n r2 r3 hb hi hw hm) zz
        · obtain ⟨k, hk, rfl⟩ := nI_of hm
          have hk2 : k < rr := by
            rcases Nat.lt_or_ge k rr with u | u
            · exact u
            · exact absurd (Or.inr (nI_le u hk)) hi
          have v := z.rw.2.2.2 k (by omega)
          rcases rngG (x := w) (M := 2) (N := 1) (n := 2) (by omega) rfl (by decide) with u | ⟨y, hy, rfl⟩
          · exact absurd u hw
          · obtain rfl | rfl : y = 0 ∨ y = 1 := by omega
            · have h6 := c_X6_trace_0 (b := b) hb' r1 r3 hk2
              rw [v.1] at h6
              exact OP.same h6 (c_X7_trace_0 r2 r3 hb hk2) zz
            · have h6 := c_X6_trace_1 (b := b) hb' r1 r3 hk2
              rw [v.2] at h6
              exact OP.same h6 (c_X7_trace_1 r2 r3 hb hk2) zz
/-- share: both answer the same and nothing was thrown; or the class throws, and the reference says so -/
theorem op_share (t : Int32) (z : Zp a b) : (∃ v, Ci yX6_share cX6_share 3 .int 1 [.inr (some (0, 0)), .inl t] (mix a b) v (mix a b) ∧ Ci yX7_share cX7_share 2 .int 1 [.inr (some (20, 0)), .inl t] (mix a b) v (mix a (z0 b)) ∧ Zp a (z0 b)) ∨ (∃ T j, a.1 18 0 5 = nI T ∧ T ≤ 24 ∧ j < T ∧ t = nI j ∧ a.1 18 0 10 = 0 ∧ Ci yX7_share cX7_share 2 .int 1 [.inr (some (20, 0)), .inl t] (mix a b) 0 (mix a (put (z0 b) 20 0 0 1)) ∧ Zp a (put (z0 b) 20 0 0 1)) := by
  obtain ⟨N, T, P, C, rr, L, z, ov, hC⟩ := z
  have z1 : ZO N a b := ⟨T, P, C, rr, L, z, ov, hC⟩
  have h24 := z.xq.2.1
  have hN := z.gl.2.2.2.2.2.2.2.2.1
  have eN : a.1 18 0 10 = nI N := z.gl.2.2.2.2.2.1
  have eN2 : b.1 20 0 9 = nI N := z.gl.2.2.2.2.2.2.1
  rcases rngI (x := t) (n := T) (by omega) with u | ⟨j, hj, rfl⟩
  · exact Or.inl ⟨_, c_X6_share1 (by rw [z.xq.1]; exact u), c_X7_share1 z.iq.1 h24 (Or.inr u), N, ZOt0 z1⟩
  · have hb := z.begun (by omega)
    rcases Nat.eq_zero_or_pos N with e | e
    · exact Or.inr ⟨T, j, z.xq.1, h24, hj, rfl, eN.trans (nI_z e), c_X7_share0 z.iq.1 h24 hj hb (eN2.trans (nI_z e)), N, ZOt0 (ZOt0 z1)⟩
    · have n0 : ¬ nI N = 0 := nI_ne0 e (by omega)
      have h6 := c_X6_share_ok (b := b) z.xq.1 h24 hj (by rw [eN]; exact n0)
      have h7 := c_X7_share_ok (a := a) z.iq.1 h24 hj hb (by rw [eN2]; exact n0)
      obtain ⟨s, p, n, hc, pc, -, -, -, -, -, -, -, -, -, q9, -⟩ := z.th j hj
      rw [q9.2.2, eN, Int32.mul_comm] at h6
      rw [eN2] at h7
      exact Or.inl ⟨_, h6, h7, N, ZOt0 z1⟩
end OPs
