/-! The end of all, the new thread, the trace, scalars: they keep the relation -/
def mClo (b : tH) (T : Nat) : tH := if b.1 20 0 6 = 0 ∧ ¬ b.1 24 0 0 < 5 then mClose b T else b
theorem mClo_id {b : tH} {T : Nat} (h : b.1 24 0 0 < 5) : mClo b T = b := by unfold mClo; rw [if_neg (fun q => q.2 h)]
section ZC
variable {a b a' b' : tH} {ρ : Option Nat} {T P C N δ rr t : Nat} {L : List Nat}
/-- only scalars of the run change -/
theorem Z.glob {C' N' δ' : Nat} (z : Z a b ρ T P C N δ rr L) (ea : ∀ c i k, ¬ (c = 18 ∧ i = 0 ∧ 6 ≤ k ∧ k ≤ 12) → a'.1 c i k = a.1 c i k) (e2 : a'.2 = a.2) (eb : ∀ c k, ¬ (c = 20 ∧ (k = 0 ∨ 2 ≤ k ∧ k ≤ 10 ∨ k = 26 ∨ k = 34)) → b'.1 c 0 k = b.1 c 0 k) (hg : GL a' b' T C' N' δ') (hC : C ≤ C') : Z a' b' ρ T P C' N' δ' rr L := by
  refine ⟨z.pg.cg (ea _ _ _ (by omega)) (fun k => ea _ _ _ (by omega)) (fun i k => ea _ _ _ (by omega)) (fun i k => ea _ _ _ (by omega)) (eb _ _ (by omega)) (fun k => eb _ _ (by omega)) (fun k => eb _ _ (by omega)) (fun k => eb _ _ (by omega)), hg, fun s hs => ?_, fun y hy => ?_, ⟨(ea _ _ _ (by omega)).trans z.rw.1, (eb _ _ (by omega)).trans z.rw.2.1, z.rw.2.2.1, fun k hk => ?_⟩, fun s hs k hk => ?_, fun s hs => ?_, z.xq.cg (ea _ _ _ (by omega)) (ea _ _ _ (by omega)) e2 (fun s _ => ea _ _ _ (by omega)), z.iq.cg (eb _ _ (by omega)) (eb _ _ (by omega)) (funext fun j => eb _ _ (by omega)) (fun s _ => eb _ _ (by omega))⟩
  · obtain ⟨s', p, n, hc, pc, h0, h1, h2, h3, h4, h5, h6, h7, h8, h9, h10, h11⟩ := (z.th s hs).cg (a' := a') (b' := b') (fun k => ea _ _ _ (by omega)) (fun k => ea _ _ _ (by omega)) (fun c _ _ _ _ => eb _ _ (by omega)) (fun k hk => eb _ _ (by omega)) (fun k hk => eb _ _ (by omega))
    refine ⟨s', p, n, hc, pc, h0, h1, h2, h3, h4, h5, h6, h7, h8, h9, fun q => ?_, h11⟩
    obtain ⟨u, u1, u2⟩ := h10 q
    exact ⟨u, by omega, u2⟩
  · rw [ea 13 0 y (by omega), eb 40 y (by omega), ea 14 0 y (by omega), eb 39 y (by omega)]
    refine ⟨(z.bx y hy).1, (z.bx y hy).2.1, fun q => ⟨((z.bx y hy).2.2 q).1, fun t ht hst => ?_⟩⟩
    rw [eb 24 t (by omega)] at hst
    rw [eb 36 t (by omega)]
    exact ((z.bx y hy).2.2 q).2 t ht hst
  · rw [ea 16 0 k (by omega), ea 17 0 k (by omega), eb 41 k (by omega), eb 42 k (by omega)]
    exact z.rw.2.2.2 k hk
  · rw [ea 8 s k (by omega), eb 29 (4 * s + k) (by omega)]
    exact z.hd s hs k hk
  · rw [ea 7 s 0 (by omega)]; exact z.nu s hs
theorem Ztick (z : Z a b ρ T P C N δ rr L) (v : Int32) : Z (put a 18 0 12 v) (put b 20 0 26 v) ρ T P C N δ rr L := by
  obtain ⟨g1, g2, g3, g4, g5, g6, g7, g8, g9, g10, g11, g12⟩ := z.gl
  refine z.glob (fun c i k q => put_ne (by omega)) rfl (fun c k q => put_ne (by omega)) ⟨g1, g2, g3, g4, g5, g6, g7, g8, g9, g10, ?_, g12⟩ (Nat.le_refl C)
  rw [put_eq, put_eq]
theorem Zyld (z : Z a b ρ T P C N δ rr L) (v : Int32) : Z a (put b 20 0 34 v) ρ T P C N δ rr L :=
  z.glob (fun c i k q => rfl) rfl (fun c k q => put_ne (by omega)) z.gl (Nat.le_refl C)
theorem Zblk (z : Z a b ρ T P C N δ rr L) (v : Int32) : Z (put a 18 0 11 v) (put b 20 0 10 v) ρ T P C N δ rr L := by
  obtain ⟨g1, g2, g3, g4, g5, g6, g7, g8, g9, g10, g11, g12⟩ := z.gl
  refine z.glob (fun c i k q => put_ne (by omega)) rfl (fun c k q => put_ne (by omega)) ⟨g1, g2, g3, g4, g5, g6, g7, g8, g9, ?_, g11, g12⟩ (Nat.le_refl C)
  rw [put_eq, put_eq]
theorem mClL_st : ∀ (m k : Nat) (b : tH) (s : Nat), (mClL m k b).1 24 0 s = (if k ≤ s ∧ s < k + m then (if 5 ≤ b.1 24 0 s then b.1 24 0 s else 7) else b.1 24 0 s) ∧ (mClL m k b).1 35 0 s = (if k ≤ s ∧ s < k + m then -3 else b.1 35 0 s)
  | 0, k, b, s => by rw [if_neg (by omega), if_neg (by omega)]; exact ⟨rfl, rfl⟩
  | m + 1, k, b, s => by
    have ih := mClL_st m (k + 1) (mClS b k) s
    have e : mClL (m + 1) k b = mClL m (k + 1) (mClS b k) := rfl
    rw [e, ih.1, ih.2]
    by_cases q : s = k
    · subst q
      have c1 : ¬ (s + 1 ≤ s ∧ s < s + 1 + m) := by omega
      have c2 : s ≤ s ∧ s < s + (m + 1) := by omega
      rw [if_neg c1, if_neg c1, if_pos c2, if_pos c2]
      simp [mClS, put_rd]
    · have e1 : (mClS b k).1 24 0 s = b.1 24 0 s := by unfold mClS; rw [put_ne (by omega), put_ne (by omega), put_ne (by omega)]
      have e2 : (mClS b k).1 35 0 s = b.1 35 0 s := by unfold mClS; rw [put_ne (by omega), put_ne (by omega), put_ne (by omega)]
      rw [e1, e2]
      by_cases w : k ≤ s ∧ s < k + (m + 1)
      · have w' : k + 1 ≤ s ∧ s < k + 1 + m := by omega
        rw [if_pos w, if_pos w, if_pos w', if_pos w']; exact ⟨rfl, rfl⟩
      · have w' : ¬ (k + 1 ≤ s ∧ s < k + 1 + m) := by omega
        rw [if_neg w, if_neg w, if_neg w', if_neg w']; exact ⟨rfl, rfl⟩
theorem xClL_st : ∀ (m k : Nat) (a : tH) (s : Nat), (xClL m k a).1 7 s 3 = if k ≤ s ∧ s < k + m then (if a.1 7 s 3 < 5 then 7 else a.1 7 s 3) else a.1 7 s 3
  | 0, k, a, s => by rw [if_neg (by omega)]; rfl
  | m + 1, k, a, s => by
    have ih := xClL_st m (k + 1) (xClS a k) s
    have e : xClL (m + 1) k a = xClL m (k + 1) (xClS a k) := rfl
    rw [e, ih]
    by_cases q : s = k
    · subst q
      rw [if_neg (by omega), if_pos (by omega)]
      unfold xClS
      split
      · rw [put_eq]
      · rfl
    · have e1 : (xClS a k).1 7 s 3 = a.1 7 s 3 := by
        unfold xClS
        split
        · rw [put_ne (by omega)]
        · rfl
      rw [e1]
      by_cases w : k ≤ s ∧ s < k + (m + 1)
      · rw [if_pos w, if_pos (by omega)]
      · rw [if_neg w, if_neg (by omega)]
theorem mClose_rd {c i k : Nat} (h1 : c ≠ 24) (h2 : c ≠ 35) (h3 : c ≠ 36) (h4 : ¬ (c = 20 ∧ (k = 6 ∨ k = 27))) : (mClose b T).1 c i k = b.1 c i k := by
  unfold mClose
  rw [(mClL_off _ _ _).1 c i k h1 h2 h3, put_ne (by omega), put_ne (by omega)]
theorem nI_5 {s : Nat} (h : s ≤ 7) : (nI s < 5) ↔ s < 5 := nI_ltI (b := 5) (by omega) (by omega)
theorem nI_5' {s : Nat} (h : s ≤ 7) : (5 ≤ nI s) ↔ 5 ≤ s := nI_leI (a := 5) (by omega) (by omega)
theorem Zclose (z : Z a b ρ T P C N δ rr L) (h0 : ¬ b.1 24 0 0 < 5) : Z (xClL (T - 1) 1 (put (put a 18 0 7 1) 10 0 1 0)) (mClose b T) ρ T P C N δ rr [] := by
  have xo := xClL_off (T - 1) 1 (put (put a 18 0 7 1) 10 0 1 0)
  have xa : ∀ c i k, ¬ (c = 7 ∧ k = 3) → c ≠ 18 → c ≠ 10 → (xClL (T - 1) 1 (put (put a 18 0 7 1) 10 0 1 0)).1 c i k = a.1 c i k := fun c i k h1 h2 h3 => (xo.1 c i k h1).trans ((put_ne (by omega)).trans (put_ne (by omega)))
  have x18 : ∀ k, (xClL (T - 1) 1 (put (put a 18 0 7 1) 10 0 1 0)).1 18 0 k = if k = 7 then 1 else a.1 18 0 k := fun k => (xo.1 18 0 k (by omega)).trans (by simp [put_rd])
  have b20 : ∀ k, k ≠ 27 → (mClose b T).1 20 0 k = if k = 6 then 1 else b.1 20 0 k := by
    intro k hk
    unfold mClose
    rw [(mClL_off _ _ _).1 20 0 k (by omega) (by omega) (by omega)]
    simp [put_rd, hk]
  have hT24 := z.xq.2.1
  obtain ⟨g1, g2, g3, g4, g5, g6, g7, g8, g9, g10, g11, g12, g13⟩ := z.gl
  have st : ∀ t, t < T → ∀ s, s ≤ 7 → a.1 7 t 3 = nI s → b.1 24 0 t = nI s → (xClL (T - 1) 1 (put (put a 18 0 7 1) 10 0 1 0)).1 7 t 3 = nI (if s < 5 then 7 else s) ∧ (mClose b T).1 24 0 t = nI (if s < 5 then 7 else s) := by
    intro t ht s hs e1 e2
    have f1 : (put (put a 18 0 7 1) 10 0 1 0).1 7 t 3 = nI s := e1
    have f2 : (put (put b 20 0 6 1) 20 0 27 0).1 24 0 t = nI s := e2
    rw [xClL_st, f1]
    unfold mClose
    rw [(mClL_st _ _ _ _).1, f2, if_pos (show 0 ≤ t ∧ t < 0 + T from ⟨Nat.zero_le _, by omega⟩)]
    by_cases q : s < 5
    · have n0 : t ≠ 0 := fun e => h0 (by subst e; rw [e2]; exact (nI_5 hs).mpr q)
      rw [if_pos (by omega), if_pos ((nI_5 hs).mpr q), if_pos q, if_neg (fun w => by have := (nI_5' hs).mp w; omega)]
      exact ⟨rfl, rfl⟩
    · rw [if_neg (fun w => q ((nI_5 hs).mp w)), if_neg q, if_pos ((nI_5' hs).mpr (by omega))]
      exact ⟨by split <;> rfl, rfl⟩
  refine ⟨z.pg.cg (xa _ _ _ (by omega) (by omega) (by omega)) (fun k => xa _ _ _ (by omega) (by omega) (by omega)) (fun i k => xa _ _ _ (by omega) (by omega) (by omega)) (fun i k => xa _ _ _ (by omega) (by omega) (by omega)) (mClose_rd (by omega) (by omega) (by omega) (by omega)) (fun k => mClose_rd (by omega) (by omega) (by omega) (by omega)) (fun k => mClose_rd (by omega) (by omega) (by omega) (by omega)) (fun k => mClose_rd (by omega) (by omega) (by omega) (by omega)), ?_, fun t ht => ?_, fun y hy => ?_, ⟨(xa _ _ _ (by omega) (by omega) (by omega)).trans z.rw.1, (mClose_rd (by omega) (by omega) (by omega) (by omega)).trans z.rw.2.1, z.rw.2.2.1, fun k hk => ?_⟩, fun s hs k hk => ?_, fun s hs => ?_, ?_, z.iq.close⟩
  · unfold GL
    rw [x18, x18, x18, x18, x18, x18, x18, b20 5 (by omega), b20 6 (by omega), b20 7 (by omega), b20 8 (by omega), b20 9 (by omega), b20 10 (by omega), b20 26 (by omega)]
    simp only [if_neg (show ¬ (6 : Nat) = 7 by omega), if_neg (show ¬ (5 : Nat) = 6 by omega), if_neg (show ¬ (7 : Nat) = 6 by omega), if_neg (show ¬ (8 : Nat) = 7 by omega), if_neg (show ¬ (9 : Nat) = 7 by omega), if_neg (show ¬ (8 : Nat) = 6 by omega), if_neg (show ¬ (10 : Nat) = 7 by omega), if_neg (show ¬ (9 : Nat) = 6 by omega), if_neg (show ¬ (11 : Nat) = 7 by omega), if_neg (show ¬ (10 : Nat) = 6 by omega), if_neg (show ¬ (12 : Nat) = 7 by omega), if_neg (show ¬ (26 : Nat) = 6 by omega), if_true]
    exact ⟨g1, g2, trivial, g4, g5, g6, g7, g8, g9, g10, g11, g12, g13⟩
  · obtain ⟨s, p, n, hc, pc, h0, h1, h2, h3, h4, h5, h6, h7, h8, h9, h10, h11, h12⟩ := z.th t ht
    have hs' : 5 ≤ (if s < 5 then 7 else s) ∧ (if s < 5 then 7 else s) ≤ 7 := by split <;> omega
    have e := st t ht s h0.1 h1.1 h1.2
    generalize (if s < 5 then 7 else s) = s' at hs' e
    refine ⟨s', p, n, hc, pc, ⟨hs'.2, h0.2⟩, e, ?_, ?_, fun q => by omega, fun q1 q2 => by omega, ?_, ?_, ?_, ?_, fun q => by omega, fun _ => ?_, fun k hk => ?_⟩
    · rw [xa _ _ _ (by omega) (by omega) (by omega), mClose_rd (by omega) (by omega) (by omega) (by omega)]; exact h2
    · rw [mClose_rd (by omega) (by omega) (by omega) (by omega)]; exact h3
    · rw [xa _ _ _ (by omega) (by omega) (by omega), mClose_rd (by omega) (by omega) (by omega) (by omega)]; exact h6
    · rw [xa _ _ _ (by omega) (by omega) (by omega), mClose_rd (by omega) (by omega) (by omega) (by omega)]; exact h7
    · refine ⟨(xa _ _ _ (by omega) (by omega) (by omega)).trans h8.1, (mClose_rd (by omega) (by omega) (by omega) (by omega)).trans h8.2.1, fun k hk => ?_⟩
      rw [xa _ _ _ (by omega) (by omega) (by omega), mClose_rd (by omega) (by omega) (by omega) (by omega)]; exact h8.2.2 k hk
    · rw [xa _ _ _ (by omega) (by omega) (by omega), xa _ _ _ (by omega) (by omega) (by omega), xa _ _ _ (by omega) (by omega) (by omega), mClose_rd (by omega) (by omega) (by omega) (by omega), mClose_rd (by omega) (by omega) (by omega) (by omega), mClose_rd (by omega) (by omega) (by omega) (by omega)]; exact h9
    · unfold mClose
      rw [(mClL_st _ _ _ _).2, if_pos ⟨Nat.zero_le _, by omega⟩]
    · rw [mClose_rd (by omega) (by omega) (by omega) (by omega)]; exact h12 k hk
  · rw [xa 13 0 y (by omega) (by omega) (by omega), mClose_rd (c := 40) (by omega) (by omega) (by omega) (by omega), xa 14 0 y (by omega) (by omega) (by omega), mClose_rd (c := 39) (by omega) (by omega) (by omega) (by omega)]
    refine ⟨(z.bx y hy).1, (z.bx y hy).2.1, fun q => ⟨((z.bx y hy).2.2 q).1, fun t ht hst => ?_⟩⟩
    obtain ⟨s, hs, e1, e2⟩ := z.st ht
    have e := (st t ht s hs e1 e2).2
    have hs' : 5 ≤ (if s < 5 then 7 else s) ∧ (if s < 5 then 7 else s) ≤ 7 := by split <;> omega
    generalize (if s < 5 then 7 else s) = s' at hs' e
    rw [e] at hst
    rcases hst with w | w
    · have := nI_s (w := 2) hs'.2 (by omega) w; omega
    · have := nI_s (w := 3) hs'.2 (by omega) w; omega
  · rw [xa _ _ _ (by omega) (by omega) (by omega), xa _ _ _ (by omega) (by omega) (by omega), mClose_rd (by omega) (by omega) (by omega) (by omega), mClose_rd (by omega) (by omega) (by omega) (by omega)]
    exact z.rw.2.2.2 k hk
  · rw [xa _ _ _ (by omega) (by omega) (by omega), mClose_rd (by omega) (by omega) (by omega) (by omega)]
    exact z.hd s hs k hk
  · rw [xa _ _ _ (by omega) (by omega) (by omega)]; exact z.nu s hs
  · obtain ⟨q1, q2, q3, q4, q5, q6, q7⟩ := z.xq
    refine ⟨(x18 5).trans q1, q2, (xo.1 10 0 1 (by omega)).trans put_eq, fun j s h => by simp at h, List.nodup_nil, fun t h => by simp at h, fun j s h => ?_⟩
    rw [xo.2] at h
    exact q7 j s h
theorem Zclo (z : Z a b ρ T P C N δ rr L) (h1 : 1 ≤ T) : ∃ L', Z (xClose a T) (mClo b T) ρ T P C N δ rr L' := by
  obtain ⟨s, hs, e1, e2⟩ := z.st (t := 0) (by omega)
  unfold xClose mClo
  rw [z.gl.2.2.1, e1, ← e2]
  split
  · rename_i q
    exact ⟨[], Zclose z q.2⟩
  · exact ⟨L, z⟩
/-- where a thread has ended, the class's place in its program is free -/
theorem Zposa (z : Z a b ρ T P C N δ rr L) (ht : t < T) (h5 : ¬ b.1 24 0 t < 5) (v : Int32) : Z (put a 7 t 5 v) b ρ T P C N δ rr L := by
  obtain ⟨s, p, n, hc, pc, h0, h1, h2, h3, h4, h5', h6, h7, h8, h9, h10, h11, h12⟩ := z.th t ht
  have hs : 5 ≤ s := by
    rcases Nat.lt_or_ge s 5 with q | q
    · exact absurd (by rw [h1.2]; exact (nI_5 h0.1).mpr q) h5
    · exact q
  refine z.thread (t := t) ht (FrA.rf.pt (Or.inl rfl)) FrB.rf ⟨s, p, n, hc, pc, h0, ?_, ?_, h3, fun q => by omega, fun q1 q2 => by omega, ?_, ?_, ?_, ?_, fun q => by omega, h11, h12⟩ (z.xq.slot (by decide)) z.iq ?_ ?_ ?_
  · simpa [put_rd] using h1
  · simpa [put_rd] using h2
  · simpa [put_rd] using h6
  · simpa [put_rd] using h7
  · simpa [put_rd] using h8
  · simpa [put_rd] using h9
  · exact fun x hx h40 hst hw => ((z.bx x hx).2.2 h40).2 t ht hst hw
  · exact fun k hk => by simpa [put_rd] using z.hdt ht hk
  · simp [put_rd]
/-- a row of the trace -/
theorem Zlog (z : Z a b ρ T P C N δ rr L) (h : rr < 100) (v w : Int32) : Z (put (put (put a 16 0 rr v) 17 0 rr w) 15 0 2 (nI (rr + 1))) (put (put (put b 41 0 rr v) 42 0 rr w) 20 0 31 (nI (rr + 1))) ρ T P C N δ (rr + 1) L := by
  have ea : ∀ c i k, c ≠ 16 → c ≠ 17 → c ≠ 15 → (put (put (put a 16 0 rr v) 17 0 rr w) 15 0 2 (nI (rr + 1))).1 c i k = a.1 c i k := fun c i k h1 h2 h3 => (put_ne (by omega)).trans ((put_ne (by omega)).trans (put_ne (by omega)))
  have eb : ∀ c k, c ≠ 41 → c ≠ 42 → ¬ (c = 20 ∧ k = 31) → (put (put (put b 41 0 rr v) 42 0 rr w) 20 0 31 (nI (rr + 1))).1 c 0 k = b.1 c 0 k := fun c k h1 h2 h3 => (put_ne (by omega)).trans ((put_ne (by omega)).trans (put_ne (by omega)))
  refine ⟨z.pg.cg (ea _ _ _ (by omega) (by omega) (by omega)) (fun k => ea _ _ _ (by omega) (by omega) (by omega)) (fun i k => ea _ _ _ (by omega) (by omega) (by omega)) (fun i k => ea _ _ _ (by omega) (by omega) (by omega)) (eb _ _ (by omega) (by omega) (by omega)) (fun k => eb _ _ (by omega) (by omega) (by omega)) (fun k => eb _ _ (by omega) (by omega) (by omega)) (fun k => eb _ _ (by omega) (by omega) (by omega)), z.gl.cg (fun k _ _ => ea _ _ _ (by omega) (by omega) (by omega)) (fun k hk => eb _ _ (by omega) (by omega) (by omega)), fun s hs => ?_, fun y hy => ?_, ⟨put_eq, put_eq, by omega, fun k hk => ?_⟩, fun s hs k hk => ?_, fun s hs => ?_, z.xq.cg (ea _ _ _ (by omega) (by omega) (by omega)) (ea _ _ _ (by omega) (by omega) (by omega)) rfl (fun s _ => ea _ _ _ (by omega) (by omega) (by omega)), z.iq.cg (eb _ _ (by omega) (by omega) (by omega)) (eb _ _ (by omega) (by omega) (by omega)) (funext fun j => eb _ _ (by omega) (by omega) (by omega)) (fun s _ => eb _ _ (by omega) (by omega) (by omega))⟩
  · exact (z.th s hs).cg (fun k => ea _ _ _ (by omega) (by omega) (by omega)) (fun k => ea _ _ _ (by omega) (by omega) (by omega)) (fun c _ _ _ _ => eb _ _ (by omega) (by omega) (by omega)) (fun k hk => eb _ _ (by omega) (by omega) (by omega)) (fun k hk => eb _ _ (by omega) (by omega) (by omega))
  · rw [ea 13 0 y (by omega) (by omega) (by omega), eb 40 y (by omega) (by omega) (by omega), ea 14 0 y (by omega) (by omega) (by omega), eb 39 y (by omega) (by omega) (by omega)]
    refine ⟨(z.bx y hy).1, (z.bx y hy).2.1, fun q => ⟨((z.bx y hy).2.2 q).1, fun t ht hst => ?_⟩⟩
    rw [eb 24 t (by omega) (by omega) (by omega)] at hst
    rw [eb 36 t (by omega) (by omega) (by omega)]
    exact ((z.bx y hy).2.2 q).2 t ht hst
  · by_cases e : k = rr
    · subst e; simp [put_rd]
    · have := z.rw.2.2.2 k hk
      simp [put_rd, e]
      exact this
  · rw [ea 8 s k (by omega) (by omega) (by omega), eb 29 (4 * s + k) (by omega) (by omega) (by omega)]
    exact z.hd s hs k hk
  · rw [ea 7 s 0 (by omega) (by omega) (by omega)]; exact z.nu s hs
/-- a new thread -/
theorem Znew {p : Nat} {v : Int32} (hpg : PG a b P) (hgl : GL a b (T + 1) C N δ) (hth : ∀ t, t < T → TH a b P C t) (hbx : BXr a b T) (hrw : RWr a b rr) (hhd : HDr a b) (hnu : NUr a) (hxq : XQ a ρ T L) (hiq : IQ b ρ T L) (hT : T < 24) (hp : p < P) (hρ : ρ ≠ some T) : Z (xStart a T (nI p) v) (mNew b T (nI p) v) ρ (T + 1) P C N δ rr (L ++ [T]) := by
  have hl : L.length ≤ T := nodup_len T L hxq.2.2.2.2.1 (fun t ht => (hxq.2.2.2.2.2.1 t ht).1)
  have hTL : T ∉ L := fun q => by have := (hxq.2.2.2.2.2.1 T q).1; omega
  have ea : ∀ c i k, ¬ (c = 7 ∧ i = T ∧ 3 ≤ k) → ¬ (c = 10 ∧ i = 0 ∧ k = 1) → ¬ (c = 18 ∧ i = 0 ∧ k = 5) → (xStart a T (nI p) v).1 c i k = a.1 c i k := by
    intro c i k h1 h2 h3
    unfold xStart xAdd xReset
    rw [put_ne (by omega)]
    show (put _ 7 T 11 0).1 c i k = _
    rw [put_ne (by omega), put_ne (by omega), put_ne (by omega), put_ne (by omega), put_ne (by omega), put_ne (by omega), put_ne (by omega), put_ne (by omega), put_ne (by omega), put_ne (by omega)]
  have eb : ∀ c k, ¬ (24 ≤ c ∧ c ≤ 36 ∧ c ≠ 29 ∧ c ≠ 32 ∧ k = T) → c ≠ 38 → ¬ (c = 20 ∧ (k = 11 ∨ k = 27)) → (mNew b T (nI p) v).1 c 0 k = b.1 c 0 k := by
    intro c k h1 h2 h3
    unfold mNew mEnq
    rw [put_ne (by omega), put_ne (by omega), put_ne (by omega), put_ne (by omega), put_ne (by omega), put_ne (by omega), put_ne (by omega), put_ne (by omega), put_ne (by omega), put_ne (by omega), put_ne (by omega), put_ne (by omega), put_ne (by omega), put_ne (by omega), put_ne (by omega)]
  have xq1 : XQ (xReset (put a 18 0 5 (nI (T + 1))) T (nI p) v) ρ (T + 1) L := by
    obtain ⟨q1, q2, q3, q4, q5, q6, q7⟩ := hxq
    refine ⟨by simp [xReset, put_rd], by omega, by simpa [xReset, put_rd] using q3, q4, q5, fun t ht => ?_, q7⟩
    have h := q6 t ht
    refine ⟨by omega, ?_, h.2.2⟩
    have : t ≠ T := by omega
    simpa [xReset, put_rd, this] using h.2.1
  have iq1 : IQ (put (put (put (put (put (put (put (put (put (put (put (put b 24 0 T 0) 25 0 T (nI p)) 26 0 T 0) 27 0 T v) 28 0 T 0) 30 0 T 0) 31 0 T 0) 33 0 T 0) 34 0 T 0) 35 0 T (-3)) 36 0 T (-1)) 20 0 11 (nI (T + 1))) ρ (T + 1) L := by
    obtain ⟨q1, q2, q3, q4, q5, q6⟩ := hiq
    refine ⟨put_eq, by omega, by simpa [put_rd] using q3, fun j s hj => by simpa [put_rd] using q4 j s hj, q5, fun t ht => ?_⟩
    have h := q6 t ht
    refine ⟨by omega, ?_, h.2.2⟩
    have : t ≠ T := by omega
    simpa [put_rd, this] using h.2.1
  refine ⟨hpg.cg (ea _ _ _ (by omega) (by omega) (by omega)) (fun k => ea _ _ _ (by omega) (by omega) (by omega)) (fun i k => ea _ _ _ (by omega) (by omega) (by omega)) (fun i k => ea _ _ _ (by omega) (by omega) (by omega)) (eb _ _ (by omega) (by omega) (by omega)) (fun k => eb _ _ (by omega) (by omega) (by omega)) (fun k => eb _ _ (by omega) (by omega) (by omega)) (fun k => eb _ _ (by omega) (by omega) (by omega)), hgl.cg (fun k _ _ => ea _ _ _ (by omega) (by omega) (by omega)) (fun k hk => eb _ _ (by omega) (by omega) (by omega)), fun s hs => ?_, fun y hy => ?_, ⟨(ea _ _ _ (by omega) (by omega) (by omega)).trans hrw.1, (eb _ _ (by omega) (by omega) (by omega)).trans hrw.2.1, hrw.2.2.1, fun k hk => ?_⟩, fun s hs k hk => ?_, fun s hs => ?_, xq1.add (by omega) hTL hρ (by simp [xReset, put_rd]), iq1.enq (by omega) hTL hρ⟩
  · by_cases e : s = T
    · subst e
      have f : ∀ k, (xStart a s (nI p) v).1 7 s k = if k = 4 then nI p else if k = 6 then v else if k = 3 ∨ k = 5 ∨ 7 ≤ k ∧ k ≤ 11 then 0 else a.1 7 s k := by
        intro k
        unfold xStart xAdd xReset
        rw [put_ne (by omega)]
        show (put _ 7 s 11 0).1 7 s k = _
        simp only [put_rd]
        by_cases h3 : k = 3
        · subst h3; simp
        by_cases h4 : k = 4
        · subst h4; simp
        by_cases h5 : k = 5
        · subst h5; simp
        by_cases h6 : k = 6
        · subst h6; simp
        by_cases h7 : k = 7
        · subst h7; simp
        by_cases h8 : k = 8
        · subst h8; simp
        by_cases h9 : k = 9
        · subst h9; simp
        by_cases h10 : k = 10
        · subst h10; simp
        by_cases h11 : k = 11
        · subst h11; simp
        have h12 : ¬ (7 ≤ k ∧ k ≤ 11) := by omega
        simp [h3, h4, h5, h6, h7, h8, h9, h10, h11, h12]
      refine ⟨0, p, 0, 0, 0, ⟨by omega, hp, by omega, by omega, by omega⟩, ?_, ?_, ?_, ?_, fun q => by omega, ?_, ?_, ?_, ?_, fun q => by omega, fun _ => ?_, fun k hk => by omega⟩
      · rw [f]; simp [mNew, mEnq, put_rd]; rfl
      · rw [f]; simp [mNew, mEnq, put_rd]
      · simp [mNew, mEnq, put_rd]; rfl
      · intro _; rw [f]; simp; rfl
      · rw [f]; simp [mNew, mEnq, put_rd]
      · rw [f]; simp [mNew, mEnq, put_rd]; rfl
      · rw [f]; simp [mNew, mEnq, put_rd]; rfl
      · rw [f, f, f]; simp [mNew, mEnq, put_rd]
      · simp [mNew, mEnq, put_rd]
    · exact (hth s (by omega)).cg (fun k => ea _ _ _ (by omega) (by omega) (by omega)) (fun k => ea _ _ _ (by omega) (by omega) (by omega)) (fun c _ _ _ _ => eb _ _ (by omega) (by omega) (by omega)) (fun k hk => eb _ _ (by omega) (by omega) (by omega)) (fun k hk => eb _ _ (by omega) (by omega) (by omega))
  · rw [ea 13 0 y (by omega) (by omega) (by omega), eb 40 y (by omega) (by omega) (by omega), ea 14 0 y (by omega) (by omega) (by omega), eb 39 y (by omega) (by omega) (by omega)]
    refine ⟨(hbx y hy).1, (hbx y hy).2.1, fun q => ⟨((hbx y hy).2.2 q).1, fun t ht hst => ?_⟩⟩
    by_cases e : t = T
    · subst e
      have e0 : (mNew b t (nI p) v).1 24 0 t = 0 := by simp [mNew, mEnq, put_rd]
      rw [e0] at hst
      exact absurd hst (by decide)
    · rw [eb 24 t (by omega) (by omega) (by omega)] at hst
      rw [eb 36 t (by omega) (by omega) (by omega)]
      exact ((hbx y hy).2.2 q).2 t (by omega) hst
  · rw [ea 16 0 k (by omega) (by omega) (by omega), ea 17 0 k (by omega) (by omega) (by omega), eb 41 k (by omega) (by omega) (by omega), eb 42 k (by omega) (by omega) (by omega)]
    exact hrw.2.2.2 k hk
  · rw [ea 8 s k (by omega) (by omega) (by omega), eb 29 (4 * s + k) (by omega) (by omega) (by omega)]
    exact hhd s hs k hk
  · rw [ea 7 s 0 (by omega) (by omega) (by omega)]; exact hnu s hs
end ZC
