/-! More steps of one thread: waiting, delays, exceptions, handlers, what is pending -/
theorem mShL_rd {t : Nat} : ∀ (m k : Nat) (b : tH) (j : Nat), (k ≤ j → j < k + m → (mShL t m k b).1 32 0 (4 * t + j) = b.1 32 0 (4 * t + j + 1)) ∧ (∀ i, ¬ (4 * t + k ≤ i ∧ i < 4 * t + k + m) → (mShL t m k b).1 32 0 i = b.1 32 0 i)
  | 0, k, b, j => ⟨fun h1 h2 => by omega, fun i _ => rfl⟩
  | m + 1, k, b, j => by
    have ih := mShL_rd (t := t) m (k + 1) (put b 32 0 (4 * t + k) (b.1 32 0 (4 * t + k + 1))) j
    refine ⟨fun h1 h2 => ?_, fun i hi => ?_⟩
    · show (mShL t m (k + 1) (put b 32 0 (4 * t + k) (b.1 32 0 (4 * t + k + 1)))).1 32 0 (4 * t + j) = _
      by_cases e : j = k
      · subst e
        rw [ih.2 _ (by omega), put_eq]
      · rw [ih.1 (by omega) (by omega), put_ne (by omega)]
    · show (mShL t m (k + 1) (put b 32 0 (4 * t + k) (b.1 32 0 (4 * t + k + 1)))).1 32 0 i = _
      rw [ih.2 i (by omega), put_ne (by omega)]
section ZT2
variable {a b a' b' : tH} {ρ : Option Nat} {T P C N δ rr t : Nat} {L : List Nat}
theorem XQ.st {x : Int32} (h : XQ a ρ T L) (hn : t ∉ L) : XQ (put a 7 t 3 x) ρ T L :=
  h.cg rfl rfl rfl (fun s hs => put_ne (fun z => hn (by rw [← z.2.1]; exact hs)))
theorem filter_no {t : Nat} {L : List Nat} (h : t ∉ L) : L.filter (neb t) = L := List.filter_eq_self.mpr (fun s hs => neb_ne (fun e => h (by rw [← e]; exact hs)))

theorem ZexE (z : Z a b ρ T P C N δ rr L) (ht : t < T) (v : Int32) : Z (xRemove (xEndE a t v) t) (mFinN (mExE b t v) t 6) ρ T P C N δ rr (L.filter (neb t)) := by
  have hT24 := z.xq.2.1
  obtain ⟨s, p, n, hc, pc, h0, h1, h2, h3, h4, h5, h6, h7, h8, h9, h10, h11, h12⟩ := z.th t ht
  have off := z.xq.rem (a' := xEndE a t v) (t := t) rfl rfl rfl (fun s hs => by unfold xEndE; rw [put_ne (by omega), put_ne (by omega)])
  have oa : ∀ k, (xRemove (xEndE a t v) t).1 7 t k = if k = 10 then v else if k = 3 then 6 else a.1 7 t k := fun k => (off.2 7 t k (by omega)).trans (by simp [xEndE, put_rd])
  have oa8 : ∀ k, (xRemove (xEndE a t v) t).1 8 t k = a.1 8 t k := fun k => off.2 8 t k (by omega)
  have oa9 : ∀ k, (xRemove (xEndE a t v) t).1 9 t k = a.1 9 t k := fun k => off.2 9 t k (by omega)
  have ob : ∀ c k, c ≠ 38 → c ≠ 20 → (mFinN (mExE b t v) t 6).1 c 0 k = if c = 24 ∧ k = t then 6 else if c = 33 ∧ k = t then v else if c = 35 ∧ k = t then -3 else if c = 36 ∧ k = t then -1 else b.1 c 0 k := fun c k h1 h2 => ((mLeave_off (b := put (mExE b t v) 24 0 t 6) (t := t)).1 c 0 k h1 (by omega)).trans (by simp [mExE, put_rd])
  refine z.thread (t := t) ht (((FrA.rf.pt (Or.inl rfl)).pt (Or.inl rfl)).rem off.2) (((((FrB.rf.pt (by omega) (by omega) (by omega) (by omega)).pt (by omega) (by omega) (by omega) (by omega)).pt (by omega) (by omega) (by omega) (by omega)).pt (by omega) (by omega) (by omega) (by omega)).leave) ⟨6, p, n, hc, pc, ⟨by omega, h0.2⟩, ?_, ?_, ?_, ?_, ?_, ?_, ?_, ?_, ?_, ?_, ?_, ?_⟩ (off.1) (IQ.finN (b := mExE b t v) (z.iq.cg rfl rfl rfl (fun _ _ => rfl)) (by omega)) ?_ ?_ ?_
  · simp [oa, ob]; rfl
  · simpa [oa, oa9, ob] using h2
  · simpa [oa, oa9, ob] using h3
  · intro q; omega
  · intro q1 q2; omega
  · simpa [oa, oa9, ob] using h6
  · simpa [oa, oa9, ob] using h7
  · refine ⟨by simpa [oa] using h8.1, by simpa [ob] using h8.2.1, fun k hk => ?_⟩
    simpa [oa9, ob] using h8.2.2 k hk
  · simp [oa, ob]; exact ⟨h9.1, h9.2.2⟩
  · intro q; omega
  · intro _
    simp [ob]
  · intro k hk
    obtain ⟨y, y1, y2⟩ := h12 k hk
    exact ⟨y, y1, by simpa [ob] using y2⟩
  · intro x hx h40 hst
    exfalso
    have e : (mFinN (mExE b t v) t 6).1 24 0 t = 6 := by simp [ob]
    rw [e] at hst
    revert hst
    decide
  · exact fun k hk => by simpa [oa8, ob] using z.hdt ht hk
  · simp [oa]
theorem ZexH (z : Z a b ρ T P C N δ rr L) (ht : t < T) {kc : Nat} (v : Int32) (hk1 : b.1 28 0 t = nI (kc + 1)) (hk4 : kc < 4) (h00 : b.1 24 0 t = 0) : Z (xHnd a t v kc) (mExB b t v kc) ρ T P C N δ rr (L) := by
  have hT24 := z.xq.2.1
  obtain ⟨s, p, n, hc, pc, h0, h1, h2, h3, h4, h5, h6, h7, h8, h9, h10, h11, h12⟩ := z.th t ht
  have hz : hc = kc + 1 := (nI_eq (by omega) (by omega)).mp (h7.2.symm.trans hk1)
  subst hz
  obtain ⟨y, y20, ey⟩ := h12 kc (by omega)
  have e8 : a.1 8 t kc = nI y := (z.hdt ht (by omega)).trans ey
  have hs0 : s = 0 := nI_s (w := 0) h0.1 (by omega) (h1.2.symm.trans h00)
  refine z.thread (t := t) ht (((FrA.rf.pt (Or.inl rfl)).pt (Or.inl rfl)).pt (Or.inl rfl)) (((((FrB.rf.pt (by omega) (by omega) (by omega) (by omega)).pt (by omega) (by omega) (by omega) (by omega)).pt (by omega) (by omega) (by omega) (by omega)).pt (by omega) (by omega) (by omega) (by omega)).pt (by omega) (by omega) (by omega) (by omega)) ⟨s, p, y, kc, pc, ⟨h0.1, h0.2.1, y20, by omega, h0.2.2.2.2⟩, ?_, ?_, ?_, ?_, ?_, ?_, ?_, ?_, ?_, ?_, ?_, ?_⟩ (((z.xq.slot (by decide)).slot (by decide)).slot (by decide)) (z.iq.cg rfl rfl rfl (fun _ _ => rfl)) ?_ ?_ ?_
  · simpa [xHnd, mExB, put_rd] using h1
  · simpa [xHnd, mExB, put_rd] using h2
  · simp [xHnd, mExB, put_rd]; exact ey
  · intro _
    simp [xHnd, mExB, put_rd]; exact e8
  · intro q1 q2; omega
  · simp [xHnd, mExB, put_rd]
  · simp [xHnd, mExB, put_rd]
  · refine ⟨by simpa [xHnd, mExB, put_rd] using h8.1, by simpa [xHnd, mExB, put_rd] using h8.2.1, fun k hk => ?_⟩
    simpa [xHnd, mExB, put_rd] using h8.2.2 k hk
  · simpa [xHnd, mExB, put_rd] using h9
  · intro q; omega
  · intro _
    simp [xHnd, mExB, put_rd]
  · intro k hk
    obtain ⟨y, y1, y2⟩ := h12 k (by omega)
    exact ⟨y, y1, by simpa [xHnd, mExB, put_rd] using y2⟩
  · intro x hx h40 hst
    exfalso
    have e : (mExB b t v kc).1 24 0 t = 0 := h00
    rw [e] at hst
    revert hst
    decide
  · exact fun k hk => by simpa [xHnd, mExB, put_rd] using z.hdt ht hk
  · simp [xHnd, mExB, put_rd]
theorem ZexA (z : Z a b ρ T P C N δ rr L) (ht : t < T) {kc : Nat} (v : Int32) (hk1 : b.1 28 0 t = nI (kc + 1)) (hk4 : kc < 4) (h00 : ¬ b.1 24 0 t = 0) (hρ : ρ ≠ some t) : Z (xAdd (put (xHnd a t v kc) 7 t 3 0) t) (mEnq (mExB b t v kc) t) ρ T P C N δ rr (L ++ [t]) := by
  have hT24 := z.xq.2.1
  obtain ⟨s, p, n, hc, pc, h0, h1, h2, h3, h4, h5, h6, h7, h8, h9, h10, h11, h12⟩ := z.th t ht
  have hz : hc = kc + 1 := (nI_eq (by omega) (by omega)).mp (h7.2.symm.trans hk1)
  subst hz
  obtain ⟨y, y20, ey⟩ := h12 kc (by omega)
  have e8 : a.1 8 t kc = nI y := (z.hdt ht (by omega)).trans ey
  have hnL : t ∉ L := z.iq.notin h00
  refine z.thread (t := t) ht (((((FrA.rf.pt (Or.inl rfl)).pt (Or.inl rfl)).pt (Or.inl rfl)).pt (Or.inl rfl)).add) ((((((FrB.rf.pt (by omega) (by omega) (by omega) (by omega)).pt (by omega) (by omega) (by omega) (by omega)).pt (by omega) (by omega) (by omega) (by omega)).pt (by omega) (by omega) (by omega) (by omega)).pt (by omega) (by omega) (by omega) (by omega)).enq) ⟨0, p, y, kc, pc, ⟨by omega, h0.2.1, y20, by omega, h0.2.2.2.2⟩, ?_, ?_, ?_, ?_, ?_, ?_, ?_, ?_, ?_, ?_, ?_, ?_⟩ (XQ.ready (((z.xq.slot (by decide)).slot (by decide)).slot (by decide)) ht hnL hρ) (IQ.enq (b := mExB b t v kc) (z.iq.cg rfl rfl rfl (fun _ _ => rfl)) ht hnL hρ) ?_ ?_ ?_
  · simp [xAdd, putq, xHnd, mExB, mEnq, put_rd]; rfl
  · simpa [xAdd, putq, xHnd, mExB, mEnq, put_rd] using h2
  · simp [xAdd, putq, xHnd, mExB, mEnq, put_rd]; exact ey
  · intro _
    simp [xAdd, putq, xHnd, mExB, mEnq, put_rd]; exact e8
  · intro q1 q2; omega
  · simp [xAdd, putq, xHnd, mExB, mEnq, put_rd]
  · simp [xAdd, putq, xHnd, mExB, mEnq, put_rd]
  · refine ⟨by simpa [xAdd, putq, xHnd, mExB, mEnq, put_rd] using h8.1, by simpa [xAdd, putq, xHnd, mExB, mEnq, put_rd] using h8.2.1, fun k hk => ?_⟩
    simpa [xAdd, putq, xHnd, mExB, mEnq, put_rd] using h8.2.2 k hk
  · simpa [xAdd, putq, xHnd, mExB, mEnq, put_rd] using h9
  · intro q; omega
  · intro _
    simp [xAdd, putq, xHnd, mExB, mEnq, put_rd]
  · intro k hk
    obtain ⟨y, y1, y2⟩ := h12 k (by omega)
    exact ⟨y, y1, by simpa [xAdd, putq, xHnd, mExB, mEnq, put_rd] using y2⟩
  · intro x hx h40 hst
    exfalso
    have e : (mEnq (mExB b t v kc) t).1 24 0 t = 0 := by simp [mEnq, put_rd]
    rw [e] at hst
    revert hst
    decide
  · exact fun k hk => by simpa [xAdd, putq, xHnd, mExB, mEnq, put_rd] using z.hdt ht hk
  · simp [xAdd, putq, xHnd, mExB, mEnq, put_rd]
theorem Zend5 (z : Z a b (some t) T P C N δ rr L) (ht : t < T) (h00 : b.1 24 0 t = 0) : Z (put a 7 t 3 5) (mFinN b t 5) (some t) T P C N δ rr (L) := by
  have hT24 := z.xq.2.1
  obtain ⟨s, p, n, hc, pc, h0, h1, h2, h3, h4, h5, h6, h7, h8, h9, h10, h11, h12⟩ := z.th t ht
  have hnL : t ∉ L := z.iq.notrun
  have ob : ∀ c k, c ≠ 38 → c ≠ 20 → (mFinN b t 5).1 c 0 k = (put b 24 0 t 5).1 c 0 k := fun c k h1 h2 => (mLeave_off (b := put b 24 0 t 5) (t := t)).1 c 0 k h1 (by omega)
  have hs0 : s = 0 := nI_s (w := 0) h0.1 (by omega) (h1.2.symm.trans h00)
  have iq1 : IQ (mFinN b t 5) (some t) T L := by
    have q := IQ.finN (s := 5) z.iq (show t < 24 by omega)
    rw [filter_no hnL] at q
    exact q
  refine z.thread (t := t) ht (FrA.rf.pt (Or.inl rfl)) ((FrB.rf.pt (by omega) (by omega) (by omega) (by omega)).leave) ⟨5, p, n, hc, pc, ⟨by omega, h0.2⟩, ?_, ?_, ?_, ?_, ?_, ?_, ?_, ?_, ?_, ?_, ?_, ?_⟩ (z.xq.st hnL) (iq1) ?_ ?_ ?_
  · simp [ob, put_rd]; rfl
  · simpa [ob, put_rd] using h2
  · simpa [ob, put_rd] using h3
  · intro q; omega
  · intro q1 q2; omega
  · simpa [ob, put_rd] using h6
  · simpa [ob, put_rd] using h7
  · refine ⟨by simpa [put_rd] using h8.1, by simpa [ob, put_rd] using h8.2.1, fun k hk => ?_⟩
    simpa [ob, put_rd] using h8.2.2 k hk
  · simpa [ob, put_rd] using h9
  · intro q; omega
  · intro _
    simpa [ob, put_rd] using h11 (by omega)
  · intro k hk
    obtain ⟨y, y1, y2⟩ := h12 k hk
    exact ⟨y, y1, by simpa [ob, put_rd] using y2⟩
  · intro x hx h40 hst
    exfalso
    have e : (mFinN b t 5).1 24 0 t = 5 := by rw [ob _ _ (by decide) (by decide), put_eq]
    rw [e] at hst
    revert hst
    decide
  · exact fun k hk => by rw [ob _ _ (by decide) (by decide)]; simpa [put_rd] using z.hdt ht hk
  · simp [put_rd]
theorem Zwt (z : Z a b ρ T P C N δ rr L) (ht : t < T) {w x m : Nat} (hw1 : 1 ≤ w) (hw3 : w ≤ 3) (hx : x < 8) (hb : w = 2 ∨ w = 3 → ¬ b.1 40 0 x = 1) (h00 : b.1 24 0 t = 0) (hm : b.1 26 0 t = nI m) (hm20 : m < 20) (hnL : t ∉ L) (k : Int32) : Z (put (put (put (xNx a t) 7 t 3 (nI w)) 7 t 13 (nI x)) 7 t 14 k) (put (put (put b 24 0 t (nI w)) 36 0 t (nI x)) 37 0 t k) ρ T P C N δ rr (L) := by
  have hT24 := z.xq.2.1
  obtain ⟨s, p, n, hc, pc, h0, h1, h2, h3, h4, h5, h6, h7, h8, h9, h10, h11, h12⟩ := z.th t ht
  have hs0 : s = 0 := nI_s (w := 0) h0.1 (by omega) (h1.2.symm.trans h00)
  have hn20 : n < 20 := by
    have : n = m := (nI_eq (by omega) (by omega)).mp (h3.symm.trans hm)
    omega
  refine z.thread (t := t) ht ((((FrA.rf.pt (Or.inl rfl)).pt (Or.inl rfl)).pt (Or.inl rfl)).pt (Or.inl rfl)) (((FrB.rf.pt (by omega) (by omega) (by omega) (by omega)).pt (by omega) (by omega) (by omega) (by omega)).pt (by omega) (by omega) (by omega) (by omega)) ⟨w, p, n, hc, pc, ⟨by omega, h0.2⟩, ?_, ?_, ?_, ?_, ?_, ?_, ?_, ?_, ?_, ?_, ?_, ?_⟩ (((XQ.st (z.xq.slot (by decide)) hnL).slot (by decide)).slot (by decide)) (IQ.cg (z.iq.st (x := nI w) hnL) rfl rfl rfl (fun _ _ => rfl)) ?_ ?_ ?_
  · simp [xNx, put_rd]
  · simpa [xNx, put_rd] using h2
  · simpa [put_rd] using h3
  · intro q; omega
  · intro _ _
    exact ⟨hn20, by simp [xNx, put_rd]; rw [h4 (Or.inl hs0)]; exact nI_1 n, ⟨x, hx, by simp [xNx, put_rd], by simp [put_rd]⟩, by simp [xNx, put_rd]⟩
  · simpa [xNx, put_rd] using h6
  · simpa [xNx, put_rd] using h7
  · refine ⟨by simpa [xNx, put_rd] using h8.1, by simpa [put_rd] using h8.2.1, fun k hk => ?_⟩
    simpa [xNx, put_rd] using h8.2.2 k hk
  · simpa [xNx, put_rd] using h9
  · intro q; omega
  · intro _
    simpa [put_rd] using h11 (by omega)
  · intro k hk
    obtain ⟨y, y1, y2⟩ := h12 k hk
    exact ⟨y, y1, by simpa [put_rd] using y2⟩
  · intro y hy h40 hst hq
    have e1 : (put (put (put b 24 0 t (nI w)) 36 0 t (nI x)) 37 0 t k).1 24 0 t = nI w := by simp [put_rd]
    have e2 : (put (put (put b 24 0 t (nI w)) 36 0 t (nI x)) 37 0 t k).1 36 0 t = nI x := by simp [put_rd]
    rw [e1] at hst
    rw [e2] at hq
    have exy : x = y := (nI_eq (by omega) (by omega)).mp hq
    subst exy
    refine hb ?_ h40
    rcases hst with q | q
    · exact Or.inl ((nI_eq (b := 2) (by omega) (by omega)).mp q)
    · exact Or.inr ((nI_eq (b := 3) (by omega) (by omega)).mp q)
  · exact fun k hk => by simpa [xNx, put_rd] using z.hdt ht hk
  · simp [xNx, put_rd]
theorem Zdl (z : Z a b ρ T P C N δ rr L) (ht : t < T) {u : Nat} (hu : u ≤ C + 100) (h00 : b.1 24 0 t = 0) (hnL : t ∉ L) : Z (put (put a 7 t 3 4) 7 t 12 (nI u)) (put (put b 24 0 t 4) 35 0 t (nI u)) ρ T P C N δ rr (L) := by
  have hT24 := z.xq.2.1
  obtain ⟨s, p, n, hc, pc, h0, h1, h2, h3, h4, h5, h6, h7, h8, h9, h10, h11, h12⟩ := z.th t ht
  have hs0 : s = 0 := nI_s (w := 0) h0.1 (by omega) (h1.2.symm.trans h00)
  refine z.thread (t := t) ht ((FrA.rf.pt (Or.inl rfl)).pt (Or.inl rfl)) ((FrB.rf.pt (by omega) (by omega) (by omega) (by omega)).pt (by omega) (by omega) (by omega) (by omega)) ⟨4, p, n, hc, pc, ⟨by omega, h0.2⟩, ?_, ?_, ?_, ?_, ?_, ?_, ?_, ?_, ?_, ?_, ?_, ?_⟩ ((z.xq.st hnL).slot (by decide)) (IQ.cg (z.iq.st (x := 4) hnL) rfl rfl rfl (fun _ _ => rfl)) ?_ ?_ ?_
  · simp [put_rd]; rfl
  · simpa [put_rd] using h2
  · simpa [put_rd] using h3
  · intro _
    simpa [put_rd] using h4 (Or.inl hs0)
  · intro q1 q2; omega
  · simpa [put_rd] using h6
  · simpa [put_rd] using h7
  · refine ⟨by simpa [put_rd] using h8.1, by simpa [put_rd] using h8.2.1, fun k hk => ?_⟩
    simpa [put_rd] using h8.2.2 k hk
  · simpa [put_rd] using h9
  · intro _
    exact ⟨u, hu, by simp [put_rd], by simp [put_rd]⟩
  · intro q; omega
  · intro k hk
    obtain ⟨y, y1, y2⟩ := h12 k hk
    exact ⟨y, y1, by simpa [put_rd] using y2⟩
  · intro x hx h40 hst
    exfalso
    have e : (put (put b 24 0 t 4) 35 0 t (nI u)).1 24 0 t = 4 := by simp [put_rd]
    rw [e] at hst
    revert hst
    decide
  · exact fun k hk => by simpa [put_rd] using z.hdt ht hk
  · simp [put_rd]
theorem Zpop (z : Z a b ρ T P C N δ rr L) (ht : t < T) {kp : Nat} (hk1 : b.1 31 0 t = nI (kp + 1)) (hk4 : kp < 4) : Z (xElde a t) (mPopS b t) ρ T P C N δ rr (L) := by
  have hT24 := z.xq.2.1
  obtain ⟨s, p, n, hc, pc, h0, h1, h2, h3, h4, h5, h6, h7, h8, h9, h10, h11, h12⟩ := z.th t ht
  have hz : pc = kp + 1 := (nI_eq (by omega) (by omega)).mp (h8.2.1.symm.trans hk1)
  subst hz
  have eB : mPopS b t = mShL t kp 0 (put b 31 0 t (nI kp)) := mPopS_1 hk1 (by omega)
  have ob : ∀ c k, c ≠ 32 → (mPopS b t).1 c 0 k = (put b 31 0 t (nI kp)).1 c 0 k := fun c k h => by rw [eB]; exact (mShL_off kp 0 _).1 c 0 k h
  have e8 : nI (nv (a.1 7 t 8) - 1) = nI kp := by rw [h8.1, nv_nI (by omega)]; rfl
  refine z.thread (t := t) ht ((((FrA.rf.pt (Or.inr (Or.inr rfl))).pt (Or.inr (Or.inr rfl))).pt (Or.inr (Or.inr rfl))).pt (Or.inl rfl)) ((fun c k q1 q2 q3 q4 => by
    by_cases e : c = 32
    · subst e
      rw [eB, (mShL_rd kp 0 (put b 31 0 t (nI kp)) 0).2 k (by omega), put_ne (by omega)]
    · rw [ob c k e, put_ne (by omega)])) ⟨s, p, n, hc, kp, ⟨h0.1, h0.2.1, h0.2.2.1, h0.2.2.2.1, by omega⟩, ?_, ?_, ?_, ?_, ?_, ?_, ?_, ?_, ?_, ?_, ?_, ?_⟩ (z.xq.cg (by simp [xElde, put_rd]) (by simp [xElde, put_rd]) rfl (fun s _ => by simp [xElde, put_rd])) (z.iq.cg (by rw [ob _ _ (by decide)]; exact put_ne (by omega)) (by rw [ob _ _ (by decide)]; exact put_ne (by omega)) (funext fun j => by rw [ob _ _ (by decide)]; exact put_ne (by omega)) (fun s _ => by rw [ob _ _ (by decide)]; exact put_ne (by omega))) ?_ ?_ ?_
  · simpa [ob, xElde, put_rd] using h1
  · simpa [ob, xElde, put_rd] using h2
  · simpa [ob, xElde, put_rd] using h3
  · simpa [ob, xElde, put_rd] using h4
  · simpa [ob, xElde, put_rd] using h5
  · simpa [ob, xElde, put_rd] using h6
  · simpa [ob, xElde, put_rd] using h7
  · refine ⟨by simp only [xElde, put_eq]; exact e8, by rw [ob _ _ (by decide), put_eq], fun k hk => ?_⟩
    have e1 : (xElde a t).1 9 t k = a.1 9 t (k + 1) := by
      unfold xElde
      rcases (show k = 0 ∨ k = 1 ∨ k = 2 by omega) with rfl | rfl | rfl <;> simp [put_rd]
    have e2 : (mPopS b t).1 32 0 (4 * t + k) = b.1 32 0 (4 * t + k + 1) := by
      rw [eB, (mShL_rd kp 0 (put b 31 0 t (nI kp)) k).1 (by omega) (by omega), put_ne (by omega)]
    rw [e1, e2]
    exact h8.2.2 (k + 1) (by omega)
  · simpa [ob, xElde, put_rd] using h9
  · simpa [ob, xElde, put_rd] using h10
  · simpa [ob, xElde, put_rd] using h11
  · intro k hk
    obtain ⟨y, y1, y2⟩ := h12 k hk
    exact ⟨y, y1, by simpa [ob, put_rd] using y2⟩
  · intro x hx h40 hst hw
    rw [ob _ _ (by decide), put_ne (by omega)] at hst hw
    exact ((z.bx x hx).2.2 h40).2 t ht hst hw
  · exact fun k hk => by rw [ob _ _ (by decide)]; simpa [xElde, put_rd] using z.hdt ht hk
  · simp [xElde, put_rd]
theorem Zpend (z : Z a b ρ T P C N δ rr L) (ht : t < T) {kp : Nat} (v : Int32) (hk1 : b.1 31 0 t = nI kp) (hk4 : kp < 4) : Z (put (put a 9 t kp v) 7 t 8 (nI (kp + 1))) (put (put b 32 0 (4 * t + kp) v) 31 0 t (nI (kp + 1))) ρ T P C N δ rr (L) := by
  have hT24 := z.xq.2.1
  obtain ⟨s, p, n, hc, pc, h0, h1, h2, h3, h4, h5, h6, h7, h8, h9, h10, h11, h12⟩ := z.th t ht
  have hz : pc = kp := (nI_eq (by omega) (by omega)).mp (h8.2.1.symm.trans hk1)
  subst hz
  refine z.thread (t := t) ht ((FrA.rf.pt (Or.inr (Or.inr rfl))).pt (Or.inl rfl)) ((FrB.rf.p4 (Or.inr rfl) (by omega) (by omega)).pt (by omega) (by omega) (by omega) (by omega)) ⟨s, p, n, hc, (pc + 1), ⟨h0.1, h0.2.1, h0.2.2.1, h0.2.2.2.1, by omega⟩, ?_, ?_, ?_, ?_, ?_, ?_, ?_, ?_, ?_, ?_, ?_, ?_⟩ ((z.xq.cg rfl rfl rfl (fun _ _ => rfl) : XQ (put a 9 t pc v) ρ T L).slot (by decide)) (z.iq.cg rfl rfl rfl (fun _ _ => rfl)) ?_ ?_ ?_
  · simpa [put_rd] using h1
  · simpa [put_rd] using h2
  · simpa [put_rd] using h3
  · simpa [put_rd] using h4
  · simpa [put_rd] using h5
  · simpa [put_rd] using h6
  · simpa [put_rd] using h7
  · refine ⟨by simp [put_rd], by simp [put_rd], fun k hk => ?_⟩
    by_cases e : k = pc
    · subst e; simp [put_rd]
    · rw [put_ne (by omega), put_ne (by omega), put_ne (by omega), put_ne (by omega)]
      exact h8.2.2 k (by omega)
  · simpa [put_rd] using h9
  · simpa [put_rd] using h10
  · simpa [put_rd] using h11
  · intro k hk
    obtain ⟨y, y1, y2⟩ := h12 k hk
    exact ⟨y, y1, by simpa [put_rd] using y2⟩
  · intro x hx h40 hst hw
    exact ((z.bx x hx).2.2 h40).2 t ht (by simpa [put_rd] using hst) (by simpa [put_rd] using hw)
  · exact fun k hk => by simpa [put_rd] using z.hdt ht hk
  · simp [put_rd]
theorem Zcat (z : Z a b ρ T P C N δ rr L) (ht : t < T) {kc y : Nat} (hk1 : b.1 28 0 t = nI kc) (hk4 : kc < 4) (hy : y ≤ 20) : Z (put (put a 8 t kc (nI y)) 7 t 7 (nI (kc + 1))) (put (put b 29 0 (4 * t + kc) (nI y)) 28 0 t (nI (kc + 1))) ρ T P C N δ rr (L) := by
  have hT24 := z.xq.2.1
  obtain ⟨s, p, n, hc, pc, h0, h1, h2, h3, h4, h5, h6, h7, h8, h9, h10, h11, h12⟩ := z.th t ht
  have hz : hc = kc := (nI_eq (by omega) (by omega)).mp (h7.2.symm.trans hk1)
  subst hz
  refine z.thread (t := t) ht ((FrA.rf.pt (Or.inr (Or.inl rfl))).pt (Or.inl rfl)) ((FrB.rf.p4 (Or.inl rfl) (by omega) (by omega)).pt (by omega) (by omega) (by omega) (by omega)) ⟨s, p, n, (hc + 1), pc, ⟨h0.1, h0.2.1, h0.2.2.1, by omega, h0.2.2.2.2⟩, ?_, ?_, ?_, ?_, ?_, ?_, ?_, ?_, ?_, ?_, ?_, ?_⟩ ((z.xq.cg rfl rfl rfl (fun _ _ => rfl) : XQ (put a 8 t hc (nI y)) ρ T L).slot (by decide)) (z.iq.cg rfl rfl rfl (fun _ _ => rfl)) ?_ ?_ ?_
  · simpa [put_rd] using h1
  · simpa [put_rd] using h2
  · simpa [put_rd] using h3
  · simpa [put_rd] using h4
  · simpa [put_rd] using h5
  · simpa [put_rd] using h6
  · simp [put_rd]
  · refine ⟨by simpa [put_rd] using h8.1, by simpa [put_rd] using h8.2.1, fun k hk => ?_⟩
    simpa [put_rd] using h8.2.2 k hk
  · simpa [put_rd] using h9
  · simpa [put_rd] using h10
  · simpa [put_rd] using h11
  · intro k hk
    by_cases e : k = hc
    · subst e; exact ⟨y, hy, by simp [put_rd]⟩
    · obtain ⟨y, y1, y2⟩ := h12 k (by omega)
      exact ⟨y, y1, by rw [put_ne (by omega), put_ne (by omega)]; exact y2⟩
  · intro x hx h40 hst hw
    exact ((z.bx x hx).2.2 h40).2 t ht (by simpa [put_rd] using hst) (by simpa [put_rd] using hw)
  · intro k hk
    by_cases e : k = hc
    · subst e; simp [put_rd]
    · rw [put_ne (by omega), put_ne (by omega), put_ne (by omega), put_ne (by omega)]
      exact z.hdt ht hk
  · simp [put_rd]
theorem Zdrp (z : Z a b ρ T P C N δ rr L) (ht : t < T) {kc : Nat} (hk1 : b.1 28 0 t = nI (kc + 1)) (hk4 : kc < 4) : Z (put a 7 t 7 (nI kc)) (put b 28 0 t (nI kc)) ρ T P C N δ rr (L) := by
  have hT24 := z.xq.2.1
  obtain ⟨s, p, n, hc, pc, h0, h1, h2, h3, h4, h5, h6, h7, h8, h9, h10, h11, h12⟩ := z.th t ht
  have hz : hc = kc + 1 := (nI_eq (by omega) (by omega)).mp (h7.2.symm.trans hk1)
  refine z.thread (t := t) ht (FrA.rf.pt (Or.inl rfl)) (FrB.rf.pt (by omega) (by omega) (by omega) (by omega)) ⟨s, p, n, kc, pc, ⟨h0.1, h0.2.1, h0.2.2.1, by omega, h0.2.2.2.2⟩, ?_, ?_, ?_, ?_, ?_, ?_, ?_, ?_, ?_, ?_, ?_, ?_⟩ (z.xq.slot (by decide)) (z.iq.cg rfl rfl rfl (fun _ _ => rfl)) ?_ ?_ ?_
  · simpa [put_rd] using h1
  · simpa [put_rd] using h2
  · simpa [put_rd] using h3
  · simpa [put_rd] using h4
  · simpa [put_rd] using h5
  · simpa [put_rd] using h6
  · simp [put_rd]
  · refine ⟨by simpa [put_rd] using h8.1, by simpa [put_rd] using h8.2.1, fun k hk => ?_⟩
    simpa [put_rd] using h8.2.2 k hk
  · simpa [put_rd] using h9
  · simpa [put_rd] using h10
  · simpa [put_rd] using h11
  · intro k hk
    obtain ⟨y, y1, y2⟩ := h12 k (by omega)
    exact ⟨y, y1, by simpa [put_rd] using y2⟩
  · intro x hx h40 hst hw
    exact ((z.bx x hx).2.2 h40).2 t ht (by simpa [put_rd] using hst) (by simpa [put_rd] using hw)
  · exact fun k hk => by simpa [put_rd] using z.hdt ht hk
  · simp [put_rd]
theorem Zmsk (z : Z a b ρ T P C N δ rr L) (ht : t < T) (v : Int32) : Z (put a 7 t 9 v) (put b 30 0 t v) ρ T P C N δ rr (L) := by
  have hT24 := z.xq.2.1
  obtain ⟨s, p, n, hc, pc, h0, h1, h2, h3, h4, h5, h6, h7, h8, h9, h10, h11, h12⟩ := z.th t ht
  refine z.thread (t := t) ht (FrA.rf.pt (Or.inl rfl)) (FrB.rf.pt (by omega) (by omega) (by omega) (by omega)) ⟨s, p, n, hc, pc, h0, ?_, ?_, ?_, ?_, ?_, ?_, ?_, ?_, ?_, ?_, ?_, ?_⟩ (z.xq.slot (by decide)) (z.iq.cg rfl rfl rfl (fun _ _ => rfl)) ?_ ?_ ?_
  · simpa [put_rd] using h1
  · simpa [put_rd] using h2
  · simpa [put_rd] using h3
  · simpa [put_rd] using h4
  · simpa [put_rd] using h5
  · simpa [put_rd] using h6
  · simpa [put_rd] using h7
  · refine ⟨by simpa [put_rd] using h8.1, by simpa [put_rd] using h8.2.1, fun k hk => ?_⟩
    simpa [put_rd] using h8.2.2 k hk
  · simp [put_rd]; exact h9.2
  · simpa [put_rd] using h10
  · simpa [put_rd] using h11
  · simpa [put_rd] using h12
  · intro x hx h40 hst hw
    exact ((z.bx x hx).2.2 h40).2 t ht (by simpa [put_rd] using hst) (by simpa [put_rd] using hw)
  · exact fun k hk => by simpa [put_rd] using z.hdt ht hk
  · simp [put_rd]
theorem Zhad (z : Z a b ρ T P C N δ rr L) (ht : t < T) (v : Int32) : Z (put a 7 t 11 v) (put b 34 0 t v) ρ T P C N δ rr (L) := by
  have hT24 := z.xq.2.1
  obtain ⟨s, p, n, hc, pc, h0, h1, h2, h3, h4, h5, h6, h7, h8, h9, h10, h11, h12⟩ := z.th t ht
  refine z.thread (t := t) ht (FrA.rf.pt (Or.inl rfl)) (FrB.rf.pt (by omega) (by omega) (by omega) (by omega)) ⟨s, p, n, hc, pc, h0, ?_, ?_, ?_, ?_, ?_, ?_, ?_, ?_, ?_, ?_, ?_, ?_⟩ (z.xq.slot (by decide)) (z.iq.cg rfl rfl rfl (fun _ _ => rfl)) ?_ ?_ ?_
  · simpa [put_rd] using h1
  · simpa [put_rd] using h2
  · simpa [put_rd] using h3
  · simpa [put_rd] using h4
  · simpa [put_rd] using h5
  · simpa [put_rd] using h6
  · simpa [put_rd] using h7
  · refine ⟨by simpa [put_rd] using h8.1, by simpa [put_rd] using h8.2.1, fun k hk => ?_⟩
    simpa [put_rd] using h8.2.2 k hk
  · simp [put_rd]; exact ⟨h9.1, h9.2.1⟩
  · simpa [put_rd] using h10
  · simpa [put_rd] using h11
  · simpa [put_rd] using h12
  · intro x hx h40 hst hw
    exact ((z.bx x hx).2.2 h40).2 t ht (by simpa [put_rd] using hst) (by simpa [put_rd] using hw)
  · exact fun k hk => by simpa [put_rd] using z.hdt ht hk
  · simp [put_rd]
end ZT2
