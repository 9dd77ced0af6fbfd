/-! Steps of one thread keep the relation -/
section ZT
variable {a b a' b' : tH} {ρ : Option Nat} {T P C N δ rr t : Nat} {L : List Nat}
theorem FrA.rf : FrA t a a := fun _ _ _ _ _ => rfl
theorem FrB.rf : FrB t b b := fun _ _ _ _ _ _ => rfl
theorem FrA.pt {c k : Nat} {x : Int32} (h : FrA t a a') (hc : c = 7 ∨ c = 8 ∨ c = 9) : FrA t a (put a' c t k x) := fun c' i k' h1 h2 => (put_ne (by omega)).trans (h c' i k' h1 h2)
theorem FrA.add {s : Nat} (h : FrA t a a') : FrA t a (xAdd a' s) := by
  intro c i k h1 h2
  unfold xAdd
  rw [put_ne (by omega)]
  exact h c i k h1 h2
theorem FrA.rem (h : FrA t a a') {s : Nat} (ho : offL a' (xRemove a' s)) : FrA t a (xRemove a' s) := fun c i k h1 h2 => (ho c i k h2).trans (h c i k h1 h2)
theorem FrB.pt {c : Nat} {x : Int32} (h : FrB t b b') (h1 : 24 ≤ c) (h2 : c ≤ 37) (h3 : c ≠ 29) (h4 : c ≠ 32) : FrB t b (put b' c 0 t x) := fun c' k q1 q2 q3 q4 => (put_ne (by omega)).trans (h c' k q1 q2 q3 q4)
theorem FrB.p4 {c k : Nat} {x : Int32} (h : FrB t b b') (h1 : c = 29 ∨ c = 32) (h2 : 4 * t ≤ k) (h3 : k < 4 * t + 4) : FrB t b (put b' c 0 k x) := fun c' k' q1 q2 q3 q4 => (put_ne (by omega)).trans (h c' k' q1 q2 q3 q4)
theorem FrB.enq (h : FrB t b b') : FrB t b (mEnq b' t) := by
  intro c k q1 q2 q3 q4
  unfold mEnq
  rw [put_ne (by omega), put_ne (by omega), put_ne (by omega)]
  exact h c k q1 q2 q3 q4
theorem FrB.leave (h : FrB t b b') {s : Nat} : FrB t b (mLeave b' s) := fun c k q1 q2 q3 q4 => ((mLeave_off (b := b') (t := s)).1 c 0 k q3 (by omega)).trans (h c k q1 q2 q3 q4)
theorem Z.hdt (z : Z a b ρ T P C N δ rr L) (ht : t < T) {k : Nat} (hk : k < 4) : a.1 8 t k = b.1 29 0 (4 * t + k) := z.hd t (by have := z.xq.2.1; omega) k hk
theorem nI_s {s w : Nat} (hs : s ≤ 7) (hw : w < 2 ^ 31) (h : nI s = nI w) : s = w := (nI_eq (by omega) hw).mp h

theorem Zreg (z : Z a b ρ T P C N δ rr L) (ht : t < T) (v : Int32) : Z (put a 7 t 6 v) (put b 27 0 t v) ρ T P C N δ rr (L) := by
  have hT24 := z.xq.2.1
  obtain ⟨s, p, n, hc, pc, h0, h1, h2, h3, h4, h5, h6, h7, h8, h9, h10, h11, h12⟩ := z.th t ht
  refine z.thread (t := t) ht (FrA.rf.pt (Or.inl rfl)) (FrB.rf.pt (by omega) (by omega) (by omega) (by omega)) ⟨s, p, n, hc, pc, h0, ?_, ?_, ?_, ?_, ?_, ?_, ?_, ?_, ?_, ?_, ?_, ?_⟩ (z.xq.slot (by decide)) (z.iq.cg rfl rfl rfl (fun _ _ => rfl)) ?_ ?_ ?_
  · simpa [put_rd] using h1
  · simpa [put_rd] using h2
  · simpa [put_rd] using h3
  · simpa [put_rd] using h4
  · simpa [put_rd] using h5
  · rw [put_eq, put_eq]
  · simpa [put_rd] using h7
  · simpa [put_rd] using h8
  · simpa [put_rd] using h9
  · simpa [put_rd] using h10
  · simpa [put_rd] using h11
  · simpa [put_rd] using h12
  · intro x hx h40 hst hw
    exact ((z.bx x hx).2.2 h40).2 t ht (by simpa [put_rd] using hst) (by simpa [put_rd] using hw)
  · exact fun k hk => by simpa [put_rd] using z.hdt ht hk
  · simp [put_rd]
theorem Znext (z : Z a b ρ T P C N δ rr L) (ht : t < T) {m : Nat} (hm : m ≤ 20) (h00 : b.1 24 0 t = 0) : Z (put a 7 t 5 (nI m)) (put b 26 0 t (nI m)) ρ T P C N δ rr (L) := by
  have hT24 := z.xq.2.1
  obtain ⟨s, p, n, hc, pc, h0, h1, h2, h3, h4, h5, h6, h7, h8, h9, h10, h11, h12⟩ := z.th t ht
  have hs0 : s = 0 := nI_s (w := 0) h0.1 (by omega) (h1.2.symm.trans h00)
  refine z.thread (t := t) ht (FrA.rf.pt (Or.inl rfl)) (FrB.rf.pt (by omega) (by omega) (by omega) (by omega)) ⟨s, p, m, hc, pc, ⟨h0.1, h0.2.1, hm, h0.2.2.2⟩, ?_, ?_, ?_, ?_, ?_, ?_, ?_, ?_, ?_, ?_, ?_, ?_⟩ (z.xq.slot (by decide)) (z.iq.cg rfl rfl rfl (fun _ _ => rfl)) ?_ ?_ ?_
  · simpa [put_rd] using h1
  · simpa [put_rd] using h2
  · rw [put_eq]
  · exact fun _ => put_eq
  · intro q1 q2; omega
  · simpa [put_rd] using h6
  · simpa [put_rd] using h7
  · simpa [put_rd] using h8
  · simpa [put_rd] using h9
  · simpa [put_rd] using h10
  · simpa [put_rd] using h11
  · simpa [put_rd] using h12
  · intro x hx h40 hst hw
    exact ((z.bx x hx).2.2 h40).2 t ht (by simpa [put_rd] using hst) (by simpa [put_rd] using hw)
  · exact fun k hk => by simpa [put_rd] using z.hdt ht hk
  · simp [put_rd]
theorem Zgo0 (z : Z a b ρ T P C N δ rr L) (ht : t < T) (hw1 : ¬ b.1 24 0 t = 0) (hw4 : ¬ b.1 24 0 t = 4) (hw5 : b.1 24 0 t < 5) (hρ : ρ ≠ some t) : Z (xReady a t) (mGo b t) ρ T P C N δ rr (L ++ [t]) := by
  have hT24 := z.xq.2.1
  obtain ⟨s, p, n, hc, pc, h0, h1, h2, h3, h4, h5, h6, h7, h8, h9, h10, h11, h12⟩ := z.th t ht
  have hs1 : 1 ≤ s := by
    rcases Nat.eq_zero_or_pos s with e | e
    · exact absurd (by rw [h1.2, e]; rfl) hw1
    · exact e
  have hs5 : s < 5 := (nI_ltI (by omega) (by omega)).mp (by rw [← h1.2]; exact hw5)
  have hs3 : s ≤ 3 := by
    have : s ≠ 4 := fun e => hw4 (by rw [h1.2, e]; rfl)
    omega
  have hnL : t ∉ L := z.iq.notin hw1
  refine z.thread (t := t) ht ((FrA.rf.pt (Or.inl rfl)).add) (FrB.enq ((FrB.rf.pt (by omega) (by omega) (by omega) (by omega)).pt (by omega) (by omega) (by omega) (by omega))) ⟨0, p, (n + 1), hc, pc, ⟨by omega, h0.2.1, (by have := (h5 hs1 hs3).1; omega), h0.2.2.2⟩, ?_, ?_, ?_, ?_, ?_, ?_, ?_, ?_, ?_, ?_, ?_, ?_⟩ (z.xq.ready ht hnL hρ) (z.iq.go ht hw1 hρ) ?_ ?_ ?_
  · simp [xReady, xAdd, putq, mGo, mEnq, put_rd]; rfl
  · simpa [xReady, xAdd, putq, mGo, mEnq, put_rd] using h2
  · simp [xReady, xAdd, putq, mGo, mEnq, put_rd]; rw [h3]; exact nI_1 n
  · intro _
    simp [xReady, xAdd, putq, mGo, mEnq, put_rd]
    exact (h5 hs1 hs3).2.1
  · intro q1 q2; omega
  · simpa [xReady, xAdd, putq, mGo, mEnq, put_rd] using h6
  · simpa [xReady, xAdd, putq, mGo, mEnq, put_rd] using h7
  · refine ⟨by simpa [xReady, xAdd, putq, mGo, mEnq, put_rd] using h8.1, by simpa [xReady, xAdd, putq, mGo, mEnq, put_rd] using h8.2.1, fun k hk => ?_⟩
    simpa [xReady, xAdd, putq, mGo, mEnq, put_rd] using h8.2.2 k hk
  · simpa [xReady, xAdd, putq, mGo, mEnq, put_rd] using h9
  · intro q; omega
  · intro _
    simp [xReady, xAdd, putq, mGo, mEnq, put_rd]
    exact h11 (by omega)
  · intro k hk
    obtain ⟨y, y1, y2⟩ := h12 k hk
    exact ⟨y, y1, by simpa [xReady, xAdd, putq, mGo, mEnq, put_rd] using y2⟩
  · intro x hx h40 hst
    exfalso
    have e : (mGo b t).1 24 0 t = 0 := by rw [mGo_st, if_pos rfl]
    rw [e] at hst
    revert hst
    decide
  · exact fun k hk => by simpa [xReady, xAdd, putq, mGo, mEnq, put_rd] using z.hdt ht hk
  · simp [xReady, xAdd, putq, mGo, mEnq, put_rd]
theorem Zwk (z : Z a b ρ T P C N δ rr L) (ht : t < T) (hw4 : b.1 24 0 t = 4) (hρ : ρ ≠ some t) : Z (xReady a t) (mWk1 b t) ρ T P C N δ rr (L ++ [t]) := by
  have hT24 := z.xq.2.1
  obtain ⟨s, p, n, hc, pc, h0, h1, h2, h3, h4, h5, h6, h7, h8, h9, h10, h11, h12⟩ := z.th t ht
  have hs : s = 4 := nI_s (w := 4) h0.1 (by omega) (h1.2.symm.trans hw4)
  have hnL : t ∉ L := z.iq.notin (by rw [hw4]; decide)
  refine z.thread (t := t) ht ((FrA.rf.pt (Or.inl rfl)).add) (FrB.enq (FrB.rf.pt (by omega) (by omega) (by omega) (by omega))) ⟨0, p, n, hc, pc, ⟨by omega, h0.2⟩, ?_, ?_, ?_, ?_, ?_, ?_, ?_, ?_, ?_, ?_, ?_, ?_⟩ (z.xq.ready ht hnL hρ) (IQ.enq (b := put b 35 0 t (-3)) z.iq ht hnL hρ) ?_ ?_ ?_
  · simp [xReady, xAdd, putq, mWk1, mEnq, put_rd]; rfl
  · simpa [xReady, xAdd, putq, mWk1, mEnq, put_rd] using h2
  · simpa [xReady, xAdd, putq, mWk1, mEnq, put_rd] using h3
  · intro _
    simp [xReady, xAdd, putq, mWk1, mEnq, put_rd]
    exact h4 (Or.inr hs)
  · intro q1 q2; omega
  · simpa [xReady, xAdd, putq, mWk1, mEnq, put_rd] using h6
  · simpa [xReady, xAdd, putq, mWk1, mEnq, put_rd] using h7
  · refine ⟨by simpa [xReady, xAdd, putq, mWk1, mEnq, put_rd] using h8.1, by simpa [xReady, xAdd, putq, mWk1, mEnq, put_rd] using h8.2.1, fun k hk => ?_⟩
    simpa [xReady, xAdd, putq, mWk1, mEnq, put_rd] using h8.2.2 k hk
  · simpa [xReady, xAdd, putq, mWk1, mEnq, put_rd] using h9
  · intro q; omega
  · intro _
    simp [xReady, xAdd, putq, mWk1, mEnq, put_rd]
  · intro k hk
    obtain ⟨y, y1, y2⟩ := h12 k hk
    exact ⟨y, y1, by simpa [xReady, xAdd, putq, mWk1, mEnq, put_rd] using y2⟩
  · intro x hx h40 hst
    exfalso
    have e : (mWk1 b t).1 24 0 t = 0 := by rw [mWk1_st, if_pos rfl]
    rw [e] at hst
    revert hst
    decide
  · exact fun k hk => by simpa [xReady, xAdd, putq, mWk1, mEnq, put_rd] using z.hdt ht hk
  · simp [xReady, xAdd, putq, mWk1, mEnq, put_rd]
end ZT
