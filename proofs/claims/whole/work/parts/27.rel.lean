/-! The relation between the class's half a and the reference's half b -/
def gdZ (k x : Int32) : Prop := ∃ j, j ≤ 16 ∧ k = nI j ∧ (j ≤ 2 → ∃ y, y < 8 ∧ x = nI y) ∧ (j = 5 → ∃ y, y < 12 ∧ x = nI y) ∧ (j = 7 → ∃ y, y ≤ 100 ∧ x = nI y) ∧ (j = 8 ∨ j = 9 ∨ j = 13 → ∃ y, y ≤ 20 ∧ x = nI y)
theorem gdZ.gdA {k x : Int32} (h : gdZ k x) : gdA k x := by
  obtain ⟨j, h1, h2, h3, -⟩ := h
  exact ⟨j, h1, h2, h3⟩
def PG (a b : tH) (P : Nat) : Prop := a.1 1 0 3 = nI P ∧ b.1 20 0 1 = nI P ∧ P ≤ 12 ∧ ∀ p, p < 12 → ∃ z, z ≤ 20 ∧ a.1 2 0 p = nI z ∧ b.1 21 0 p = nI z ∧ (P ≤ p → z = 0) ∧ (∀ i, i < 20 → a.1 4 p i = b.1 22 0 (20 * p + i) ∧ a.1 6 p i = b.1 23 0 (20 * p + i)) ∧ ∀ i, i < z → gdZ (b.1 22 0 (20 * p + i)) (b.1 23 0 (20 * p + i))
def GL (a b : tH) (T C N δ : Nat) : Prop := a.1 18 0 6 = b.1 20 0 5 ∧ (b.1 20 0 5 = 0 ∨ b.1 20 0 5 = 1) ∧ a.1 18 0 7 = b.1 20 0 6 ∧ a.1 18 0 9 = nI C ∧ b.1 20 0 8 = nI C ∧ a.1 18 0 10 = nI N ∧ b.1 20 0 9 = nI (N + δ) ∧ C ≤ 101 * N + 100 ∧ N ≤ 3000 ∧ a.1 18 0 11 = b.1 20 0 10 ∧ a.1 18 0 12 = b.1 20 0 26 ∧ (b.1 20 0 5 = 1 → 1 ≤ T ∧ a.1 18 0 8 = b.1 20 0 7 ∧ ∃ q, q ≤ 10 ∧ b.1 20 0 7 = nI q) ∧ (b.1 20 0 5 = 0 → T = 0)
def TH (a b : tH) (P C t : Nat) : Prop := ∃ s p n hc pc : Nat, (s ≤ 7 ∧ p < P ∧ n ≤ 20 ∧ hc ≤ 4 ∧ pc ≤ 4) ∧ (a.1 7 t 3 = nI s ∧ b.1 24 0 t = nI s) ∧ (a.1 7 t 4 = nI p ∧ b.1 25 0 t = nI p) ∧ b.1 26 0 t = nI n ∧ (s = 0 ∨ s = 4 → a.1 7 t 5 = nI n) ∧ (1 ≤ s → s ≤ 3 → n < 20 ∧ a.1 7 t 5 = nI (n + 1) ∧ (∃ x, x < 8 ∧ a.1 7 t 13 = nI x ∧ b.1 36 0 t = nI x) ∧ a.1 7 t 14 = b.1 37 0 t) ∧ a.1 7 t 6 = b.1 27 0 t ∧ (a.1 7 t 7 = nI hc ∧ b.1 28 0 t = nI hc) ∧ (a.1 7 t 8 = nI pc ∧ b.1 31 0 t = nI pc ∧ ∀ k, k < pc → a.1 9 t k = b.1 32 0 (4 * t + k)) ∧ (a.1 7 t 9 = b.1 30 0 t ∧ a.1 7 t 10 = b.1 33 0 t ∧ a.1 7 t 11 = b.1 34 0 t) ∧ (s = 4 → ∃ u, u ≤ C + 100 ∧ a.1 7 t 12 = nI u ∧ b.1 35 0 t = nI u) ∧ (s ≠ 4 → b.1 35 0 t = -3) ∧ ∀ k, k < hc → ∃ y, y ≤ 20 ∧ b.1 29 0 (4 * t + k) = nI y
def BXr (a b : tH) (T : Nat) : Prop := ∀ x, x < 8 → a.1 13 0 x = b.1 40 0 x ∧ (b.1 40 0 x = 0 ∨ b.1 40 0 x = 1) ∧ (b.1 40 0 x = 1 → a.1 14 0 x = b.1 39 0 x ∧ ∀ t, t < T → (b.1 24 0 t = 2 ∨ b.1 24 0 t = 3) → ¬ b.1 36 0 t = nI x)
def RWr (a b : tH) (rr : Nat) : Prop := a.1 15 0 2 = nI rr ∧ b.1 20 0 31 = nI rr ∧ rr ≤ 100 ∧ ∀ k, k < 100 → a.1 16 0 k = b.1 41 0 k ∧ a.1 17 0 k = b.1 42 0 k
def HDr (a b : tH) : Prop := ∀ t, t < 24 → ∀ k, k < 4 → a.1 8 t k = b.1 29 0 (4 * t + k)
def NUr (a : tH) : Prop := ∀ t, t < 24 → a.1 7 t 0 = nI t
def Z (a b : tH) (ρ : Option Nat) (T P C N δ rr : Nat) (L : List Nat) : Prop := PG a b P ∧ GL a b T C N δ ∧ (∀ t, t < T → TH a b P C t) ∧ BXr a b T ∧ RWr a b rr ∧ HDr a b ∧ NUr a ∧ XQ a ρ T L ∧ IQ b ρ T L
section ZP
variable {a b a' b' : tH} {ρ : Option Nat} {T P C N δ rr : Nat} {L L' : List Nat}
theorem Z.pg (z : Z a b ρ T P C N δ rr L) : PG a b P := z.1
theorem Z.gl (z : Z a b ρ T P C N δ rr L) : GL a b T C N δ := z.2.1
theorem Z.th (z : Z a b ρ T P C N δ rr L) : ∀ t, t < T → TH a b P C t := z.2.2.1
theorem Z.bx (z : Z a b ρ T P C N δ rr L) : BXr a b T := z.2.2.2.1
theorem Z.rw (z : Z a b ρ T P C N δ rr L) : RWr a b rr := z.2.2.2.2.1
theorem Z.hd (z : Z a b ρ T P C N δ rr L) : HDr a b := z.2.2.2.2.2.1
theorem Z.nu (z : Z a b ρ T P C N δ rr L) : NUr a := z.2.2.2.2.2.2.1
theorem Z.xq (z : Z a b ρ T P C N δ rr L) : XQ a ρ T L := z.2.2.2.2.2.2.2.1
theorem Z.iq (z : Z a b ρ T P C N δ rr L) : IQ b ρ T L := z.2.2.2.2.2.2.2.2
theorem Z.ih (z : Z a b ρ T P C N δ rr L) : IH b T := by
  intro t ht
  obtain ⟨s, p, n, hc, pc, ⟨-, -, -, h4, p4⟩, -, -, -, -, -, -, ⟨-, e1⟩, ⟨-, e2, -⟩, -⟩ := z.th t ht
  exact ⟨hc, pc, h4, p4, e1, e2⟩
theorem Z.xh (z : Z a b ρ T P C N δ rr L) : XH a T := by
  intro t ht
  obtain ⟨s, p, n, hc, pc, ⟨-, -, -, h4, p4⟩, -, -, -, -, -, -, ⟨e1, -⟩, ⟨e2, -, -⟩, -⟩ := z.th t ht
  exact ⟨hc, pc, h4, p4, e1, e2⟩
theorem Z.cb (z : Z a b ρ T P C N δ rr L) (hδ : δ ≤ 1) : C ≤ 400000 := by
  have h := z.gl.2.2.2.2.2.2.2
  omega
theorem Z.iu (z : Z a b ρ T P C N δ rr L) (hδ : δ ≤ 1) : IU b T := by
  intro t ht h4
  have hc := z.cb hδ
  obtain ⟨s, p, n, hc, pc, hb, ⟨-, es⟩, -, -, -, -, -, -, -, -, hu, -⟩ := z.th t ht
  have hs : s = 4 := (nI_eq (b := 4) (by omega) (by omega)).mp (es.symm.trans h4)
  obtain ⟨u, h1, -, h3⟩ := hu hs
  exact ⟨u, by omega, h3⟩
/-- the state of a thread, as both have it -/
theorem Z.st (z : Z a b ρ T P C N δ rr L) {t : Nat} (ht : t < T) : ∃ s, s ≤ 7 ∧ a.1 7 t 3 = nI s ∧ b.1 24 0 t = nI s := by
  obtain ⟨s, p, n, hc, pc, ⟨h, -⟩, ⟨h1, h2⟩, -⟩ := z.th t ht
  exact ⟨s, h, h1, h2⟩
/-- what a step of thread t leaves as it was: everything but that thread's own rows, and the queue -/
def FrA (t : Nat) (a a' : tH) : Prop := ∀ c i k, ¬ ((c = 7 ∨ c = 8 ∨ c = 9) ∧ i = t) → ¬ (c = 10 ∧ i = 0 ∧ k = 1) → a'.1 c i k = a.1 c i k
def FrB (t : Nat) (b b' : tH) : Prop := ∀ c k, ¬ (24 ≤ c ∧ c ≤ 37 ∧ c ≠ 29 ∧ c ≠ 32 ∧ k = t) → ¬ ((c = 29 ∨ c = 32) ∧ 4 * t ≤ k ∧ k < 4 * t + 4) → c ≠ 38 → ¬ (c = 20 ∧ k = 27) → b'.1 c 0 k = b.1 c 0 k
theorem TH.cg {t : Nat} (h : TH a b P C t) (e7 : ∀ k, a'.1 7 t k = a.1 7 t k) (e9 : ∀ k, a'.1 9 t k = a.1 9 t k) (e : ∀ c, 24 ≤ c → c ≤ 37 → c ≠ 29 → c ≠ 32 → b'.1 c 0 t = b.1 c 0 t) (e29 : ∀ k, k < 4 → b'.1 29 0 (4 * t + k) = b.1 29 0 (4 * t + k)) (e32 : ∀ k, k < 4 → b'.1 32 0 (4 * t + k) = b.1 32 0 (4 * t + k)) : TH a' b' P C t := by
  obtain ⟨s, p, n, hc, pc, h0, h1, h2, h3, h4, h5, h6, h7, h8, h9, h10, h11, h12⟩ := h
  refine ⟨s, p, n, hc, pc, h0, ?_, ?_, ?_, ?_, ?_, ?_, ?_, ?_, ?_, ?_, ?_, ?_⟩
  · rw [e7, e 24 (by omega) (by omega) (by omega) (by omega)]; exact h1
  · rw [e7, e 25 (by omega) (by omega) (by omega) (by omega)]; exact h2
  · rw [e 26 (by omega) (by omega) (by omega) (by omega)]; exact h3
  · rw [e7]; exact h4
  · rw [e7, e7, e7, e 36 (by omega) (by omega) (by omega) (by omega), e 37 (by omega) (by omega) (by omega) (by omega)]; exact h5
  · rw [e7, e 27 (by omega) (by omega) (by omega) (by omega)]; exact h6
  · rw [e7, e 28 (by omega) (by omega) (by omega) (by omega)]; exact h7
  · rw [e7, e 31 (by omega) (by omega) (by omega) (by omega)]
    exact ⟨h8.1, h8.2.1, fun k hk => by rw [e9, e32 k (by omega)]; exact h8.2.2 k hk⟩
  · rw [e7, e7, e7, e 30 (by omega) (by omega) (by omega) (by omega), e 33 (by omega) (by omega) (by omega) (by omega), e 34 (by omega) (by omega) (by omega) (by omega)]; exact h9
  · rw [e7, e 35 (by omega) (by omega) (by omega) (by omega)]; exact h10
  · rw [e 35 (by omega) (by omega) (by omega) (by omega)]; exact h11
  · exact fun k hk => by rw [e29 k (by omega)]; exact h12 k hk
theorem PG.cg (h : PG a b P) (e1 : a'.1 1 0 3 = a.1 1 0 3) (e2 : ∀ k, a'.1 2 0 k = a.1 2 0 k) (e4 : ∀ i k, a'.1 4 i k = a.1 4 i k) (e6 : ∀ i k, a'.1 6 i k = a.1 6 i k) (f1 : b'.1 20 0 1 = b.1 20 0 1) (f2 : ∀ k, b'.1 21 0 k = b.1 21 0 k) (f4 : ∀ k, b'.1 22 0 k = b.1 22 0 k) (f6 : ∀ k, b'.1 23 0 k = b.1 23 0 k) : PG a' b' P := by
  refine ⟨e1.trans h.1, f1.trans h.2.1, h.2.2.1, fun p hp => ?_⟩
  obtain ⟨z, h1, h2, h3, h4, h5, h6⟩ := h.2.2.2 p hp
  refine ⟨z, h1, (e2 p).trans h2, (f2 p).trans h3, h4, fun i hi => ?_, fun i hi => ?_⟩
  · rw [e4, e6, f4, f6]; exact h5 i hi
  · rw [f4, f6]; exact h6 i hi
theorem GL.cg (h : GL a b T C N δ) (e : ∀ k, 6 ≤ k → k ≤ 12 → a'.1 18 0 k = a.1 18 0 k) (f : ∀ k, k = 5 ∨ k = 6 ∨ k = 7 ∨ k = 8 ∨ k = 9 ∨ k = 10 ∨ k = 26 → b'.1 20 0 k = b.1 20 0 k) : GL a' b' T C N δ := by
  unfold GL
  rw [e 6 (by omega) (by omega), e 7 (by omega) (by omega), e 8 (by omega) (by omega), e 9 (by omega) (by omega), e 10 (by omega) (by omega), e 11 (by omega) (by omega), e 12 (by omega) (by omega), f 5 (by omega), f 6 (by omega), f 7 (by omega), f 8 (by omega), f 9 (by omega), f 10 (by omega), f 26 (by omega)]
  exact h
theorem Z.thread (z : Z a b ρ T P C N δ rr L) {t : Nat} (ht : t < T) (fa : FrA t a a') (fb : FrB t b b') (h : TH a' b' P C t) (xq : XQ a' ρ T L') (iq : IQ b' ρ T L') (hbx : ∀ x, x < 8 → b.1 40 0 x = 1 → (b'.1 24 0 t = 2 ∨ b'.1 24 0 t = 3) → ¬ b'.1 36 0 t = nI x) (hh : ∀ k, k < 4 → a'.1 8 t k = b'.1 29 0 (4 * t + k)) (hn : a'.1 7 t 0 = a.1 7 t 0) : Z a' b' ρ T P C N δ rr L' := by
  refine ⟨z.pg.cg (fa _ _ _ (by omega) (by omega)) (fun k => fa _ _ _ (by omega) (by omega)) (fun i k => fa _ _ _ (by omega) (by omega)) (fun i k => fa _ _ _ (by omega) (by omega)) (fb _ _ (by omega) (by omega) (by omega) (by omega)) (fun k => fb _ _ (by omega) (by omega) (by omega) (by omega)) (fun k => fb _ _ (by omega) (by omega) (by omega) (by omega)) (fun k => fb _ _ (by omega) (by omega) (by omega) (by omega)),
    z.gl.cg (fun k _ _ => fa _ _ _ (by omega) (by omega)) (fun k hk => fb _ _ (by omega) (by omega) (by omega) (by omega)), fun s hs => ?_, fun x hx => ?_, ⟨(fa _ _ _ (by omega) (by omega)).trans z.rw.1, (fb _ _ (by omega) (by omega) (by omega) (by omega)).trans z.rw.2.1, z.rw.2.2.1, fun k hk => ?_⟩, fun s hs k hk => ?_, fun s hs => ?_, xq, iq⟩
  · by_cases e : s = t
    · subst e; exact h
    · exact (z.th s hs).cg (fun k => fa _ _ _ (by omega) (by omega)) (fun k => fa _ _ _ (by omega) (by omega)) (fun c _ _ _ _ => fb _ _ (by omega) (by omega) (by omega) (by omega)) (fun k hk => fb _ _ (by omega) (by omega) (by omega) (by omega)) (fun k hk => fb _ _ (by omega) (by omega) (by omega) (by omega))
  · have h0 := z.bx x hx
    rw [fa 13 0 x (by omega) (by omega), fb 40 x (by omega) (by omega) (by omega) (by omega), fa 14 0 x (by omega) (by omega), fb 39 x (by omega) (by omega) (by omega) (by omega)]
    refine ⟨h0.1, h0.2.1, fun h1 => ⟨(h0.2.2 h1).1, fun s hs hst => ?_⟩⟩
    by_cases e : s = t
    · subst e; exact hbx x hx h1 hst
    · rw [fb 24 s (by omega) (by omega) (by omega) (by omega)] at hst
      rw [fb 36 s (by omega) (by omega) (by omega) (by omega)]
      exact (h0.2.2 h1).2 s hs hst
  · rw [fa 16 0 k (by omega) (by omega), fa 17 0 k (by omega) (by omega), fb 41 k (by omega) (by omega) (by omega) (by omega), fb 42 k (by omega) (by omega) (by omega) (by omega)]
    exact z.rw.2.2.2 k hk
  · by_cases e : s = t
    · subst e; exact hh k hk
    · rw [fa 8 s k (by omega) (by omega), fb 29 (4 * s + k) (by omega) (by omega) (by omega) (by omega)]
      exact z.hd s hs k hk
  · by_cases e : s = t
    · subst e; exact hn.trans (z.nu s hs)
    · rw [fa 7 s 0 (by omega) (by omega)]; exact z.nu s hs
end ZP
