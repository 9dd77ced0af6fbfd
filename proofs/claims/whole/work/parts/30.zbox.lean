/-! Exceptions, ends, boxes keep the relation -/
def mExcN (b : tH) (t : Nat) (n : Int32) : tH := match nv (b.1 28 0 t) with
  | 0 => mFinN (mExE b t n) t 6
  | hc + 1 => if b.1 24 0 t = 0 then mExB b t n hc else mEnq (mExB b t n hc) t
theorem mExcN_0 {b : tH} {t : Nat} {n : Int32} (h : b.1 28 0 t = 0) : mExcN b t n = mFinN (mExE b t n) t 6 := by unfold mExcN; rw [h]; rfl
theorem mExcN_1 {b : tH} {t hc : Nat} {n : Int32} (h : b.1 28 0 t = nI (hc + 1)) (h4 : hc < 4) : mExcN b t n = if b.1 24 0 t = 0 then mExB b t n hc else mEnq (mExB b t n hc) t := by unfold mExcN; rw [h, nv_nI (by omega)]
section ZB
variable {a b a' b' : tH} {ρ : Option Nat} {T P C N δ rr t x : Nat} {L : List Nat} {v n : Int32}
theorem Zraise (z : Z a b ρ T P C N δ rr L) (ht : t < T) (hs5 : b.1 24 0 t < 5) (hρ : ρ = some t → b.1 24 0 t = 0) : ∃ L', Z (xRaise a t n) (mExcN b t n) ρ T P C N δ rr L' := by
  obtain ⟨s, p, m, hc, pc, h0, h1, -, -, -, -, -, h7, -⟩ := z.th t ht
  have hs : s < 5 := (nI_ltI (by omega) (by omega)).mp (by rw [← h1.2]; exact hs5)
  cases hc with
  | zero =>
    rw [xRaise_0 h7.1, mExcN_0 h7.2]
    exact ⟨_, ZexE z ht n⟩
  | succ hc =>
    rw [xRaise_1 h7.1 (by omega), mExcN_1 h7.2 (by omega)]
    by_cases e : s = 0
    · subst e
      rw [if_pos (Or.inl (by rw [h1.1]; decide)), if_pos (show b.1 24 0 t = 0 from h1.2)]
      exact ⟨_, ZexH z ht n h7.2 (by omega) h1.2⟩
    · have e0 : ¬ b.1 24 0 t = 0 := by rw [h1.2]; exact nI_ne0 (by omega) (by omega)
      rw [if_neg e0, if_neg (by
        rw [h1.1]
        exact fun q => q.elim (nI_nlt (b := 1) (by omega) (by omega)) (fun w => absurd w (nI_nlt (a := 4) (by omega) (by omega))))]
      exact ⟨_, ZexA z ht n h7.2 (by omega) e0 (fun q => e0 (hρ q))⟩
/-- which of those that wait at a box is the first: both say the same -/
theorem Zfirst (z : Z a b ρ T P C N δ rr L) (hx : x < 8) {w : Nat} (hw1 : 1 ≤ w) (hw3 : w ≤ 3) : xFirst a T (nI x) (nI w) = mFirst b T (nI x) (nI w) := by
  unfold xFirst mFirst
  refine mins_congr (fun j hj => ?_) (fun j hj hp => ?_)
  · obtain ⟨s, p, m, hc, pc, h0, h1, -, -, -, h5, -⟩ := z.th j hj
    by_cases e : s = w
    · subst e
      obtain ⟨-, -, ⟨y, hy, e1, e2⟩, -⟩ := h5 hw1 hw3
      rw [h1.1, h1.2, e1, e2]
    · have : ¬ nI s = nI w := fun q => e (nI_s h0.1 (by omega) q)
      rw [h1.1, h1.2, decide_eq_false this]
      simp
  · obtain ⟨s, p, m, hc, pc, h0, h1, -, -, -, h5, -⟩ := z.th j hj
    have h2 := of_decide_eq_true (Bool.and_eq_true_iff.mp hp).1
    rw [h1.2] at h2
    have e := nI_s h0.1 (by omega) h2
    subst e
    exact (h5 hw1 hw3).2.2.2
theorem Zgov (z : Z a b ρ T P C N δ rr L) {w : Nat} (hw1 : 1 ≤ w) (hw3 : w ≤ 3) (hf : mFirst b T (nI x) (nI w) = some t) (hρ : ∀ r, ρ = some r → b.1 24 0 r = 0) : Z (xReady (put a 7 t 6 v) t) (mGo (put b 27 0 t v) t) ρ T P C N δ rr (L ++ [t]) := by
  have hs := mFirst_st hf
  have h1 : ¬ b.1 24 0 t = 0 := by rw [hs.2.1]; exact nI_ne0 (by omega) (by omega)
  have z1 := Zreg z hs.1 v
  refine Zgo0 z1 hs.1 h1 ?_ ?_ (fun e => h1 (hρ t e))
  · show ¬ b.1 24 0 t = 4
    rw [hs.2.1]
    exact fun q => by have := (nI_eq (b := 4) (by omega) (by omega)).mp q; omega
  · show b.1 24 0 t < 5
    rw [hs.2.1]
    exact nI_lt (b := 5) (by omega) (by omega)
theorem Zrd (hx : x < 8) : ∀ (f : Nat) (a b : tH) (L : List Nat), Z a b ρ T P C N δ rr L → (∀ r, ρ = some r → b.1 24 0 r = 0) → (∃ L', Z (xRd T x v f a) (mRd T x v f b) ρ T P C N δ rr L') ∧ (∀ r, ρ = some r → (mRd T x v f b).1 24 0 r = 0)
  | 0, a, b, L, z, hr => ⟨⟨L, z⟩, hr⟩
  | f + 1, a, b, L, z, hr => by
    have hf := Zfirst z hx (w := 3) (by omega) (by omega)
    cases e : mFirst b T (nI x) 3 with
    | none =>
      rw [xRd_none (hf.trans e), mRd_none e]
      exact ⟨⟨L, z⟩, hr⟩
    | some t =>
      rw [xRd_some (hf.trans e), mRd_some e]
      refine Zrd hx f _ _ _ (Zgov z (w := 3) (by omega) (by omega) e hr) (fun r er => ?_)
      rw [mGo_st]
      split
      · rfl
      · exact hr r er
theorem mRd_done (hx : x < 8) : ∀ (f : Nat) (b : tH), cnt (fun s => decide (b.1 24 0 s = 3) && decide (b.1 36 0 s = nI x)) T ≤ f → mFirst (mRd T x v f b) T (nI x) 3 = none
  | 0, b, h => (mins_of_cnt (Nat.le_zero.mp h) : mFirst b T (nI x) 3 = none)
  | f + 1, b, h => by
    cases e : mFirst b T (nI x) 3 with
    | none => rw [mRd_none e]; exact e
    | some t =>
      rw [mRd_some e]
      have := cnt_go (v := v) hx (mFirst_st e) (by decide)
      exact mRd_done hx f _ (by omega)
theorem mRd_off {c k : Nat} (h1 : c ≠ 24) (h2 : c ≠ 26) (h3 : c ≠ 27) (h4 : c ≠ 36) (h5 : c ≠ 38) (h6 : c ≠ 20) : ∀ (f : Nat) (b : tH), (mRd T x v f b).1 c 0 k = b.1 c 0 k
  | 0, b => rfl
  | f + 1, b => by
    cases e : mFirst b T (nI x) 3 with
    | none => rw [mRd_none e]
    | some t =>
      rw [mRd_some e, mRd_off h1 h2 h3 h4 h5 h6 f]
      unfold mGo mEnq
      rw [put_ne (by omega), put_ne (by omega), put_ne (by omega), put_ne (by omega), put_ne (by omega), put_ne (by omega)]
theorem mFirst_no {w : Int32} (h : mFirst b T (nI x) w = none) {s : Nat} (hs : s < T) (e : b.1 24 0 s = w) : ¬ b.1 36 0 s = nI x := by
  intro q
  have h1 := mins_none h s hs
  simp [e, q] at h1
/-- a box: its own rows only -/
theorem Zbox (z : Z a b ρ T P C N δ rr L) (hx : x < 8) (ea : ∀ c i k, ¬ (c = 13 ∧ i = 0 ∧ k = x) → ¬ (c = 14 ∧ i = 0 ∧ k = x) → a'.1 c i k = a.1 c i k) (e2 : a'.2 = a.2) (eb : ∀ c k, ¬ (c = 40 ∧ k = x) → ¬ (c = 39 ∧ k = x) → b'.1 c 0 k = b.1 c 0 k) (h : a'.1 13 0 x = b'.1 40 0 x ∧ (b'.1 40 0 x = 0 ∨ b'.1 40 0 x = 1) ∧ (b'.1 40 0 x = 1 → a'.1 14 0 x = b'.1 39 0 x ∧ ∀ t, t < T → (b.1 24 0 t = 2 ∨ b.1 24 0 t = 3) → ¬ b.1 36 0 t = nI x)) : Z a' b' ρ T P C N δ rr L := by
  refine ⟨z.pg.cg (ea _ _ _ (by omega) (by omega)) (fun k => ea _ _ _ (by omega) (by omega)) (fun i k => ea _ _ _ (by omega) (by omega)) (fun i k => ea _ _ _ (by omega) (by omega)) (eb _ _ (by omega) (by omega)) (fun k => eb _ _ (by omega) (by omega)) (fun k => eb _ _ (by omega) (by omega)) (fun k => eb _ _ (by omega) (by omega)),
    z.gl.cg (fun k _ _ => ea _ _ _ (by omega) (by omega)) (fun k hk => eb _ _ (by omega) (by omega)), fun s hs => ?_, fun y hy => ?_, ⟨(ea _ _ _ (by omega) (by omega)).trans z.rw.1, (eb _ _ (by omega) (by omega)).trans z.rw.2.1, z.rw.2.2.1, fun k hk => ?_⟩, fun s hs k hk => ?_, fun s hs => ?_, z.xq.cg (ea _ _ _ (by omega) (by omega)) (ea _ _ _ (by omega) (by omega)) e2 (fun s _ => ea _ _ _ (by omega) (by omega)), z.iq.cg (eb _ _ (by omega) (by omega)) (eb _ _ (by omega) (by omega)) (funext fun j => eb _ _ (by omega) (by omega)) (fun s _ => eb _ _ (by omega) (by omega))⟩
  · exact (z.th s hs).cg (fun k => ea _ _ _ (by omega) (by omega)) (fun k => ea _ _ _ (by omega) (by omega)) (fun c _ _ _ _ => eb _ _ (by omega) (by omega)) (fun k hk => eb _ _ (by omega) (by omega)) (fun k hk => eb _ _ (by omega) (by omega))
  · have e24 : ∀ t, b'.1 24 0 t = b.1 24 0 t := fun t => eb _ _ (by omega) (by omega)
    have e36 : ∀ t, b'.1 36 0 t = b.1 36 0 t := fun t => eb _ _ (by omega) (by omega)
    by_cases e : y = x
    · subst e
      refine ⟨h.1, h.2.1, fun q => ⟨(h.2.2 q).1, fun t ht hst => ?_⟩⟩
      rw [e24] at hst
      rw [e36]
      exact (h.2.2 q).2 t ht hst
    · rw [ea 13 0 y (by omega) (by omega), eb 40 y (by omega) (by omega), ea 14 0 y (by omega) (by omega), eb 39 y (by omega) (by omega)]
      refine ⟨(z.bx y hy).1, (z.bx y hy).2.1, fun q => ⟨((z.bx y hy).2.2 q).1, fun t ht hst => ?_⟩⟩
      rw [e24] at hst
      rw [e36]
      exact ((z.bx y hy).2.2 q).2 t ht hst
  · rw [ea 16 0 k (by omega) (by omega), ea 17 0 k (by omega) (by omega), eb 41 k (by omega) (by omega), eb 42 k (by omega) (by omega)]
    exact z.rw.2.2.2 k hk
  · rw [ea 8 s k (by omega) (by omega), eb 29 (4 * s + k) (by omega) (by omega)]
    exact z.hd s hs k hk
  · rw [ea 7 s 0 (by omega) (by omega)]; exact z.nu s hs
theorem Zbox1 (z : Z a b ρ T P C N δ rr L) (hx : x < 8) (v : Int32) (hn : ∀ t, t < T → (b.1 24 0 t = 2 ∨ b.1 24 0 t = 3) → ¬ b.1 36 0 t = nI x) : Z (put (put a 13 0 x 1) 14 0 x v) (put (put b 40 0 x 1) 39 0 x v) ρ T P C N δ rr L :=
  Zbox z hx (fun c i k q1 q2 => (put_ne (by omega)).trans (put_ne (by omega))) rfl (fun c k q1 q2 => (put_ne (by omega)).trans (put_ne (by omega))) ⟨by simp [put_rd], Or.inr (by simp [put_rd]), fun _ => ⟨by simp [put_rd], hn⟩⟩
theorem Zbox0 (z : Z a b ρ T P C N δ rr L) (hx : x < 8) : Z (put a 13 0 x 0) (put b 40 0 x 0) ρ T P C N δ rr L :=
  Zbox z hx (fun c i k q1 q2 => put_ne (by omega)) rfl (fun c k q1 q2 => put_ne (by omega)) ⟨by simp [put_rd], Or.inl (by simp [put_rd]), fun q => by simp [put_rd] at q⟩
theorem Zcom2 (z : Z a b ρ T P C N δ rr L) (hx : x < 8) (hr : ∀ r, ρ = some r → b.1 24 0 r = 0) (h3 : mFirst b T (nI x) 3 = none) : ∃ L', Z (xCom2 a T x v) (mCom2 b T x v) ρ T P C N δ rr L' := by
  have hf : xFirst a T (nI x) 2 = mFirst b T (nI x) 2 := Zfirst z hx (w := 2) (by omega) (by omega)
  cases e : mFirst b T (nI x) 2 with
  | none =>
    have e1 : xCom2 a T x v = put (put a 13 0 x 1) 14 0 x v := by unfold xCom2; rw [hf.trans e]
    have e2 : mCom2 b T x v = put (put b 40 0 x 1) 39 0 x v := by unfold mCom2; rw [e]
    rw [e1, e2]
    exact ⟨L, Zbox1 z hx v (fun t ht hst => hst.elim (mFirst_no e ht) (mFirst_no h3 ht))⟩
  | some t =>
    have e1 : xCom2 a T x v = xReady (put a 7 t 6 v) t := by unfold xCom2; rw [hf.trans e]
    have e2 : mCom2 b T x v = mGo (put b 27 0 t v) t := by unfold mCom2; rw [e]
    rw [e1, e2]
    exact ⟨_, Zgov z (w := 2) (by omega) (by omega) e hr⟩
theorem Zbring (z : Z a b ρ T P C N δ rr L) (hx : x < 8) (hr : ∀ r, ρ = some r → b.1 24 0 r = 0) : ∃ L', Z (xBring a T x v) (mComes b T x v) ρ T P C N δ rr L' := by
  obtain ⟨⟨L1, z1⟩, hr1⟩ := Zrd (v := v) hx 24 a b L z hr
  exact Zcom2 z1 hx hr1 (mRd_done hx 24 b (Nat.le_trans (cnt_le _ T) z.xq.2.1))
/-- a box with a value is taken from: the first that waits to put brings the next -/
theorem Ztaken (z : Z a b ρ T P C N δ rr L) (hx : x < 8) (hr : ∀ r, ρ = some r → b.1 24 0 r = 0) (hf : b.1 40 0 x = 1) : ∃ L', Z (match xFirst (put a 13 0 x 0) T (nI x) 1 with | none => put a 13 0 x 0 | some u => xReady (put (put (put a 13 0 x 0) 13 0 x 1) 14 0 x (a.1 7 u 6)) u) (mTaken b T x) ρ T P C N δ rr L' := by
  have z0 := Zbox0 z hx
  have hno := ((z.bx x hx).2.2 hf).2
  have h1 := Zfirst z0 hx (w := 1) (by omega) (by omega)
  have h1' : xFirst (put a 13 0 x 0) T (nI x) 1 = mFirst (put b 40 0 x 0) T (nI x) 1 := h1
  rw [h1']
  unfold mTaken
  cases e : mFirst (put b 40 0 x 0) T (nI x) 1 with
  | none => exact ⟨L, z0⟩
  | some u =>
    have hs := mFirst_st e
    have hs1 : b.1 24 0 u = 1 := hs.2.1
    have hu0 : ¬ (put b 40 0 x 0).1 24 0 u = 0 := by show ¬ b.1 24 0 u = 0; rw [hs1]; decide
    have z1 := Zgo0 z0 hs.1 hu0 (by show ¬ b.1 24 0 u = 4; rw [hs1]; decide) (by show b.1 24 0 u < 5; rw [hs1]; decide) (fun q => hu0 (hr u q))
    have hn1 : ∀ t, t < T → ((mGo (put b 40 0 x 0) u).1 24 0 t = 2 ∨ (mGo (put b 40 0 x 0) u).1 24 0 t = 3) → ¬ (mGo (put b 40 0 x 0) u).1 36 0 t = nI x := by
      intro t ht hst
      by_cases eu : t = u
      · rw [mGo_st, if_pos eu] at hst
        exact absurd hst (by decide)
      · rw [mGo_st, if_neg eu] at hst
        rw [mGo_wa, if_neg eu]
        exact hno t ht hst
    have f3 : mFirst (mGo (put b 40 0 x 0) u) T (nI x) 3 = none := mins_no (fun j hj => by
      cases q : (decide ((mGo (put b 40 0 x 0) u).1 24 0 j = 3) && decide ((mGo (put b 40 0 x 0) u).1 36 0 j = nI x)) with
      | false => rfl
      | true =>
        have q2 := Bool.and_eq_true_iff.mp q
        exact absurd (of_decide_eq_true q2.2) (hn1 j hj (Or.inr (of_decide_eq_true q2.1))))
    have f2 : mFirst (mGo (put b 40 0 x 0) u) T (nI x) 2 = none := mins_no (fun j hj => by
      cases q : (decide ((mGo (put b 40 0 x 0) u).1 24 0 j = 2) && decide ((mGo (put b 40 0 x 0) u).1 36 0 j = nI x)) with
      | false => rfl
      | true =>
        have q2 := Bool.and_eq_true_iff.mp q
        exact absurd (of_decide_eq_true q2.2) (hn1 j hj (Or.inl (of_decide_eq_true q2.1))))
    have e3 : mComes (mGo (put b 40 0 x 0) u) T x (b.1 27 0 u) = put (put (mGo (put b 40 0 x 0) u) 40 0 x 1) 39 0 x (b.1 27 0 u) := by
      unfold mComes
      rw [mRd_none f3]
      unfold mCom2
      rw [f2]
    have ev : a.1 7 u 6 = b.1 27 0 u := by
      obtain ⟨s, p, m, hc, pc, -, -, -, -, -, -, h6, -⟩ := z.th u hs.1
      exact h6
    have z2 := Zbox1 z1 hx (b.1 27 0 u) hn1
    refine ⟨L ++ [u], ?_⟩
    show Z (xReady (put (put (put a 13 0 x 0) 13 0 x 1) 14 0 x (a.1 7 u 6)) u) (mComes (mGo (put b 40 0 x 0) u) T x (b.1 27 0 u)) ρ T P C N δ rr (L ++ [u])
    rw [e3]
    have ex : xReady (put (put (put a 13 0 x 0) 13 0 x 1) 14 0 x (a.1 7 u 6)) u = put (put (xReady (put a 13 0 x 0) u) 13 0 x 1) 14 0 x (b.1 27 0 u) := by
      rw [ev]
      refine Prod.ext (funext fun c => funext fun i => funext fun k => ?_) rfl
      by_cases c10 : c = 10
      · subst c10; simp [xReady, xAdd, putq, put_rd]
      · by_cases c13 : c = 13
        · subst c13; simp [xReady, xAdd, putq, put_rd]
        · by_cases c14 : c = 14
          · subst c14; simp [xReady, xAdd, putq, put_rd]
          · simp [xReady, xAdd, putq, put_rd, c10, c13, c14]
    rw [ex]
    exact z2
end ZB
