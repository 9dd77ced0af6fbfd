/-! The queue as a list: the reference's and the class's -/
def neb (t : Nat) : Nat → Bool := fun s => !(s == t)
theorem neb_eq {t : Nat} : neb t t = false := by simp [neb]
theorem neb_ne {t s : Nat} (h : s ≠ t) : neb t s = true := by simp [neb, h]
/-- the same but for the queue's rows and length -/
def offQ (b b' : tH) : Prop := (∀ c i k, c ≠ 38 → ¬ (c = 20 ∧ i = 0 ∧ k = 27) → b'.1 c i k = b.1 c i k) ∧ b'.2 = b.2
theorem mLvL_spec {t : Nat} (ht : t < 2 ^ 31) : ∀ (S K : List Nat) (k : Nat) (b : tH), K.length ≤ k → (∀ j s, K[j]? = some s → b.1 38 0 j = nI s) → (∀ j s, S[j]? = some s → b.1 38 0 (k + j) = nI s) → (∀ s ∈ S, s < 2 ^ 31) →
    (mLvL t S.length K.length k b).1 20 0 27 = nI (K ++ S.filter (neb t)).length ∧ (∀ j s, (K ++ S.filter (neb t))[j]? = some s → (mLvL t S.length K.length k b).1 38 0 j = nI s) ∧ offQ b (mLvL t S.length K.length k b) := by
  intro S
  induction S with
  | nil =>
    intro K k b hk h1 h2 h3
    have e : mLvL t ([] : List Nat).length K.length k b = put b 20 0 27 (nI K.length) := rfl
    rw [e]
    refine ⟨by rw [put_eq]; simp, fun j s hj => ?_, fun c i k' hc hn => put_ne (fun z => hn z), rfl⟩
    rw [put_ne (by omega)]
    exact h1 j s (by simpa using hj)
  | cons x S ih =>
    intro K k b hk h1 h2 h3
    have hx : b.1 38 0 k = nI x := h2 0 x rfl
    have hx3 : x < 2 ^ 31 := h3 x List.mem_cons_self
    by_cases hxt : x = t
    · subst hxt
      have e : mLvL x (x :: S).length K.length k b = mLvL x S.length K.length (k + 1) b := if_pos hx
      have ef : (x :: S).filter (neb x) = S.filter (neb x) := by rw [List.filter_cons, neb_eq]; simp
      rw [e, ef]
      exact ih K (k + 1) b (by omega) h1 (fun j s hj => by have := h2 (j + 1) s (by simpa using hj); rw [show k + 1 + j = k + (j + 1) by omega]; exact this) (fun s hs => h3 s (List.mem_cons_of_mem _ hs))
    · have hne : ¬ b.1 38 0 k = nI t := by
        rw [hx]
        exact fun z => hxt ((nI_eq hx3 ht).mp z)
      have e : mLvL t (x :: S).length K.length k b = mLvL t S.length (K ++ [x]).length (k + 1) (put b 38 0 K.length (b.1 38 0 k)) := by
        rw [show (K ++ [x]).length = K.length + 1 by simp]
        exact if_neg hne
      have ef : K ++ (x :: S).filter (neb t) = (K ++ [x]) ++ S.filter (neb t) := by rw [List.filter_cons, neb_ne hxt]; simp
      rw [e, ef]
      obtain ⟨r1, r2, r3, r4⟩ := ih (K ++ [x]) (k + 1) (put b 38 0 K.length (b.1 38 0 k)) (by simp; omega)
        (fun j s hj => by
          by_cases hjk : j = K.length
          · subst hjk
            rw [put_eq, hx]
            simp at hj
            rw [hj]
          · rw [put_ne (by omega)]
            refine h1 j s ?_
            rcases Nat.lt_or_ge j K.length with q | q
            · rwa [List.getElem?_append_left q] at hj
            · rw [List.getElem?_append_right q] at hj
              have hz : j - K.length < 1 := (List.getElem?_eq_some_iff.mp hj).1
              omega)
        (fun j s hj => by
          rw [put_ne (by omega), show k + 1 + j = k + (j + 1) by omega]
          exact h2 (j + 1) s (by simpa using hj))
        (fun s hs => h3 s (List.mem_cons_of_mem _ hs))
      refine ⟨r1, r2, fun c i k' hc hn => ?_, r4⟩
      rw [r3 c i k' hc hn, put_ne (by omega)]
/-- what the class's part is the same in -/
def offL (a a' : tH) : Prop := ∀ c i k, ¬ (c = 10 ∧ i = 0 ∧ k = 1) → a'.1 c i k = a.1 c i k
theorem xRmL_spec {t : Nat} : ∀ (S K : List Nat) (k : Nat) (a : tH), K.length ≤ k → (∀ j s, K[j]? = some s → a.2 j = some s) → (∀ j s, S[j]? = some s → a.2 (k + j) = some s) → okq a →
    (xRmL t S.length K.length k a).1 10 0 1 = nI (K ++ S.filter (neb t)).length ∧ (∀ j s, (K ++ S.filter (neb t))[j]? = some s → (xRmL t S.length K.length k a).2 j = some s) ∧ offL a (xRmL t S.length K.length k a) ∧ okq (xRmL t S.length K.length k a) := by
  intro S
  induction S with
  | nil =>
    intro K k a hk h1 h2 h3
    have e : xRmL t ([] : List Nat).length K.length k a = put a 10 0 1 (nI K.length) := rfl
    rw [e]
    exact ⟨by rw [put_eq]; simp, fun j s hj => h1 j s (by simpa using hj), fun c i k' hn => put_ne (fun z => hn z), h3⟩
  | cons x S ih =>
    intro K k a hk h1 h2 h3
    have hx : a.2 k = some x := h2 0 x rfl
    by_cases hxt : x = t
    · subst hxt
      have e : xRmL x (x :: S).length K.length k a = xRmL x S.length K.length (k + 1) a := if_pos hx
      have ef : (x :: S).filter (neb x) = S.filter (neb x) := by rw [List.filter_cons, neb_eq]; simp
      rw [e, ef]
      exact ih K (k + 1) a (by omega) h1 (fun j s hj => by have := h2 (j + 1) s (by simpa using hj); rw [show k + 1 + j = k + (j + 1) by omega]; exact this) h3
    · have hne : ¬ a.2 k = some t := by
        rw [hx]
        exact fun z => hxt (Option.some.inj z)
      have e : xRmL t (x :: S).length K.length k a = xRmL t S.length (K ++ [x]).length (k + 1) (putq a K.length (a.2 k)) := by
        rw [show (K ++ [x]).length = K.length + 1 by simp]
        exact if_neg hne
      have ef : K ++ (x :: S).filter (neb t) = (K ++ [x]) ++ S.filter (neb t) := by rw [List.filter_cons, neb_ne hxt]; simp
      rw [e, ef]
      have pq : ∀ j, (putq a K.length (a.2 k)).2 j = if j = K.length then a.2 k else a.2 j := fun j => rfl
      obtain ⟨r1, r2, r3, r4⟩ := ih (K ++ [x]) (k + 1) (putq a K.length (a.2 k)) (by simp; omega)
        (fun j s hj => by
          by_cases hjk : j = K.length
          · subst hjk
            rw [pq, if_pos rfl, hx]
            simp at hj
            rw [hj]
          · rw [pq, if_neg hjk]
            refine h1 j s ?_
            rcases Nat.lt_or_ge j K.length with q | q
            · rwa [List.getElem?_append_left q] at hj
            · rw [List.getElem?_append_right q] at hj
              have hz : j - K.length < 1 := (List.getElem?_eq_some_iff.mp hj).1
              omega)
        (fun j s hj => by
          rw [pq, if_neg (by omega), show k + 1 + j = k + (j + 1) by omega]
          exact h2 (j + 1) s (by simpa using hj))
        (okq_put h3 (h3 k))
      exact ⟨r1, r2, fun c i k' hn => r3 c i k' hn, r4⟩
/-- a list without repetition of numbers below n is no longer than n -/
theorem nodup_len : ∀ (n : Nat) (L : List Nat), L.Nodup → (∀ t ∈ L, t < n) → L.length ≤ n
  | 0, L, _, h => by
    cases L with
    | nil => exact Nat.le_refl 0
    | cons x L => exact absurd (h x List.mem_cons_self) (Nat.not_lt_zero x)
  | n + 1, L, hd, h => by
    have h1 := nodup_len n (L.filter (neb n)) (hd.filter _) (fun t ht => by
      have hm := List.mem_filter.mp ht
      have := h t hm.1
      have hne : t ≠ n := fun e => by rw [e, neb_eq] at hm; cases hm.2
      omega)
    have h2 : L.length ≤ (L.filter (neb n)).length + 1 := by
      clear h1 h
      induction L with
      | nil => simp
      | cons x L ih =>
        have hd' := List.nodup_cons.mp hd
        by_cases hx : x = n
        · subst hx
          have : L.filter (neb x) = L := List.filter_eq_self.mpr (fun s hs => neb_ne (fun e => hd'.1 (by rw [← e]; exact hs)))
          rw [List.filter_cons, neb_eq]
          simp [this]
        · rw [List.filter_cons, neb_ne hx]
          have := ih hd'.2
          simp
          omega
    omega
def IQ (b : tH) (ρ : Option Nat) (T : Nat) (L : List Nat) : Prop := b.1 20 0 11 = nI T ∧ T ≤ 24 ∧ b.1 20 0 27 = nI L.length ∧ (∀ j s, L[j]? = some s → b.1 38 0 j = nI s) ∧ L.Nodup ∧ ∀ t ∈ L, t < T ∧ b.1 24 0 t = 0 ∧ ρ ≠ some t
theorem IQ.len {b : tH} {ρ : Option Nat} {T : Nat} {L : List Nat} (h : IQ b ρ T L) : L.length ≤ 24 := Nat.le_trans (nodup_len T L h.2.2.2.2.1 (fun t ht => (h.2.2.2.2.2 t ht).1)) h.2.1
theorem IQ.lenr {b : tH} {T r : Nat} {L : List Nat} (h : IQ b (some r) T L) (hr : r < T) : L.length < 24 := by
  have h1 := nodup_len T (L ++ [r]) (by
    refine List.nodup_append.mpr ⟨h.2.2.2.2.1, by simp, fun x hx y hy => ?_⟩
    simp at hy
    subst hy
    exact fun e => (h.2.2.2.2.2 x hx).2.2 (by rw [e])) (fun t ht => by
    rcases List.mem_append.mp ht with q | q
    · exact (h.2.2.2.2.2 t q).1
    · simp at q; rw [q]; exact hr)
  have h2 := h.2.1
  simp at h1
  omega
theorem IQ.lenn {b : tH} {ρ : Option Nat} {T t : Nat} {L : List Nat} (h : IQ b ρ T L) (ht : t < T) (hn : t ∉ L) : L.length < 24 := by
  have h1 := nodup_len T (L ++ [t]) (by
    refine List.nodup_append.mpr ⟨h.2.2.2.2.1, by simp, fun x hx y hy => ?_⟩
    simp at hy
    subst hy
    exact fun e => hn (by rw [← e]; exact hx)) (fun s hs => by
    rcases List.mem_append.mp hs with q | q
    · exact (h.2.2.2.2.2 s q).1
    · simp at q; rw [q]; exact ht)
  have h2 := h.2.1
  simp at h1
  omega
theorem IQ.cg {b b' : tH} {ρ : Option Nat} {T : Nat} {L : List Nat} (h : IQ b ρ T L) (e1 : b'.1 20 0 11 = b.1 20 0 11) (e2 : b'.1 20 0 27 = b.1 20 0 27) (e3 : b'.1 38 0 = b.1 38 0) (e4 : ∀ t ∈ L, b'.1 24 0 t = b.1 24 0 t) : IQ b' ρ T L :=
  ⟨e1.trans h.1, h.2.1, e2.trans h.2.2.1, fun j s hj => by rw [e3]; exact h.2.2.2.1 j s hj, h.2.2.2.2.1, fun t ht => ⟨(h.2.2.2.2.2 t ht).1, by rw [e4 t ht]; exact (h.2.2.2.2.2 t ht).2.1, (h.2.2.2.2.2 t ht).2.2⟩⟩
theorem IQ.st {b : tH} {ρ : Option Nat} {T t : Nat} {L : List Nat} {x : Int32} (h : IQ b ρ T L) (hn : t ∉ L) : IQ (put b 24 0 t x) ρ T L :=
  h.cg rfl rfl rfl (fun s hs => put_ne (fun z => hn (by rw [← z.2.2]; exact hs)))
theorem IQ.notin {b : tH} {ρ : Option Nat} {T t : Nat} {L : List Nat} (h : IQ b ρ T L) (hs : b.1 24 0 t ≠ 0) : t ∉ L := fun z => hs (h.2.2.2.2.2 t z).2.1
theorem IQ.notrun {b : tH} {T t : Nat} {L : List Nat} (h : IQ b (some t) T L) : t ∉ L := fun z => (h.2.2.2.2.2 t z).2.2 rfl
theorem IQ.enq {b : tH} {ρ : Option Nat} {T t : Nat} {L : List Nat} (h : IQ b ρ T L) (ht : t < T) (hn : t ∉ L) (hρ : ρ ≠ some t) : IQ (mEnq b t) ρ T (L ++ [t]) := by
  have hl := h.len
  obtain ⟨h1, h2, h3, h4, h5, h6⟩ := h
  have e0 : nv (b.1 20 0 27) = L.length := by rw [h3, nv_nI (by omega)]
  unfold mEnq
  rw [e0, h3, nI_1]
  refine ⟨h1, h2, by rw [put_eq]; simp, fun j s hj => ?_, ?_, fun s hs => ?_⟩
  · rw [put_ne (by omega)]
    by_cases hjl : j = L.length
    · subst hjl
      rw [put_eq]
      simp at hj
      rw [hj]
    · rw [put_ne (by omega), put_ne (by omega)]
      refine h4 j s ?_
      rcases Nat.lt_or_ge j L.length with q | q
      · rwa [List.getElem?_append_left q] at hj
      · rw [List.getElem?_append_right q] at hj
        have hz : j - L.length < 1 := (List.getElem?_eq_some_iff.mp hj).1
        omega
  · refine List.nodup_append.mpr ⟨h5, by simp, fun x hx y hy => ?_⟩
    simp at hy
    subst hy
    exact fun e => hn (by rw [← e]; exact hx)
  · rw [put_ne (by omega), put_ne (by omega)]
    rcases List.mem_append.mp hs with q | q
    · have := h6 s q
      refine ⟨this.1, ?_, this.2.2⟩
      by_cases e : s = t
      · rw [e, put_eq]
      · rw [put_ne (by omega)]; exact this.2.1
    · simp at q
      subst q
      exact ⟨ht, put_eq, hρ⟩
theorem IQ.leave {b : tH} {ρ : Option Nat} {T t : Nat} {L : List Nat} (h : IQ b ρ T L) (ht : t < 24) : IQ (mLeave b t) ρ T (L.filter (neb t)) ∧ offQ b (mLeave b t) := by
  have hl := h.len
  obtain ⟨h1, h2, h3, h4, h5, h6⟩ := h
  have e0 : mLeave b t = mLvL t L.length ([] : List Nat).length 0 b := by unfold mLeave; rw [h3, nv_nI (by omega)]; rfl
  obtain ⟨r1, r2, r3⟩ := mLvL_spec (t := t) (by omega) L [] 0 b (by simp) (fun j s hj => by simp at hj) (fun j s hj => by rw [Nat.zero_add]; exact h4 j s hj) (fun s hs => by have := (h6 s hs).1; omega)
  rw [e0]
  refine ⟨⟨(r3.1 20 0 11 (by omega) (by omega)).trans h1, h2, by simpa using r1, fun j s hj => r2 j s (by simpa using hj), h5.filter _, fun s hs => ?_⟩, r3⟩
  have hm := (List.mem_filter.mp hs).1
  exact ⟨(h6 s hm).1, (r3.1 24 0 s (by omega) (by omega)).trans (h6 s hm).2.1, (h6 s hm).2.2⟩
theorem IQ.ro {b : tH} {ρ : Option Nat} {T : Nat} {L : List Nat} (h : IQ b ρ T L) {ρ' : Option Nat} (hr : ∀ t ∈ L, ρ' ≠ some t) : IQ b ρ' T L := ⟨h.1, h.2.1, h.2.2.1, h.2.2.2.1, h.2.2.2.2.1, fun t ht => ⟨(h.2.2.2.2.2 t ht).1, (h.2.2.2.2.2 t ht).2.1, hr t ht⟩⟩
