/-! Leaves of the class with loops -/
theorem i11 {p q : Prop} [Decidable p] [Decidable q] : ((if p then if q then (1 : Int32) else 0 else 0) = 0) = ¬ (p ∧ q) := by
  by_cases hp : p
  · by_cases hq : q
    · simp only [hp, hq, if_true, and_self, not_true]; exact propext ⟨fun h => absurd h (by decide), fun h => h.elim⟩
    · simp only [hp, hq, if_true, if_false, and_false, not_false_iff]
  · simp only [hp, if_false, false_and, not_false_iff]
def xRmL (t : Nat) : Nat → Nat → Nat → tH → tH
  | 0, n, _, a => put a 10 0 1 (nI n)
  | m + 1, n, k, a => if a.2 k = some t then xRmL t m n (k + 1) a else xRmL t m (n + 1) (k + 1) (putq a n (a.2 k))
def xRemove (a : tH) (t : Nat) : tH := xRmL t (nv (a.1 10 0 1)) 0 0 a
def okq (a : tH) : Prop := ∀ j s : Nat, a.2 j = some s → s < 24
theorem okq_put {a : tH} {n : Nat} {r : Option Nat} (h : okq a) (hr : ∀ s, r = some s → s < 24) : okq (putq a n r) := by
  intro j s e
  by_cases hj : j = n
  · exact hr s (by simpa [putq, hj] using e)
  · exact h j s (by simpa [putq, hj] using e)
theorem okr_map {r : Option Nat} (hr : ∀ s, r = some s → s < 24) : okr (r.map (fun t => (7, t))) := by
  intro q hq
  cases r with
  | none => cases hq
  | some s => cases hq; exact hr s rfl
def xFirst (a : tH) (T : Nat) (x w : Int32) : Option Nat := mins (fun t => decide (a.1 7 t 3 = w) && decide (a.1 7 t 13 = x)) (fun t => a.1 7 t 14) T
def xDelayed (a : tH) (T : Nat) : Option Nat := mins (fun t => decide (a.1 7 t 3 = 4)) (fun t => a.1 7 t 12) T
def toF (r : Option Nat) : Option (Nat × Nat) := r.map (fun t => (7, t))

set_option maxHeartbeats 4000000 in
set_option maxRecDepth 100000 in
theorem c_X1_takeEldest {a b : tH} {t n : Nat} (ht : t < 24) (hn : a.1 7 t 8 = nI (n + 1)) (h4 : n < 4) : Ci yX1_takeEldest cX1_takeEldest 3 .int 0 [.inr (some (7, t))] (mix a b) (a.1 9 t 0) (mix (put (put (put (put a 9 t 0 (a.1 9 t 1)) 9 t 1 (a.1 9 t 2)) 9 t 2 (a.1 9 t 3)) 7 t 8 (nI n)) b) := by
  refine Ct.of (by decide) [_, _, _] rfl (Nat.le_of_ble_eq_true rfl) ?_
  refine v_aload_n dX1_takeEldest_0 rfl ?_
  refine v_gr t fX1_15 dX1_takeEldest_1 rfl rfl rfl ht ?_
  refine v_iconst 0 dX1_takeEldest_4 (by decide) ?_
  refine x_iald 0 (by decide) rfl dX1_takeEldest_5 ht (by decide) (by decide) ?_
  refine v_istore_n [_, _, _] dX1_takeEldest_6 rfl (by decide) ?_
  refine v_iconst 1 dX1_takeEldest_7 (by decide) ?_
  refine v_istore_n [_, _, _] dX1_takeEldest_8 rfl (by decide) ?_
  refine v_iload_n dX1_takeEldest_9 rfl ?_
  refine v_iconst 4 dX1_takeEldest_10 (by decide) ?_
  refine v_icmp_ge 34 dX1_takeEldest_11 (by decide) (fun h_11 => absurd h_11 (by decide)) (fun h_11 => ?_)
  refine v_aload_n dX1_takeEldest_14 rfl ?_
  refine v_gr t fX1_15 dX1_takeEldest_15 rfl rfl rfl ht ?_
  refine v_iload_n dX1_takeEldest_18 rfl ?_
  refine v_iconst 1 dX1_takeEldest_19 (by decide) ?_
  refine v_isub dX1_takeEldest_20 ?_
  refine v_aload_n dX1_takeEldest_21 rfl ?_
  refine v_gr t fX1_15 dX1_takeEldest_22 rfl rfl rfl ht ?_
  refine v_iload_n dX1_takeEldest_25 rfl ?_
  refine x_iald 1 (by decide) rfl dX1_takeEldest_26 ht (by decide) (by decide) ?_
  refine x_iast 0 (by decide) rfl dX1_takeEldest_27 ht (by decide) (by decide) ?_
  refine v_iinc [_, _, _] dX1_takeEldest_28 rfl (by first | exact inc1 _ | rfl) rfl (by decide) ?_
  refine v_goto 9 dX1_takeEldest_31 (by decide) ?_
  refine v_iload_n dX1_takeEldest_9 rfl ?_
  refine v_iconst 4 dX1_takeEldest_10 (by decide) ?_
  refine v_icmp_ge 34 dX1_takeEldest_11 (by decide) (fun h_11_1 => absurd h_11_1 (by decide)) (fun h_11_1 => ?_)
  refine v_aload_n dX1_takeEldest_14 rfl ?_
  refine v_gr t fX1_15 dX1_takeEldest_15 rfl rfl rfl ht ?_
  refine v_iload_n dX1_takeEldest_18 rfl ?_
  refine v_iconst 1 dX1_takeEldest_19 (by decide) ?_
  refine v_isub dX1_takeEldest_20 ?_
  refine v_aload_n dX1_takeEldest_21 rfl ?_
  refine v_gr t fX1_15 dX1_takeEldest_22 rfl rfl rfl ht ?_
  refine v_iload_n dX1_takeEldest_25 rfl ?_
  refine x_ialk 2 (put_ne (by omega)) (by decide) rfl dX1_takeEldest_26 ht (by decide) (by decide) ?_
  refine x_iast 1 (by decide) rfl dX1_takeEldest_27 ht (by decide) (by decide) ?_
  refine v_iinc [_, _, _] dX1_takeEldest_28 rfl (by first | exact inc1 _ | rfl) rfl (by decide) ?_
  refine v_goto 9 dX1_takeEldest_31 (by decide) ?_
  refine v_iload_n dX1_takeEldest_9 rfl ?_
  refine v_iconst 4 dX1_takeEldest_10 (by decide) ?_
  refine v_icmp_ge 34 dX1_takeEldest_11 (by decide) (fun h_11_2 => absurd h_11_2 (by decide)) (fun h_11_2 => ?_)
  refine v_aload_n dX1_takeEldest_14 rfl ?_
  refine v_gr t fX1_15 dX1_takeEldest_15 rfl rfl rfl ht ?_
  refine v_iload_n dX1_takeEldest_18 rfl ?_
  refine v_iconst 1 dX1_takeEldest_19 (by decide) ?_
  refine v_isub dX1_takeEldest_20 ?_
  refine v_aload_n dX1_takeEldest_21 rfl ?_
  refine v_gr t fX1_15 dX1_takeEldest_22 rfl rfl rfl ht ?_
  refine v_iload_n dX1_takeEldest_25 rfl ?_
  refine x_ialk 3 ((put_ne (by omega)).trans (put_ne (by omega))) (by decide) rfl dX1_takeEldest_26 ht (by decide) (by decide) ?_
  refine x_iast 2 (by decide) rfl dX1_takeEldest_27 ht (by decide) (by decide) ?_
  refine v_iinc [_, _, _] dX1_takeEldest_28 rfl (by first | exact inc1 _ | rfl) rfl (by decide) ?_
  refine v_goto 9 dX1_takeEldest_31 (by decide) ?_
  refine v_iload_n dX1_takeEldest_9 rfl ?_
  refine v_iconst 4 dX1_takeEldest_10 (by decide) ?_
  refine v_icmp_ge 34 dX1_takeEldest_11 (by decide) (fun h_11_3 => ?_) (fun h_11_3 => absurd (by decide) h_11_3)
  refine v_aload_n dX1_takeEldest_34 rfl ?_
  refine x_gk (by exact hn) (by decide) fX1_34 dX1_takeEldest_35 rfl rfl ht ?_
  refine v_if_le 51 dX1_takeEldest_38 (by decide) (fun h_38 => absurd h_38 (nI_nle (n := n + 1) (by omega) (by omega))) (fun h_38 => ?_)
  refine v_aload_n dX1_takeEldest_41 rfl ?_
  refine v_dup dX1_takeEldest_42 ?_
  refine x_gk (by exact hn) (by decide) fX1_34 dX1_takeEldest_43 rfl rfl ht ?_
  refine v_iconst 1 dX1_takeEldest_46 (by decide) ?_
  refine v_isub dX1_takeEldest_47 ?_
  rw [nI_pred]
  refine x_pi (by decide) fX1_34 dX1_takeEldest_48 rfl rfl ht ?_
  refine v_iload_n dX1_takeEldest_51 rfl ?_
  exact v_iret dX1_takeEldest_52 ⟨rfl, rfl⟩
set_option maxHeartbeats 4000000 in
set_option maxRecDepth 100000 in
theorem l_X2_remove {b : tH} {t : Nat} (ht : t < 24) : ∀ (m n k q : Nat) (a : tH), q = k + m → n ≤ k → q ≤ 24 → a.1 10 0 1 = nI q → okq a → Vw yX2_remove.cls cX2_remove 4 none 0 (fun r h' => r = none ∧ h' = mix (xRmL t m n k a) b) 4 [some (.inr (some (10, 0))), some (.inr (some (7, t))), some (.inl (nI n)), some (.inl (nI k))] [] (mix a b) := by
  intro m
  induction m with
  | zero =>
    intro n k q a hk hn h24 hq hok
    obtain rfl : q = k := hk
    refine v_iload_n dX2_remove_4 rfl ?_
    refine v_aload_n dX2_remove_5 rfl ?_
    refine x_gk hq (by decide) fX2_17 dX2_remove_6 rfl rfl Nat.zero_lt_one ?_
    refine v_icmp_ge 43 dX2_remove_9 (by decide) (fun h_9 => ?_) (fun h_9 => absurd (Int32.le_refl _) h_9)
    refine v_aload_n dX2_remove_43 rfl ?_
    refine v_iload_n dX2_remove_44 rfl ?_
    refine x_pi (by decide) fX2_17 dX2_remove_45 rfl rfl Nat.zero_lt_one ?_
    exact v_vret dX2_remove_48 ⟨rfl, rfl⟩
  | succ m ih =>
    intro n k q a hk hn h24 hq hok
    refine v_iload_n dX2_remove_4 rfl ?_
    refine v_aload_n dX2_remove_5 rfl ?_
    refine x_gk hq (by decide) fX2_17 dX2_remove_6 rfl rfl Nat.zero_lt_one ?_
    refine v_icmp_ge 43 dX2_remove_9 (by decide) (fun h_9 => absurd h_9 (nI_ge (by omega) (by omega))) (fun h_9 => ?_)
    refine v_aload_n dX2_remove_12 rfl ?_
    refine v_gr 0 fX2_11 dX2_remove_13 rfl rfl rfl Nat.zero_lt_one ?_
    refine v_iload_n dX2_remove_16 rfl ?_
    refine x_aaldQ k dX2_remove_17 rfl (by omega) ?_
    refine v_aload_n dX2_remove_18 rfl ?_
    refine v_acmpeq 37 dX2_remove_19 (by decide) (okr_map (hok k)) (fun z e => by cases e; exact ht) (fun h_19 => ?_) (fun h_19 => ?_)
    · refine v_iinc [_, _, _, _] dX2_remove_37 rfl (by first | exact inc1 _ | rfl) rfl (by decide) ?_
      refine v_goto 4 dX2_remove_40 (by decide) ?_
      have hh : a.2 k = some t := by
        cases e : a.2 k with
        | none => rw [e] at h_19; cases h_19
        | some s => rw [e] at h_19; cases h_19; rfl
      have ee : xRmL t (m + 1) n k a = xRmL t m n (k + 1) a := if_pos hh
      rw [ee]
      exact ih n (k + 1) q a (by omega) (by omega) h24 hq hok
    · refine v_aload_n dX2_remove_22 rfl ?_
      refine v_gr 0 fX2_11 dX2_remove_23 rfl rfl rfl Nat.zero_lt_one ?_
      refine v_iload_n dX2_remove_26 rfl ?_
      refine v_aload_n dX2_remove_27 rfl ?_
      refine v_gr 0 fX2_11 dX2_remove_28 rfl rfl rfl Nat.zero_lt_one ?_
      refine v_iload_n dX2_remove_31 rfl ?_
      refine x_aaldQ k dX2_remove_32 rfl (by omega) ?_
      refine x_aastQ (r := a.2 k) n dX2_remove_33 rfl (by omega) (hok k) ?_
      refine v_iinc [_, _, _, _] dX2_remove_34 rfl (by first | exact inc1 _ | rfl) rfl (by decide) ?_
      refine v_iinc [_, _, _, _] dX2_remove_37 rfl (by first | exact inc1 _ | rfl) rfl (by decide) ?_
      refine v_goto 4 dX2_remove_40 (by decide) ?_
      have hh : ¬ a.2 k = some t := fun e => h_19 (by rw [e]; rfl)
      have ee : xRmL t (m + 1) n k a = xRmL t m (n + 1) (k + 1) (putq a n (a.2 k)) := if_neg hh
      rw [ee]
      exact ih (n + 1) (k + 1) q (putq a n (a.2 k)) (by omega) (by omega) h24 hq (okq_put hok (hok k))
set_option maxHeartbeats 4000000 in
set_option maxRecDepth 100000 in
theorem c_X2_remove {a b : tH} {t q : Nat} (ht : t < 24) (hq : a.1 10 0 1 = nI q) (h24 : q ≤ 24) (hok : okq a) : Cn yX2_remove cX2_remove 4 0 [.inr (some (10, 0)), .inr (some (7, t))] (mix a b) (mix (xRemove a t) b) := by
  refine Ct.of (by decide) [_, _, _, _] rfl (Nat.le_of_ble_eq_true rfl) ?_
  refine v_iconst 0 dX2_remove_0 (by decide) ?_
  refine v_istore_n [_, _, _, _] dX2_remove_1 rfl (by decide) ?_
  refine v_iconst 0 dX2_remove_2 (by decide) ?_
  refine v_istore_n [_, _, _, _] dX2_remove_3 rfl (by decide) ?_
  have e1 : xRemove a t = xRmL t q 0 0 a := by unfold xRemove; rw [hq, nv_nI (by omega)]
  rw [e1]
  exact l_X2_remove ht q 0 0 q a (by omega) (by omega) h24 hq hok
set_option maxHeartbeats 4000000 in
set_option maxRecDepth 100000 in
theorem c_X2_remove0 {a b : tH} (hq : a.1 10 0 1 = 0) : Cn yX2_remove cX2_remove 4 0 [.inr (some (10, 0)), .inr none] (mix a b) (mix (put a 10 0 1 0) b) := by
  refine Ct.of (by decide) [_, _, _, _] rfl (Nat.le_of_ble_eq_true rfl) ?_
  refine v_iconst 0 dX2_remove_0 (by decide) ?_
  refine v_istore_n [_, _, _, _] dX2_remove_1 rfl (by decide) ?_
  refine v_iconst 0 dX2_remove_2 (by decide) ?_
  refine v_istore_n [_, _, _, _] dX2_remove_3 rfl (by decide) ?_
  refine v_iload_n dX2_remove_4 rfl ?_
  refine v_aload_n dX2_remove_5 rfl ?_
  refine x_gk hq (by decide) fX2_17 dX2_remove_6 rfl rfl Nat.zero_lt_one ?_
  refine v_icmp_ge 43 dX2_remove_9 (by decide) (fun h_9 => ?_) (fun h_9 => absurd (Int32.le_refl _) h_9)
  refine v_aload_n dX2_remove_43 rfl ?_
  refine v_iload_n dX2_remove_44 rfl ?_
  refine x_pi (by decide) fX2_17 dX2_remove_45 rfl rfl Nat.zero_lt_one ?_
  exact v_vret dX2_remove_48 ⟨rfl, rfl⟩
set_option maxHeartbeats 4000000 in
set_option maxRecDepth 100000 in
theorem c_X2_removeFirst {a b : tH} {t q : Nat} (ht : t < 24) (hq : a.1 10 0 1 = nI (q + 1)) (h24 : q < 24) (h0 : a.2 0 = some t) (hok : okq a) : Cr yX2_removeFirst cX2_removeFirst 2 (.object "TurnThreads$Fiber") 1 [.inr (some (10, 0))] (mix a b) (some (7, t)) (mix (xRemove a t) b) := by
  refine Ct.of (by decide) [_, _] rfl (Nat.le_of_ble_eq_true rfl) ?_
  refine v_aload_n dX2_removeFirst_0 rfl ?_
  refine v_iconst 0 dX2_removeFirst_1 (by decide) ?_
  refine v_call1r lX2_21 kX2_at (c_X2_at_in (k := 0) hq (by omega) (by omega)) dX2_removeFirst_2 rfl rfl Nat.zero_lt_one rfl (by decide) (by decide) (st8 rfl) ?_
  rw [h0]
  refine v_astore_n [_, _] dX2_removeFirst_5 rfl (by decide) ?_
  refine v_aload_n dX2_removeFirst_6 rfl ?_
  refine v_aload_n dX2_removeFirst_7 rfl ?_
  refine v_call1n lX2_25 kX2_remove (c_X2_remove ht hq (by omega) hok) dX2_removeFirst_8 rfl rfl Nat.zero_lt_one rfl (by decide) (by decide) (st8 rfl) ?_
  refine v_aload_n dX2_removeFirst_11 rfl ?_
  exact v_aret dX2_removeFirst_12 ⟨rfl, rfl⟩
set_option maxHeartbeats 4000000 in
set_option maxRecDepth 100000 in
theorem c_X2_removeFirst0 {a b : tH} (hq : a.1 10 0 1 = 0) : Cr yX2_removeFirst cX2_removeFirst 2 (.object "TurnThreads$Fiber") 1 [.inr (some (10, 0))] (mix a b) (none) (mix (put a 10 0 1 0) b) := by
  refine Ct.of (by decide) [_, _] rfl (Nat.le_of_ble_eq_true rfl) ?_
  refine v_aload_n dX2_removeFirst_0 rfl ?_
  refine v_iconst 0 dX2_removeFirst_1 (by decide) ?_
  refine v_call1r lX2_21 kX2_at (c_X2_at_out (Or.inr (by rw [hq]; exact Int32.le_refl _))) dX2_removeFirst_2 rfl rfl Nat.zero_lt_one rfl (by decide) (by decide) (st8 rfl) ?_
  refine v_astore_n [_, _] dX2_removeFirst_5 rfl (by decide) ?_
  refine v_aload_n dX2_removeFirst_6 rfl ?_
  refine v_aload_n dX2_removeFirst_7 rfl ?_
  refine v_call1n lX2_25 kX2_remove (c_X2_remove0 hq) dX2_removeFirst_8 rfl rfl Nat.zero_lt_one rfl (by decide) (by decide) (st8 rfl) ?_
  refine v_aload_n dX2_removeFirst_11 rfl ?_
  exact v_aret dX2_removeFirst_12 ⟨rfl, rfl⟩
set_option maxHeartbeats 4000000 in
set_option maxRecDepth 100000 in
theorem l_X5_firstWaiting {a b : tH} {x w : Int32} {T : Nat} (hT : a.1 18 0 5 = nI T) (h24 : T ≤ 24) : ∀ (m k : Nat) (L5 : Option tV), T = k + m → Vw yX5_firstWaiting.cls cX5_firstWaiting 6 (some (.object "TurnThreads$Fiber")) 1 (fun r h' => r = some (.inr (toF (xFirst a T x w))) ∧ h' = mix a b) 5 [some (.inr (some (18, 0))), some (.inl x), some (.inl w), some (.inr (toF (mins (fun t => decide (a.1 7 t 3 = w) && decide (a.1 7 t 13 = x)) (fun t => a.1 7 t 14) k))), some (.inl (nI k)), L5] [] (mix a b) := by
  intro m
  induction m with
  | zero =>
    intro k L5 hk
    obtain rfl : T = k := hk
    refine v_iload dX5_firstWaiting_5 rfl ?_
    refine v_aload_n dX5_firstWaiting_7 rfl ?_
    refine x_gk hT (by decide) fX5_38 dX5_firstWaiting_8 rfl rfl Nat.zero_lt_one ?_
    refine v_icmp_ge 58 dX5_firstWaiting_11 (by decide) (fun h_11 => ?_) (fun h_11 => absurd (Int32.le_refl _) h_11)
    refine v_aload_n dX5_firstWaiting_58 rfl ?_
    exact v_aret dX5_firstWaiting_59 ⟨rfl, rfl⟩
  | succ m ih =>
    intro k L5 hk
    refine v_iload dX5_firstWaiting_5 rfl ?_
    refine v_aload_n dX5_firstWaiting_7 rfl ?_
    refine x_gk hT (by decide) fX5_38 dX5_firstWaiting_8 rfl rfl Nat.zero_lt_one ?_
    refine v_icmp_ge 58 dX5_firstWaiting_11 (by decide) (fun h_11 => absurd h_11 (nI_ge (by omega) (by omega))) (fun h_11 => ?_)
    refine v_aload_n dX5_firstWaiting_14 rfl ?_
    refine v_gr 0 fX5_11 dX5_firstWaiting_15 rfl rfl rfl Nat.zero_lt_one ?_
    refine v_iload dX5_firstWaiting_18 rfl ?_
    refine v_aaldF k rfl dX5_firstWaiting_20 Nat.zero_lt_one rfl (by omega) ?_
    refine v_astore [_, _, _, _, _, _] dX5_firstWaiting_21 rfl (by decide) ?_
    refine v_aload dX5_firstWaiting_23 rfl ?_
    refine v_iload_n dX5_firstWaiting_25 rfl ?_
    refine v_iload_n dX5_firstWaiting_26 rfl ?_
    refine v_call2i lX5_82 kX1_waitsAt (c_X1_waitsAt (t := k) (by omega)) dX5_firstWaiting_27 rfl rfl (show k < 24 by omega) rfl (by decide) (by decide) (st8 rfl) ?_
    refine v_if_eq 52 dX5_firstWaiting_30 (by decide) (fun h_30 => ?_) (fun h_30 => ?_)
    · rw [i11] at h_30
      refine v_iinc [_, _, _, _, _, _] dX5_firstWaiting_52 rfl (by first | exact inc1 _ | rfl) rfl (by decide) ?_
      refine v_goto 5 dX5_firstWaiting_55 (by decide) ?_
      have e0 : (decide (a.1 7 k 3 = w) && decide (a.1 7 k 13 = x)) = false := by
        rw [Bool.and_eq_false_iff]
        by_cases hz : a.1 7 k 3 = w
        · exact Or.inr (decide_eq_false (fun y => h_30 ⟨hz, y⟩))
        · exact Or.inl (decide_eq_false hz)
      have q := ih (k + 1) (some (.inr (some (7, k)))) (by omega)
      rw [mins_step0 e0] at q
      exact q
    · rw [i11, Classical.not_not] at h_30
      refine v_aload_n dX5_firstWaiting_33 rfl ?_
      refine v_ifnull 49 dX5_firstWaiting_34 (by decide) (fun h_34 => ?_) (fun q_34 h_34 => ?_)
      · have hj : mins (fun t => decide (a.1 7 t 3 = w) && decide (a.1 7 t 13 = x)) (fun t => a.1 7 t 14) k = none := by
          cases e : mins (fun t => decide (a.1 7 t 3 = w) && decide (a.1 7 t 13 = x)) (fun t => a.1 7 t 14) k with
          | none => rfl
          | some j => rw [e] at h_34; cases h_34
        refine v_aload dX5_firstWaiting_49 rfl ?_
        refine v_astore_n [_, _, _, _, _, _] dX5_firstWaiting_51 rfl (by decide) ?_
        refine v_iinc [_, _, _, _, _, _] dX5_firstWaiting_52 rfl (by first | exact inc1 _ | rfl) rfl (by decide) ?_
        refine v_goto 5 dX5_firstWaiting_55 (by decide) ?_
        have q := ih (k + 1) (some (.inr (some (7, k)))) (by omega)
        rw [mins_stepN hj (by simp only [h_30.1, h_30.2, decide_true, Bool.and_self])] at q
        exact q
      · obtain ⟨j, hj⟩ : ∃ j, mins (fun t => decide (a.1 7 t 3 = w) && decide (a.1 7 t 13 = x)) (fun t => a.1 7 t 14) k = some j := by
          cases e : mins (fun t => decide (a.1 7 t 3 = w) && decide (a.1 7 t 13 = x)) (fun t => a.1 7 t 14) k with
          | none => rw [e] at h_34; cases h_34
          | some j => exact ⟨j, rfl⟩
        have hj24 : j < 24 := by have := (mins_lt hj).1; omega
        rw [hj]
        refine v_aload dX5_firstWaiting_37 rfl ?_
        refine x_gi (by decide) fX5_177 dX5_firstWaiting_39 rfl rfl (show k < 24 by omega) ?_
        refine v_aload_n dX5_firstWaiting_42 rfl ?_
        refine x_gi (by decide) fX5_177 dX5_firstWaiting_43 rfl rfl hj24 ?_
        refine v_icmp_ge 52 dX5_firstWaiting_46 (by decide) (fun h_46 => ?_) (fun h_46 => ?_)
        · refine v_iinc [_, _, _, _, _, _] dX5_firstWaiting_52 rfl (by first | exact inc1 _ | rfl) rfl (by decide) ?_
          refine v_goto 5 dX5_firstWaiting_55 (by decide) ?_
          have q := ih (k + 1) (some (.inr (some (7, k)))) (by omega)
          rw [mins_stepK hj h_46, hj] at q
          exact q
        · refine v_aload dX5_firstWaiting_49 rfl ?_
          refine v_astore_n [_, _, _, _, _, _] dX5_firstWaiting_51 rfl (by decide) ?_
          refine v_iinc [_, _, _, _, _, _] dX5_firstWaiting_52 rfl (by first | exact inc1 _ | rfl) rfl (by decide) ?_
          refine v_goto 5 dX5_firstWaiting_55 (by decide) ?_
          have q := ih (k + 1) (some (.inr (some (7, k)))) (by omega)
          rw [mins_stepS hj (by simp only [h_30.1, h_30.2, decide_true, Bool.and_self]) h_46] at q
          exact q
set_option maxHeartbeats 4000000 in
set_option maxRecDepth 100000 in
theorem c_X5_firstWaiting {a b : tH} {x w : Int32} {T : Nat} (hT : a.1 18 0 5 = nI T) (h24 : T ≤ 24) : Cr yX5_firstWaiting cX5_firstWaiting 6 (.object "TurnThreads$Fiber") 1 [.inr (some (18, 0)), .inl x, .inl w] (mix a b) (toF (xFirst a T x w)) (mix (a) b) := by
  refine Ct.of (by decide) [_, _, _, _, _, _] rfl (Nat.le_of_ble_eq_true rfl) ?_
  refine v_null dX5_firstWaiting_0 ?_
  refine v_astore_n [_, _, _, _, _, _] dX5_firstWaiting_1 rfl (by decide) ?_
  refine v_iconst 0 dX5_firstWaiting_2 (by decide) ?_
  refine v_istore [_, _, _, _, _, _] dX5_firstWaiting_3 rfl (by decide) ?_
  exact l_X5_firstWaiting hT h24 T 0 none (by omega)
set_option maxHeartbeats 4000000 in
set_option maxRecDepth 100000 in
theorem l_X5_firstDelayed {a b : tH} {T : Nat} (hT : a.1 18 0 5 = nI T) (h24 : T ≤ 24) : ∀ (m k : Nat) (L3 : Option tV), T = k + m → Vw yX5_firstDelayed.cls cX5_firstDelayed 4 (some (.object "TurnThreads$Fiber")) 0 (fun r h' => r = some (.inr (toF (xDelayed a T))) ∧ h' = mix a b) 4 [some (.inr (some (18, 0))), some (.inr (toF (mins (fun t => decide (a.1 7 t 3 = 4)) (fun t => a.1 7 t 12) k))), some (.inl (nI k)), L3] [] (mix a b) := by
  intro m
  induction m with
  | zero =>
    intro k L3 hk
    obtain rfl : T = k := hk
    refine v_iload_n dX5_firstDelayed_4 rfl ?_
    refine v_aload_n dX5_firstDelayed_5 rfl ?_
    refine x_gk hT (by decide) fX5_38 dX5_firstDelayed_6 rfl rfl Nat.zero_lt_one ?_
    refine v_icmp_ge 50 dX5_firstDelayed_9 (by decide) (fun h_9 => ?_) (fun h_9 => absurd (Int32.le_refl _) h_9)
    refine v_aload_n dX5_firstDelayed_50 rfl ?_
    exact v_aret dX5_firstDelayed_51 ⟨rfl, rfl⟩
  | succ m ih =>
    intro k L3 hk
    refine v_iload_n dX5_firstDelayed_4 rfl ?_
    refine v_aload_n dX5_firstDelayed_5 rfl ?_
    refine x_gk hT (by decide) fX5_38 dX5_firstDelayed_6 rfl rfl Nat.zero_lt_one ?_
    refine v_icmp_ge 50 dX5_firstDelayed_9 (by decide) (fun h_9 => absurd h_9 (nI_ge (by omega) (by omega))) (fun h_9 => ?_)
    refine v_aload_n dX5_firstDelayed_12 rfl ?_
    refine v_gr 0 fX5_11 dX5_firstDelayed_13 rfl rfl rfl Nat.zero_lt_one ?_
    refine v_iload_n dX5_firstDelayed_16 rfl ?_
    refine v_aaldF k rfl dX5_firstDelayed_17 Nat.zero_lt_one rfl (by omega) ?_
    refine v_astore_n [_, _, _, _] dX5_firstDelayed_18 rfl (by decide) ?_
    refine v_aload_n dX5_firstDelayed_19 rfl ?_
    refine x_gi (by decide) fX5_91 dX5_firstDelayed_20 rfl rfl (show k < 24 by omega) ?_
    refine v_iconst 4 dX5_firstDelayed_23 (by decide) ?_
    refine v_icmp_ne 44 dX5_firstDelayed_24 (by decide) (fun h_24 => ?_) (fun h_24 => ?_)
    · refine v_iinc [_, _, _, _] dX5_firstDelayed_44 rfl (by first | exact inc1 _ | rfl) rfl (by decide) ?_
      refine v_goto 4 dX5_firstDelayed_47 (by decide) ?_
      have q := ih (k + 1) (some (.inr (some (7, k)))) (by omega)
      rw [mins_step0 (by simp only [h_24, decide_false])] at q
      exact q
    · refine v_aload_n dX5_firstDelayed_27 rfl ?_
      refine v_ifnull 42 dX5_firstDelayed_28 (by decide) (fun h_28 => ?_) (fun q_28 h_28 => ?_)
      · have hj : mins (fun t => decide (a.1 7 t 3 = 4)) (fun t => a.1 7 t 12) k = none := by
          cases e : mins (fun t => decide (a.1 7 t 3 = 4)) (fun t => a.1 7 t 12) k with
          | none => rfl
          | some j => rw [e] at h_28; cases h_28
        refine v_aload_n dX5_firstDelayed_42 rfl ?_
        refine v_astore_n [_, _, _, _] dX5_firstDelayed_43 rfl (by decide) ?_
        refine v_iinc [_, _, _, _] dX5_firstDelayed_44 rfl (by first | exact inc1 _ | rfl) rfl (by decide) ?_
        refine v_goto 4 dX5_firstDelayed_47 (by decide) ?_
        have q := ih (k + 1) (some (.inr (some (7, k)))) (by omega)
        rw [mins_stepN hj (by simp only [h_24, decide_true])] at q
        exact q
      · obtain ⟨j, hj⟩ : ∃ j, mins (fun t => decide (a.1 7 t 3 = 4)) (fun t => a.1 7 t 12) k = some j := by
          cases e : mins (fun t => decide (a.1 7 t 3 = 4)) (fun t => a.1 7 t 12) k with
          | none => rw [e] at h_28; cases h_28
          | some j => exact ⟨j, rfl⟩
        have hj24 : j < 24 := by have := (mins_lt hj).1; omega
        rw [hj]
        refine v_aload_n dX5_firstDelayed_31 rfl ?_
        refine x_gi (by decide) fX5_135 dX5_firstDelayed_32 rfl rfl (show k < 24 by omega) ?_
        refine v_aload_n dX5_firstDelayed_35 rfl ?_
        refine x_gi (by decide) fX5_135 dX5_firstDelayed_36 rfl rfl hj24 ?_
        refine v_icmp_ge 44 dX5_firstDelayed_39 (by decide) (fun h_39 => ?_) (fun h_39 => ?_)
        · refine v_iinc [_, _, _, _] dX5_firstDelayed_44 rfl (by first | exact inc1 _ | rfl) rfl (by decide) ?_
          refine v_goto 4 dX5_firstDelayed_47 (by decide) ?_
          have q := ih (k + 1) (some (.inr (some (7, k)))) (by omega)
          rw [mins_stepK hj h_39, hj] at q
          exact q
        · refine v_aload_n dX5_firstDelayed_42 rfl ?_
          refine v_astore_n [_, _, _, _] dX5_firstDelayed_43 rfl (by decide) ?_
          refine v_iinc [_, _, _, _] dX5_firstDelayed_44 rfl (by first | exact inc1 _ | rfl) rfl (by decide) ?_
          refine v_goto 4 dX5_firstDelayed_47 (by decide) ?_
          have q := ih (k + 1) (some (.inr (some (7, k)))) (by omega)
          rw [mins_stepS hj (by simp only [h_24, decide_true]) h_39] at q
          exact q
set_option maxHeartbeats 4000000 in
set_option maxRecDepth 100000 in
theorem c_X5_firstDelayed {a b : tH} {T : Nat} (hT : a.1 18 0 5 = nI T) (h24 : T ≤ 24) : Cr yX5_firstDelayed cX5_firstDelayed 4 (.object "TurnThreads$Fiber") 0 [.inr (some (18, 0))] (mix a b) (toF (xDelayed a T)) (mix (a) b) := by
  refine Ct.of (by decide) [_, _, _, _] rfl (Nat.le_of_ble_eq_true rfl) ?_
  refine v_null dX5_firstDelayed_0 ?_
  refine v_astore_n [_, _, _, _] dX5_firstDelayed_1 rfl (by decide) ?_
  refine v_iconst 0 dX5_firstDelayed_2 (by decide) ?_
  refine v_istore_n [_, _, _, _] dX5_firstDelayed_3 rfl (by decide) ?_
  exact l_X5_firstDelayed hT h24 T 0 none (by omega)
set_option maxHeartbeats 4000000 in
set_option maxRecDepth 100000 in
theorem l_X5_countWaiting {a b : tH} {x w : Int32} {T : Nat} (hT : a.1 18 0 5 = nI T) (h24 : T ≤ 24) : ∀ (m k : Nat), T = k + m → Vw yX5_countWaiting.cls cX5_countWaiting 5 (some .int) 1 (fun r h' => r = some (.inl (nI (cnt (fun t => decide (a.1 7 t 3 = w) && decide (a.1 7 t 13 = x)) T))) ∧ h' = mix a b) 5 [some (.inr (some (18, 0))), some (.inl x), some (.inl w), some (.inl (nI (cnt (fun t => decide (a.1 7 t 3 = w) && decide (a.1 7 t 13 = x)) k))), some (.inl (nI k))] [] (mix a b) := by
  intro m
  induction m with
  | zero =>
    intro k hk
    obtain rfl : T = k := hk
    refine v_iload dX5_countWaiting_5 rfl ?_
    refine v_aload_n dX5_countWaiting_7 rfl ?_
    refine x_gk hT (by decide) fX5_38 dX5_countWaiting_8 rfl rfl Nat.zero_lt_one ?_
    refine v_icmp_ge 38 dX5_countWaiting_11 (by decide) (fun h_11 => ?_) (fun h_11 => absurd (Int32.le_refl _) h_11)
    refine v_iload_n dX5_countWaiting_38 rfl ?_
    exact v_iret dX5_countWaiting_39 ⟨rfl, rfl⟩
  | succ m ih =>
    intro k hk
    refine v_iload dX5_countWaiting_5 rfl ?_
    refine v_aload_n dX5_countWaiting_7 rfl ?_
    refine x_gk hT (by decide) fX5_38 dX5_countWaiting_8 rfl rfl Nat.zero_lt_one ?_
    refine v_icmp_ge 38 dX5_countWaiting_11 (by decide) (fun h_11 => absurd h_11 (nI_ge (by omega) (by omega))) (fun h_11 => ?_)
    refine v_aload_n dX5_countWaiting_14 rfl ?_
    refine v_gr 0 fX5_11 dX5_countWaiting_15 rfl rfl rfl Nat.zero_lt_one ?_
    refine v_iload dX5_countWaiting_18 rfl ?_
    refine v_aaldF k rfl dX5_countWaiting_20 Nat.zero_lt_one rfl (by omega) ?_
    refine v_iload_n dX5_countWaiting_21 rfl ?_
    refine v_iload_n dX5_countWaiting_22 rfl ?_
    refine v_call2i lX5_82 kX1_waitsAt (c_X1_waitsAt (t := k) (by omega)) dX5_countWaiting_23 rfl rfl (show k < 24 by omega) rfl (by decide) (by decide) (st8 rfl) ?_
    refine v_if_eq 32 dX5_countWaiting_26 (by decide) (fun h_26 => ?_) (fun h_26 => ?_)
    · rw [i11] at h_26
      refine v_iinc [_, _, _, _, _] dX5_countWaiting_32 rfl (by first | exact inc1 _ | rfl) rfl (by decide) ?_
      refine v_goto 5 dX5_countWaiting_35 (by decide) ?_
      have e0 : (decide (a.1 7 k 3 = w) && decide (a.1 7 k 13 = x)) = false := by
        rw [Bool.and_eq_false_iff]
        by_cases hz : a.1 7 k 3 = w
        · exact Or.inr (decide_eq_false (fun y => h_26 ⟨hz, y⟩))
        · exact Or.inl (decide_eq_false hz)
      have q := ih (k + 1) (by omega)
      rw [show cnt (fun t => decide (a.1 7 t 3 = w) && decide (a.1 7 t 13 = x)) (k + 1) = cnt (fun t => decide (a.1 7 t 3 = w) && decide (a.1 7 t 13 = x)) k by show cnt (fun t => decide (a.1 7 t 3 = w) && decide (a.1 7 t 13 = x)) k + (if (decide (a.1 7 k 3 = w) && decide (a.1 7 k 13 = x)) = true then 1 else 0) = _; rw [e0]; simp] at q
      exact q
    · rw [i11, Classical.not_not] at h_26
      refine v_iinc [_, _, _, _, _] dX5_countWaiting_29 rfl (by first | exact inc1 _ | rfl) rfl (by decide) ?_
      refine v_iinc [_, _, _, _, _] dX5_countWaiting_32 rfl (by first | exact inc1 _ | rfl) rfl (by decide) ?_
      refine v_goto 5 dX5_countWaiting_35 (by decide) ?_
      have e0 : (decide (a.1 7 k 3 = w) && decide (a.1 7 k 13 = x)) = true := by simp only [h_26.1, h_26.2, decide_true, Bool.and_self]
      have q := ih (k + 1) (by omega)
      rw [show cnt (fun t => decide (a.1 7 t 3 = w) && decide (a.1 7 t 13 = x)) (k + 1) = cnt (fun t => decide (a.1 7 t 3 = w) && decide (a.1 7 t 13 = x)) k + 1 by show cnt (fun t => decide (a.1 7 t 3 = w) && decide (a.1 7 t 13 = x)) k + (if (decide (a.1 7 k 3 = w) && decide (a.1 7 k 13 = x)) = true then 1 else 0) = _; rw [e0]; simp] at q
      exact q
set_option maxHeartbeats 4000000 in
set_option maxRecDepth 100000 in
theorem c_X5_countWaiting {a b : tH} {x w : Int32} {T : Nat} (hT : a.1 18 0 5 = nI T) (h24 : T ≤ 24) : Ci yX5_countWaiting cX5_countWaiting 5 .int 1 [.inr (some (18, 0)), .inl x, .inl w] (mix a b) (nI (cnt (fun t => decide (a.1 7 t 3 = w) && decide (a.1 7 t 13 = x)) T)) (mix (a) b) := by
  refine Ct.of (by decide) [_, _, _, _, _] rfl (Nat.le_of_ble_eq_true rfl) ?_
  refine v_iconst 0 dX5_countWaiting_0 (by decide) ?_
  refine v_istore_n [_, _, _, _, _] dX5_countWaiting_1 rfl (by decide) ?_
  refine v_iconst 0 dX5_countWaiting_2 (by decide) ?_
  refine v_istore [_, _, _, _, _] dX5_countWaiting_3 rfl (by decide) ?_
  exact l_X5_countWaiting hT h24 T 0 (by omega)
set_option maxHeartbeats 4000000 in
set_option maxRecDepth 100000 in
theorem c_X5_fiberAt_out {a b : tH} {i : Int32} (ho : i < 0 ∨ a.1 18 0 5 ≤ i) : Cr yX5_fiberAt cX5_fiberAt 2 (.object "TurnThreads$Fiber") 0 [.inr (some (18, 0)), .inl i] (mix a b) (none) (mix (a) b) := by
  refine Ct.of (by decide) [_, _] rfl (Nat.le_of_ble_eq_true rfl) ?_
  refine v_iload_n dX5_fiberAt_0 rfl ?_
  refine v_if_lt 21 dX5_fiberAt_1 (by decide) (fun h_1 => ?_) (fun h_1 => ?_)
  · refine v_null dX5_fiberAt_21 ?_
    exact v_aret dX5_fiberAt_22 ⟨rfl, rfl⟩
  · refine v_iload_n dX5_fiberAt_4 rfl ?_
    refine v_aload_n dX5_fiberAt_5 rfl ?_
    refine x_gi (by decide) fX5_38 dX5_fiberAt_6 rfl rfl Nat.zero_lt_one ?_
    refine v_icmp_ge 21 dX5_fiberAt_9 (by decide) (fun h_9 => ?_) (fun h_9 => (ho.elim (fun z => absurd z h_1) (fun z => absurd z h_9)))
    refine v_null dX5_fiberAt_21 ?_
    exact v_aret dX5_fiberAt_22 ⟨rfl, rfl⟩
set_option maxHeartbeats 4000000 in
set_option maxRecDepth 100000 in
theorem c_X5_fiberAt_in {a b : tH} {t T : Nat} (hT : a.1 18 0 5 = nI T) (ht : t < T) (h24 : T ≤ 24) : Cr yX5_fiberAt cX5_fiberAt 2 (.object "TurnThreads$Fiber") 0 [.inr (some (18, 0)), .inl (nI t)] (mix a b) (some (7, t)) (mix (a) b) := by
  refine Ct.of (by decide) [_, _] rfl (Nat.le_of_ble_eq_true rfl) ?_
  refine v_iload_n dX5_fiberAt_0 rfl ?_
  refine v_if_lt 21 dX5_fiberAt_1 (by decide) (fun h_1 => absurd h_1 (nI_pos (by omega))) (fun h_1 => ?_)
  refine v_iload_n dX5_fiberAt_4 rfl ?_
  refine v_aload_n dX5_fiberAt_5 rfl ?_
  refine x_gi (by decide) fX5_38 dX5_fiberAt_6 rfl rfl Nat.zero_lt_one ?_
  refine v_icmp_ge 21 dX5_fiberAt_9 (by decide) (fun h_9 => absurd h_9 (by rw [hT]; exact nI_ge ht (by omega))) (fun h_9 => ?_)
  refine v_aload_n dX5_fiberAt_12 rfl ?_
  refine v_gr 0 fX5_11 dX5_fiberAt_13 rfl rfl rfl Nat.zero_lt_one ?_
  refine v_iload_n dX5_fiberAt_16 rfl ?_
  refine v_aaldF t rfl dX5_fiberAt_17 Nat.zero_lt_one rfl (by omega) ?_
  refine v_goto 22 dX5_fiberAt_18 (by decide) ?_
  exact v_aret dX5_fiberAt_22 ⟨rfl, rfl⟩
