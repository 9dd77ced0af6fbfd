/-! Leaves of the class: contracts as the code says it -/
theorem put_rd (h : tH) (c i k : Nat) (x : Int32) (c' i' k' : Nat) : (put h c i k x).1 c' i' k' = if c' = c ∧ i' = i ∧ k' = k then x else h.1 c' i' k' := rfl
theorem put_eq {h : tH} {c i k : Nat} {x : Int32} : (put h c i k x).1 c i k = x := by rw [put_rd, if_pos ⟨rfl, rfl, rfl⟩]
theorem put_ne {h : tH} {c i k c' i' k' : Nat} {x : Int32} (hn : ¬ (c' = c ∧ i' = i ∧ k' = k)) : (put h c i k x).1 c' i' k' = h.1 c' i' k' := by rw [put_rd, if_neg hn]
theorem nlt_of {x : Int32} {n M : Nat} (hx : x = nI n) (hn : n < 2 ^ 31) (hM : M < 2 ^ 31) (h : ¬ nI M ≤ x) : n < M := by
  rcases Nat.lt_or_ge n M with q | q
  · exact q
  · exact absurd (by rw [hx]; exact nI_le q hn) h
theorem nle_of {x : Int32} {n M : Nat} (hx : x = nI n) (hn : n < 2 ^ 31) (hM : M < 2 ^ 31) (h : nI M ≤ x) : M ≤ n := by
  rcases Nat.lt_or_ge n M with q | q
  · exact absurd (by rw [hx] at h; exact h) (nI_ge q hM)
  · exact q
theorem i01 {p : Prop} [Decidable p] : ((if p then (0 : Int32) else 1) = 0) = p := by
  by_cases hp : p
  · simp only [hp, if_true]
  · simp only [hp, if_false]; exact propext ⟨fun h => absurd h (by decide), fun h => h.elim⟩
theorem i001 {p q : Prop} [Decidable p] [Decidable q] : ((if p then (0 : Int32) else if q then 0 else 1) = 0) = (p ∨ q) := by
  by_cases hp : p
  · simp only [hp, if_true, true_or]
  · simp only [hp, if_false, false_or]; exact i01
theorem i10 {p : Prop} [Decidable p] : ((if p then (1 : Int32) else 0) = 0) = ¬ p := by
  by_cases hp : p
  · simp only [hp, if_true, not_true]; exact propext ⟨fun h => absurd h (by decide), fun h => h.elim⟩
  · simp only [hp, if_false, not_false_iff]
theorem n10 : ¬ (1 : Int32) = 0 := by decide

set_option maxHeartbeats 4000000 in
set_option maxRecDepth 100000 in
theorem c_X1_waits {a b : tH} {t : Nat} (ht : t < 24) : Ci yX1_waits cX1_waits 1 .boolean 0 [.inr (some (7, t))] (mix a b) (if a.1 7 t 3 < 1 then 0 else if 3 < a.1 7 t 3 then 0 else 1) (mix (a) b) := by
  refine Ct.of (by decide) [_] rfl (Nat.le_of_ble_eq_true rfl) ?_
  refine v_aload_n dX1_waits_0 rfl ?_
  refine x_gi (by decide) fX1_18 dX1_waits_1 rfl rfl ht ?_
  refine v_iconst 1 dX1_waits_4 (by decide) ?_
  refine v_icmp_lt 20 dX1_waits_5 (by decide) (fun h_5 => ?_) (fun h_5 => ?_)
  · refine v_iconst 0 dX1_waits_20 (by decide) ?_
    exact v_zret dX1_waits_21 (by decide) ⟨by simp only [h_5, if_true, if_false], rfl⟩
  · refine v_aload_n dX1_waits_8 rfl ?_
    refine x_gi (by decide) fX1_18 dX1_waits_9 rfl rfl ht ?_
    refine v_iconst 3 dX1_waits_12 (by decide) ?_
    refine v_icmp_gt 20 dX1_waits_13 (by decide) (fun h_13 => ?_) (fun h_13 => ?_)
    · refine v_iconst 0 dX1_waits_20 (by decide) ?_
      exact v_zret dX1_waits_21 (by decide) ⟨by simp only [h_5, h_13, if_true, if_false], rfl⟩
    · refine v_iconst 1 dX1_waits_16 (by decide) ?_
      refine v_goto 21 dX1_waits_17 (by decide) ?_
      exact v_zret dX1_waits_21 (by decide) ⟨by simp only [h_5, h_13, if_true, if_false], rfl⟩
set_option maxHeartbeats 4000000 in
set_option maxRecDepth 100000 in
theorem c_X1_isAway {a b : tH} {t : Nat} (ht : t < 24) : Ci yX1_isAway cX1_isAway 1 .boolean 0 [.inr (some (7, t))] (mix a b) (if a.1 7 t 3 < 1 then 0 else if 4 < a.1 7 t 3 then 0 else 1) (mix (a) b) := by
  refine Ct.of (by decide) [_] rfl (Nat.le_of_ble_eq_true rfl) ?_
  refine v_aload_n dX1_isAway_0 rfl ?_
  refine x_gi (by decide) fX1_18 dX1_isAway_1 rfl rfl ht ?_
  refine v_iconst 1 dX1_isAway_4 (by decide) ?_
  refine v_icmp_lt 20 dX1_isAway_5 (by decide) (fun h_5 => ?_) (fun h_5 => ?_)
  · refine v_iconst 0 dX1_isAway_20 (by decide) ?_
    exact v_zret dX1_isAway_21 (by decide) ⟨by simp only [h_5, if_true, if_false], rfl⟩
  · refine v_aload_n dX1_isAway_8 rfl ?_
    refine x_gi (by decide) fX1_18 dX1_isAway_9 rfl rfl ht ?_
    refine v_iconst 4 dX1_isAway_12 (by decide) ?_
    refine v_icmp_gt 20 dX1_isAway_13 (by decide) (fun h_13 => ?_) (fun h_13 => ?_)
    · refine v_iconst 0 dX1_isAway_20 (by decide) ?_
      exact v_zret dX1_isAway_21 (by decide) ⟨by simp only [h_5, h_13, if_true, if_false], rfl⟩
    · refine v_iconst 1 dX1_isAway_16 (by decide) ?_
      refine v_goto 21 dX1_isAway_17 (by decide) ?_
      exact v_zret dX1_isAway_21 (by decide) ⟨by simp only [h_5, h_13, if_true, if_false], rfl⟩
set_option maxHeartbeats 4000000 in
set_option maxRecDepth 100000 in
theorem c_X1_isDone {a b : tH} {t : Nat} (ht : t < 24) : Ci yX1_isDone cX1_isDone 1 .boolean 0 [.inr (some (7, t))] (mix a b) (if a.1 7 t 3 < 5 then 0 else 1) (mix (a) b) := by
  refine Ct.of (by decide) [_] rfl (Nat.le_of_ble_eq_true rfl) ?_
  refine v_aload_n dX1_isDone_0 rfl ?_
  refine x_gi (by decide) fX1_18 dX1_isDone_1 rfl rfl ht ?_
  refine v_iconst 5 dX1_isDone_4 (by decide) ?_
  refine v_icmp_lt 12 dX1_isDone_5 (by decide) (fun h_5 => ?_) (fun h_5 => ?_)
  · refine v_iconst 0 dX1_isDone_12 (by decide) ?_
    exact v_zret dX1_isDone_13 (by decide) ⟨by simp only [h_5, if_true, if_false], rfl⟩
  · refine v_iconst 1 dX1_isDone_8 (by decide) ?_
    refine v_goto 13 dX1_isDone_9 (by decide) ?_
    exact v_zret dX1_isDone_13 (by decide) ⟨by simp only [h_5, if_true, if_false], rfl⟩
set_option maxHeartbeats 4000000 in
set_option maxRecDepth 100000 in
theorem c_X1_waitsAt {a b : tH} {t : Nat} (ht : t < 24) {x w : Int32} : Ci yX1_waitsAt cX1_waitsAt 3 .boolean 0 [.inr (some (7, t)), .inl x, .inl w] (mix a b) (if a.1 7 t 3 = w then if a.1 7 t 13 = x then 1 else 0 else 0) (mix (a) b) := by
  refine Ct.of (by decide) [_, _, _] rfl (Nat.le_of_ble_eq_true rfl) ?_
  refine v_aload_n dX1_waitsAt_0 rfl ?_
  refine x_gi (by decide) fX1_18 dX1_waitsAt_1 rfl rfl ht ?_
  refine v_iload_n dX1_waitsAt_4 rfl ?_
  refine v_icmp_ne 20 dX1_waitsAt_5 (by decide) (fun h_5 => ?_) (fun h_5 => ?_)
  · refine v_iconst 0 dX1_waitsAt_20 (by decide) ?_
    exact v_zret dX1_waitsAt_21 (by decide) ⟨by simp only [h_5, if_true, if_false], rfl⟩
  · refine v_aload_n dX1_waitsAt_8 rfl ?_
    refine x_gi (by decide) fX1_50 dX1_waitsAt_9 rfl rfl ht ?_
    refine v_iload_n dX1_waitsAt_12 rfl ?_
    refine v_icmp_ne 20 dX1_waitsAt_13 (by decide) (fun h_13 => ?_) (fun h_13 => ?_)
    · refine v_iconst 0 dX1_waitsAt_20 (by decide) ?_
      exact v_zret dX1_waitsAt_21 (by decide) ⟨by simp only [h_5, h_13, if_true, if_false], rfl⟩
    · refine v_iconst 1 dX1_waitsAt_16 (by decide) ?_
      refine v_goto 21 dX1_waitsAt_17 (by decide) ?_
      exact v_zret dX1_waitsAt_21 (by decide) ⟨by simp only [h_5, h_13, if_true, if_false], rfl⟩
set_option maxHeartbeats 4000000 in
set_option maxRecDepth 100000 in
theorem c_X1_reset {a b : tH} {t : Nat} (ht : t < 24) {x y : Int32} : Cn yX1_reset cX1_reset 3 0 [.inr (some (7, t)), .inl x, .inl y] (mix a b) (mix (put (put (put (put (put (put (put (put (put a 7 t 3 0) 7 t 4 x) 7 t 5 0) 7 t 6 y) 7 t 7 0) 7 t 8 0) 7 t 9 0) 7 t 10 0) 7 t 11 0) b) := by
  refine Ct.of (by decide) [_, _, _] rfl (Nat.le_of_ble_eq_true rfl) ?_
  refine v_aload_n dX1_reset_0 rfl ?_
  refine v_iconst 0 dX1_reset_1 (by decide) ?_
  refine x_pi (by decide) fX1_18 dX1_reset_2 rfl rfl ht ?_
  refine v_aload_n dX1_reset_5 rfl ?_
  refine v_iload_n dX1_reset_6 rfl ?_
  refine x_pi (by decide) fX1_22 dX1_reset_7 rfl rfl ht ?_
  refine v_aload_n dX1_reset_10 rfl ?_
  refine v_iconst 0 dX1_reset_11 (by decide) ?_
  refine x_pi (by decide) fX1_25 dX1_reset_12 rfl rfl ht ?_
  refine v_aload_n dX1_reset_15 rfl ?_
  refine v_iload_n dX1_reset_16 rfl ?_
  refine x_pi (by decide) fX1_28 dX1_reset_17 rfl rfl ht ?_
  refine v_aload_n dX1_reset_20 rfl ?_
  refine v_iconst 0 dX1_reset_21 (by decide) ?_
  refine x_pi (by decide) fX1_31 dX1_reset_22 rfl rfl ht ?_
  refine v_aload_n dX1_reset_25 rfl ?_
  refine v_iconst 0 dX1_reset_26 (by decide) ?_
  refine x_pi (by decide) fX1_34 dX1_reset_27 rfl rfl ht ?_
  refine v_aload_n dX1_reset_30 rfl ?_
  refine v_iconst 0 dX1_reset_31 (by decide) ?_
  refine x_pz (by decide) fX1_37 dX1_reset_32 rfl rfl ht (by decide) ?_
  refine v_aload_n dX1_reset_35 rfl ?_
  refine v_iconst 0 dX1_reset_36 (by decide) ?_
  refine x_pi (by decide) fX1_41 dX1_reset_37 rfl rfl ht ?_
  refine v_aload_n dX1_reset_40 rfl ?_
  refine v_iconst 0 dX1_reset_41 (by decide) ?_
  refine x_pi (by decide) fX1_44 dX1_reset_42 rfl rfl ht ?_
  exact v_vret dX1_reset_45 ⟨rfl, rfl⟩
set_option maxHeartbeats 4000000 in
set_option maxRecDepth 100000 in
theorem c_X1_addHandler {a b : tH} {t : Nat} (ht : t < 24) {x : Int32} {n : Nat} (hn : a.1 7 t 7 = nI n) (h4 : n ≤ 4) : Cn yX1_addHandler cX1_addHandler 2 0 [.inr (some (7, t)), .inl x] (mix a b) (mix (if 4 ≤ a.1 7 t 7 then a else put (put a 8 t n x) 7 t 7 (a.1 7 t 7 + 1)) b) := by
  refine Ct.of (by decide) [_, _] rfl (Nat.le_of_ble_eq_true rfl) ?_
  refine v_aload_n dX1_addHandler_0 rfl ?_
  refine x_gi (by decide) fX1_31 dX1_addHandler_1 rfl rfl ht ?_
  refine v_iconst 4 dX1_addHandler_4 (by decide) ?_
  refine v_icmp_ge 28 dX1_addHandler_5 (by decide) (fun h_5 => ?_) (fun h_5 => ?_)
  · exact v_vret dX1_addHandler_28 ⟨rfl, by simp only [h_5, if_true, if_false]; try rfl⟩
  · refine v_aload_n dX1_addHandler_8 rfl ?_
    refine v_gr t fX1_9 dX1_addHandler_9 rfl rfl rfl ht ?_
    refine v_aload_n dX1_addHandler_12 rfl ?_
    refine x_gi (by decide) fX1_31 dX1_addHandler_13 rfl rfl ht ?_
    refine v_iload_n dX1_addHandler_16 rfl ?_
    refine x_iast n (by decide) rfl dX1_addHandler_17 ht hn (nlt_of hn (by omega) (by decide) h_5) ?_
    refine v_aload_n dX1_addHandler_18 rfl ?_
    refine v_dup dX1_addHandler_19 ?_
    refine x_gi (by decide) fX1_31 dX1_addHandler_20 rfl rfl ht ?_
    refine v_iconst 1 dX1_addHandler_23 (by decide) ?_
    refine v_iadd dX1_addHandler_24 ?_
    refine x_pi (by decide) fX1_31 dX1_addHandler_25 rfl rfl ht ?_
    exact v_vret dX1_addHandler_28 ⟨rfl, by simp only [h_5, if_true, if_false]; try rfl⟩
set_option maxHeartbeats 4000000 in
set_option maxRecDepth 100000 in
theorem c_X1_dropHandler {a b : tH} {t : Nat} (ht : t < 24) : Cn yX1_dropHandler cX1_dropHandler 1 0 [.inr (some (7, t))] (mix a b) (mix (if a.1 7 t 7 ≤ 0 then a else put a 7 t 7 (a.1 7 t 7 - 1)) b) := by
  refine Ct.of (by decide) [_] rfl (Nat.le_of_ble_eq_true rfl) ?_
  refine v_aload_n dX1_dropHandler_0 rfl ?_
  refine x_gi (by decide) fX1_31 dX1_dropHandler_1 rfl rfl ht ?_
  refine v_if_le 17 dX1_dropHandler_4 (by decide) (fun h_4 => ?_) (fun h_4 => ?_)
  · exact v_vret dX1_dropHandler_17 ⟨rfl, by simp only [h_4, if_true, if_false]⟩
  · refine v_aload_n dX1_dropHandler_7 rfl ?_
    refine v_dup dX1_dropHandler_8 ?_
    refine x_gi (by decide) fX1_31 dX1_dropHandler_9 rfl rfl ht ?_
    refine v_iconst 1 dX1_dropHandler_12 (by decide) ?_
    refine v_isub dX1_dropHandler_13 ?_
    refine x_pi (by decide) fX1_31 dX1_dropHandler_14 rfl rfl ht ?_
    exact v_vret dX1_dropHandler_17 ⟨rfl, by simp only [h_4, if_true, if_false]⟩
set_option maxHeartbeats 4000000 in
set_option maxRecDepth 100000 in
theorem c_X1_handles0 {a b : tH} {t : Nat} (ht : t < 24) {e : Int32} (h0 : a.1 7 t 7 = 0) : Ci yX1_handles cX1_handles 2 .boolean 0 [.inr (some (7, t)), .inl e] (mix a b) (0) (mix (a) b) := by
  refine Ct.of (by decide) [_, _] rfl (Nat.le_of_ble_eq_true rfl) ?_
  refine v_aload_n dX1_handles_0 rfl ?_
  refine x_gi (by decide) fX1_31 dX1_handles_1 rfl rfl ht ?_
  refine v_if_gt 9 dX1_handles_4 (by decide) (fun h_4 => absurd h_4 (by rw [h0]; decide)) (fun h_4 => ?_)
  refine v_iconst 0 dX1_handles_7 (by decide) ?_
  exact v_zret dX1_handles_8 (by decide) ⟨rfl, rfl⟩
set_option maxHeartbeats 4000000 in
set_option maxRecDepth 100000 in
theorem c_X1_handles1 {a b : tH} {t : Nat} (ht : t < 24) {e : Int32} {n : Nat} (hn : a.1 7 t 7 = nI (n + 1)) (h4 : n < 4) : Ci yX1_handles cX1_handles 2 .boolean 0 [.inr (some (7, t)), .inl e] (mix a b) (1) (mix (put (put (put a 7 t 7 (nI n)) 7 t 5 (a.1 8 t n)) 7 t 6 e) b) := by
  refine Ct.of (by decide) [_, _] rfl (Nat.le_of_ble_eq_true rfl) ?_
  refine v_aload_n dX1_handles_0 rfl ?_
  refine x_gi (by decide) fX1_31 dX1_handles_1 rfl rfl ht ?_
  refine v_if_gt 9 dX1_handles_4 (by decide) (fun h_4 => ?_) (fun h_4 => absurd (by rw [hn]; exact nI_lt (a := 0) (by omega) (by omega)) h_4)
  refine v_aload_n dX1_handles_9 rfl ?_
  refine v_dup dX1_handles_10 ?_
  refine x_gi (by decide) fX1_31 dX1_handles_11 rfl rfl ht ?_
  refine v_iconst 1 dX1_handles_14 (by decide) ?_
  refine v_isub dX1_handles_15 ?_
  rw [hn, nI_pred]
  refine x_pi (by decide) fX1_31 dX1_handles_16 rfl rfl ht ?_
  refine v_aload_n dX1_handles_19 rfl ?_
  refine v_aload_n dX1_handles_20 rfl ?_
  refine v_gr t fX1_9 dX1_handles_21 rfl rfl rfl ht ?_
  refine v_aload_n dX1_handles_24 rfl ?_
  refine x_gi (by decide) fX1_31 dX1_handles_25 rfl rfl ht ?_
  refine x_iald n (by decide) rfl dX1_handles_28 ht put_eq h4 ?_
  rw [put_ne (by omega)]
  refine x_pi (by decide) fX1_25 dX1_handles_29 rfl rfl ht ?_
  refine v_aload_n dX1_handles_32 rfl ?_
  refine v_iload_n dX1_handles_33 rfl ?_
  refine x_pi (by decide) fX1_28 dX1_handles_34 rfl rfl ht ?_
  refine v_iconst 1 dX1_handles_37 (by decide) ?_
  exact v_zret dX1_handles_38 (by decide) ⟨rfl, rfl⟩
set_option maxHeartbeats 4000000 in
set_option maxRecDepth 100000 in
theorem c_X1_addPending {a b : tH} {t : Nat} (ht : t < 24) {x : Int32} {n : Nat} (hn : a.1 7 t 8 = nI n) (h4 : n ≤ 4) : Cn yX1_addPending cX1_addPending 2 0 [.inr (some (7, t)), .inl x] (mix a b) (mix (if 4 ≤ a.1 7 t 8 then a else put (put a 9 t n x) 7 t 8 (a.1 7 t 8 + 1)) b) := by
  refine Ct.of (by decide) [_, _] rfl (Nat.le_of_ble_eq_true rfl) ?_
  refine v_aload_n dX1_addPending_0 rfl ?_
  refine x_gi (by decide) fX1_34 dX1_addPending_1 rfl rfl ht ?_
  refine v_iconst 4 dX1_addPending_4 (by decide) ?_
  refine v_icmp_ge 28 dX1_addPending_5 (by decide) (fun h_5 => ?_) (fun h_5 => ?_)
  · exact v_vret dX1_addPending_28 ⟨rfl, by simp only [h_5, if_true, if_false]; try rfl⟩
  · refine v_aload_n dX1_addPending_8 rfl ?_
    refine v_gr t fX1_15 dX1_addPending_9 rfl rfl rfl ht ?_
    refine v_aload_n dX1_addPending_12 rfl ?_
    refine x_gi (by decide) fX1_34 dX1_addPending_13 rfl rfl ht ?_
    refine v_iload_n dX1_addPending_16 rfl ?_
    refine x_iast n (by decide) rfl dX1_addPending_17 ht hn (nlt_of hn (by omega) (by decide) h_5) ?_
    refine v_aload_n dX1_addPending_18 rfl ?_
    refine v_dup dX1_addPending_19 ?_
    refine x_gi (by decide) fX1_34 dX1_addPending_20 rfl rfl ht ?_
    refine v_iconst 1 dX1_addPending_23 (by decide) ?_
    refine v_iadd dX1_addPending_24 ?_
    refine x_pi (by decide) fX1_34 dX1_addPending_25 rfl rfl ht ?_
    exact v_vret dX1_addPending_28 ⟨rfl, by simp only [h_5, if_true, if_false]; try rfl⟩
set_option maxHeartbeats 4000000 in
set_option maxRecDepth 100000 in
theorem c_X1_actToCome {a b : tH} {t : Nat} (ht : t < 24) : Ci yX1_actToCome cX1_actToCome 1 .int 1 [.inr (some (7, t))] (mix a b) (if a.1 7 t 3 < 5 then if a.1 7 t 3 < 1 then a.1 7 t 5 else if 3 < a.1 7 t 3 then a.1 7 t 5 else a.1 7 t 5 - 1 else (-3)) (mix (a) b) := by
  refine Ct.of (by decide) [_] rfl (Nat.le_of_ble_eq_true rfl) ?_
  refine v_aload_n dX1_actToCome_0 rfl ?_
  refine v_call0i lX1_63 kX1_isDone (c_X1_isDone ht) dX1_actToCome_1 rfl rfl ht rfl (by decide) (by decide) (st8 rfl) ?_
  refine v_if_eq 10 dX1_actToCome_4 (by decide) (fun h_4 => ?_) (fun h_4 => ?_)
  · rw [i01] at h_4
    refine v_aload_n dX1_actToCome_10 rfl ?_
    refine v_call0i lX1_67 kX1_waits (c_X1_waits ht) dX1_actToCome_11 rfl rfl ht rfl (by decide) (by decide) (st8 rfl) ?_
    refine v_if_eq 26 dX1_actToCome_14 (by decide) (fun h_14 => ?_) (fun h_14 => ?_)
    · rw [i001] at h_14
      refine v_aload_n dX1_actToCome_26 rfl ?_
      refine x_gi (by decide) fX1_25 dX1_actToCome_27 rfl rfl ht ?_
      exact v_iret dX1_actToCome_30 ⟨by rw [if_pos h_4]; first | (rw [if_neg (fun q => h_14 (Or.inl q)), if_neg (fun q => h_14 (Or.inr q))]) | (rcases h_14 with q | q <;> simp only [q, if_true, ite_self]), rfl⟩
    · rw [i001] at h_14
      refine v_aload_n dX1_actToCome_17 rfl ?_
      refine x_gi (by decide) fX1_25 dX1_actToCome_18 rfl rfl ht ?_
      refine v_iconst 1 dX1_actToCome_21 (by decide) ?_
      refine v_isub dX1_actToCome_22 ?_
      refine v_goto 30 dX1_actToCome_23 (by decide) ?_
      exact v_iret dX1_actToCome_30 ⟨by rw [if_pos h_4]; first | (rw [if_neg (fun q => h_14 (Or.inl q)), if_neg (fun q => h_14 (Or.inr q))]) | (rcases h_14 with q | q <;> simp only [q, if_true, ite_self]), rfl⟩
  · rw [i01] at h_4
    refine v_bipush (-3) dX1_actToCome_7 (by decide) ?_
    exact v_iret dX1_actToCome_9 ⟨by rw [if_neg h_4], rfl⟩
set_option maxHeartbeats 4000000 in
set_option maxRecDepth 100000 in
theorem c_X0_has {a b : tH} {x : Int32} : Ci yX0_has cX0_has 2 .boolean 0 [.inr (some (12, 0)), .inl x] (mix a b) (if x < 0 then 0 else if 8 ≤ x then 0 else 1) (mix (a) b) := by
  refine Ct.of (by decide) [_, _] rfl (Nat.le_of_ble_eq_true rfl) ?_
  refine v_iload_n dX0_has_0 rfl ?_
  refine v_if_lt 14 dX0_has_1 (by decide) (fun h_1 => ?_) (fun h_1 => ?_)
  · refine v_iconst 0 dX0_has_14 (by decide) ?_
    exact v_zret dX0_has_15 (by decide) ⟨by simp only [h_1, if_true, if_false], rfl⟩
  · refine v_iload_n dX0_has_4 rfl ?_
    refine v_bipush 8 dX0_has_5 (by decide) ?_
    refine v_icmp_ge 14 dX0_has_7 (by decide) (fun h_7 => ?_) (fun h_7 => ?_)
    · refine v_iconst 0 dX0_has_14 (by decide) ?_
      exact v_zret dX0_has_15 (by decide) ⟨by simp only [h_1, h_7, if_true, if_false], rfl⟩
    · refine v_iconst 1 dX0_has_10 (by decide) ?_
      refine v_goto 15 dX0_has_11 (by decide) ?_
      exact v_zret dX0_has_15 (by decide) ⟨by simp only [h_1, h_7, if_true, if_false], rfl⟩
set_option maxHeartbeats 4000000 in
set_option maxRecDepth 100000 in
theorem c_X0_has_in {a b : tH} {k : Nat} (hk : k < 8) : Ci yX0_has cX0_has 2 .boolean 0 [.inr (some (12, 0)), .inl (nI k)] (mix a b) (1) (mix (a) b) := by
  refine Ct.of (by decide) [_, _] rfl (Nat.le_of_ble_eq_true rfl) ?_
  refine v_iload_n dX0_has_0 rfl ?_
  refine v_if_lt 14 dX0_has_1 (by decide) (fun h_1 => absurd h_1 (nI_pos (by omega))) (fun h_1 => ?_)
  refine v_iload_n dX0_has_4 rfl ?_
  refine v_bipush 8 dX0_has_5 (by decide) ?_
  refine v_icmp_ge 14 dX0_has_7 (by decide) (fun h_7 => absurd h_7 (nI_ge hk (by decide))) (fun h_7 => ?_)
  refine v_iconst 1 dX0_has_10 (by decide) ?_
  refine v_goto 15 dX0_has_11 (by decide) ?_
  exact v_zret dX0_has_15 (by decide) ⟨rfl, rfl⟩
set_option maxHeartbeats 4000000 in
set_option maxRecDepth 100000 in
theorem c_X0_isFull {a b : tH} {k : Nat} (hk : k < 8) : Ci yX0_isFull cX0_isFull 2 .boolean 1 [.inr (some (12, 0)), .inl (nI k)] (mix a b) (if a.1 13 0 k = 0 then 0 else 1) (mix (a) b) := by
  refine Ct.of (by decide) [_, _] rfl (Nat.le_of_ble_eq_true rfl) ?_
  refine v_aload_n dX0_isFull_0 rfl ?_
  refine v_iload_n dX0_isFull_1 rfl ?_
  refine v_call1i lX0_19 kX0_has (c_X0_has_in hk) dX0_isFull_2 rfl rfl Nat.zero_lt_one rfl (by decide) (by decide) (st8 rfl) ?_
  refine v_if_eq 21 dX0_isFull_5 (by decide) (fun h_5 => absurd h_5 n10) (fun h_5 => ?_)
  refine v_aload_n dX0_isFull_8 rfl ?_
  refine v_gr 0 fX0_9 dX0_isFull_9 rfl rfl rfl Nat.zero_lt_one ?_
  refine v_iload_n dX0_isFull_12 rfl ?_
  refine x_zald k (by decide) rfl dX0_isFull_13 Nat.zero_lt_one rfl hk ?_
  refine v_if_eq 21 dX0_isFull_14 (by decide) (fun h_14 => ?_) (fun h_14 => ?_)
  · refine v_iconst 0 dX0_isFull_21 (by decide) ?_
    exact v_zret dX0_isFull_22 (by decide) ⟨by simp only [h_5, h_14, if_true, if_false], rfl⟩
  · refine v_iconst 1 dX0_isFull_17 (by decide) ?_
    refine v_goto 22 dX0_isFull_18 (by decide) ?_
    exact v_zret dX0_isFull_22 (by decide) ⟨by simp only [h_5, h_14, if_true, if_false], rfl⟩
set_option maxHeartbeats 4000000 in
set_option maxRecDepth 100000 in
theorem c_X0_valueOf {a b : tH} {k : Nat} (hk : k < 8) : Ci yX0_valueOf cX0_valueOf 2 .int 1 [.inr (some (12, 0)), .inl (nI k)] (mix a b) (a.1 14 0 k) (mix (a) b) := by
  refine Ct.of (by decide) [_, _] rfl (Nat.le_of_ble_eq_true rfl) ?_
  refine v_aload_n dX0_valueOf_0 rfl ?_
  refine v_iload_n dX0_valueOf_1 rfl ?_
  refine v_call1i lX0_19 kX0_has (c_X0_has_in hk) dX0_valueOf_2 rfl rfl Nat.zero_lt_one rfl (by decide) (by decide) (st8 rfl) ?_
  refine v_if_eq 17 dX0_valueOf_5 (by decide) (fun h_5 => absurd h_5 n10) (fun h_5 => ?_)
  refine v_aload_n dX0_valueOf_8 rfl ?_
  refine v_gr 0 fX0_15 dX0_valueOf_9 rfl rfl rfl Nat.zero_lt_one ?_
  refine v_iload_n dX0_valueOf_12 rfl ?_
  refine x_iald k (by decide) rfl dX0_valueOf_13 Nat.zero_lt_one rfl hk ?_
  refine v_goto 18 dX0_valueOf_14 (by decide) ?_
  exact v_iret dX0_valueOf_18 ⟨rfl, rfl⟩
set_option maxHeartbeats 4000000 in
set_option maxRecDepth 100000 in
theorem c_X0_keep {a b : tH} {k : Nat} (hk : k < 8) {v : Int32} : Cn yX0_keep cX0_keep 3 1 [.inr (some (12, 0)), .inl (nI k), .inl v] (mix a b) (mix (put (put a 13 0 k 1) 14 0 k v) b) := by
  refine Ct.of (by decide) [_, _, _] rfl (Nat.le_of_ble_eq_true rfl) ?_
  refine v_aload_n dX0_keep_0 rfl ?_
  refine v_iload_n dX0_keep_1 rfl ?_
  refine v_call1i lX0_19 kX0_has (c_X0_has_in hk) dX0_keep_2 rfl rfl Nat.zero_lt_one rfl (by decide) (by decide) (st8 rfl) ?_
  refine v_if_eq 22 dX0_keep_5 (by decide) (fun h_5 => absurd h_5 n10) (fun h_5 => ?_)
  refine v_aload_n dX0_keep_8 rfl ?_
  refine v_gr 0 fX0_9 dX0_keep_9 rfl rfl rfl Nat.zero_lt_one ?_
  refine v_iload_n dX0_keep_12 rfl ?_
  refine v_iconst 1 dX0_keep_13 (by decide) ?_
  refine x_zast k (by decide) rfl dX0_keep_14 Nat.zero_lt_one rfl hk (by decide) ?_
  refine v_aload_n dX0_keep_15 rfl ?_
  refine v_gr 0 fX0_15 dX0_keep_16 rfl rfl rfl Nat.zero_lt_one ?_
  refine v_iload_n dX0_keep_19 rfl ?_
  refine v_iload_n dX0_keep_20 rfl ?_
  refine x_iast k (by decide) rfl dX0_keep_21 Nat.zero_lt_one rfl hk ?_
  exact v_vret dX0_keep_22 ⟨rfl, rfl⟩
set_option maxHeartbeats 4000000 in
set_option maxRecDepth 100000 in
theorem c_X0_empty {a b : tH} {k : Nat} (hk : k < 8) : Cn yX0_empty cX0_empty 2 1 [.inr (some (12, 0)), .inl (nI k)] (mix a b) (mix (put a 13 0 k 0) b) := by
  refine Ct.of (by decide) [_, _] rfl (Nat.le_of_ble_eq_true rfl) ?_
  refine v_aload_n dX0_empty_0 rfl ?_
  refine v_iload_n dX0_empty_1 rfl ?_
  refine v_call1i lX0_19 kX0_has (c_X0_has_in hk) dX0_empty_2 rfl rfl Nat.zero_lt_one rfl (by decide) (by decide) (st8 rfl) ?_
  refine v_if_eq 15 dX0_empty_5 (by decide) (fun h_5 => absurd h_5 n10) (fun h_5 => ?_)
  refine v_aload_n dX0_empty_8 rfl ?_
  refine v_gr 0 fX0_9 dX0_empty_9 rfl rfl rfl Nat.zero_lt_one ?_
  refine v_iload_n dX0_empty_12 rfl ?_
  refine v_iconst 0 dX0_empty_13 (by decide) ?_
  refine x_zast k (by decide) rfl dX0_empty_14 Nat.zero_lt_one rfl hk (by decide) ?_
  exact v_vret dX0_empty_15 ⟨rfl, rfl⟩
set_option maxHeartbeats 4000000 in
set_option maxRecDepth 100000 in
theorem c_X2_size {a b : tH}  : Ci yX2_size cX2_size 1 .int 0 [.inr (some (10, 0))] (mix a b) (a.1 10 0 1) (mix (a) b) := by
  refine Ct.of (by decide) [_] rfl (Nat.le_of_ble_eq_true rfl) ?_
  refine v_aload_n dX2_size_0 rfl ?_
  refine x_gi (by decide) fX2_17 dX2_size_1 rfl rfl Nat.zero_lt_one ?_
  exact v_iret dX2_size_4 ⟨rfl, rfl⟩
set_option maxHeartbeats 4000000 in
set_option maxRecDepth 100000 in
theorem c_X2_clear {a b : tH}  : Cn yX2_clear cX2_clear 1 0 [.inr (some (10, 0))] (mix a b) (mix (put a 10 0 1 0) b) := by
  refine Ct.of (by decide) [_] rfl (Nat.le_of_ble_eq_true rfl) ?_
  refine v_aload_n dX2_clear_0 rfl ?_
  refine v_iconst 0 dX2_clear_1 (by decide) ?_
  refine x_pi (by decide) fX2_17 dX2_clear_2 rfl rfl Nat.zero_lt_one ?_
  exact v_vret dX2_clear_5 ⟨rfl, rfl⟩
set_option maxHeartbeats 4000000 in
set_option maxRecDepth 100000 in
theorem c_X2_at_out {a b : tH} {i : Int32} (ho : i < 0 ∨ a.1 10 0 1 ≤ i) : Cr yX2_at cX2_at 2 (.object "TurnThreads$Fiber") 0 [.inr (some (10, 0)), .inl i] (mix a b) (none) (mix (a) b) := by
  refine Ct.of (by decide) [_, _] rfl (Nat.le_of_ble_eq_true rfl) ?_
  refine v_iload_n dX2_at_0 rfl ?_
  refine v_if_lt 21 dX2_at_1 (by decide) (fun h_1 => ?_) (fun h_1 => ?_)
  · refine v_null dX2_at_21 ?_
    exact v_aret dX2_at_22 ⟨rfl, rfl⟩
  · refine v_iload_n dX2_at_4 rfl ?_
    refine v_aload_n dX2_at_5 rfl ?_
    refine x_gi (by decide) fX2_17 dX2_at_6 rfl rfl Nat.zero_lt_one ?_
    refine v_icmp_ge 21 dX2_at_9 (by decide) (fun h_9 => ?_) (fun h_9 => (ho.elim (fun z => absurd z h_1) (fun z => absurd z h_9)))
    refine v_null dX2_at_21 ?_
    exact v_aret dX2_at_22 ⟨rfl, rfl⟩
set_option maxHeartbeats 4000000 in
set_option maxRecDepth 100000 in
theorem c_X2_at_in {a b : tH} {k n : Nat} (hn : a.1 10 0 1 = nI n) (hk : k < n) (h4 : n ≤ 24) : Cr yX2_at cX2_at 2 (.object "TurnThreads$Fiber") 0 [.inr (some (10, 0)), .inl (nI k)] (mix a b) ((a.2 k).map (fun t => (7, t))) (mix (a) b) := by
  refine Ct.of (by decide) [_, _] rfl (Nat.le_of_ble_eq_true rfl) ?_
  refine v_iload_n dX2_at_0 rfl ?_
  refine v_if_lt 21 dX2_at_1 (by decide) (fun h_1 => absurd h_1 (nI_pos (by omega))) (fun h_1 => ?_)
  refine v_iload_n dX2_at_4 rfl ?_
  refine v_aload_n dX2_at_5 rfl ?_
  refine x_gi (by decide) fX2_17 dX2_at_6 rfl rfl Nat.zero_lt_one ?_
  refine v_icmp_ge 21 dX2_at_9 (by decide) (fun h_9 => absurd h_9 (by rw [hn]; exact nI_ge hk (by omega))) (fun h_9 => ?_)
  refine v_aload_n dX2_at_12 rfl ?_
  refine v_gr 0 fX2_11 dX2_at_13 rfl rfl rfl Nat.zero_lt_one ?_
  refine v_iload_n dX2_at_16 rfl ?_
  refine x_aaldQ k dX2_at_17 rfl (by omega) ?_
  refine v_goto 22 dX2_at_18 (by decide) ?_
  exact v_aret dX2_at_22 ⟨rfl, rfl⟩
set_option maxHeartbeats 4000000 in
set_option maxRecDepth 100000 in
theorem c_X2_add {a b : tH} {t n : Nat} (ht : t < 24) (hn : a.1 10 0 1 = nI n) (h4 : n < 24) : Cn yX2_add cX2_add 2 0 [.inr (some (10, 0)), .inr (some (7, t))] (mix a b) (mix (put (putq a n (some t)) 10 0 1 (nI (n + 1))) b) := by
  refine Ct.of (by decide) [_, _] rfl (Nat.le_of_ble_eq_true rfl) ?_
  refine v_aload_n dX2_add_0 rfl ?_
  refine x_gi (by decide) fX2_17 dX2_add_1 rfl rfl Nat.zero_lt_one ?_
  refine v_bipush 24 dX2_add_4 (by decide) ?_
  refine v_icmp_ge 29 dX2_add_6 (by decide) (fun h_6 => absurd h_6 (by rw [hn]; exact nI_ge h4 (by decide))) (fun h_6 => ?_)
  refine v_aload_n dX2_add_9 rfl ?_
  refine v_gr 0 fX2_11 dX2_add_10 rfl rfl rfl Nat.zero_lt_one ?_
  refine v_aload_n dX2_add_13 rfl ?_
  refine x_gi (by decide) fX2_17 dX2_add_14 rfl rfl Nat.zero_lt_one ?_
  refine v_aload_n dX2_add_17 rfl ?_
  refine x_aastQ (r := some t) n dX2_add_18 hn h4 (fun _ e => by cases e; exact ht) ?_
  refine v_aload_n dX2_add_19 rfl ?_
  refine v_dup dX2_add_20 ?_
  refine x_gi (by decide) fX2_17 dX2_add_21 rfl rfl Nat.zero_lt_one ?_
  refine v_iconst 1 dX2_add_24 (by decide) ?_
  refine v_iadd dX2_add_25 ?_
  rw [show (putq a n (some t)).1 10 0 1 = nI n from hn, nI_1]
  refine x_pi (by decide) fX2_17 dX2_add_26 rfl rfl Nat.zero_lt_one ?_
  exact v_vret dX2_add_29 ⟨rfl, rfl⟩
set_option maxHeartbeats 4000000 in
set_option maxRecDepth 100000 in
theorem c_X3_isEmpty {a b : tH}  : Ci yX3_isEmpty cX3_isEmpty 1 .boolean 0 [.inr (some (1, 0))] (mix a b) (if a.1 1 0 3 = 0 then 1 else 0) (mix (a) b) := by
  refine Ct.of (by decide) [_] rfl (Nat.le_of_ble_eq_true rfl) ?_
  refine v_aload_n dX3_isEmpty_0 rfl ?_
  refine x_gi (by decide) fX3_23 dX3_isEmpty_1 rfl rfl Nat.zero_lt_one ?_
  refine v_if_ne 11 dX3_isEmpty_4 (by decide) (fun h_4 => ?_) (fun h_4 => ?_)
  · refine v_iconst 0 dX3_isEmpty_11 (by decide) ?_
    exact v_zret dX3_isEmpty_12 (by decide) ⟨by simp only [h_4, if_true, if_false], rfl⟩
  · refine v_iconst 1 dX3_isEmpty_7 (by decide) ?_
    refine v_goto 12 dX3_isEmpty_8 (by decide) ?_
    exact v_zret dX3_isEmpty_12 (by decide) ⟨by simp only [h_4, if_true, if_false], rfl⟩
set_option maxHeartbeats 4000000 in
set_option maxRecDepth 100000 in
theorem c_X3_has {a b : tH} {p : Int32} : Ci yX3_has cX3_has 2 .boolean 0 [.inr (some (1, 0)), .inl p] (mix a b) (if p < 0 then 0 else if a.1 1 0 3 ≤ p then 0 else 1) (mix (a) b) := by
  refine Ct.of (by decide) [_, _] rfl (Nat.le_of_ble_eq_true rfl) ?_
  refine v_iload_n dX3_has_0 rfl ?_
  refine v_if_lt 16 dX3_has_1 (by decide) (fun h_1 => ?_) (fun h_1 => ?_)
  · refine v_iconst 0 dX3_has_16 (by decide) ?_
    exact v_zret dX3_has_17 (by decide) ⟨by simp only [h_1, if_true, if_false], rfl⟩
  · refine v_iload_n dX3_has_4 rfl ?_
    refine v_aload_n dX3_has_5 rfl ?_
    refine x_gi (by decide) fX3_23 dX3_has_6 rfl rfl Nat.zero_lt_one ?_
    refine v_icmp_ge 16 dX3_has_9 (by decide) (fun h_9 => ?_) (fun h_9 => ?_)
    · refine v_iconst 0 dX3_has_16 (by decide) ?_
      exact v_zret dX3_has_17 (by decide) ⟨by simp only [h_1, h_9, if_true, if_false], rfl⟩
    · refine v_iconst 1 dX3_has_12 (by decide) ?_
      refine v_goto 17 dX3_has_13 (by decide) ?_
      exact v_zret dX3_has_17 (by decide) ⟨by simp only [h_1, h_9, if_true, if_false], rfl⟩
set_option maxHeartbeats 4000000 in
set_option maxRecDepth 100000 in
theorem c_X3_has_in {a b : tH} {p n : Nat} (hn : a.1 1 0 3 = nI n) (hp : p < n) (h12 : n ≤ 12) : Ci yX3_has cX3_has 2 .boolean 0 [.inr (some (1, 0)), .inl (nI p)] (mix a b) (1) (mix (a) b) := by
  refine Ct.of (by decide) [_, _] rfl (Nat.le_of_ble_eq_true rfl) ?_
  refine v_iload_n dX3_has_0 rfl ?_
  refine v_if_lt 16 dX3_has_1 (by decide) (fun h_1 => absurd h_1 (nI_pos (by omega))) (fun h_1 => ?_)
  refine v_iload_n dX3_has_4 rfl ?_
  refine v_aload_n dX3_has_5 rfl ?_
  refine x_gi (by decide) fX3_23 dX3_has_6 rfl rfl Nat.zero_lt_one ?_
  refine v_icmp_ge 16 dX3_has_9 (by decide) (fun h_9 => absurd h_9 (by rw [hn]; exact nI_ge hp (by omega))) (fun h_9 => ?_)
  refine v_iconst 1 dX3_has_12 (by decide) ?_
  refine v_goto 17 dX3_has_13 (by decide) ?_
  exact v_zret dX3_has_17 (by decide) ⟨rfl, rfl⟩
set_option maxHeartbeats 4000000 in
set_option maxRecDepth 100000 in
theorem c_X3_addProgram {a b : tH} {n : Nat} (hn : a.1 1 0 3 = nI n) (h12 : n ≤ 12) : Ci yX3_addProgram cX3_addProgram 1 .int 0 [.inr (some (1, 0))] (mix a b) (if n < 12 then nI n else (-4)) (mix (if n < 12 then put a 1 0 3 (nI (n + 1)) else a) b) := by
  refine Ct.of (by decide) [_] rfl (Nat.le_of_ble_eq_true rfl) ?_
  refine v_aload_n dX3_addProgram_0 rfl ?_
  refine x_gi (by decide) fX3_23 dX3_addProgram_1 rfl rfl Nat.zero_lt_one ?_
  refine v_bipush 12 dX3_addProgram_4 (by decide) ?_
  refine v_icmp_lt 12 dX3_addProgram_6 (by decide) (fun h_6 => ?_) (fun h_6 => ?_)
  · have g12 : n < 12 := by
      rcases Nat.lt_or_ge n 12 with q | q
      · exact q
      · exact absurd (by rw [← hn]; exact h_6) (nI_nlt q (by omega))
    refine v_aload_n dX3_addProgram_12 rfl ?_
    refine v_dup dX3_addProgram_13 ?_
    refine x_gi (by decide) fX3_23 dX3_addProgram_14 rfl rfl Nat.zero_lt_one ?_
    refine v_iconst 1 dX3_addProgram_17 (by decide) ?_
    refine v_iadd dX3_addProgram_18 ?_
    rw [hn, nI_1]
    refine x_pi (by decide) fX3_23 dX3_addProgram_19 rfl rfl Nat.zero_lt_one ?_
    refine v_aload_n dX3_addProgram_22 rfl ?_
    refine x_gi (by decide) fX3_23 dX3_addProgram_23 rfl rfl Nat.zero_lt_one ?_
    refine v_iconst 1 dX3_addProgram_26 (by decide) ?_
    refine v_isub dX3_addProgram_27 ?_
    exact v_iret dX3_addProgram_28 ⟨by rw [put_eq, if_pos g12, nI_pred], by rw [if_pos g12]⟩
  · have g12 : ¬ n < 12 := fun q => h_6 (by rw [hn]; exact nI_lt q (by decide))
    refine v_bipush (-4) dX3_addProgram_9 (by decide) ?_
    exact v_iret dX3_addProgram_11 ⟨by rw [if_neg g12], by rw [if_neg g12]⟩
set_option maxHeartbeats 4000000 in
set_option maxRecDepth 100000 in
theorem c_X3_addAct {a b : tH} {p z : Nat} {x y : Int32} (hn : a.1 1 0 3 = nI (p + 1)) (h12 : p < 12) (hz : a.1 2 0 p = nI z) (h20 : z ≤ 20) : Ci yX3_addAct cX3_addAct 5 .int 1 [.inr (some (1, 0)), .inl x, .inl y] (mix a b) (if z < 20 then nI (z + 1) else (-4)) (mix (if z < 20 then put (put (put a 4 p z x) 6 p z y) 2 0 p (nI (z + 1)) else a) b) := by
  refine Ct.of (by decide) [_, _, _, _, _] rfl (Nat.le_of_ble_eq_true rfl) ?_
  refine v_aload_n dX3_addAct_0 rfl ?_
  refine x_gi (by decide) fX3_23 dX3_addAct_1 rfl rfl Nat.zero_lt_one ?_
  refine v_iconst 1 dX3_addAct_4 (by decide) ?_
  refine v_isub dX3_addAct_5 ?_
  rw [hn, nI_pred]
  refine v_istore_n [_, _, _, _, _] dX3_addAct_6 rfl (by decide) ?_
  refine v_aload_n dX3_addAct_7 rfl ?_
  refine v_iload_n dX3_addAct_8 rfl ?_
  refine v_call1i lX3_27 kX3_has (c_X3_has_in hn (by omega) (by omega)) dX3_addAct_9 rfl rfl Nat.zero_lt_one rfl (by decide) (by decide) (st8 rfl) ?_
  refine v_if_eq 26 dX3_addAct_12 (by decide) (fun h_12 => absurd h_12 n10) (fun h_12 => ?_)
  refine v_aload_n dX3_addAct_15 rfl ?_
  refine v_gr 0 fX3_9 dX3_addAct_16 rfl rfl rfl Nat.zero_lt_one ?_
  refine v_iload_n dX3_addAct_19 rfl ?_
  refine x_iald p (by decide) rfl dX3_addAct_20 Nat.zero_lt_one rfl h12 ?_
  refine v_bipush 20 dX3_addAct_21 (by decide) ?_
  refine v_icmp_lt 29 dX3_addAct_23 (by decide) (fun h_23 => ?_) (fun h_23 => ?_)
  · have g : z < 20 := by
      rcases Nat.lt_or_ge z 20 with q | q
      · exact q
      · exact absurd (by rw [← hz]; exact h_23) (nI_nlt q (by omega))
    refine v_aload_n dX3_addAct_29 rfl ?_
    refine v_gr 0 fX3_9 dX3_addAct_30 rfl rfl rfl Nat.zero_lt_one ?_
    refine v_iload_n dX3_addAct_33 rfl ?_
    refine x_iald p (by decide) rfl dX3_addAct_34 Nat.zero_lt_one rfl h12 ?_
    rw [hz]
    refine v_istore [_, _, _, _, _] dX3_addAct_35 rfl (by decide) ?_
    refine v_aload_n dX3_addAct_37 rfl ?_
    refine v_gr 0 fX3_17 dX3_addAct_38 rfl rfl rfl Nat.zero_lt_one ?_
    refine v_iload_n dX3_addAct_41 rfl ?_
    refine v_aaldG p rfl dX3_addAct_42 Nat.zero_lt_one rfl h12 ?_
    refine v_iload dX3_addAct_43 rfl ?_
    refine v_iload_n dX3_addAct_45 rfl ?_
    refine x_iast z (by decide) rfl dX3_addAct_46 h12 rfl g ?_
    refine v_aload_n dX3_addAct_47 rfl ?_
    refine v_gr 0 fX3_20 dX3_addAct_48 rfl rfl rfl Nat.zero_lt_one ?_
    refine v_iload_n dX3_addAct_51 rfl ?_
    refine v_aaldG p rfl dX3_addAct_52 Nat.zero_lt_one rfl h12 ?_
    refine v_iload dX3_addAct_53 rfl ?_
    refine v_iload_n dX3_addAct_55 rfl ?_
    refine x_iast z (by decide) rfl dX3_addAct_56 h12 rfl g ?_
    refine v_aload_n dX3_addAct_57 rfl ?_
    refine v_gr 0 fX3_9 dX3_addAct_58 rfl rfl rfl Nat.zero_lt_one ?_
    refine v_iload_n dX3_addAct_61 rfl ?_
    refine v_iload dX3_addAct_62 rfl ?_
    refine v_iconst 1 dX3_addAct_64 (by decide) ?_
    refine v_iadd dX3_addAct_65 ?_
    rw [nI_1]
    refine x_iast p (by decide) rfl dX3_addAct_66 Nat.zero_lt_one rfl h12 ?_
    refine v_iload dX3_addAct_67 rfl ?_
    refine v_iconst 1 dX3_addAct_69 (by decide) ?_
    refine v_iadd dX3_addAct_70 ?_
    exact v_iret dX3_addAct_71 ⟨by rw [if_pos g, nI_1], by rw [if_pos g]⟩
  · have g : ¬ z < 20 := fun q => h_23 (by rw [hz]; exact nI_lt q (by decide))
    refine v_bipush (-4) dX3_addAct_26 (by decide) ?_
    exact v_iret dX3_addAct_28 ⟨by rw [if_neg g], by rw [if_neg g]⟩
set_option maxHeartbeats 4000000 in
set_option maxRecDepth 100000 in
theorem c_X3_hasAct {a b : tH} {p n : Nat} {i : Int32} (hn : a.1 1 0 3 = nI n) (hp : p < n) (h12 : n ≤ 12) : Ci yX3_hasAct cX3_hasAct 3 .boolean 1 [.inr (some (1, 0)), .inl (nI p), .inl i] (mix a b) (if i < 0 then 0 else if a.1 2 0 p ≤ i then 0 else 1) (mix (a) b) := by
  refine Ct.of (by decide) [_, _, _] rfl (Nat.le_of_ble_eq_true rfl) ?_
  refine v_aload_n dX3_hasAct_0 rfl ?_
  refine v_iload_n dX3_hasAct_1 rfl ?_
  refine v_call1i lX3_27 kX3_has (c_X3_has_in hn hp h12) dX3_hasAct_2 rfl rfl Nat.zero_lt_one rfl (by decide) (by decide) (st8 rfl) ?_
  refine v_if_eq 26 dX3_hasAct_5 (by decide) (fun h_5 => absurd h_5 n10) (fun h_5 => ?_)
  refine v_iload_n dX3_hasAct_8 rfl ?_
  refine v_if_lt 26 dX3_hasAct_9 (by decide) (fun h_9 => ?_) (fun h_9 => ?_)
  · refine v_iconst 0 dX3_hasAct_26 (by decide) ?_
    exact v_zret dX3_hasAct_27 (by decide) ⟨by simp only [h_9, if_true, if_false], rfl⟩
  · refine v_iload_n dX3_hasAct_12 rfl ?_
    refine v_aload_n dX3_hasAct_13 rfl ?_
    refine v_gr 0 fX3_9 dX3_hasAct_14 rfl rfl rfl Nat.zero_lt_one ?_
    refine v_iload_n dX3_hasAct_17 rfl ?_
    refine x_iald p (by decide) rfl dX3_hasAct_18 Nat.zero_lt_one rfl (by omega) ?_
    refine v_icmp_ge 26 dX3_hasAct_19 (by decide) (fun h_19 => ?_) (fun h_19 => ?_)
    · refine v_iconst 0 dX3_hasAct_26 (by decide) ?_
      exact v_zret dX3_hasAct_27 (by decide) ⟨by simp only [h_9, h_19, if_true, if_false], rfl⟩
    · refine v_iconst 1 dX3_hasAct_22 (by decide) ?_
      refine v_goto 27 dX3_hasAct_23 (by decide) ?_
      exact v_zret dX3_hasAct_27 (by decide) ⟨by simp only [h_9, h_19, if_true, if_false], rfl⟩
set_option maxHeartbeats 4000000 in
set_option maxRecDepth 100000 in
theorem c_X3_kindAt_in {a b : tH} {p n z i : Nat} (hn : a.1 1 0 3 = nI n) (hp : p < n) (h12 : n ≤ 12) (hz : a.1 2 0 p = nI z) (h20 : z ≤ 20) (hi : i < z) : Ci yX3_kindAt cX3_kindAt 3 .int 2 [.inr (some (1, 0)), .inl (nI p), .inl (nI i)] (mix a b) (a.1 4 p i) (mix (a) b) := by
  refine Ct.of (by decide) [_, _, _] rfl (Nat.le_of_ble_eq_true rfl) ?_
  refine v_aload_n dX3_kindAt_0 rfl ?_
  refine v_iload_n dX3_kindAt_1 rfl ?_
  refine v_iload_n dX3_kindAt_2 rfl ?_
  refine v_call2i lX3_31 kX3_hasAct (c_X3_hasAct hn hp h12) dX3_kindAt_3 rfl rfl Nat.zero_lt_one rfl (by decide) (by decide) (st8 rfl) ?_
  refine v_if_eq 20 dX3_kindAt_6 (by decide) (fun h_6 => absurd h_6 (by rw [hz, if_neg (nI_pos (by omega)), if_neg (nI_ge hi (by omega))]; decide)) (fun h_6 => ?_)
  refine v_aload_n dX3_kindAt_9 rfl ?_
  refine v_gr 0 fX3_17 dX3_kindAt_10 rfl rfl rfl Nat.zero_lt_one ?_
  refine v_iload_n dX3_kindAt_13 rfl ?_
  refine v_aaldG p rfl dX3_kindAt_14 Nat.zero_lt_one rfl (by omega) ?_
  refine v_iload_n dX3_kindAt_15 rfl ?_
  refine x_iald i (by decide) rfl dX3_kindAt_16 (by omega) rfl (by omega) ?_
  refine v_goto 21 dX3_kindAt_17 (by decide) ?_
  exact v_iret dX3_kindAt_21 ⟨rfl, rfl⟩
set_option maxHeartbeats 4000000 in
set_option maxRecDepth 100000 in
theorem c_X3_kindAt_out {a b : tH} {p n z i : Nat} (hn : a.1 1 0 3 = nI n) (hp : p < n) (h12 : n ≤ 12) (hz : a.1 2 0 p = nI z) (h20 : z ≤ 20) (hi : z ≤ i) (h31 : i < 2 ^ 31) : Ci yX3_kindAt cX3_kindAt 3 .int 2 [.inr (some (1, 0)), .inl (nI p), .inl (nI i)] (mix a b) ((-1)) (mix (a) b) := by
  refine Ct.of (by decide) [_, _, _] rfl (Nat.le_of_ble_eq_true rfl) ?_
  refine v_aload_n dX3_kindAt_0 rfl ?_
  refine v_iload_n dX3_kindAt_1 rfl ?_
  refine v_iload_n dX3_kindAt_2 rfl ?_
  refine v_call2i lX3_31 kX3_hasAct (c_X3_hasAct hn hp h12) dX3_kindAt_3 rfl rfl Nat.zero_lt_one rfl (by decide) (by decide) (st8 rfl) ?_
  refine v_if_eq 20 dX3_kindAt_6 (by decide) (fun h_6 => ?_) (fun h_6 => absurd (by rw [hz, if_neg (nI_pos (by omega)), if_pos (nI_le hi h31)]) h_6)
  refine v_iconst (-1) dX3_kindAt_20 (by decide) ?_
  exact v_iret dX3_kindAt_21 ⟨rfl, rfl⟩
set_option maxHeartbeats 4000000 in
set_option maxRecDepth 100000 in
theorem c_X3_operandAt_in {a b : tH} {p n z i : Nat} (hn : a.1 1 0 3 = nI n) (hp : p < n) (h12 : n ≤ 12) (hz : a.1 2 0 p = nI z) (h20 : z ≤ 20) (hi : i < z) : Ci yX3_operandAt cX3_operandAt 3 .int 2 [.inr (some (1, 0)), .inl (nI p), .inl (nI i)] (mix a b) (a.1 6 p i) (mix (a) b) := by
  refine Ct.of (by decide) [_, _, _] rfl (Nat.le_of_ble_eq_true rfl) ?_
  refine v_aload_n dX3_operandAt_0 rfl ?_
  refine v_iload_n dX3_operandAt_1 rfl ?_
  refine v_iload_n dX3_operandAt_2 rfl ?_
  refine v_call2i lX3_31 kX3_hasAct (c_X3_hasAct hn hp h12) dX3_operandAt_3 rfl rfl Nat.zero_lt_one rfl (by decide) (by decide) (st8 rfl) ?_
  refine v_if_eq 20 dX3_operandAt_6 (by decide) (fun h_6 => absurd h_6 (by rw [hz, if_neg (nI_pos (by omega)), if_neg (nI_ge hi (by omega))]; decide)) (fun h_6 => ?_)
  refine v_aload_n dX3_operandAt_9 rfl ?_
  refine v_gr 0 fX3_20 dX3_operandAt_10 rfl rfl rfl Nat.zero_lt_one ?_
  refine v_iload_n dX3_operandAt_13 rfl ?_
  refine v_aaldG p rfl dX3_operandAt_14 Nat.zero_lt_one rfl (by omega) ?_
  refine v_iload_n dX3_operandAt_15 rfl ?_
  refine x_iald i (by decide) rfl dX3_operandAt_16 (by omega) rfl (by omega) ?_
  refine v_goto 21 dX3_operandAt_17 (by decide) ?_
  exact v_iret dX3_operandAt_21 ⟨rfl, rfl⟩
set_option maxHeartbeats 4000000 in
set_option maxRecDepth 100000 in
theorem c_X3_operandAt_out {a b : tH} {p n z i : Nat} (hn : a.1 1 0 3 = nI n) (hp : p < n) (h12 : n ≤ 12) (hz : a.1 2 0 p = nI z) (h20 : z ≤ 20) (hi : z ≤ i) (h31 : i < 2 ^ 31) : Ci yX3_operandAt cX3_operandAt 3 .int 2 [.inr (some (1, 0)), .inl (nI p), .inl (nI i)] (mix a b) (0) (mix (a) b) := by
  refine Ct.of (by decide) [_, _, _] rfl (Nat.le_of_ble_eq_true rfl) ?_
  refine v_aload_n dX3_operandAt_0 rfl ?_
  refine v_iload_n dX3_operandAt_1 rfl ?_
  refine v_iload_n dX3_operandAt_2 rfl ?_
  refine v_call2i lX3_31 kX3_hasAct (c_X3_hasAct hn hp h12) dX3_operandAt_3 rfl rfl Nat.zero_lt_one rfl (by decide) (by decide) (st8 rfl) ?_
  refine v_if_eq 20 dX3_operandAt_6 (by decide) (fun h_6 => ?_) (fun h_6 => absurd (by rw [hz, if_neg (nI_pos (by omega)), if_pos (nI_le hi h31)]) h_6)
  refine v_iconst 0 dX3_operandAt_20 (by decide) ?_
  exact v_iret dX3_operandAt_21 ⟨rfl, rfl⟩
set_option maxHeartbeats 4000000 in
set_option maxRecDepth 100000 in
theorem c_X4_size {a b : tH}  : Ci yX4_size cX4_size 1 .int 0 [.inr (some (15, 0))] (mix a b) (a.1 15 0 2) (mix (a) b) := by
  refine Ct.of (by decide) [_] rfl (Nat.le_of_ble_eq_true rfl) ?_
  refine v_aload_n dX4_size_0 rfl ?_
  refine x_gi (by decide) fX4_18 dX4_size_1 rfl rfl Nat.zero_lt_one ?_
  exact v_iret dX4_size_4 ⟨rfl, rfl⟩
set_option maxHeartbeats 4000000 in
set_option maxRecDepth 100000 in
theorem c_X4_clear {a b : tH}  : Cn yX4_clear cX4_clear 1 0 [.inr (some (15, 0))] (mix a b) (mix (put a 15 0 2 0) b) := by
  refine Ct.of (by decide) [_] rfl (Nat.le_of_ble_eq_true rfl) ?_
  refine v_aload_n dX4_clear_0 rfl ?_
  refine v_iconst 0 dX4_clear_1 (by decide) ?_
  refine x_pi (by decide) fX4_18 dX4_clear_2 rfl rfl Nat.zero_lt_one ?_
  exact v_vret dX4_clear_5 ⟨rfl, rfl⟩
set_option maxHeartbeats 4000000 in
set_option maxRecDepth 100000 in
theorem c_X4_add {a b : tH} {n : Nat} {x y : Int32} (hn : a.1 15 0 2 = nI n) (h100 : n ≤ 100) : Cn yX4_add cX4_add 3 0 [.inr (some (15, 0)), .inl x, .inl y] (mix a b) (mix (if 100 ≤ a.1 15 0 2 then a else put (put (put a 16 0 n x) 17 0 n y) 15 0 2 (a.1 15 0 2 + 1)) b) := by
  refine Ct.of (by decide) [_, _, _] rfl (Nat.le_of_ble_eq_true rfl) ?_
  refine v_aload_n dX4_add_0 rfl ?_
  refine x_gi (by decide) fX4_18 dX4_add_1 rfl rfl Nat.zero_lt_one ?_
  refine v_bipush 100 dX4_add_4 (by decide) ?_
  refine v_icmp_ge 39 dX4_add_6 (by decide) (fun h_6 => ?_) (fun h_6 => ?_)
  · exact v_vret dX4_add_39 ⟨rfl, by simp only [h_6, if_true, if_false]; try rfl⟩
  · refine v_aload_n dX4_add_9 rfl ?_
    refine v_gr 0 fX4_9 dX4_add_10 rfl rfl rfl Nat.zero_lt_one ?_
    refine v_aload_n dX4_add_13 rfl ?_
    refine x_gi (by decide) fX4_18 dX4_add_14 rfl rfl Nat.zero_lt_one ?_
    refine v_iload_n dX4_add_17 rfl ?_
    refine x_iast n (by decide) rfl dX4_add_18 Nat.zero_lt_one hn (nlt_of hn (by omega) (by decide) h_6) ?_
    refine v_aload_n dX4_add_19 rfl ?_
    refine v_gr 0 fX4_15 dX4_add_20 rfl rfl rfl Nat.zero_lt_one ?_
    refine v_aload_n dX4_add_23 rfl ?_
    refine x_gi (by decide) fX4_18 dX4_add_24 rfl rfl Nat.zero_lt_one ?_
    refine v_iload_n dX4_add_27 rfl ?_
    refine x_iast n (by decide) rfl dX4_add_28 Nat.zero_lt_one hn (nlt_of hn (by omega) (by decide) h_6) ?_
    refine v_aload_n dX4_add_29 rfl ?_
    refine v_dup dX4_add_30 ?_
    refine x_gi (by decide) fX4_18 dX4_add_31 rfl rfl Nat.zero_lt_one ?_
    refine v_iconst 1 dX4_add_34 (by decide) ?_
    refine v_iadd dX4_add_35 ?_
    refine x_pi (by decide) fX4_18 dX4_add_36 rfl rfl Nat.zero_lt_one ?_
    exact v_vret dX4_add_39 ⟨rfl, by simp only [h_6, if_true, if_false]; try rfl⟩
set_option maxHeartbeats 4000000 in
set_option maxRecDepth 100000 in
theorem c_X4_numberAt {a b : tH} {k n : Nat} (hn : a.1 15 0 2 = nI n) (hk : k < n) (h100 : n ≤ 100) : Ci yX4_numberAt cX4_numberAt 2 .int 0 [.inr (some (15, 0)), .inl (nI k)] (mix a b) (a.1 16 0 k) (mix (a) b) := by
  refine Ct.of (by decide) [_, _] rfl (Nat.le_of_ble_eq_true rfl) ?_
  refine v_iload_n dX4_numberAt_0 rfl ?_
  refine v_if_lt 21 dX4_numberAt_1 (by decide) (fun h_1 => absurd h_1 (nI_pos (by omega))) (fun h_1 => ?_)
  refine v_iload_n dX4_numberAt_4 rfl ?_
  refine v_aload_n dX4_numberAt_5 rfl ?_
  refine x_gi (by decide) fX4_18 dX4_numberAt_6 rfl rfl Nat.zero_lt_one ?_
  refine v_icmp_ge 21 dX4_numberAt_9 (by decide) (fun h_9 => absurd h_9 (by rw [hn]; exact nI_ge hk (by omega))) (fun h_9 => ?_)
  refine v_aload_n dX4_numberAt_12 rfl ?_
  refine v_gr 0 fX4_9 dX4_numberAt_13 rfl rfl rfl Nat.zero_lt_one ?_
  refine v_iload_n dX4_numberAt_16 rfl ?_
  refine x_iald k (by decide) rfl dX4_numberAt_17 Nat.zero_lt_one rfl (by omega) ?_
  refine v_goto 22 dX4_numberAt_18 (by decide) ?_
  exact v_iret dX4_numberAt_22 ⟨rfl, rfl⟩
set_option maxHeartbeats 4000000 in
set_option maxRecDepth 100000 in
theorem c_X4_registerAt {a b : tH} {k n : Nat} (hn : a.1 15 0 2 = nI n) (hk : k < n) (h100 : n ≤ 100) : Ci yX4_registerAt cX4_registerAt 2 .int 0 [.inr (some (15, 0)), .inl (nI k)] (mix a b) (a.1 17 0 k) (mix (a) b) := by
  refine Ct.of (by decide) [_, _] rfl (Nat.le_of_ble_eq_true rfl) ?_
  refine v_iload_n dX4_registerAt_0 rfl ?_
  refine v_if_lt 21 dX4_registerAt_1 (by decide) (fun h_1 => absurd h_1 (nI_pos (by omega))) (fun h_1 => ?_)
  refine v_iload_n dX4_registerAt_4 rfl ?_
  refine v_aload_n dX4_registerAt_5 rfl ?_
  refine x_gi (by decide) fX4_18 dX4_registerAt_6 rfl rfl Nat.zero_lt_one ?_
  refine v_icmp_ge 21 dX4_registerAt_9 (by decide) (fun h_9 => absurd h_9 (by rw [hn]; exact nI_ge hk (by omega))) (fun h_9 => ?_)
  refine v_aload_n dX4_registerAt_12 rfl ?_
  refine v_gr 0 fX4_15 dX4_registerAt_13 rfl rfl rfl Nat.zero_lt_one ?_
  refine v_iload_n dX4_registerAt_16 rfl ?_
  refine x_iald k (by decide) rfl dX4_registerAt_17 Nat.zero_lt_one rfl (by omega) ?_
  refine v_goto 22 dX4_registerAt_18 (by decide) ?_
  exact v_iret dX4_registerAt_22 ⟨rfl, rfl⟩
