/-! Leaves of the reference, as its code says it -/
def mEnq (b : tH) (t : Nat) : tH := put (put (put b 24 0 t 0) 38 0 (nv (b.1 20 0 27)) (nI t)) 20 0 27 (b.1 20 0 27 + 1)
def mGo (b : tH) (t : Nat) : tH := mEnq (put (put b 26 0 t (b.1 26 0 t + 1)) 36 0 t (-1)) t
def mLvL (t : Nat) : Nat → Nat → Nat → tH → tH
  | 0, n, _, b => put b 20 0 27 (nI n)
  | m + 1, n, k, b => if b.1 38 0 k = nI t then mLvL t m n (k + 1) b else mLvL t m (n + 1) (k + 1) (put b 38 0 n (b.1 38 0 k))
def mLeave (b : tH) (t : Nat) : tH := mLvL t (nv (b.1 20 0 27)) 0 0 b
def mFirst (b : tH) (T : Nat) (x w : Int32) : Option Nat := mins (fun t => decide (b.1 24 0 t = w) && decide (b.1 36 0 t = x)) (fun t => b.1 37 0 t) T
def mNew (b : tH) (t : Nat) (p r : Int32) : tH := mEnq (put (put (put (put (put (put (put (put (put (put (put (put b 24 0 t 0) 25 0 t p) 26 0 t 0) 27 0 t r) 28 0 t 0) 30 0 t 0) 31 0 t 0) 33 0 t 0) 34 0 t 0) 35 0 t (-3)) 36 0 t (-1)) 20 0 11 (nI (t + 1))) t

set_option maxHeartbeats 4000000 in
set_option maxRecDepth 100000 in
theorem c_X7_thrown {a b : tH}  : Ci yX7_thrown cX7_thrown 1 .int 0 [.inr (some (20, 0))] (mix a b) (b.1 20 0 0) (mix a (b)) := by
  refine Ct.of (by decide) [_] rfl (Nat.le_of_ble_eq_true rfl) ?_
  refine v_aload_n dX7_thrown_0 rfl ?_
  refine m_gi (by decide) fX7_77 dX7_thrown_1 rfl rfl Nat.zero_lt_one ?_
  exact v_iret dX7_thrown_4 ⟨rfl, rfl⟩
set_option maxHeartbeats 4000000 in
set_option maxRecDepth 100000 in
theorem c_X7_in {a b : tH} {x y z : Int32} : Ci yX7_in cX7_in 3 .boolean 0 [.inl x, .inl y, .inl z] (mix a b) (if x < y then 0 else if z < x then 0 else 1) (mix a (b)) := by
  refine Ct.of (by decide) [_, _, _] rfl (Nat.le_of_ble_eq_true rfl) ?_
  refine v_iload_n dX7_in_0 rfl ?_
  refine v_iload_n dX7_in_1 rfl ?_
  refine v_icmp_lt 14 dX7_in_2 (by decide) (fun h_2 => ?_) (fun h_2 => ?_)
  · refine v_iconst 0 dX7_in_14 (by decide) ?_
    exact v_zret dX7_in_15 (by decide) ⟨by simp only [h_2, if_true, if_false], rfl⟩
  · refine v_iload_n dX7_in_5 rfl ?_
    refine v_iload_n dX7_in_6 rfl ?_
    refine v_icmp_gt 14 dX7_in_7 (by decide) (fun h_7 => ?_) (fun h_7 => ?_)
    · refine v_iconst 0 dX7_in_14 (by decide) ?_
      exact v_zret dX7_in_15 (by decide) ⟨by simp only [h_2, h_7, if_true, if_false], rfl⟩
    · refine v_iconst 1 dX7_in_10 (by decide) ?_
      refine v_goto 15 dX7_in_11 (by decide) ?_
      exact v_zret dX7_in_15 (by decide) ⟨by simp only [h_2, h_7, if_true, if_false], rfl⟩
set_option maxHeartbeats 4000000 in
set_option maxRecDepth 100000 in
theorem c_X7_enqueue {a b : tH} {t q : Nat} (ht : t < 24) (hq : b.1 20 0 27 = nI q) (h24 : q ≤ 24) : Cn yX7_enqueue cX7_enqueue 2 0 [.inr (some (20, 0)), .inl (nI t)] (mix a b) (mix a (mEnq b t)) := by
  refine Ct.of (by decide) [_, _] rfl (Nat.le_of_ble_eq_true rfl) ?_
  refine v_aload_n dX7_enqueue_0 rfl ?_
  refine v_gr 0 fX7_19 dX7_enqueue_1 rfl rfl rfl Nat.zero_lt_one ?_
  refine v_iload_n dX7_enqueue_4 rfl ?_
  refine v_iconst 0 dX7_enqueue_5 (by decide) ?_
  refine m_iast t (by decide) rfl dX7_enqueue_6 Nat.zero_lt_one rfl ht ?_
  refine v_aload_n dX7_enqueue_7 rfl ?_
  refine v_gr 0 fX7_62 dX7_enqueue_8 rfl rfl rfl Nat.zero_lt_one ?_
  refine v_aload_n dX7_enqueue_11 rfl ?_
  refine m_gi (by decide) fX7_99 dX7_enqueue_12 rfl rfl Nat.zero_lt_one ?_
  refine v_iload_n dX7_enqueue_15 rfl ?_
  refine m_iast q (by decide) rfl dX7_enqueue_16 Nat.zero_lt_one hq (by omega) ?_
  refine v_aload_n dX7_enqueue_17 rfl ?_
  refine v_dup dX7_enqueue_18 ?_
  refine m_gk (by exact hq) (by decide) fX7_99 dX7_enqueue_19 rfl rfl Nat.zero_lt_one ?_
  refine v_iconst 1 dX7_enqueue_22 (by decide) ?_
  refine v_iadd dX7_enqueue_23 ?_
  refine m_pi (by decide) fX7_99 dX7_enqueue_24 rfl rfl Nat.zero_lt_one ?_
  exact v_vret dX7_enqueue_27 ⟨rfl, by unfold mEnq; rw [hq, nv_nI (by omega)]⟩
set_option maxHeartbeats 4000000 in
set_option maxRecDepth 100000 in
theorem c_X7_goesOn {a b : tH} {t q : Nat} (ht : t < 24) (hq : b.1 20 0 27 = nI q) (h24 : q ≤ 24) : Cn yX7_goesOn cX7_goesOn 2 1 [.inr (some (20, 0)), .inl (nI t)] (mix a b) (mix a (mGo b t)) := by
  refine Ct.of (by decide) [_, _] rfl (Nat.le_of_ble_eq_true rfl) ?_
  refine v_aload_n dX7_goesOn_0 rfl ?_
  refine v_gr 0 fX7_25 dX7_goesOn_1 rfl rfl rfl Nat.zero_lt_one ?_
  refine v_iload_n dX7_goesOn_4 rfl ?_
  refine v_dup2 dX7_goesOn_5 ?_
  refine m_iald t (by decide) rfl dX7_goesOn_6 Nat.zero_lt_one rfl ht ?_
  refine v_iconst 1 dX7_goesOn_7 (by decide) ?_
  refine v_iadd dX7_goesOn_8 ?_
  refine m_iast t (by decide) rfl dX7_goesOn_9 Nat.zero_lt_one rfl ht ?_
  refine v_aload_n dX7_goesOn_10 rfl ?_
  refine v_gr 0 fX7_56 dX7_goesOn_11 rfl rfl rfl Nat.zero_lt_one ?_
  refine v_iload_n dX7_goesOn_14 rfl ?_
  refine v_iconst (-1) dX7_goesOn_15 (by decide) ?_
  refine m_iast t (by decide) rfl dX7_goesOn_16 Nat.zero_lt_one rfl ht ?_
  refine v_aload_n dX7_goesOn_17 rfl ?_
  refine v_iload_n dX7_goesOn_18 rfl ?_
  refine v_call1n lX7_95 kX7_enqueue (c_X7_enqueue (q := q) ht (by exact hq) h24) dX7_goesOn_19 rfl rfl Nat.zero_lt_one rfl (by decide) (by decide) (st8 rfl) ?_
  exact v_vret dX7_goesOn_22 ⟨rfl, rfl⟩
set_option maxHeartbeats 4000000 in
set_option maxRecDepth 100000 in
theorem l_X7_leaveQueue {a : tH} {t : Nat} : ∀ (m n k q : Nat) (b : tH), q = k + m → n ≤ k → q ≤ 25 → b.1 20 0 27 = nI q → Vw yX7_leaveQueue.cls cX7_leaveQueue 4 none 0 (fun r h' => r = none ∧ h' = mix a (mLvL t m n k b)) 4 [some (.inr (some (20, 0))), some (.inl (nI t)), some (.inl (nI n)), some (.inl (nI k))] [] (mix a b) := by
  intro m
  induction m with
  | zero =>
    intro n k q b hk hn h25 hq
    obtain rfl : q = k := hk
    refine v_iload_n dX7_leaveQueue_4 rfl ?_
    refine v_aload_n dX7_leaveQueue_5 rfl ?_
    refine m_gk hq (by decide) fX7_99 dX7_leaveQueue_6 rfl rfl Nat.zero_lt_one ?_
    refine v_icmp_ge 43 dX7_leaveQueue_9 (by decide) (fun h_9 => ?_) (fun h_9 => absurd (Int32.le_refl _) h_9)
    refine v_aload_n dX7_leaveQueue_43 rfl ?_
    refine v_iload_n dX7_leaveQueue_44 rfl ?_
    refine m_pi (by decide) fX7_99 dX7_leaveQueue_45 rfl rfl Nat.zero_lt_one ?_
    exact v_vret dX7_leaveQueue_48 ⟨rfl, rfl⟩
  | succ m ih =>
    intro n k q b hk hn h25 hq
    refine v_iload_n dX7_leaveQueue_4 rfl ?_
    refine v_aload_n dX7_leaveQueue_5 rfl ?_
    refine m_gk hq (by decide) fX7_99 dX7_leaveQueue_6 rfl rfl Nat.zero_lt_one ?_
    refine v_icmp_ge 43 dX7_leaveQueue_9 (by decide) (fun h_9 => absurd h_9 (nI_ge (by omega) (by omega))) (fun h_9 => ?_)
    refine v_aload_n dX7_leaveQueue_12 rfl ?_
    refine v_gr 0 fX7_62 dX7_leaveQueue_13 rfl rfl rfl Nat.zero_lt_one ?_
    refine v_iload_n dX7_leaveQueue_16 rfl ?_
    refine m_iald k (by decide) rfl dX7_leaveQueue_17 Nat.zero_lt_one rfl (by omega) ?_
    refine v_iload_n dX7_leaveQueue_18 rfl ?_
    refine v_icmp_eq 37 dX7_leaveQueue_19 (by decide) (fun h_19 => ?_) (fun h_19 => ?_)
    · refine v_iinc [_, _, _, _] dX7_leaveQueue_37 rfl (by first | exact inc1 _ | rfl) rfl (by decide) ?_
      refine v_goto 4 dX7_leaveQueue_40 (by decide) ?_
      first
        | (have hh : b.1 38 0 k = nI t := h_19
           have ee : mLvL t (m + 1) n k b = mLvL t m n (k + 1) b := if_pos hh
           rw [ee]
           exact ih n (k + 1) q b (by omega) (by omega) h25 hq)
        | (have hh : ¬ b.1 38 0 k = nI t := h_19
           have ee : mLvL t (m + 1) n k b = mLvL t m (n + 1) (k + 1) (put b 38 0 n (b.1 38 0 k)) := if_neg hh
           rw [ee]
           exact ih (n + 1) (k + 1) q (put b 38 0 n (b.1 38 0 k)) (by omega) (by omega) h25 hq)
    · refine v_aload_n dX7_leaveQueue_22 rfl ?_
      refine v_gr 0 fX7_62 dX7_leaveQueue_23 rfl rfl rfl Nat.zero_lt_one ?_
      refine v_iload_n dX7_leaveQueue_26 rfl ?_
      refine v_aload_n dX7_leaveQueue_27 rfl ?_
      refine v_gr 0 fX7_62 dX7_leaveQueue_28 rfl rfl rfl Nat.zero_lt_one ?_
      refine v_iload_n dX7_leaveQueue_31 rfl ?_
      refine m_iald k (by decide) rfl dX7_leaveQueue_32 Nat.zero_lt_one rfl (by omega) ?_
      refine m_iast n (by decide) rfl dX7_leaveQueue_33 Nat.zero_lt_one rfl (by omega) ?_
      refine v_iinc [_, _, _, _] dX7_leaveQueue_34 rfl (by first | exact inc1 _ | rfl) rfl (by decide) ?_
      refine v_iinc [_, _, _, _] dX7_leaveQueue_37 rfl (by first | exact inc1 _ | rfl) rfl (by decide) ?_
      refine v_goto 4 dX7_leaveQueue_40 (by decide) ?_
      first
        | (have hh : b.1 38 0 k = nI t := h_19
           have ee : mLvL t (m + 1) n k b = mLvL t m n (k + 1) b := if_pos hh
           rw [ee]
           exact ih n (k + 1) q b (by omega) (by omega) h25 hq)
        | (have hh : ¬ b.1 38 0 k = nI t := h_19
           have ee : mLvL t (m + 1) n k b = mLvL t m (n + 1) (k + 1) (put b 38 0 n (b.1 38 0 k)) := if_neg hh
           rw [ee]
           exact ih (n + 1) (k + 1) q (put b 38 0 n (b.1 38 0 k)) (by omega) (by omega) h25 hq)
set_option maxHeartbeats 4000000 in
set_option maxRecDepth 100000 in
theorem c_X7_leaveQueue {a b : tH} {t q : Nat} (hq : b.1 20 0 27 = nI q) (h25 : q ≤ 25) : Cn yX7_leaveQueue cX7_leaveQueue 4 0 [.inr (some (20, 0)), .inl (nI t)] (mix a b) (mix a (mLeave b t)) := by
  refine Ct.of (by decide) [_, _, _, _] rfl (Nat.le_of_ble_eq_true rfl) ?_
  refine v_iconst 0 dX7_leaveQueue_0 (by decide) ?_
  refine v_istore_n [_, _, _, _] dX7_leaveQueue_1 rfl (by decide) ?_
  refine v_iconst 0 dX7_leaveQueue_2 (by decide) ?_
  refine v_istore_n [_, _, _, _] dX7_leaveQueue_3 rfl (by decide) ?_
  have e1 : mLeave b t = mLvL t q 0 0 b := by unfold mLeave; rw [hq, nv_nI (by omega)]
  rw [e1]
  exact l_X7_leaveQueue q 0 0 q b (by omega) (by omega) h25 hq
set_option maxHeartbeats 4000000 in
set_option maxRecDepth 100000 in
theorem l_X7_firstAt {a b : tH} {x w : Int32} {T : Nat} (hT : b.1 20 0 11 = nI T) (h24 : T ≤ 24) : ∀ (m k : Nat), T = k + m → Vw yX7_firstAt.cls cX7_firstAt 5 (some .int) 0 (fun r h' => r = some (.inl (enc (mFirst b T x w))) ∧ h' = mix a b) 5 [some (.inr (some (20, 0))), some (.inl x), some (.inl w), some (.inl (enc (mins (fun t => decide (b.1 24 0 t = w) && decide (b.1 36 0 t = x)) (fun t => b.1 37 0 t) k))), some (.inl (nI k))] [] (mix a b) := by
  intro m
  induction m with
  | zero =>
    intro k hk
    obtain rfl : T = k := hk
    refine v_iload dX7_firstAt_5 rfl ?_
    refine v_aload_n dX7_firstAt_7 rfl ?_
    refine m_gk hT (by decide) fX7_92 dX7_firstAt_8 rfl rfl Nat.zero_lt_one ?_
    refine v_icmp_ge 69 dX7_firstAt_11 (by decide) (fun h_11 => ?_) (fun h_11 => absurd (Int32.le_refl _) h_11)
    refine v_iload_n dX7_firstAt_69 rfl ?_
    exact v_iret dX7_firstAt_70 ⟨rfl, rfl⟩
  | succ m ih =>
    intro k hk
    have hb : ∀ j, mins (fun t => decide (b.1 24 0 t = w) && decide (b.1 36 0 t = x)) (fun t => b.1 37 0 t) k = some j → j < 2 ^ 31 := fun j hj => by have := (mins_lt hj).1; omega
    refine v_iload dX7_firstAt_5 rfl ?_
    refine v_aload_n dX7_firstAt_7 rfl ?_
    refine m_gk hT (by decide) fX7_92 dX7_firstAt_8 rfl rfl Nat.zero_lt_one ?_
    refine v_icmp_ge 69 dX7_firstAt_11 (by decide) (fun h_11 => absurd h_11 (nI_ge (by omega) (by omega))) (fun h_11 => ?_)
    refine v_aload_n dX7_firstAt_14 rfl ?_
    refine v_gr 0 fX7_19 dX7_firstAt_15 rfl rfl rfl Nat.zero_lt_one ?_
    refine v_iload dX7_firstAt_18 rfl ?_
    refine m_iald k (by decide) rfl dX7_firstAt_20 Nat.zero_lt_one rfl (by omega) ?_
    refine v_iload_n dX7_firstAt_21 rfl ?_
    refine v_icmp_ne 61 dX7_firstAt_22 (by decide) (fun h_22 => ?_) (fun h_22 => ?_)
    · refine v_iload_n dX7_firstAt_61 rfl ?_
      refine v_istore_n [_, _, _, _, _] dX7_firstAt_62 rfl (by decide) ?_
      refine v_iinc [_, _, _, _, _] dX7_firstAt_63 rfl (by first | exact inc1 _ | rfl) rfl (by decide) ?_
      refine v_goto 5 dX7_firstAt_66 (by decide) ?_
      have q := ih (k + 1) (by omega)
      rw [mins_step0 (by simp only [h_22, decide_false, Bool.false_and])] at q
      exact q
    · refine v_aload_n dX7_firstAt_25 rfl ?_
      refine v_gr 0 fX7_56 dX7_firstAt_26 rfl rfl rfl Nat.zero_lt_one ?_
      refine v_iload dX7_firstAt_29 rfl ?_
      refine m_iald k (by decide) rfl dX7_firstAt_31 Nat.zero_lt_one rfl (by omega) ?_
      refine v_iload_n dX7_firstAt_32 rfl ?_
      refine v_icmp_ne 61 dX7_firstAt_33 (by decide) (fun h_33 => ?_) (fun h_33 => ?_)
      · refine v_iload_n dX7_firstAt_61 rfl ?_
        refine v_istore_n [_, _, _, _, _] dX7_firstAt_62 rfl (by decide) ?_
        refine v_iinc [_, _, _, _, _] dX7_firstAt_63 rfl (by first | exact inc1 _ | rfl) rfl (by decide) ?_
        refine v_goto 5 dX7_firstAt_66 (by decide) ?_
        have q := ih (k + 1) (by omega)
        rw [mins_step0 (by simp only [h_33, decide_false, Bool.and_false])] at q
        exact q
      · refine v_iload_n dX7_firstAt_36 rfl ?_
        refine v_if_lt 56 dX7_firstAt_37 (by decide) (fun h_37 => ?_) (fun h_37 => ?_)
        · have hj := (enc_neg hb).mp h_37
          refine v_iload dX7_firstAt_56 rfl ?_
          refine v_goto 62 dX7_firstAt_58 (by decide) ?_
          refine v_istore_n [_, _, _, _, _] dX7_firstAt_62 rfl (by decide) ?_
          refine v_iinc [_, _, _, _, _] dX7_firstAt_63 rfl (by first | exact inc1 _ | rfl) rfl (by decide) ?_
          refine v_goto 5 dX7_firstAt_66 (by decide) ?_
          have q := ih (k + 1) (by omega)
          rw [mins_stepN hj (by simp only [h_22, h_33, decide_true, Bool.and_self])] at q
          exact q
        · obtain ⟨j, hj⟩ : ∃ j, mins (fun t => decide (b.1 24 0 t = w) && decide (b.1 36 0 t = x)) (fun t => b.1 37 0 t) k = some j := by
            cases e : mins (fun t => decide (b.1 24 0 t = w) && decide (b.1 36 0 t = x)) (fun t => b.1 37 0 t) k with
            | none => exact absurd ((enc_neg hb).mpr e) h_37
            | some j => exact ⟨j, rfl⟩
          refine v_aload_n dX7_firstAt_40 rfl ?_
          refine v_gr 0 fX7_59 dX7_firstAt_41 rfl rfl rfl Nat.zero_lt_one ?_
          refine v_iload dX7_firstAt_44 rfl ?_
          refine m_iald k (by decide) rfl dX7_firstAt_46 Nat.zero_lt_one rfl (by omega) ?_
          refine v_aload_n dX7_firstAt_47 rfl ?_
          refine v_gr 0 fX7_59 dX7_firstAt_48 rfl rfl rfl Nat.zero_lt_one ?_
          refine v_iload_n dX7_firstAt_51 rfl ?_
          refine m_iald j (by decide) rfl dX7_firstAt_52 Nat.zero_lt_one (by rw [hj]; rfl) (by have := (mins_lt hj).1; omega) ?_
          refine v_icmp_ge 61 dX7_firstAt_53 (by decide) (fun h_53 => ?_) (fun h_53 => ?_)
          · refine v_iload_n dX7_firstAt_61 rfl ?_
            refine v_istore_n [_, _, _, _, _] dX7_firstAt_62 rfl (by decide) ?_
            refine v_iinc [_, _, _, _, _] dX7_firstAt_63 rfl (by first | exact inc1 _ | rfl) rfl (by decide) ?_
            refine v_goto 5 dX7_firstAt_66 (by decide) ?_
            have q := ih (k + 1) (by omega)
            rw [mins_stepK hj h_53] at q
            exact q
          · refine v_iload dX7_firstAt_56 rfl ?_
            refine v_goto 62 dX7_firstAt_58 (by decide) ?_
            refine v_istore_n [_, _, _, _, _] dX7_firstAt_62 rfl (by decide) ?_
            refine v_iinc [_, _, _, _, _] dX7_firstAt_63 rfl (by first | exact inc1 _ | rfl) rfl (by decide) ?_
            refine v_goto 5 dX7_firstAt_66 (by decide) ?_
            have q := ih (k + 1) (by omega)
            rw [mins_stepS hj (by simp only [h_22, h_33, decide_true, Bool.and_self]) h_53] at q
            exact q
set_option maxHeartbeats 4000000 in
set_option maxRecDepth 100000 in
theorem c_X7_firstAt {a b : tH} {x w : Int32} {T : Nat} (hT : b.1 20 0 11 = nI T) (h24 : T ≤ 24) : Ci yX7_firstAt cX7_firstAt 5 .int 0 [.inr (some (20, 0)), .inl x, .inl w] (mix a b) (enc (mFirst b T x w)) (mix a (b)) := by
  refine Ct.of (by decide) [_, _, _, _, _] rfl (Nat.le_of_ble_eq_true rfl) ?_
  refine v_iconst (-1) dX7_firstAt_0 (by decide) ?_
  refine v_istore_n [_, _, _, _, _] dX7_firstAt_1 rfl (by decide) ?_
  refine v_iconst 0 dX7_firstAt_2 (by decide) ?_
  refine v_istore [_, _, _, _, _] dX7_firstAt_3 rfl (by decide) ?_
  exact l_X7_firstAt hT h24 T 0 (by omega)
set_option maxHeartbeats 4000000 in
set_option maxRecDepth 100000 in
theorem c_X7_newThread {a b : tH} {p r : Int32} {t q : Nat} (hT : b.1 20 0 11 = nI t) (ht : t < 24) (hq : b.1 20 0 27 = nI q) (h24 : q ≤ 24) : Ci yX7_newThread cX7_newThread 4 .int 1 [.inr (some (20, 0)), .inl p, .inl r] (mix a b) (nI t) (mix a (mNew b t p r)) := by
  refine Ct.of (by decide) [_, _, _, _] rfl (Nat.le_of_ble_eq_true rfl) ?_
  refine v_aload_n dX7_newThread_0 rfl ?_
  refine m_gk hT (by decide) fX7_92 dX7_newThread_1 rfl rfl Nat.zero_lt_one ?_
  refine v_istore_n [_, _, _, _] dX7_newThread_4 rfl (by decide) ?_
  refine v_aload_n dX7_newThread_5 rfl ?_
  refine v_gr 0 fX7_19 dX7_newThread_6 rfl rfl rfl Nat.zero_lt_one ?_
  refine v_iload_n dX7_newThread_9 rfl ?_
  refine v_iconst 0 dX7_newThread_10 (by decide) ?_
  refine m_iast t (by decide) rfl dX7_newThread_11 Nat.zero_lt_one rfl ht ?_
  refine v_aload_n dX7_newThread_12 rfl ?_
  refine v_gr 0 fX7_22 dX7_newThread_13 rfl rfl rfl Nat.zero_lt_one ?_
  refine v_iload_n dX7_newThread_16 rfl ?_
  refine v_iload_n dX7_newThread_17 rfl ?_
  refine m_iast t (by decide) rfl dX7_newThread_18 Nat.zero_lt_one rfl ht ?_
  refine v_aload_n dX7_newThread_19 rfl ?_
  refine v_gr 0 fX7_25 dX7_newThread_20 rfl rfl rfl Nat.zero_lt_one ?_
  refine v_iload_n dX7_newThread_23 rfl ?_
  refine v_iconst 0 dX7_newThread_24 (by decide) ?_
  refine m_iast t (by decide) rfl dX7_newThread_25 Nat.zero_lt_one rfl ht ?_
  refine v_aload_n dX7_newThread_26 rfl ?_
  refine v_gr 0 fX7_28 dX7_newThread_27 rfl rfl rfl Nat.zero_lt_one ?_
  refine v_iload_n dX7_newThread_30 rfl ?_
  refine v_iload_n dX7_newThread_31 rfl ?_
  refine m_iast t (by decide) rfl dX7_newThread_32 Nat.zero_lt_one rfl ht ?_
  refine v_aload_n dX7_newThread_33 rfl ?_
  refine v_gr 0 fX7_31 dX7_newThread_34 rfl rfl rfl Nat.zero_lt_one ?_
  refine v_iload_n dX7_newThread_37 rfl ?_
  refine v_iconst 0 dX7_newThread_38 (by decide) ?_
  refine m_iast t (by decide) rfl dX7_newThread_39 Nat.zero_lt_one rfl ht ?_
  refine v_aload_n dX7_newThread_40 rfl ?_
  refine v_gr 0 fX7_37 dX7_newThread_41 rfl rfl rfl Nat.zero_lt_one ?_
  refine v_iload_n dX7_newThread_44 rfl ?_
  refine v_iconst 0 dX7_newThread_45 (by decide) ?_
  refine m_zast t (by decide) rfl dX7_newThread_46 Nat.zero_lt_one rfl ht (by decide) ?_
  refine v_aload_n dX7_newThread_47 rfl ?_
  refine v_gr 0 fX7_41 dX7_newThread_48 rfl rfl rfl Nat.zero_lt_one ?_
  refine v_iload_n dX7_newThread_51 rfl ?_
  refine v_iconst 0 dX7_newThread_52 (by decide) ?_
  refine m_iast t (by decide) rfl dX7_newThread_53 Nat.zero_lt_one rfl ht ?_
  refine v_aload_n dX7_newThread_54 rfl ?_
  refine v_gr 0 fX7_47 dX7_newThread_55 rfl rfl rfl Nat.zero_lt_one ?_
  refine v_iload_n dX7_newThread_58 rfl ?_
  refine v_iconst 0 dX7_newThread_59 (by decide) ?_
  refine m_iast t (by decide) rfl dX7_newThread_60 Nat.zero_lt_one rfl ht ?_
  refine v_aload_n dX7_newThread_61 rfl ?_
  refine v_gr 0 fX7_50 dX7_newThread_62 rfl rfl rfl Nat.zero_lt_one ?_
  refine v_iload_n dX7_newThread_65 rfl ?_
  refine v_iconst 0 dX7_newThread_66 (by decide) ?_
  refine m_iast t (by decide) rfl dX7_newThread_67 Nat.zero_lt_one rfl ht ?_
  refine v_aload_n dX7_newThread_68 rfl ?_
  refine v_gr 0 fX7_53 dX7_newThread_69 rfl rfl rfl Nat.zero_lt_one ?_
  refine v_iload_n dX7_newThread_72 rfl ?_
  refine v_bipush (-3) dX7_newThread_73 (by decide) ?_
  refine m_iast t (by decide) rfl dX7_newThread_75 Nat.zero_lt_one rfl ht ?_
  refine v_aload_n dX7_newThread_76 rfl ?_
  refine v_gr 0 fX7_56 dX7_newThread_77 rfl rfl rfl Nat.zero_lt_one ?_
  refine v_iload_n dX7_newThread_80 rfl ?_
  refine v_iconst (-1) dX7_newThread_81 (by decide) ?_
  refine m_iast t (by decide) rfl dX7_newThread_82 Nat.zero_lt_one rfl ht ?_
  refine v_aload_n dX7_newThread_83 rfl ?_
  refine v_dup dX7_newThread_84 ?_
  refine m_gk (by exact hT) (by decide) fX7_92 dX7_newThread_85 rfl rfl Nat.zero_lt_one ?_
  refine v_iconst 1 dX7_newThread_88 (by decide) ?_
  refine v_iadd dX7_newThread_89 ?_
  rw [nI_1]
  refine m_pi (by decide) fX7_92 dX7_newThread_90 rfl rfl Nat.zero_lt_one ?_
  refine v_aload_n dX7_newThread_93 rfl ?_
  refine v_iload_n dX7_newThread_94 rfl ?_
  refine v_call1n lX7_95 kX7_enqueue (c_X7_enqueue (q := q) ht (by exact hq) h24) dX7_newThread_95 rfl rfl Nat.zero_lt_one rfl (by decide) (by decide) (st8 rfl) ?_
  refine v_iload_n dX7_newThread_98 rfl ?_
  exact v_iret dX7_newThread_99 ⟨rfl, rfl⟩
