/-! The reference's face -/
theorem rng {x : Int32} {n : Nat} (hn : n < 2 ^ 31) : (x < 0 ∨ nI n - 1 < x) ↔ (x < 0 ∨ nI n ≤ x) := by
  by_cases h : x < 0
  · exact ⟨fun _ => Or.inl h, fun _ => Or.inl h⟩
  · obtain ⟨u, hu, rfl⟩ := nI_of h
    cases n with
    | zero => exact ⟨fun _ => Or.inr (nI_le (Nat.zero_le u) hu), fun _ => Or.inr (by
        have h1 : (nI 0 - 1 : Int32) < 0 := by decide
        exact Int32.lt_of_lt_of_le h1 (nI_pos' hu))⟩
    | succ n =>
      rw [nI_pred]
      constructor
      · intro z
        rcases z with z | z
        · exact absurd z h
        · exact Or.inr (nI_le ((nI_ltI (by omega) hu).mp z) hu)
      · intro z
        rcases z with z | z
        · exact absurd z h
        · exact Or.inr (nI_lt ((nI_leI hn hu).mp z) hu)
theorem rng_in {u n : Nat} (hu : u < n) (hn : n < 2 ^ 31) : ¬ (nI u < 0 ∨ nI n - 1 < nI u) := by
  rw [rng hn]
  exact fun z => z.elim (nI_pos (by omega)) (nI_ge hu hn)
def z0 (b : tH) : tH := put b 20 0 0 0

set_option maxHeartbeats 4000000 in
set_option maxRecDepth 100000 in
theorem c_X7_program4 {a b : tH} (hP : b.1 20 0 1 = 12) : Ci yX7_program cX7_program 1 .int 0 [.inr (some (20, 0))] (mix a b) ((-4)) (mix a (z0 b)) := by
  refine Ct.of (by decide) [_] rfl (Nat.le_of_ble_eq_true rfl) ?_
  refine v_aload_n dX7_program_0 rfl ?_
  refine v_iconst 0 dX7_program_1 (by decide) ?_
  refine m_pi (by decide) fX7_77 dX7_program_2 rfl rfl Nat.zero_lt_one ?_
  refine v_aload_n dX7_program_5 rfl ?_
  refine m_gk (by exact hP) (by decide) fX7_81 dX7_program_6 rfl rfl Nat.zero_lt_one ?_
  refine v_bipush 12 dX7_program_9 (by decide) ?_
  refine v_icmp_ne 17 dX7_program_11 (by decide) (fun h_11 => absurd rfl h_11) (fun h_11 => ?_)
  refine v_bipush (-4) dX7_program_14 (by decide) ?_
  exact v_iret dX7_program_16 ⟨rfl, rfl⟩
set_option maxHeartbeats 4000000 in
set_option maxRecDepth 100000 in
theorem c_X7_program_ok {a b : tH} {P : Nat} (hP : b.1 20 0 1 = nI P) (h12 : P < 12) : Ci yX7_program cX7_program 1 .int 0 [.inr (some (20, 0))] (mix a b) (nI P) (mix a (put (put (z0 b) 21 0 P 0) 20 0 1 (nI (P + 1)))) := by
  refine Ct.of (by decide) [_] rfl (Nat.le_of_ble_eq_true rfl) ?_
  refine v_aload_n dX7_program_0 rfl ?_
  refine v_iconst 0 dX7_program_1 (by decide) ?_
  refine m_pi (by decide) fX7_77 dX7_program_2 rfl rfl Nat.zero_lt_one ?_
  refine v_aload_n dX7_program_5 rfl ?_
  refine m_gk (by exact hP) (by decide) fX7_81 dX7_program_6 rfl rfl Nat.zero_lt_one ?_
  refine v_bipush 12 dX7_program_9 (by decide) ?_
  refine v_icmp_ne 17 dX7_program_11 (by decide) (fun h_11 => ?_) (fun h_11 => absurd h_11 (fun z => by have := (nI_eq (a := P) (b := 12) (by omega) (by omega)).mp z; omega))
  refine v_aload_n dX7_program_17 rfl ?_
  refine v_gr 0 fX7_7 dX7_program_18 rfl rfl rfl Nat.zero_lt_one ?_
  refine v_aload_n dX7_program_21 rfl ?_
  refine m_gk (by exact hP) (by decide) fX7_81 dX7_program_22 rfl rfl Nat.zero_lt_one ?_
  refine v_iconst 0 dX7_program_25 (by decide) ?_
  refine m_iast P (by decide) rfl dX7_program_26 Nat.zero_lt_one rfl h12 ?_
  refine v_aload_n dX7_program_27 rfl ?_
  refine v_dup dX7_program_28 ?_
  refine m_gk (by exact hP) (by decide) fX7_81 dX7_program_29 rfl rfl Nat.zero_lt_one ?_
  refine v_iconst 1 dX7_program_32 (by decide) ?_
  refine v_iadd dX7_program_33 ?_
  rw [nI_1]
  refine m_pi (by decide) fX7_81 dX7_program_34 rfl rfl Nat.zero_lt_one ?_
  refine v_aload_n dX7_program_37 rfl ?_
  refine m_gk put_eq (by decide) fX7_81 dX7_program_38 rfl rfl Nat.zero_lt_one ?_
  refine v_iconst 1 dX7_program_41 (by decide) ?_
  refine v_isub dX7_program_42 ?_
  rw [nI_pred]
  exact v_iret dX7_program_43 ⟨rfl, rfl⟩
def inI (x lo hi : Int32) : Int32 := if x < lo then 0 else if hi < x then 0 else 1
def gk (j : Nat) (x : Int32) : Int32 := match j with
  | 0 => inI x 0 7
  | 1 => inI x 0 7
  | 2 => inI x 0 7
  | 5 => inI x 0 11
  | 7 => inI x 0 100
  | 8 => inI x 0 20
  | 9 => inI x 0 20
  | 11 => inI x 1 9
  | 12 => inI x 1 9
  | 13 => inI x 0 20
  | 15 => inI x 0 1
  | _ => 1
theorem inI_01 (x lo hi : Int32) : inI x lo hi = 0 ∨ inI x lo hi = 1 := by unfold inI; split <;> (try split) <;> simp
theorem gk_01 (j : Nat) (x : Int32) : gk j x = 0 ∨ gk j x = 1 := by unfold gk; split <;> first | exact inI_01 _ _ _ | exact Or.inr rfl
set_option maxHeartbeats 4000000 in
set_option maxRecDepth 100000 in
theorem c_X7_isGood0 {a b : tH} {x : Int32} : Ci yX7_isGood cX7_isGood 2 .boolean 1 [.inl 0, .inl x] (mix a b) (gk 0 x) (mix a (b)) := by
  refine Ct.of (by decide) [_, _] rfl (Nat.le_of_ble_eq_true rfl) ?_
  refine v_iload_n dX7_isGood_0 rfl ?_
  refine v_tsIn (off := 79) 80 0 dX7_isGood_1 rfl (by decide) (by decide) (by decide) (by decide) ?_
  refine v_iload_n dX7_isGood_80 rfl ?_
  refine v_iconst 0 dX7_isGood_81 (by decide) ?_
  refine v_bipush 7 dX7_isGood_82 (by decide) ?_
  refine v_calls3i lX7_84 kX7_in (c_X7_in) dX7_isGood_84 rfl (by decide) (by decide) (st8 rfl) ?_
  exact v_zret dX7_isGood_87 (gk_01 0 x) ⟨rfl, rfl⟩
set_option maxHeartbeats 4000000 in
set_option maxRecDepth 100000 in
theorem c_X7_isGood1 {a b : tH} {x : Int32} : Ci yX7_isGood cX7_isGood 2 .boolean 1 [.inl 1, .inl x] (mix a b) (gk 1 x) (mix a (b)) := by
  refine Ct.of (by decide) [_, _] rfl (Nat.le_of_ble_eq_true rfl) ?_
  refine v_iload_n dX7_isGood_0 rfl ?_
  refine v_tsIn (off := 79) 80 1 dX7_isGood_1 rfl (by decide) (by decide) (by decide) (by decide) ?_
  refine v_iload_n dX7_isGood_80 rfl ?_
  refine v_iconst 0 dX7_isGood_81 (by decide) ?_
  refine v_bipush 7 dX7_isGood_82 (by decide) ?_
  refine v_calls3i lX7_84 kX7_in (c_X7_in) dX7_isGood_84 rfl (by decide) (by decide) (st8 rfl) ?_
  exact v_zret dX7_isGood_87 (gk_01 1 x) ⟨rfl, rfl⟩
set_option maxHeartbeats 4000000 in
set_option maxRecDepth 100000 in
theorem c_X7_isGood2 {a b : tH} {x : Int32} : Ci yX7_isGood cX7_isGood 2 .boolean 1 [.inl 2, .inl x] (mix a b) (gk 2 x) (mix a (b)) := by
  refine Ct.of (by decide) [_, _] rfl (Nat.le_of_ble_eq_true rfl) ?_
  refine v_iload_n dX7_isGood_0 rfl ?_
  refine v_tsIn (off := 79) 80 2 dX7_isGood_1 rfl (by decide) (by decide) (by decide) (by decide) ?_
  refine v_iload_n dX7_isGood_80 rfl ?_
  refine v_iconst 0 dX7_isGood_81 (by decide) ?_
  refine v_bipush 7 dX7_isGood_82 (by decide) ?_
  refine v_calls3i lX7_84 kX7_in (c_X7_in) dX7_isGood_84 rfl (by decide) (by decide) (st8 rfl) ?_
  exact v_zret dX7_isGood_87 (gk_01 2 x) ⟨rfl, rfl⟩
set_option maxHeartbeats 4000000 in
set_option maxRecDepth 100000 in
theorem c_X7_isGood3 {a b : tH} {x : Int32} : Ci yX7_isGood cX7_isGood 2 .boolean 1 [.inl 3, .inl x] (mix a b) (gk 3 x) (mix a (b)) := by
  refine Ct.of (by decide) [_, _] rfl (Nat.le_of_ble_eq_true rfl) ?_
  refine v_iload_n dX7_isGood_0 rfl ?_
  refine v_tsIn (off := 126) 127 3 dX7_isGood_1 rfl (by decide) (by decide) (by decide) (by decide) ?_
  refine v_iload_n dX7_isGood_127 rfl ?_
  refine v_iconst 0 dX7_isGood_128 (by decide) ?_
  refine v_bipush 16 dX7_isGood_129 (by decide) ?_
  refine v_calls3i lX7_84 kX7_in (c_X7_in) dX7_isGood_131 rfl (by decide) (by decide) (st8 rfl) ?_
  exact v_zret dX7_isGood_134 (gk_01 3 x) ⟨rfl, rfl⟩
set_option maxHeartbeats 4000000 in
set_option maxRecDepth 100000 in
theorem c_X7_isGood4 {a b : tH} {x : Int32} : Ci yX7_isGood cX7_isGood 2 .boolean 1 [.inl 4, .inl x] (mix a b) (gk 4 x) (mix a (b)) := by
  refine Ct.of (by decide) [_, _] rfl (Nat.le_of_ble_eq_true rfl) ?_
  refine v_iload_n dX7_isGood_0 rfl ?_
  refine v_tsIn (off := 126) 127 4 dX7_isGood_1 rfl (by decide) (by decide) (by decide) (by decide) ?_
  refine v_iload_n dX7_isGood_127 rfl ?_
  refine v_iconst 0 dX7_isGood_128 (by decide) ?_
  refine v_bipush 16 dX7_isGood_129 (by decide) ?_
  refine v_calls3i lX7_84 kX7_in (c_X7_in) dX7_isGood_131 rfl (by decide) (by decide) (st8 rfl) ?_
  exact v_zret dX7_isGood_134 (gk_01 4 x) ⟨rfl, rfl⟩
set_option maxHeartbeats 4000000 in
set_option maxRecDepth 100000 in
theorem c_X7_isGood5 {a b : tH} {x : Int32} : Ci yX7_isGood cX7_isGood 2 .boolean 1 [.inl 5, .inl x] (mix a b) (gk 5 x) (mix a (b)) := by
  refine Ct.of (by decide) [_, _] rfl (Nat.le_of_ble_eq_true rfl) ?_
  refine v_iload_n dX7_isGood_0 rfl ?_
  refine v_tsIn (off := 87) 88 5 dX7_isGood_1 rfl (by decide) (by decide) (by decide) (by decide) ?_
  refine v_iload_n dX7_isGood_88 rfl ?_
  refine v_iconst 0 dX7_isGood_89 (by decide) ?_
  refine v_bipush 11 dX7_isGood_90 (by decide) ?_
  refine v_calls3i lX7_84 kX7_in (c_X7_in) dX7_isGood_92 rfl (by decide) (by decide) (st8 rfl) ?_
  exact v_zret dX7_isGood_95 (gk_01 5 x) ⟨rfl, rfl⟩
set_option maxHeartbeats 4000000 in
set_option maxRecDepth 100000 in
theorem c_X7_isGood6 {a b : tH} {x : Int32} : Ci yX7_isGood cX7_isGood 2 .boolean 1 [.inl 6, .inl x] (mix a b) (gk 6 x) (mix a (b)) := by
  refine Ct.of (by decide) [_, _] rfl (Nat.le_of_ble_eq_true rfl) ?_
  refine v_iload_n dX7_isGood_0 rfl ?_
  refine v_tsIn (off := 126) 127 6 dX7_isGood_1 rfl (by decide) (by decide) (by decide) (by decide) ?_
  refine v_iload_n dX7_isGood_127 rfl ?_
  refine v_iconst 0 dX7_isGood_128 (by decide) ?_
  refine v_bipush 16 dX7_isGood_129 (by decide) ?_
  refine v_calls3i lX7_84 kX7_in (c_X7_in) dX7_isGood_131 rfl (by decide) (by decide) (st8 rfl) ?_
  exact v_zret dX7_isGood_134 (gk_01 6 x) ⟨rfl, rfl⟩
set_option maxHeartbeats 4000000 in
set_option maxRecDepth 100000 in
theorem c_X7_isGood7 {a b : tH} {x : Int32} : Ci yX7_isGood cX7_isGood 2 .boolean 1 [.inl 7, .inl x] (mix a b) (gk 7 x) (mix a (b)) := by
  refine Ct.of (by decide) [_, _] rfl (Nat.le_of_ble_eq_true rfl) ?_
  refine v_iload_n dX7_isGood_0 rfl ?_
  refine v_tsIn (off := 95) 96 7 dX7_isGood_1 rfl (by decide) (by decide) (by decide) (by decide) ?_
  refine v_iload_n dX7_isGood_96 rfl ?_
  refine v_iconst 0 dX7_isGood_97 (by decide) ?_
  refine v_bipush 100 dX7_isGood_98 (by decide) ?_
  refine v_calls3i lX7_84 kX7_in (c_X7_in) dX7_isGood_100 rfl (by decide) (by decide) (st8 rfl) ?_
  exact v_zret dX7_isGood_103 (gk_01 7 x) ⟨rfl, rfl⟩
set_option maxHeartbeats 4000000 in
set_option maxRecDepth 100000 in
theorem c_X7_isGood8 {a b : tH} {x : Int32} : Ci yX7_isGood cX7_isGood 2 .boolean 1 [.inl 8, .inl x] (mix a b) (gk 8 x) (mix a (b)) := by
  refine Ct.of (by decide) [_, _] rfl (Nat.le_of_ble_eq_true rfl) ?_
  refine v_iload_n dX7_isGood_0 rfl ?_
  refine v_tsIn (off := 103) 104 8 dX7_isGood_1 rfl (by decide) (by decide) (by decide) (by decide) ?_
  refine v_iload_n dX7_isGood_104 rfl ?_
  refine v_iconst 0 dX7_isGood_105 (by decide) ?_
  refine v_bipush 20 dX7_isGood_106 (by decide) ?_
  refine v_calls3i lX7_84 kX7_in (c_X7_in) dX7_isGood_108 rfl (by decide) (by decide) (st8 rfl) ?_
  exact v_zret dX7_isGood_111 (gk_01 8 x) ⟨rfl, rfl⟩
set_option maxHeartbeats 4000000 in
set_option maxRecDepth 100000 in
theorem c_X7_isGood9 {a b : tH} {x : Int32} : Ci yX7_isGood cX7_isGood 2 .boolean 1 [.inl 9, .inl x] (mix a b) (gk 9 x) (mix a (b)) := by
  refine Ct.of (by decide) [_, _] rfl (Nat.le_of_ble_eq_true rfl) ?_
  refine v_iload_n dX7_isGood_0 rfl ?_
  refine v_tsIn (off := 103) 104 9 dX7_isGood_1 rfl (by decide) (by decide) (by decide) (by decide) ?_
  refine v_iload_n dX7_isGood_104 rfl ?_
  refine v_iconst 0 dX7_isGood_105 (by decide) ?_
  refine v_bipush 20 dX7_isGood_106 (by decide) ?_
  refine v_calls3i lX7_84 kX7_in (c_X7_in) dX7_isGood_108 rfl (by decide) (by decide) (st8 rfl) ?_
  exact v_zret dX7_isGood_111 (gk_01 9 x) ⟨rfl, rfl⟩
set_option maxHeartbeats 4000000 in
set_option maxRecDepth 100000 in
theorem c_X7_isGood10 {a b : tH} {x : Int32} : Ci yX7_isGood cX7_isGood 2 .boolean 1 [.inl 10, .inl x] (mix a b) (gk 10 x) (mix a (b)) := by
  refine Ct.of (by decide) [_, _] rfl (Nat.le_of_ble_eq_true rfl) ?_
  refine v_iload_n dX7_isGood_0 rfl ?_
  refine v_tsIn (off := 126) 127 10 dX7_isGood_1 rfl (by decide) (by decide) (by decide) (by decide) ?_
  refine v_iload_n dX7_isGood_127 rfl ?_
  refine v_iconst 0 dX7_isGood_128 (by decide) ?_
  refine v_bipush 16 dX7_isGood_129 (by decide) ?_
  refine v_calls3i lX7_84 kX7_in (c_X7_in) dX7_isGood_131 rfl (by decide) (by decide) (st8 rfl) ?_
  exact v_zret dX7_isGood_134 (gk_01 10 x) ⟨rfl, rfl⟩
set_option maxHeartbeats 4000000 in
set_option maxRecDepth 100000 in
theorem c_X7_isGood11 {a b : tH} {x : Int32} : Ci yX7_isGood cX7_isGood 2 .boolean 1 [.inl 11, .inl x] (mix a b) (gk 11 x) (mix a (b)) := by
  refine Ct.of (by decide) [_, _] rfl (Nat.le_of_ble_eq_true rfl) ?_
  refine v_iload_n dX7_isGood_0 rfl ?_
  refine v_tsIn (off := 111) 112 11 dX7_isGood_1 rfl (by decide) (by decide) (by decide) (by decide) ?_
  refine v_iload_n dX7_isGood_112 rfl ?_
  refine v_iconst 1 dX7_isGood_113 (by decide) ?_
  refine v_bipush 9 dX7_isGood_114 (by decide) ?_
  refine v_calls3i lX7_84 kX7_in (c_X7_in) dX7_isGood_116 rfl (by decide) (by decide) (st8 rfl) ?_
  exact v_zret dX7_isGood_119 (gk_01 11 x) ⟨rfl, rfl⟩
set_option maxHeartbeats 4000000 in
set_option maxRecDepth 100000 in
theorem c_X7_isGood12 {a b : tH} {x : Int32} : Ci yX7_isGood cX7_isGood 2 .boolean 1 [.inl 12, .inl x] (mix a b) (gk 12 x) (mix a (b)) := by
  refine Ct.of (by decide) [_, _] rfl (Nat.le_of_ble_eq_true rfl) ?_
  refine v_iload_n dX7_isGood_0 rfl ?_
  refine v_tsIn (off := 111) 112 12 dX7_isGood_1 rfl (by decide) (by decide) (by decide) (by decide) ?_
  refine v_iload_n dX7_isGood_112 rfl ?_
  refine v_iconst 1 dX7_isGood_113 (by decide) ?_
  refine v_bipush 9 dX7_isGood_114 (by decide) ?_
  refine v_calls3i lX7_84 kX7_in (c_X7_in) dX7_isGood_116 rfl (by decide) (by decide) (st8 rfl) ?_
  exact v_zret dX7_isGood_119 (gk_01 12 x) ⟨rfl, rfl⟩
set_option maxHeartbeats 4000000 in
set_option maxRecDepth 100000 in
theorem c_X7_isGood13 {a b : tH} {x : Int32} : Ci yX7_isGood cX7_isGood 2 .boolean 1 [.inl 13, .inl x] (mix a b) (gk 13 x) (mix a (b)) := by
  refine Ct.of (by decide) [_, _] rfl (Nat.le_of_ble_eq_true rfl) ?_
  refine v_iload_n dX7_isGood_0 rfl ?_
  refine v_tsIn (off := 103) 104 13 dX7_isGood_1 rfl (by decide) (by decide) (by decide) (by decide) ?_
  refine v_iload_n dX7_isGood_104 rfl ?_
  refine v_iconst 0 dX7_isGood_105 (by decide) ?_
  refine v_bipush 20 dX7_isGood_106 (by decide) ?_
  refine v_calls3i lX7_84 kX7_in (c_X7_in) dX7_isGood_108 rfl (by decide) (by decide) (st8 rfl) ?_
  exact v_zret dX7_isGood_111 (gk_01 13 x) ⟨rfl, rfl⟩
set_option maxHeartbeats 4000000 in
set_option maxRecDepth 100000 in
theorem c_X7_isGood14 {a b : tH} {x : Int32} : Ci yX7_isGood cX7_isGood 2 .boolean 1 [.inl 14, .inl x] (mix a b) (gk 14 x) (mix a (b)) := by
  refine Ct.of (by decide) [_, _] rfl (Nat.le_of_ble_eq_true rfl) ?_
  refine v_iload_n dX7_isGood_0 rfl ?_
  refine v_tsIn (off := 126) 127 14 dX7_isGood_1 rfl (by decide) (by decide) (by decide) (by decide) ?_
  refine v_iload_n dX7_isGood_127 rfl ?_
  refine v_iconst 0 dX7_isGood_128 (by decide) ?_
  refine v_bipush 16 dX7_isGood_129 (by decide) ?_
  refine v_calls3i lX7_84 kX7_in (c_X7_in) dX7_isGood_131 rfl (by decide) (by decide) (st8 rfl) ?_
  exact v_zret dX7_isGood_134 (gk_01 14 x) ⟨rfl, rfl⟩
set_option maxHeartbeats 4000000 in
set_option maxRecDepth 100000 in
theorem c_X7_isGood15 {a b : tH} {x : Int32} : Ci yX7_isGood cX7_isGood 2 .boolean 1 [.inl 15, .inl x] (mix a b) (gk 15 x) (mix a (b)) := by
  refine Ct.of (by decide) [_, _] rfl (Nat.le_of_ble_eq_true rfl) ?_
  refine v_iload_n dX7_isGood_0 rfl ?_
  refine v_tsIn (off := 119) 120 15 dX7_isGood_1 rfl (by decide) (by decide) (by decide) (by decide) ?_
  refine v_iload_n dX7_isGood_120 rfl ?_
  refine v_iconst 0 dX7_isGood_121 (by decide) ?_
  refine v_iconst 1 dX7_isGood_122 (by decide) ?_
  refine v_calls3i lX7_84 kX7_in (c_X7_in) dX7_isGood_123 rfl (by decide) (by decide) (st8 rfl) ?_
  exact v_zret dX7_isGood_126 (gk_01 15 x) ⟨rfl, rfl⟩
set_option maxHeartbeats 4000000 in
set_option maxRecDepth 100000 in
theorem c_X7_isGood16 {a b : tH} {x : Int32} : Ci yX7_isGood cX7_isGood 2 .boolean 1 [.inl 16, .inl x] (mix a b) (gk 16 x) (mix a (b)) := by
  refine Ct.of (by decide) [_, _] rfl (Nat.le_of_ble_eq_true rfl) ?_
  refine v_iload_n dX7_isGood_0 rfl ?_
  refine v_tsOut 127 dX7_isGood_1 (Or.inr (by decide)) (by decide) ?_
  refine v_iload_n dX7_isGood_127 rfl ?_
  refine v_iconst 0 dX7_isGood_128 (by decide) ?_
  refine v_bipush 16 dX7_isGood_129 (by decide) ?_
  refine v_calls3i lX7_84 kX7_in (c_X7_in) dX7_isGood_131 rfl (by decide) (by decide) (st8 rfl) ?_
  exact v_zret dX7_isGood_134 (gk_01 16 x) ⟨rfl, rfl⟩
theorem inI_out {k : Int32} (hk : k < 0 ∨ 16 < k) : inI k 0 16 = 0 := by
  unfold inI
  rcases hk with z | z
  · rw [if_pos z]
  · have h0 : ¬ k < 0 := fun y => Int32.lt_irrefl (Int32.lt_trans (Int32.lt_trans y (by decide : (0 : Int32) < 16)) z)
    rw [if_neg h0, if_pos z]
theorem out_ti {k : Int32} (hk : k < 0 ∨ 16 < k) : k.toInt < 0 ∨ 15 < k.toInt := by
  have h2 : (16 : Int32).toInt = 16 := by decide
  have h3 : (0 : Int32).toInt = 0 := by decide
  rcases hk with z | z
  · exact Or.inl (by have := Int32.lt_iff_toInt_lt.mp z; omega)
  · exact Or.inr (by have := Int32.lt_iff_toInt_lt.mp z; omega)
set_option maxHeartbeats 4000000 in
set_option maxRecDepth 100000 in
theorem c_X7_isGood_out {a b : tH} {k x : Int32} (hk : k < 0 ∨ 16 < k) : Ci yX7_isGood cX7_isGood 2 .boolean 1 [.inl k, .inl x] (mix a b) (0) (mix a (b)) := by
  refine Ct.of (by decide) [_, _] rfl (Nat.le_of_ble_eq_true rfl) ?_
  refine v_iload_n dX7_isGood_0 rfl ?_
  refine v_tsOut 127 dX7_isGood_1 (out_ti hk) (by decide) ?_
  refine v_iload_n dX7_isGood_127 rfl ?_
  refine v_iconst 0 dX7_isGood_128 (by decide) ?_
  refine v_bipush 16 dX7_isGood_129 (by decide) ?_
  refine v_calls3i lX7_84 kX7_in (c_X7_in) dX7_isGood_131 rfl (by decide) (by decide) (st8 rfl) ?_
  exact v_zret dX7_isGood_134 (inI_01 k 0 16) ⟨congrArg (fun z : Int32 => some (Sum.inl z : tV)) (inI_out hk), rfl⟩
theorem c_X7_isGood {a b : tH} {j : Nat} {x : Int32} (hj : j ≤ 16) : Ci yX7_isGood cX7_isGood 2 .boolean 1 [.inl (nI j), .inl x] (mix a b) (gk j x) (mix a b) := by
  rcases (show j = 0 ∨ j = 1 ∨ j = 2 ∨ j = 3 ∨ j = 4 ∨ j = 5 ∨ j = 6 ∨ j = 7 ∨ j = 8 ∨ j = 9 ∨ j = 10 ∨ j = 11 ∨ j = 12 ∨ j = 13 ∨ j = 14 ∨ j = 15 ∨ j = 16 by omega) with rfl | rfl | rfl | rfl | rfl | rfl | rfl | rfl | rfl | rfl | rfl | rfl | rfl | rfl | rfl | rfl | rfl
  · exact c_X7_isGood0
  · exact c_X7_isGood1
  · exact c_X7_isGood2
  · exact c_X7_isGood3
  · exact c_X7_isGood4
  · exact c_X7_isGood5
  · exact c_X7_isGood6
  · exact c_X7_isGood7
  · exact c_X7_isGood8
  · exact c_X7_isGood9
  · exact c_X7_isGood10
  · exact c_X7_isGood11
  · exact c_X7_isGood12
  · exact c_X7_isGood13
  · exact c_X7_isGood14
  · exact c_X7_isGood15
  · exact c_X7_isGood16
set_option maxHeartbeats 4000000 in
set_option maxRecDepth 100000 in
theorem c_X7_act2o {a b : tH} {k x : Int32} (hk : k < 0 ∨ 16 < k) : Ci yX7_act cX7_act 4 .int 2 [.inr (some (20, 0)), .inl k, .inl x] (mix a b) ((-2)) (mix a (z0 b)) := by
  refine Ct.of (by decide) [_, _, _, _] rfl (Nat.le_of_ble_eq_true rfl) ?_
  refine v_aload_n dX7_act_0 rfl ?_
  refine v_iconst 0 dX7_act_1 (by decide) ?_
  refine m_pi (by decide) fX7_77 dX7_act_2 rfl rfl Nat.zero_lt_one ?_
  refine v_iload_n dX7_act_5 rfl ?_
  refine v_iload_n dX7_act_6 rfl ?_
  refine v_calls2i lX7_88 kX7_isGood (c_X7_isGood_out hk) dX7_act_7 rfl (by decide) (by decide) (st8 rfl) ?_
  refine v_if_ne 16 dX7_act_10 (by decide) (fun h_10 => absurd rfl h_10) (fun h_10 => ?_)
  refine v_bipush (-2) dX7_act_13 (by decide) ?_
  exact v_iret dX7_act_15 ⟨rfl, rfl⟩
set_option maxHeartbeats 4000000 in
set_option maxRecDepth 100000 in
theorem c_X7_act2 {a b : tH} {j : Nat} {x : Int32} (hj : j ≤ 16) (hg : gk j x = 0) : Ci yX7_act cX7_act 4 .int 2 [.inr (some (20, 0)), .inl (nI j), .inl x] (mix a b) ((-2)) (mix a (z0 b)) := by
  refine Ct.of (by decide) [_, _, _, _] rfl (Nat.le_of_ble_eq_true rfl) ?_
  refine v_aload_n dX7_act_0 rfl ?_
  refine v_iconst 0 dX7_act_1 (by decide) ?_
  refine m_pi (by decide) fX7_77 dX7_act_2 rfl rfl Nat.zero_lt_one ?_
  refine v_iload_n dX7_act_5 rfl ?_
  refine v_iload_n dX7_act_6 rfl ?_
  refine v_calls2i lX7_88 kX7_isGood (c_X7_isGood hj) dX7_act_7 rfl (by decide) (by decide) (st8 rfl) ?_
  refine v_if_ne 16 dX7_act_10 (by decide) (fun h_10 => absurd hg h_10) (fun h_10 => ?_)
  refine v_bipush (-2) dX7_act_13 (by decide) ?_
  exact v_iret dX7_act_15 ⟨rfl, rfl⟩
set_option maxHeartbeats 4000000 in
set_option maxRecDepth 100000 in
theorem c_X7_act3e {a b : tH} {j : Nat} {x : Int32} (hj : j ≤ 16) (hg : ¬ gk j x = 0) (hP : b.1 20 0 1 = 0) : Ci yX7_act cX7_act 4 .int 2 [.inr (some (20, 0)), .inl (nI j), .inl x] (mix a b) ((-3)) (mix a (z0 b)) := by
  refine Ct.of (by decide) [_, _, _, _] rfl (Nat.le_of_ble_eq_true rfl) ?_
  refine v_aload_n dX7_act_0 rfl ?_
  refine v_iconst 0 dX7_act_1 (by decide) ?_
  refine m_pi (by decide) fX7_77 dX7_act_2 rfl rfl Nat.zero_lt_one ?_
  refine v_iload_n dX7_act_5 rfl ?_
  refine v_iload_n dX7_act_6 rfl ?_
  refine v_calls2i lX7_88 kX7_isGood (c_X7_isGood hj) dX7_act_7 rfl (by decide) (by decide) (st8 rfl) ?_
  refine v_if_ne 16 dX7_act_10 (by decide) (fun h_10 => ?_) (fun h_10 => absurd h_10 hg)
  refine v_aload_n dX7_act_16 rfl ?_
  refine m_gk (by exact hP) (by decide) fX7_81 dX7_act_17 rfl rfl Nat.zero_lt_one ?_
  refine v_if_ne 26 dX7_act_20 (by decide) (fun h_20 => absurd rfl h_20) (fun h_20 => ?_)
  refine v_bipush (-3) dX7_act_23 (by decide) ?_
  exact v_iret dX7_act_25 ⟨rfl, rfl⟩
set_option maxHeartbeats 4000000 in
set_option maxRecDepth 100000 in
theorem c_X7_act4e {a b : tH} {j p : Nat} {x : Int32} (hj : j ≤ 16) (hg : ¬ gk j x = 0) (hP : b.1 20 0 1 = nI (p + 1)) (h12 : p < 12) (hz : b.1 21 0 p = 20) : Ci yX7_act cX7_act 4 .int 2 [.inr (some (20, 0)), .inl (nI j), .inl x] (mix a b) ((-4)) (mix a (z0 b)) := by
  refine Ct.of (by decide) [_, _, _, _] rfl (Nat.le_of_ble_eq_true rfl) ?_
  refine v_aload_n dX7_act_0 rfl ?_
  refine v_iconst 0 dX7_act_1 (by decide) ?_
  refine m_pi (by decide) fX7_77 dX7_act_2 rfl rfl Nat.zero_lt_one ?_
  refine v_iload_n dX7_act_5 rfl ?_
  refine v_iload_n dX7_act_6 rfl ?_
  refine v_calls2i lX7_88 kX7_isGood (c_X7_isGood hj) dX7_act_7 rfl (by decide) (by decide) (st8 rfl) ?_
  refine v_if_ne 16 dX7_act_10 (by decide) (fun h_10 => ?_) (fun h_10 => absurd h_10 hg)
  refine v_aload_n dX7_act_16 rfl ?_
  refine m_gk (by exact hP) (by decide) fX7_81 dX7_act_17 rfl rfl Nat.zero_lt_one ?_
  refine v_if_ne 26 dX7_act_20 (by decide) (fun h_20 => ?_) (fun h_20 => absurd h_20 (nI_ne0 (by omega) (by omega)))
  refine v_aload_n dX7_act_26 rfl ?_
  refine m_gk (by exact hP) (by decide) fX7_81 dX7_act_27 rfl rfl Nat.zero_lt_one ?_
  refine v_iconst 1 dX7_act_30 (by decide) ?_
  refine v_isub dX7_act_31 ?_
  rw [nI_pred]
  refine v_istore_n [_, _, _, _] dX7_act_32 rfl (by decide) ?_
  refine v_aload_n dX7_act_33 rfl ?_
  refine v_gr 0 fX7_7 dX7_act_34 rfl rfl rfl Nat.zero_lt_one ?_
  refine v_iload_n dX7_act_37 rfl ?_
  refine m_ialk p (by exact hz) (by decide) rfl dX7_act_38 Nat.zero_lt_one rfl h12 ?_
  refine v_bipush 20 dX7_act_39 (by decide) ?_
  refine v_icmp_ne 47 dX7_act_41 (by decide) (fun h_41 => absurd rfl h_41) (fun h_41 => ?_)
  refine v_bipush (-4) dX7_act_44 (by decide) ?_
  exact v_iret dX7_act_46 ⟨rfl, rfl⟩
set_option maxHeartbeats 4000000 in
set_option maxRecDepth 100000 in
theorem c_X7_act_ok {a b : tH} {j p : Nat} {x : Int32} (hj : j ≤ 16) (hg : ¬ gk j x = 0) (hP : b.1 20 0 1 = nI (p + 1)) (h12 : p < 12) {z : Nat} (hz : b.1 21 0 p = nI z) (h20 : z < 20) : Ci yX7_act cX7_act 4 .int 2 [.inr (some (20, 0)), .inl (nI j), .inl x] (mix a b) (nI (z + 1)) (mix a (put (put (put (z0 b) 22 0 (20 * p + z) (nI j)) 23 0 (20 * p + z) x) 21 0 p (nI (z + 1)))) := by
  refine Ct.of (by decide) [_, _, _, _] rfl (Nat.le_of_ble_eq_true rfl) ?_
  refine v_aload_n dX7_act_0 rfl ?_
  refine v_iconst 0 dX7_act_1 (by decide) ?_
  refine m_pi (by decide) fX7_77 dX7_act_2 rfl rfl Nat.zero_lt_one ?_
  refine v_iload_n dX7_act_5 rfl ?_
  refine v_iload_n dX7_act_6 rfl ?_
  refine v_calls2i lX7_88 kX7_isGood (c_X7_isGood hj) dX7_act_7 rfl (by decide) (by decide) (st8 rfl) ?_
  refine v_if_ne 16 dX7_act_10 (by decide) (fun h_10 => ?_) (fun h_10 => absurd h_10 hg)
  refine v_aload_n dX7_act_16 rfl ?_
  refine m_gk (by exact hP) (by decide) fX7_81 dX7_act_17 rfl rfl Nat.zero_lt_one ?_
  refine v_if_ne 26 dX7_act_20 (by decide) (fun h_20 => ?_) (fun h_20 => absurd h_20 (nI_ne0 (by omega) (by omega)))
  refine v_aload_n dX7_act_26 rfl ?_
  refine m_gk (by exact hP) (by decide) fX7_81 dX7_act_27 rfl rfl Nat.zero_lt_one ?_
  refine v_iconst 1 dX7_act_30 (by decide) ?_
  refine v_isub dX7_act_31 ?_
  rw [nI_pred]
  refine v_istore_n [_, _, _, _] dX7_act_32 rfl (by decide) ?_
  refine v_aload_n dX7_act_33 rfl ?_
  refine v_gr 0 fX7_7 dX7_act_34 rfl rfl rfl Nat.zero_lt_one ?_
  refine v_iload_n dX7_act_37 rfl ?_
  refine m_ialk p (by exact hz) (by decide) rfl dX7_act_38 Nat.zero_lt_one rfl h12 ?_
  refine v_bipush 20 dX7_act_39 (by decide) ?_
  refine v_icmp_ne 47 dX7_act_41 (by decide) (fun h_41 => ?_) (fun h_41 => absurd h_41 (fun e => by have := (nI_eq (a := z) (b := 20) (by omega) (by omega)).mp e; omega))
  refine v_aload_n dX7_act_47 rfl ?_
  refine v_gr 0 fX7_13 dX7_act_48 rfl rfl rfl Nat.zero_lt_one ?_
  refine v_bipush 20 dX7_act_51 (by decide) ?_
  refine v_iload_n dX7_act_53 rfl ?_
  refine v_imul dX7_act_54 ?_
  refine v_aload_n dX7_act_55 rfl ?_
  refine v_gr 0 fX7_7 dX7_act_56 rfl rfl rfl Nat.zero_lt_one ?_
  refine v_iload_n dX7_act_59 rfl ?_
  refine m_ialk p (by exact hz) (by decide) rfl dX7_act_60 Nat.zero_lt_one rfl h12 ?_
  refine v_iadd dX7_act_61 ?_
  refine v_iload_n dX7_act_62 rfl ?_
  refine m_iast (20 * p + z) (by decide) rfl dX7_act_63 Nat.zero_lt_one (by rw [show (20 : Int32) = nI 20 from rfl, pk_mul, nI_add]) (by omega) ?_
  refine v_aload_n dX7_act_64 rfl ?_
  refine v_gr 0 fX7_16 dX7_act_65 rfl rfl rfl Nat.zero_lt_one ?_
  refine v_bipush 20 dX7_act_68 (by decide) ?_
  refine v_iload_n dX7_act_70 rfl ?_
  refine v_imul dX7_act_71 ?_
  refine v_aload_n dX7_act_72 rfl ?_
  refine v_gr 0 fX7_7 dX7_act_73 rfl rfl rfl Nat.zero_lt_one ?_
  refine v_iload_n dX7_act_76 rfl ?_
  refine m_ialk p (by exact hz) (by decide) rfl dX7_act_77 Nat.zero_lt_one rfl h12 ?_
  refine v_iadd dX7_act_78 ?_
  refine v_iload_n dX7_act_79 rfl ?_
  refine m_iast (20 * p + z) (by decide) rfl dX7_act_80 Nat.zero_lt_one (by rw [show (20 : Int32) = nI 20 from rfl, pk_mul, nI_add]) (by omega) ?_
  refine v_aload_n dX7_act_81 rfl ?_
  refine v_gr 0 fX7_7 dX7_act_82 rfl rfl rfl Nat.zero_lt_one ?_
  refine v_iload_n dX7_act_85 rfl ?_
  refine v_dup2 dX7_act_86 ?_
  refine m_ialk p (by exact hz) (by decide) rfl dX7_act_87 Nat.zero_lt_one rfl h12 ?_
  refine v_iconst 1 dX7_act_88 (by decide) ?_
  refine v_iadd dX7_act_89 ?_
  rw [nI_1]
  refine m_iast p (by decide) rfl dX7_act_90 Nat.zero_lt_one rfl h12 ?_
  refine v_aload_n dX7_act_91 rfl ?_
  refine v_gr 0 fX7_7 dX7_act_92 rfl rfl rfl Nat.zero_lt_one ?_
  refine v_iload_n dX7_act_95 rfl ?_
  refine m_ialk p put_eq (by decide) rfl dX7_act_96 Nat.zero_lt_one rfl h12 ?_
  exact v_iret dX7_act_97 ⟨rfl, rfl⟩
set_option maxHeartbeats 4000000 in
set_option maxRecDepth 100000 in
theorem c_X7_begin1 {a b : tH} {P : Nat} {p q r : Int32} (hP : b.1 20 0 1 = nI P) (h12 : P ≤ 12) (hp : p < 0 ∨ nI P ≤ p) : Ci yX7_begin cX7_begin 5 .int 2 [.inr (some (20, 0)), .inl p, .inl q, .inl r] (mix a b) ((-1)) (mix a (z0 b)) := by
  refine Ct.of (by decide) [_, _, _, _, _] rfl (Nat.le_of_ble_eq_true rfl) ?_
  refine v_aload_n dX7_begin_0 rfl ?_
  refine v_iconst 0 dX7_begin_1 (by decide) ?_
  refine m_pi (by decide) fX7_77 dX7_begin_2 rfl rfl Nat.zero_lt_one ?_
  refine v_iload_n dX7_begin_5 rfl ?_
  refine v_iconst 0 dX7_begin_6 (by decide) ?_
  refine v_aload_n dX7_begin_7 rfl ?_
  refine m_gk (by exact hP) (by decide) fX7_81 dX7_begin_8 rfl rfl Nat.zero_lt_one ?_
  refine v_iconst 1 dX7_begin_11 (by decide) ?_
  refine v_isub dX7_begin_12 ?_
  refine v_calls3i lX7_84 kX7_in (c_X7_in) dX7_begin_13 rfl (by decide) (by decide) (st8 rfl) ?_
  refine v_if_ne 21 dX7_begin_16 (by decide) (fun h_16 => absurd (by rw [i001, rng (by omega)]; exact hp) h_16) (fun h_16 => ?_)
  refine v_iconst (-1) dX7_begin_19 (by decide) ?_
  exact v_iret dX7_begin_20 ⟨rfl, rfl⟩
set_option maxHeartbeats 4000000 in
set_option maxRecDepth 100000 in
theorem c_X7_begin2 {a b : tH} {P p : Nat} {q r : Int32} (hP : b.1 20 0 1 = nI P) (h12 : P ≤ 12) (hp : p < P) (hq : q < 1 ∨ 10 < q) : Ci yX7_begin cX7_begin 5 .int 2 [.inr (some (20, 0)), .inl (nI p), .inl q, .inl r] (mix a b) ((-2)) (mix a (z0 b)) := by
  refine Ct.of (by decide) [_, _, _, _, _] rfl (Nat.le_of_ble_eq_true rfl) ?_
  refine v_aload_n dX7_begin_0 rfl ?_
  refine v_iconst 0 dX7_begin_1 (by decide) ?_
  refine m_pi (by decide) fX7_77 dX7_begin_2 rfl rfl Nat.zero_lt_one ?_
  refine v_iload_n dX7_begin_5 rfl ?_
  refine v_iconst 0 dX7_begin_6 (by decide) ?_
  refine v_aload_n dX7_begin_7 rfl ?_
  refine m_gk (by exact hP) (by decide) fX7_81 dX7_begin_8 rfl rfl Nat.zero_lt_one ?_
  refine v_iconst 1 dX7_begin_11 (by decide) ?_
  refine v_isub dX7_begin_12 ?_
  refine v_calls3i lX7_84 kX7_in (c_X7_in) dX7_begin_13 rfl (by decide) (by decide) (st8 rfl) ?_
  refine v_if_ne 21 dX7_begin_16 (by decide) (fun h_16 => ?_) (fun h_16 => absurd h_16 (by rw [i001]; exact rng_in hp (by omega)))
  refine v_iload_n dX7_begin_21 rfl ?_
  refine v_iconst 1 dX7_begin_22 (by decide) ?_
  refine v_bipush 10 dX7_begin_23 (by decide) ?_
  refine v_calls3i lX7_84 kX7_in (c_X7_in) dX7_begin_25 rfl (by decide) (by decide) (st8 rfl) ?_
  refine v_if_ne 34 dX7_begin_28 (by decide) (fun h_28 => absurd (by rw [i001]; exact hq) h_28) (fun h_28 => ?_)
  refine v_bipush (-2) dX7_begin_31 (by decide) ?_
  exact v_iret dX7_begin_33 ⟨rfl, rfl⟩
def mBg0 (b : tH) (q : Int32) : tH := put (put (put (put (put (put (put (put (put (put (put b 20 0 0 0) 20 0 5 1) 20 0 6 0) 20 0 7 q) 20 0 8 0) 20 0 9 0) 20 0 10 0) 20 0 11 0) 20 0 27 0) 20 0 31 0) 20 0 26 0
def mBg1 (b : tH) (q : Int32) : tH := put (put (put (put (put (put (put (put (mBg0 b q) 40 0 0 0) 40 0 1 0) 40 0 2 0) 40 0 3 0) 40 0 4 0) 40 0 5 0) 40 0 6 0) 40 0 7 0
def mBegin (b : tH) (p q r : Int32) : tH := mNew (mBg1 b q) 0 p r
set_option maxHeartbeats 4000000 in
set_option maxRecDepth 100000 in
theorem c_X7_begin_ok {a b : tH} {P p : Nat} {q r : Int32} (hP : b.1 20 0 1 = nI P) (h12 : P ≤ 12) (hp : p < P) (hq : ¬ (q < 1 ∨ 10 < q)) : Ci yX7_begin cX7_begin 5 .int 2 [.inr (some (20, 0)), .inl (nI p), .inl q, .inl r] (mix a b) (1) (mix a (mBegin b (nI p) q r)) := by
  refine Ct.of (by decide) [_, _, _, _, _] rfl (Nat.le_of_ble_eq_true rfl) ?_
  refine v_aload_n dX7_begin_0 rfl ?_
  refine v_iconst 0 dX7_begin_1 (by decide) ?_
  refine m_pi (by decide) fX7_77 dX7_begin_2 rfl rfl Nat.zero_lt_one ?_
  refine v_iload_n dX7_begin_5 rfl ?_
  refine v_iconst 0 dX7_begin_6 (by decide) ?_
  refine v_aload_n dX7_begin_7 rfl ?_
  refine m_gk (by exact hP) (by decide) fX7_81 dX7_begin_8 rfl rfl Nat.zero_lt_one ?_
  refine v_iconst 1 dX7_begin_11 (by decide) ?_
  refine v_isub dX7_begin_12 ?_
  refine v_calls3i lX7_84 kX7_in (c_X7_in) dX7_begin_13 rfl (by decide) (by decide) (st8 rfl) ?_
  refine v_if_ne 21 dX7_begin_16 (by decide) (fun h_16 => ?_) (fun h_16 => absurd h_16 (by rw [i001]; exact rng_in hp (by omega)))
  refine v_iload_n dX7_begin_21 rfl ?_
  refine v_iconst 1 dX7_begin_22 (by decide) ?_
  refine v_bipush 10 dX7_begin_23 (by decide) ?_
  refine v_calls3i lX7_84 kX7_in (c_X7_in) dX7_begin_25 rfl (by decide) (by decide) (st8 rfl) ?_
  refine v_if_ne 34 dX7_begin_28 (by decide) (fun h_28 => ?_) (fun h_28 => absurd h_28 (by rw [i001]; exact hq))
  refine v_aload_n dX7_begin_34 rfl ?_
  refine v_iconst 1 dX7_begin_35 (by decide) ?_
  refine m_pz (by decide) fX7_102 dX7_begin_36 rfl rfl Nat.zero_lt_one (by decide) ?_
  refine v_aload_n dX7_begin_39 rfl ?_
  refine v_iconst 0 dX7_begin_40 (by decide) ?_
  refine m_pz (by decide) fX7_106 dX7_begin_41 rfl rfl Nat.zero_lt_one (by decide) ?_
  refine v_aload_n dX7_begin_44 rfl ?_
  refine v_iload_n dX7_begin_45 rfl ?_
  refine m_pi (by decide) fX7_109 dX7_begin_46 rfl rfl Nat.zero_lt_one ?_
  refine v_aload_n dX7_begin_49 rfl ?_
  refine v_iconst 0 dX7_begin_50 (by decide) ?_
  refine m_pi (by decide) fX7_112 dX7_begin_51 rfl rfl Nat.zero_lt_one ?_
  refine v_aload_n dX7_begin_54 rfl ?_
  refine v_iconst 0 dX7_begin_55 (by decide) ?_
  refine m_pi (by decide) fX7_115 dX7_begin_56 rfl rfl Nat.zero_lt_one ?_
  refine v_aload_n dX7_begin_59 rfl ?_
  refine v_iconst 0 dX7_begin_60 (by decide) ?_
  refine m_pi (by decide) fX7_118 dX7_begin_61 rfl rfl Nat.zero_lt_one ?_
  refine v_aload_n dX7_begin_64 rfl ?_
  refine v_iconst 0 dX7_begin_65 (by decide) ?_
  refine m_pi (by decide) fX7_92 dX7_begin_66 rfl rfl Nat.zero_lt_one ?_
  refine v_aload_n dX7_begin_69 rfl ?_
  refine v_iconst 0 dX7_begin_70 (by decide) ?_
  refine m_pi (by decide) fX7_99 dX7_begin_71 rfl rfl Nat.zero_lt_one ?_
  refine v_aload_n dX7_begin_74 rfl ?_
  refine v_iconst 0 dX7_begin_75 (by decide) ?_
  refine m_pi (by decide) fX7_121 dX7_begin_76 rfl rfl Nat.zero_lt_one ?_
  refine v_aload_n dX7_begin_79 rfl ?_
  refine v_iconst 0 dX7_begin_80 (by decide) ?_
  refine m_pi (by decide) fX7_124 dX7_begin_81 rfl rfl Nat.zero_lt_one ?_
  refine v_iconst 0 dX7_begin_84 (by decide) ?_
  refine v_istore [_, _, _, _, _] dX7_begin_85 rfl (by decide) ?_
  refine v_iload dX7_begin_87 rfl ?_
  refine v_bipush 8 dX7_begin_89 (by decide) ?_
  refine v_icmp_ge 108 dX7_begin_91 (by decide) (fun h_91 => absurd h_91 (by decide)) (fun h_91 => ?_)
  refine v_aload_n dX7_begin_94 rfl ?_
  refine v_gr 0 fX7_68 dX7_begin_95 rfl rfl rfl Nat.zero_lt_one ?_
  refine v_iload dX7_begin_98 rfl ?_
  refine v_iconst 0 dX7_begin_100 (by decide) ?_
  refine m_zast 0 (by decide) rfl dX7_begin_101 Nat.zero_lt_one (by decide) (by decide) (by decide) ?_
  refine v_iinc [_, _, _, _, _] dX7_begin_102 rfl (by first | exact inc1 _ | rfl) rfl (by decide) ?_
  refine v_goto 87 dX7_begin_105 (by decide) ?_
  refine v_iload dX7_begin_87 rfl ?_
  refine v_bipush 8 dX7_begin_89 (by decide) ?_
  refine v_icmp_ge 108 dX7_begin_91 (by decide) (fun h_91_3 => absurd h_91_3 (by decide)) (fun h_91_3 => ?_)
  refine v_aload_n dX7_begin_94 rfl ?_
  refine v_gr 0 fX7_68 dX7_begin_95 rfl rfl rfl Nat.zero_lt_one ?_
  refine v_iload dX7_begin_98 rfl ?_
  refine v_iconst 0 dX7_begin_100 (by decide) ?_
  refine m_zast 1 (by decide) rfl dX7_begin_101 Nat.zero_lt_one (by decide) (by decide) (by decide) ?_
  refine v_iinc [_, _, _, _, _] dX7_begin_102 rfl (by first | exact inc1 _ | rfl) rfl (by decide) ?_
  refine v_goto 87 dX7_begin_105 (by decide) ?_
  refine v_iload dX7_begin_87 rfl ?_
  refine v_bipush 8 dX7_begin_89 (by decide) ?_
  refine v_icmp_ge 108 dX7_begin_91 (by decide) (fun h_91_4 => absurd h_91_4 (by decide)) (fun h_91_4 => ?_)
  refine v_aload_n dX7_begin_94 rfl ?_
  refine v_gr 0 fX7_68 dX7_begin_95 rfl rfl rfl Nat.zero_lt_one ?_
  refine v_iload dX7_begin_98 rfl ?_
  refine v_iconst 0 dX7_begin_100 (by decide) ?_
  refine m_zast 2 (by decide) rfl dX7_begin_101 Nat.zero_lt_one (by decide) (by decide) (by decide) ?_
  refine v_iinc [_, _, _, _, _] dX7_begin_102 rfl (by first | exact inc1 _ | rfl) rfl (by decide) ?_
  refine v_goto 87 dX7_begin_105 (by decide) ?_
  refine v_iload dX7_begin_87 rfl ?_
  refine v_bipush 8 dX7_begin_89 (by decide) ?_
  refine v_icmp_ge 108 dX7_begin_91 (by decide) (fun h_91_5 => absurd h_91_5 (by decide)) (fun h_91_5 => ?_)
  refine v_aload_n dX7_begin_94 rfl ?_
  refine v_gr 0 fX7_68 dX7_begin_95 rfl rfl rfl Nat.zero_lt_one ?_
  refine v_iload dX7_begin_98 rfl ?_
  refine v_iconst 0 dX7_begin_100 (by decide) ?_
  refine m_zast 3 (by decide) rfl dX7_begin_101 Nat.zero_lt_one (by decide) (by decide) (by decide) ?_
  refine v_iinc [_, _, _, _, _] dX7_begin_102 rfl (by first | exact inc1 _ | rfl) rfl (by decide) ?_
  refine v_goto 87 dX7_begin_105 (by decide) ?_
  refine v_iload dX7_begin_87 rfl ?_
  refine v_bipush 8 dX7_begin_89 (by decide) ?_
  refine v_icmp_ge 108 dX7_begin_91 (by decide) (fun h_91_6 => absurd h_91_6 (by decide)) (fun h_91_6 => ?_)
  refine v_aload_n dX7_begin_94 rfl ?_
  refine v_gr 0 fX7_68 dX7_begin_95 rfl rfl rfl Nat.zero_lt_one ?_
  refine v_iload dX7_begin_98 rfl ?_
  refine v_iconst 0 dX7_begin_100 (by decide) ?_
  refine m_zast 4 (by decide) rfl dX7_begin_101 Nat.zero_lt_one (by decide) (by decide) (by decide) ?_
  refine v_iinc [_, _, _, _, _] dX7_begin_102 rfl (by first | exact inc1 _ | rfl) rfl (by decide) ?_
  refine v_goto 87 dX7_begin_105 (by decide) ?_
  refine v_iload dX7_begin_87 rfl ?_
  refine v_bipush 8 dX7_begin_89 (by decide) ?_
  refine v_icmp_ge 108 dX7_begin_91 (by decide) (fun h_91_7 => absurd h_91_7 (by decide)) (fun h_91_7 => ?_)
  refine v_aload_n dX7_begin_94 rfl ?_
  refine v_gr 0 fX7_68 dX7_begin_95 rfl rfl rfl Nat.zero_lt_one ?_
  refine v_iload dX7_begin_98 rfl ?_
  refine v_iconst 0 dX7_begin_100 (by decide) ?_
  refine m_zast 5 (by decide) rfl dX7_begin_101 Nat.zero_lt_one (by decide) (by decide) (by decide) ?_
  refine v_iinc [_, _, _, _, _] dX7_begin_102 rfl (by first | exact inc1 _ | rfl) rfl (by decide) ?_
  refine v_goto 87 dX7_begin_105 (by decide) ?_
  refine v_iload dX7_begin_87 rfl ?_
  refine v_bipush 8 dX7_begin_89 (by decide) ?_
  refine v_icmp_ge 108 dX7_begin_91 (by decide) (fun h_91_8 => absurd h_91_8 (by decide)) (fun h_91_8 => ?_)
  refine v_aload_n dX7_begin_94 rfl ?_
  refine v_gr 0 fX7_68 dX7_begin_95 rfl rfl rfl Nat.zero_lt_one ?_
  refine v_iload dX7_begin_98 rfl ?_
  refine v_iconst 0 dX7_begin_100 (by decide) ?_
  refine m_zast 6 (by decide) rfl dX7_begin_101 Nat.zero_lt_one (by decide) (by decide) (by decide) ?_
  refine v_iinc [_, _, _, _, _] dX7_begin_102 rfl (by first | exact inc1 _ | rfl) rfl (by decide) ?_
  refine v_goto 87 dX7_begin_105 (by decide) ?_
  refine v_iload dX7_begin_87 rfl ?_
  refine v_bipush 8 dX7_begin_89 (by decide) ?_
  refine v_icmp_ge 108 dX7_begin_91 (by decide) (fun h_91_9 => absurd h_91_9 (by decide)) (fun h_91_9 => ?_)
  refine v_aload_n dX7_begin_94 rfl ?_
  refine v_gr 0 fX7_68 dX7_begin_95 rfl rfl rfl Nat.zero_lt_one ?_
  refine v_iload dX7_begin_98 rfl ?_
  refine v_iconst 0 dX7_begin_100 (by decide) ?_
  refine m_zast 7 (by decide) rfl dX7_begin_101 Nat.zero_lt_one (by decide) (by decide) (by decide) ?_
  refine v_iinc [_, _, _, _, _] dX7_begin_102 rfl (by first | exact inc1 _ | rfl) rfl (by decide) ?_
  refine v_goto 87 dX7_begin_105 (by decide) ?_
  refine v_iload dX7_begin_87 rfl ?_
  refine v_bipush 8 dX7_begin_89 (by decide) ?_
  refine v_icmp_ge 108 dX7_begin_91 (by decide) (fun h_91_10 => ?_) (fun h_91_10 => absurd (by decide) h_91_10)
  refine v_aload_n dX7_begin_108 rfl ?_
  refine v_iload_n dX7_begin_109 rfl ?_
  refine v_iload_n dX7_begin_110 rfl ?_
  refine v_call2i lX7_127 kX7_newThread (c_X7_newThread (t := 0) (q := 0) (by exact rfl) (by decide) (by exact rfl) (by decide)) dX7_begin_111 rfl rfl Nat.zero_lt_one rfl (by decide) (by decide) (st8 rfl) ?_
  refine v_istore [_, _, _, _, _] dX7_begin_114 rfl (by decide) ?_
  refine v_iconst 1 dX7_begin_116 (by decide) ?_
  exact v_iret dX7_begin_117 ⟨rfl, rfl⟩
set_option maxHeartbeats 4000000 in
set_option maxRecDepth 100000 in
theorem c_X7_fill1 {a b : tH} {x v : Int32} (hx : x < 0 ∨ 7 < x) : Ci yX7_fill cX7_fill 3 .int 3 [.inr (some (20, 0)), .inl x, .inl v] (mix a b) ((-1)) (mix a (z0 b)) := by
  refine Ct.of (by decide) [_, _, _] rfl (Nat.le_of_ble_eq_true rfl) ?_
  refine v_aload_n dX7_fill_0 rfl ?_
  refine v_iconst 0 dX7_fill_1 (by decide) ?_
  refine m_pi (by decide) fX7_77 dX7_fill_2 rfl rfl Nat.zero_lt_one ?_
  refine v_iload_n dX7_fill_5 rfl ?_
  refine v_iconst 0 dX7_fill_6 (by decide) ?_
  refine v_bipush 7 dX7_fill_7 (by decide) ?_
  refine v_calls3i lX7_84 kX7_in (c_X7_in) dX7_fill_9 rfl (by decide) (by decide) (st8 rfl) ?_
  refine v_if_ne 17 dX7_fill_12 (by decide) (fun h_12 => absurd (by rw [i001]; exact hx) h_12) (fun h_12 => ?_)
  refine v_iconst (-1) dX7_fill_15 (by decide) ?_
  exact v_iret dX7_fill_16 ⟨rfl, rfl⟩
set_option maxHeartbeats 4000000 in
set_option maxRecDepth 100000 in
theorem c_X7_fill3 {a b : tH} {x : Nat} {v : Int32} (hx : x < 8) (hr : b.1 20 0 5 = 0 ∨ ¬ b.1 20 0 6 = 0 ∨ ¬ b.1 40 0 x = 0) : Ci yX7_fill cX7_fill 3 .int 3 [.inr (some (20, 0)), .inl (nI x), .inl v] (mix a b) ((-3)) (mix a (z0 b)) := by
  refine Ct.of (by decide) [_, _, _] rfl (Nat.le_of_ble_eq_true rfl) ?_
  refine v_aload_n dX7_fill_0 rfl ?_
  refine v_iconst 0 dX7_fill_1 (by decide) ?_
  refine m_pi (by decide) fX7_77 dX7_fill_2 rfl rfl Nat.zero_lt_one ?_
  refine v_iload_n dX7_fill_5 rfl ?_
  refine v_iconst 0 dX7_fill_6 (by decide) ?_
  refine v_bipush 7 dX7_fill_7 (by decide) ?_
  refine v_calls3i lX7_84 kX7_in (c_X7_in) dX7_fill_9 rfl (by decide) (by decide) (st8 rfl) ?_
  refine v_if_ne 17 dX7_fill_12 (by decide) (fun h_12 => ?_) (fun h_12 => absurd h_12 (by rw [i001]; exact fun z => z.elim (nI_pos (by omega)) (fun y => absurd y (nI_nlt (a := 7) (b := x) (by omega) (by omega)))))
  refine v_aload_n dX7_fill_17 rfl ?_
  refine m_gi (by decide) fX7_102 dX7_fill_18 rfl rfl Nat.zero_lt_one ?_
  refine v_if_eq 40 dX7_fill_21 (by decide) (fun h_21 => ?_) (fun h_21 => ?_)
  · refine v_bipush (-3) dX7_fill_40 (by decide) ?_
    exact v_iret dX7_fill_42 ⟨rfl, rfl⟩
  · refine v_aload_n dX7_fill_24 rfl ?_
    refine m_gi (by decide) fX7_106 dX7_fill_25 rfl rfl Nat.zero_lt_one ?_
    refine v_if_ne 40 dX7_fill_28 (by decide) (fun h_28 => ?_) (fun h_28 => ?_)
    · refine v_bipush (-3) dX7_fill_40 (by decide) ?_
      exact v_iret dX7_fill_42 ⟨rfl, rfl⟩
    · refine v_aload_n dX7_fill_31 rfl ?_
      refine v_gr 0 fX7_68 dX7_fill_32 rfl rfl rfl Nat.zero_lt_one ?_
      refine v_iload_n dX7_fill_35 rfl ?_
      refine m_zald x (by decide) rfl dX7_fill_36 Nat.zero_lt_one rfl hx ?_
      refine v_if_eq 43 dX7_fill_37 (by decide) (fun h_37 => hr.elim (fun z => absurd z h_21) (fun z => z.elim (fun y => absurd h_28 y) (fun y => absurd h_37 y))) (fun h_37 => ?_)
      refine v_bipush (-3) dX7_fill_40 (by decide) ?_
      exact v_iret dX7_fill_42 ⟨rfl, rfl⟩
set_option maxHeartbeats 4000000 in
set_option maxRecDepth 100000 in
theorem c_X7_fill_ok {a b : tH} {x : Nat} {v : Int32} (hx : x < 8) {T : Nat} {ρ : Option Nat} {L : List Nat} (Z : IQ b ρ T L) (hρ : ∀ r, ρ = some r → b.1 24 0 r = 0) (hh : ¬ b.1 20 0 5 = 0) (ho : b.1 20 0 6 = 0) (hf : b.1 40 0 x = 0) : Ci yX7_fill cX7_fill 3 .int 3 [.inr (some (20, 0)), .inl (nI x), .inl v] (mix a b) (1) (mix a (mComes (z0 b) T x v)) := by
  refine Ct.of (by decide) [_, _, _] rfl (Nat.le_of_ble_eq_true rfl) ?_
  refine v_aload_n dX7_fill_0 rfl ?_
  refine v_iconst 0 dX7_fill_1 (by decide) ?_
  refine m_pi (by decide) fX7_77 dX7_fill_2 rfl rfl Nat.zero_lt_one ?_
  refine v_iload_n dX7_fill_5 rfl ?_
  refine v_iconst 0 dX7_fill_6 (by decide) ?_
  refine v_bipush 7 dX7_fill_7 (by decide) ?_
  refine v_calls3i lX7_84 kX7_in (c_X7_in) dX7_fill_9 rfl (by decide) (by decide) (st8 rfl) ?_
  refine v_if_ne 17 dX7_fill_12 (by decide) (fun h_12 => ?_) (fun h_12 => absurd h_12 (by rw [i001]; exact fun z => z.elim (nI_pos (by omega)) (fun y => absurd y (nI_nlt (a := 7) (b := x) (by omega) (by omega)))))
  refine v_aload_n dX7_fill_17 rfl ?_
  refine m_gi (by decide) fX7_102 dX7_fill_18 rfl rfl Nat.zero_lt_one ?_
  refine v_if_eq 40 dX7_fill_21 (by decide) (fun h_21 => absurd h_21 (by exact hh)) (fun h_21 => ?_)
  refine v_aload_n dX7_fill_24 rfl ?_
  refine m_gk (by exact ho) (by decide) fX7_106 dX7_fill_25 rfl rfl Nat.zero_lt_one ?_
  refine v_if_ne 40 dX7_fill_28 (by decide) (fun h_28 => absurd rfl h_28) (fun h_28 => ?_)
  refine v_aload_n dX7_fill_31 rfl ?_
  refine v_gr 0 fX7_68 dX7_fill_32 rfl rfl rfl Nat.zero_lt_one ?_
  refine v_iload_n dX7_fill_35 rfl ?_
  refine m_zalk x (by exact hf) (by decide) rfl dX7_fill_36 Nat.zero_lt_one rfl hx ?_
  refine v_if_eq 43 dX7_fill_37 (by decide) (fun h_37 => ?_) (fun h_37 => absurd rfl h_37)
  refine v_aload_n dX7_fill_43 rfl ?_
  refine v_iload_n dX7_fill_44 rfl ?_
  refine v_iload_n dX7_fill_45 rfl ?_
  refine v_call2n lX7_137 kX7_comesIn (c_X7_comesIn (T := T) hx (by exact Z) (by exact hρ)) dX7_fill_46 rfl rfl Nat.zero_lt_one rfl (by decide) (by decide) (st8 rfl) ?_
  refine v_iconst 1 dX7_fill_49 (by decide) ?_
  exact v_iret dX7_fill_50 ⟨rfl, rfl⟩
set_option maxHeartbeats 4000000 in
set_option maxRecDepth 100000 in
theorem c_X7_told2 {a b : tH} {w : Int32} (hw : w < 0 ∨ 5 < w) : Ci yX7_told cX7_told 2 .int 1 [.inr (some (20, 0)), .inl w] (mix a b) ((-2)) (mix a (z0 b)) := by
  refine Ct.of (by decide) [_, _] rfl (Nat.le_of_ble_eq_true rfl) ?_
  refine v_aload_n dX7_told_0 rfl ?_
  refine v_iconst 0 dX7_told_1 (by decide) ?_
  refine m_pi (by decide) fX7_77 dX7_told_2 rfl rfl Nat.zero_lt_one ?_
  refine v_iload_n dX7_told_5 rfl ?_
  refine v_iconst 0 dX7_told_6 (by decide) ?_
  refine v_iconst 5 dX7_told_7 (by decide) ?_
  refine v_calls3i lX7_84 kX7_in (c_X7_in) dX7_told_8 rfl (by decide) (by decide) (st8 rfl) ?_
  refine v_if_ne 17 dX7_told_11 (by decide) (fun h_11 => absurd (by rw [i001]; exact hw) h_11) (fun h_11 => ?_)
  refine v_bipush (-2) dX7_told_14 (by decide) ?_
  exact v_iret dX7_told_16 ⟨rfl, rfl⟩
set_option maxHeartbeats 4000000 in
set_option maxRecDepth 100000 in
theorem c_X7_told3_0 {a b : tH} (hh : b.1 20 0 5 = 0) : Ci yX7_told cX7_told 2 .int 1 [.inr (some (20, 0)), .inl 0] (mix a b) ((-3)) (mix a (z0 b)) := by
  refine Ct.of (by decide) [_, _] rfl (Nat.le_of_ble_eq_true rfl) ?_
  refine v_aload_n dX7_told_0 rfl ?_
  refine v_iconst 0 dX7_told_1 (by decide) ?_
  refine m_pi (by decide) fX7_77 dX7_told_2 rfl rfl Nat.zero_lt_one ?_
  refine v_iload_n dX7_told_5 rfl ?_
  refine v_iconst 0 dX7_told_6 (by decide) ?_
  refine v_iconst 5 dX7_told_7 (by decide) ?_
  refine v_calls3i lX7_84 kX7_in (c_X7_in) dX7_told_8 rfl (by decide) (by decide) (st8 rfl) ?_
  refine v_if_ne 17 dX7_told_11 (by decide) (fun h_11 => ?_) (fun h_11 => absurd h_11 (by decide))
  refine v_aload_n dX7_told_17 rfl ?_
  refine m_gk (by exact hh) (by decide) fX7_102 dX7_told_18 rfl rfl Nat.zero_lt_one ?_
  refine v_if_ne 27 dX7_told_21 (by decide) (fun h_21 => absurd rfl h_21) (fun h_21 => ?_)
  refine v_bipush (-3) dX7_told_24 (by decide) ?_
  exact v_iret dX7_told_26 ⟨rfl, rfl⟩
set_option maxHeartbeats 4000000 in
set_option maxRecDepth 100000 in
theorem c_X7_told_0 {a b : tH} (hh : ¬ b.1 20 0 5 = 0) : Ci yX7_told cX7_told 2 .int 1 [.inr (some (20, 0)), .inl 0] (mix a b) (if b.1 20 0 6 = 0 then 0 else 1) (mix a (z0 b)) := by
  refine Ct.of (by decide) [_, _] rfl (Nat.le_of_ble_eq_true rfl) ?_
  refine v_aload_n dX7_told_0 rfl ?_
  refine v_iconst 0 dX7_told_1 (by decide) ?_
  refine m_pi (by decide) fX7_77 dX7_told_2 rfl rfl Nat.zero_lt_one ?_
  refine v_iload_n dX7_told_5 rfl ?_
  refine v_iconst 0 dX7_told_6 (by decide) ?_
  refine v_iconst 5 dX7_told_7 (by decide) ?_
  refine v_calls3i lX7_84 kX7_in (c_X7_in) dX7_told_8 rfl (by decide) (by decide) (st8 rfl) ?_
  refine v_if_ne 17 dX7_told_11 (by decide) (fun h_11 => ?_) (fun h_11 => absurd h_11 (by decide))
  refine v_aload_n dX7_told_17 rfl ?_
  refine m_gi (by decide) fX7_102 dX7_told_18 rfl rfl Nat.zero_lt_one ?_
  refine v_if_ne 27 dX7_told_21 (by decide) (fun h_21 => ?_) (fun h_21 => absurd h_21 (by exact hh))
  refine v_iload_n dX7_told_27 rfl ?_
  refine v_if_ne 46 dX7_told_28 (by decide) (fun h_28 => absurd rfl h_28) (fun h_28 => ?_)
  refine v_aload_n dX7_told_31 rfl ?_
  refine m_gi (by decide) fX7_106 dX7_told_32 rfl rfl Nat.zero_lt_one ?_
  refine v_if_eq 42 dX7_told_35 (by decide) (fun h_35 => ?_) (fun h_35 => ?_)
  · refine v_iconst 0 dX7_told_42 (by decide) ?_
    refine v_goto 98 dX7_told_43 (by decide) ?_
    exact v_iret dX7_told_98 ⟨by first | exact congrArg (fun z : Int32 => some (Sum.inl z : tV)) (if_pos h_35).symm | exact congrArg (fun z : Int32 => some (Sum.inl z : tV)) (if_neg h_35).symm, rfl⟩
  · refine v_iconst 1 dX7_told_38 (by decide) ?_
    refine v_goto 98 dX7_told_39 (by decide) ?_
    exact v_iret dX7_told_98 ⟨by first | exact congrArg (fun z : Int32 => some (Sum.inl z : tV)) (if_pos h_35).symm | exact congrArg (fun z : Int32 => some (Sum.inl z : tV)) (if_neg h_35).symm, rfl⟩
set_option maxHeartbeats 4000000 in
set_option maxRecDepth 100000 in
theorem c_X7_told3_1 {a b : tH} (hh : b.1 20 0 5 = 0) : Ci yX7_told cX7_told 2 .int 1 [.inr (some (20, 0)), .inl 1] (mix a b) ((-3)) (mix a (z0 b)) := by
  refine Ct.of (by decide) [_, _] rfl (Nat.le_of_ble_eq_true rfl) ?_
  refine v_aload_n dX7_told_0 rfl ?_
  refine v_iconst 0 dX7_told_1 (by decide) ?_
  refine m_pi (by decide) fX7_77 dX7_told_2 rfl rfl Nat.zero_lt_one ?_
  refine v_iload_n dX7_told_5 rfl ?_
  refine v_iconst 0 dX7_told_6 (by decide) ?_
  refine v_iconst 5 dX7_told_7 (by decide) ?_
  refine v_calls3i lX7_84 kX7_in (c_X7_in) dX7_told_8 rfl (by decide) (by decide) (st8 rfl) ?_
  refine v_if_ne 17 dX7_told_11 (by decide) (fun h_11 => ?_) (fun h_11 => absurd h_11 (by decide))
  refine v_aload_n dX7_told_17 rfl ?_
  refine m_gk (by exact hh) (by decide) fX7_102 dX7_told_18 rfl rfl Nat.zero_lt_one ?_
  refine v_if_ne 27 dX7_told_21 (by decide) (fun h_21 => absurd rfl h_21) (fun h_21 => ?_)
  refine v_bipush (-3) dX7_told_24 (by decide) ?_
  exact v_iret dX7_told_26 ⟨rfl, rfl⟩
set_option maxHeartbeats 4000000 in
set_option maxRecDepth 100000 in
theorem c_X7_told_1 {a b : tH} (hh : ¬ b.1 20 0 5 = 0) : Ci yX7_told cX7_told 2 .int 1 [.inr (some (20, 0)), .inl 1] (mix a b) (b.1 20 0 8) (mix a (z0 b)) := by
  refine Ct.of (by decide) [_, _] rfl (Nat.le_of_ble_eq_true rfl) ?_
  refine v_aload_n dX7_told_0 rfl ?_
  refine v_iconst 0 dX7_told_1 (by decide) ?_
  refine m_pi (by decide) fX7_77 dX7_told_2 rfl rfl Nat.zero_lt_one ?_
  refine v_iload_n dX7_told_5 rfl ?_
  refine v_iconst 0 dX7_told_6 (by decide) ?_
  refine v_iconst 5 dX7_told_7 (by decide) ?_
  refine v_calls3i lX7_84 kX7_in (c_X7_in) dX7_told_8 rfl (by decide) (by decide) (st8 rfl) ?_
  refine v_if_ne 17 dX7_told_11 (by decide) (fun h_11 => ?_) (fun h_11 => absurd h_11 (by decide))
  refine v_aload_n dX7_told_17 rfl ?_
  refine m_gi (by decide) fX7_102 dX7_told_18 rfl rfl Nat.zero_lt_one ?_
  refine v_if_ne 27 dX7_told_21 (by decide) (fun h_21 => ?_) (fun h_21 => absurd h_21 (by exact hh))
  refine v_iload_n dX7_told_27 rfl ?_
  refine v_if_ne 46 dX7_told_28 (by decide) (fun h_28 => ?_) (fun h_28 => absurd h_28 (by decide))
  refine v_iload_n dX7_told_46 rfl ?_
  refine v_iconst 1 dX7_told_47 (by decide) ?_
  refine v_icmp_ne 58 dX7_told_48 (by decide) (fun h_48 => absurd rfl h_48) (fun h_48 => ?_)
  refine v_aload_n dX7_told_51 rfl ?_
  refine m_gi (by decide) fX7_112 dX7_told_52 rfl rfl Nat.zero_lt_one ?_
  refine v_goto 98 dX7_told_55 (by decide) ?_
  exact v_iret dX7_told_98 ⟨rfl, rfl⟩
set_option maxHeartbeats 4000000 in
set_option maxRecDepth 100000 in
theorem c_X7_told3_2 {a b : tH} (hh : b.1 20 0 5 = 0) : Ci yX7_told cX7_told 2 .int 1 [.inr (some (20, 0)), .inl 2] (mix a b) ((-3)) (mix a (z0 b)) := by
  refine Ct.of (by decide) [_, _] rfl (Nat.le_of_ble_eq_true rfl) ?_
  refine v_aload_n dX7_told_0 rfl ?_
  refine v_iconst 0 dX7_told_1 (by decide) ?_
  refine m_pi (by decide) fX7_77 dX7_told_2 rfl rfl Nat.zero_lt_one ?_
  refine v_iload_n dX7_told_5 rfl ?_
  refine v_iconst 0 dX7_told_6 (by decide) ?_
  refine v_iconst 5 dX7_told_7 (by decide) ?_
  refine v_calls3i lX7_84 kX7_in (c_X7_in) dX7_told_8 rfl (by decide) (by decide) (st8 rfl) ?_
  refine v_if_ne 17 dX7_told_11 (by decide) (fun h_11 => ?_) (fun h_11 => absurd h_11 (by decide))
  refine v_aload_n dX7_told_17 rfl ?_
  refine m_gk (by exact hh) (by decide) fX7_102 dX7_told_18 rfl rfl Nat.zero_lt_one ?_
  refine v_if_ne 27 dX7_told_21 (by decide) (fun h_21 => absurd rfl h_21) (fun h_21 => ?_)
  refine v_bipush (-3) dX7_told_24 (by decide) ?_
  exact v_iret dX7_told_26 ⟨rfl, rfl⟩
set_option maxHeartbeats 4000000 in
set_option maxRecDepth 100000 in
theorem c_X7_told_2 {a b : tH} (hh : ¬ b.1 20 0 5 = 0) : Ci yX7_told cX7_told 2 .int 1 [.inr (some (20, 0)), .inl 2] (mix a b) (b.1 20 0 9) (mix a (z0 b)) := by
  refine Ct.of (by decide) [_, _] rfl (Nat.le_of_ble_eq_true rfl) ?_
  refine v_aload_n dX7_told_0 rfl ?_
  refine v_iconst 0 dX7_told_1 (by decide) ?_
  refine m_pi (by decide) fX7_77 dX7_told_2 rfl rfl Nat.zero_lt_one ?_
  refine v_iload_n dX7_told_5 rfl ?_
  refine v_iconst 0 dX7_told_6 (by decide) ?_
  refine v_iconst 5 dX7_told_7 (by decide) ?_
  refine v_calls3i lX7_84 kX7_in (c_X7_in) dX7_told_8 rfl (by decide) (by decide) (st8 rfl) ?_
  refine v_if_ne 17 dX7_told_11 (by decide) (fun h_11 => ?_) (fun h_11 => absurd h_11 (by decide))
  refine v_aload_n dX7_told_17 rfl ?_
  refine m_gi (by decide) fX7_102 dX7_told_18 rfl rfl Nat.zero_lt_one ?_
  refine v_if_ne 27 dX7_told_21 (by decide) (fun h_21 => ?_) (fun h_21 => absurd h_21 (by exact hh))
  refine v_iload_n dX7_told_27 rfl ?_
  refine v_if_ne 46 dX7_told_28 (by decide) (fun h_28 => ?_) (fun h_28 => absurd h_28 (by decide))
  refine v_iload_n dX7_told_46 rfl ?_
  refine v_iconst 1 dX7_told_47 (by decide) ?_
  refine v_icmp_ne 58 dX7_told_48 (by decide) (fun h_48 => ?_) (fun h_48 => absurd h_48 (by decide))
  refine v_iload_n dX7_told_58 rfl ?_
  refine v_iconst 2 dX7_told_59 (by decide) ?_
  refine v_icmp_ne 70 dX7_told_60 (by decide) (fun h_60 => absurd rfl h_60) (fun h_60 => ?_)
  refine v_aload_n dX7_told_63 rfl ?_
  refine m_gi (by decide) fX7_115 dX7_told_64 rfl rfl Nat.zero_lt_one ?_
  refine v_goto 98 dX7_told_67 (by decide) ?_
  exact v_iret dX7_told_98 ⟨rfl, rfl⟩
set_option maxHeartbeats 4000000 in
set_option maxRecDepth 100000 in
theorem c_X7_told3_3 {a b : tH} (hh : b.1 20 0 5 = 0) : Ci yX7_told cX7_told 2 .int 1 [.inr (some (20, 0)), .inl 3] (mix a b) ((-3)) (mix a (z0 b)) := by
  refine Ct.of (by decide) [_, _] rfl (Nat.le_of_ble_eq_true rfl) ?_
  refine v_aload_n dX7_told_0 rfl ?_
  refine v_iconst 0 dX7_told_1 (by decide) ?_
  refine m_pi (by decide) fX7_77 dX7_told_2 rfl rfl Nat.zero_lt_one ?_
  refine v_iload_n dX7_told_5 rfl ?_
  refine v_iconst 0 dX7_told_6 (by decide) ?_
  refine v_iconst 5 dX7_told_7 (by decide) ?_
  refine v_calls3i lX7_84 kX7_in (c_X7_in) dX7_told_8 rfl (by decide) (by decide) (st8 rfl) ?_
  refine v_if_ne 17 dX7_told_11 (by decide) (fun h_11 => ?_) (fun h_11 => absurd h_11 (by decide))
  refine v_aload_n dX7_told_17 rfl ?_
  refine m_gk (by exact hh) (by decide) fX7_102 dX7_told_18 rfl rfl Nat.zero_lt_one ?_
  refine v_if_ne 27 dX7_told_21 (by decide) (fun h_21 => absurd rfl h_21) (fun h_21 => ?_)
  refine v_bipush (-3) dX7_told_24 (by decide) ?_
  exact v_iret dX7_told_26 ⟨rfl, rfl⟩
set_option maxHeartbeats 4000000 in
set_option maxRecDepth 100000 in
theorem c_X7_told_3 {a b : tH} (hh : ¬ b.1 20 0 5 = 0) : Ci yX7_told cX7_told 2 .int 1 [.inr (some (20, 0)), .inl 3] (mix a b) (b.1 20 0 11) (mix a (z0 b)) := by
  refine Ct.of (by decide) [_, _] rfl (Nat.le_of_ble_eq_true rfl) ?_
  refine v_aload_n dX7_told_0 rfl ?_
  refine v_iconst 0 dX7_told_1 (by decide) ?_
  refine m_pi (by decide) fX7_77 dX7_told_2 rfl rfl Nat.zero_lt_one ?_
  refine v_iload_n dX7_told_5 rfl ?_
  refine v_iconst 0 dX7_told_6 (by decide) ?_
  refine v_iconst 5 dX7_told_7 (by decide) ?_
  refine v_calls3i lX7_84 kX7_in (c_X7_in) dX7_told_8 rfl (by decide) (by decide) (st8 rfl) ?_
  refine v_if_ne 17 dX7_told_11 (by decide) (fun h_11 => ?_) (fun h_11 => absurd h_11 (by decide))
  refine v_aload_n dX7_told_17 rfl ?_
  refine m_gi (by decide) fX7_102 dX7_told_18 rfl rfl Nat.zero_lt_one ?_
  refine v_if_ne 27 dX7_told_21 (by decide) (fun h_21 => ?_) (fun h_21 => absurd h_21 (by exact hh))
  refine v_iload_n dX7_told_27 rfl ?_
  refine v_if_ne 46 dX7_told_28 (by decide) (fun h_28 => ?_) (fun h_28 => absurd h_28 (by decide))
  refine v_iload_n dX7_told_46 rfl ?_
  refine v_iconst 1 dX7_told_47 (by decide) ?_
  refine v_icmp_ne 58 dX7_told_48 (by decide) (fun h_48 => ?_) (fun h_48 => absurd h_48 (by decide))
  refine v_iload_n dX7_told_58 rfl ?_
  refine v_iconst 2 dX7_told_59 (by decide) ?_
  refine v_icmp_ne 70 dX7_told_60 (by decide) (fun h_60 => ?_) (fun h_60 => absurd h_60 (by decide))
  refine v_iload_n dX7_told_70 rfl ?_
  refine v_iconst 3 dX7_told_71 (by decide) ?_
  refine v_icmp_ne 82 dX7_told_72 (by decide) (fun h_72 => absurd rfl h_72) (fun h_72 => ?_)
  refine v_aload_n dX7_told_75 rfl ?_
  refine m_gi (by decide) fX7_92 dX7_told_76 rfl rfl Nat.zero_lt_one ?_
  refine v_goto 98 dX7_told_79 (by decide) ?_
  exact v_iret dX7_told_98 ⟨rfl, rfl⟩
set_option maxHeartbeats 4000000 in
set_option maxRecDepth 100000 in
theorem c_X7_told3_4 {a b : tH} (hh : b.1 20 0 5 = 0) : Ci yX7_told cX7_told 2 .int 1 [.inr (some (20, 0)), .inl 4] (mix a b) ((-3)) (mix a (z0 b)) := by
  refine Ct.of (by decide) [_, _] rfl (Nat.le_of_ble_eq_true rfl) ?_
  refine v_aload_n dX7_told_0 rfl ?_
  refine v_iconst 0 dX7_told_1 (by decide) ?_
  refine m_pi (by decide) fX7_77 dX7_told_2 rfl rfl Nat.zero_lt_one ?_
  refine v_iload_n dX7_told_5 rfl ?_
  refine v_iconst 0 dX7_told_6 (by decide) ?_
  refine v_iconst 5 dX7_told_7 (by decide) ?_
  refine v_calls3i lX7_84 kX7_in (c_X7_in) dX7_told_8 rfl (by decide) (by decide) (st8 rfl) ?_
  refine v_if_ne 17 dX7_told_11 (by decide) (fun h_11 => ?_) (fun h_11 => absurd h_11 (by decide))
  refine v_aload_n dX7_told_17 rfl ?_
  refine m_gk (by exact hh) (by decide) fX7_102 dX7_told_18 rfl rfl Nat.zero_lt_one ?_
  refine v_if_ne 27 dX7_told_21 (by decide) (fun h_21 => absurd rfl h_21) (fun h_21 => ?_)
  refine v_bipush (-3) dX7_told_24 (by decide) ?_
  exact v_iret dX7_told_26 ⟨rfl, rfl⟩
set_option maxHeartbeats 4000000 in
set_option maxRecDepth 100000 in
theorem c_X7_told_4 {a b : tH} (hh : ¬ b.1 20 0 5 = 0) : Ci yX7_told cX7_told 2 .int 1 [.inr (some (20, 0)), .inl 4] (mix a b) (b.1 20 0 27) (mix a (z0 b)) := by
  refine Ct.of (by decide) [_, _] rfl (Nat.le_of_ble_eq_true rfl) ?_
  refine v_aload_n dX7_told_0 rfl ?_
  refine v_iconst 0 dX7_told_1 (by decide) ?_
  refine m_pi (by decide) fX7_77 dX7_told_2 rfl rfl Nat.zero_lt_one ?_
  refine v_iload_n dX7_told_5 rfl ?_
  refine v_iconst 0 dX7_told_6 (by decide) ?_
  refine v_iconst 5 dX7_told_7 (by decide) ?_
  refine v_calls3i lX7_84 kX7_in (c_X7_in) dX7_told_8 rfl (by decide) (by decide) (st8 rfl) ?_
  refine v_if_ne 17 dX7_told_11 (by decide) (fun h_11 => ?_) (fun h_11 => absurd h_11 (by decide))
  refine v_aload_n dX7_told_17 rfl ?_
  refine m_gi (by decide) fX7_102 dX7_told_18 rfl rfl Nat.zero_lt_one ?_
  refine v_if_ne 27 dX7_told_21 (by decide) (fun h_21 => ?_) (fun h_21 => absurd h_21 (by exact hh))
  refine v_iload_n dX7_told_27 rfl ?_
  refine v_if_ne 46 dX7_told_28 (by decide) (fun h_28 => ?_) (fun h_28 => absurd h_28 (by decide))
  refine v_iload_n dX7_told_46 rfl ?_
  refine v_iconst 1 dX7_told_47 (by decide) ?_
  refine v_icmp_ne 58 dX7_told_48 (by decide) (fun h_48 => ?_) (fun h_48 => absurd h_48 (by decide))
  refine v_iload_n dX7_told_58 rfl ?_
  refine v_iconst 2 dX7_told_59 (by decide) ?_
  refine v_icmp_ne 70 dX7_told_60 (by decide) (fun h_60 => ?_) (fun h_60 => absurd h_60 (by decide))
  refine v_iload_n dX7_told_70 rfl ?_
  refine v_iconst 3 dX7_told_71 (by decide) ?_
  refine v_icmp_ne 82 dX7_told_72 (by decide) (fun h_72 => ?_) (fun h_72 => absurd h_72 (by decide))
  refine v_iload_n dX7_told_82 rfl ?_
  refine v_iconst 4 dX7_told_83 (by decide) ?_
  refine v_icmp_ne 94 dX7_told_84 (by decide) (fun h_84 => absurd rfl h_84) (fun h_84 => ?_)
  refine v_aload_n dX7_told_87 rfl ?_
  refine m_gi (by decide) fX7_99 dX7_told_88 rfl rfl Nat.zero_lt_one ?_
  refine v_goto 98 dX7_told_91 (by decide) ?_
  exact v_iret dX7_told_98 ⟨rfl, rfl⟩
set_option maxHeartbeats 4000000 in
set_option maxRecDepth 100000 in
theorem c_X7_told3_5 {a b : tH} (hh : b.1 20 0 5 = 0) : Ci yX7_told cX7_told 2 .int 1 [.inr (some (20, 0)), .inl 5] (mix a b) ((-3)) (mix a (z0 b)) := by
  refine Ct.of (by decide) [_, _] rfl (Nat.le_of_ble_eq_true rfl) ?_
  refine v_aload_n dX7_told_0 rfl ?_
  refine v_iconst 0 dX7_told_1 (by decide) ?_
  refine m_pi (by decide) fX7_77 dX7_told_2 rfl rfl Nat.zero_lt_one ?_
  refine v_iload_n dX7_told_5 rfl ?_
  refine v_iconst 0 dX7_told_6 (by decide) ?_
  refine v_iconst 5 dX7_told_7 (by decide) ?_
  refine v_calls3i lX7_84 kX7_in (c_X7_in) dX7_told_8 rfl (by decide) (by decide) (st8 rfl) ?_
  refine v_if_ne 17 dX7_told_11 (by decide) (fun h_11 => ?_) (fun h_11 => absurd h_11 (by decide))
  refine v_aload_n dX7_told_17 rfl ?_
  refine m_gk (by exact hh) (by decide) fX7_102 dX7_told_18 rfl rfl Nat.zero_lt_one ?_
  refine v_if_ne 27 dX7_told_21 (by decide) (fun h_21 => absurd rfl h_21) (fun h_21 => ?_)
  refine v_bipush (-3) dX7_told_24 (by decide) ?_
  exact v_iret dX7_told_26 ⟨rfl, rfl⟩
set_option maxHeartbeats 4000000 in
set_option maxRecDepth 100000 in
theorem c_X7_told_5 {a b : tH} (hh : ¬ b.1 20 0 5 = 0) : Ci yX7_told cX7_told 2 .int 1 [.inr (some (20, 0)), .inl 5] (mix a b) (b.1 20 0 10) (mix a (z0 b)) := by
  refine Ct.of (by decide) [_, _] rfl (Nat.le_of_ble_eq_true rfl) ?_
  refine v_aload_n dX7_told_0 rfl ?_
  refine v_iconst 0 dX7_told_1 (by decide) ?_
  refine m_pi (by decide) fX7_77 dX7_told_2 rfl rfl Nat.zero_lt_one ?_
  refine v_iload_n dX7_told_5 rfl ?_
  refine v_iconst 0 dX7_told_6 (by decide) ?_
  refine v_iconst 5 dX7_told_7 (by decide) ?_
  refine v_calls3i lX7_84 kX7_in (c_X7_in) dX7_told_8 rfl (by decide) (by decide) (st8 rfl) ?_
  refine v_if_ne 17 dX7_told_11 (by decide) (fun h_11 => ?_) (fun h_11 => absurd h_11 (by decide))
  refine v_aload_n dX7_told_17 rfl ?_
  refine m_gi (by decide) fX7_102 dX7_told_18 rfl rfl Nat.zero_lt_one ?_
  refine v_if_ne 27 dX7_told_21 (by decide) (fun h_21 => ?_) (fun h_21 => absurd h_21 (by exact hh))
  refine v_iload_n dX7_told_27 rfl ?_
  refine v_if_ne 46 dX7_told_28 (by decide) (fun h_28 => ?_) (fun h_28 => absurd h_28 (by decide))
  refine v_iload_n dX7_told_46 rfl ?_
  refine v_iconst 1 dX7_told_47 (by decide) ?_
  refine v_icmp_ne 58 dX7_told_48 (by decide) (fun h_48 => ?_) (fun h_48 => absurd h_48 (by decide))
  refine v_iload_n dX7_told_58 rfl ?_
  refine v_iconst 2 dX7_told_59 (by decide) ?_
  refine v_icmp_ne 70 dX7_told_60 (by decide) (fun h_60 => ?_) (fun h_60 => absurd h_60 (by decide))
  refine v_iload_n dX7_told_70 rfl ?_
  refine v_iconst 3 dX7_told_71 (by decide) ?_
  refine v_icmp_ne 82 dX7_told_72 (by decide) (fun h_72 => ?_) (fun h_72 => absurd h_72 (by decide))
  refine v_iload_n dX7_told_82 rfl ?_
  refine v_iconst 4 dX7_told_83 (by decide) ?_
  refine v_icmp_ne 94 dX7_told_84 (by decide) (fun h_84 => ?_) (fun h_84 => absurd h_84 (by decide))
  refine v_aload_n dX7_told_94 rfl ?_
  refine m_gi (by decide) fX7_118 dX7_told_95 rfl rfl Nat.zero_lt_one ?_
  exact v_iret dX7_told_98 ⟨rfl, rfl⟩
set_option maxHeartbeats 4000000 in
set_option maxRecDepth 100000 in
theorem c_X7_thread1 {a b : tH} {T : Nat} {t w : Int32} (hT : b.1 20 0 11 = nI T) (h24 : T ≤ 24) (ht : b.1 20 0 5 = 0 ∨ t < 0 ∨ nI T ≤ t) : Ci yX7_thread cX7_thread 3 .int 1 [.inr (some (20, 0)), .inl t, .inl w] (mix a b) ((-1)) (mix a (z0 b)) := by
  refine Ct.of (by decide) [_, _, _] rfl (Nat.le_of_ble_eq_true rfl) ?_
  refine v_aload_n dX7_thread_0 rfl ?_
  refine v_iconst 0 dX7_thread_1 (by decide) ?_
  refine m_pi (by decide) fX7_77 dX7_thread_2 rfl rfl Nat.zero_lt_one ?_
  refine v_aload_n dX7_thread_5 rfl ?_
  refine m_gi (by decide) fX7_102 dX7_thread_6 rfl rfl Nat.zero_lt_one ?_
  refine v_if_eq 26 dX7_thread_9 (by decide) (fun h_9 => ?_) (fun h_9 => ?_)
  · refine v_iconst (-1) dX7_thread_26 (by decide) ?_
    exact v_iret dX7_thread_27 ⟨rfl, rfl⟩
  · refine v_iload_n dX7_thread_12 rfl ?_
    refine v_iconst 0 dX7_thread_13 (by decide) ?_
    refine v_aload_n dX7_thread_14 rfl ?_
    refine m_gk (by exact hT) (by decide) fX7_92 dX7_thread_15 rfl rfl Nat.zero_lt_one ?_
    refine v_iconst 1 dX7_thread_18 (by decide) ?_
    refine v_isub dX7_thread_19 ?_
    refine v_calls3i lX7_84 kX7_in (c_X7_in) dX7_thread_20 rfl (by decide) (by decide) (st8 rfl) ?_
    refine v_if_ne 28 dX7_thread_23 (by decide) (fun h_23 => ht.elim (fun z => absurd z h_9) (fun z => absurd (by rw [i001, rng (by omega)]; exact z) h_23)) (fun h_23 => ?_)
    refine v_iconst (-1) dX7_thread_26 (by decide) ?_
    exact v_iret dX7_thread_27 ⟨rfl, rfl⟩
set_option maxHeartbeats 4000000 in
set_option maxRecDepth 100000 in
theorem c_X7_thread_0 {a b : tH} {T t : Nat} (hT : b.1 20 0 11 = nI T) (h24 : T ≤ 24) (ht : t < T) (hh : ¬ b.1 20 0 5 = 0) : Ci yX7_thread cX7_thread 3 .int 1 [.inr (some (20, 0)), .inl (nI t), .inl 0] (mix a b) (b.1 24 0 t) (mix a (z0 b)) := by
  refine Ct.of (by decide) [_, _, _] rfl (Nat.le_of_ble_eq_true rfl) ?_
  refine v_aload_n dX7_thread_0 rfl ?_
  refine v_iconst 0 dX7_thread_1 (by decide) ?_
  refine m_pi (by decide) fX7_77 dX7_thread_2 rfl rfl Nat.zero_lt_one ?_
  refine v_aload_n dX7_thread_5 rfl ?_
  refine m_gi (by decide) fX7_102 dX7_thread_6 rfl rfl Nat.zero_lt_one ?_
  refine v_if_eq 26 dX7_thread_9 (by decide) (fun h_9 => absurd h_9 (by exact hh)) (fun h_9 => ?_)
  refine v_iload_n dX7_thread_12 rfl ?_
  refine v_iconst 0 dX7_thread_13 (by decide) ?_
  refine v_aload_n dX7_thread_14 rfl ?_
  refine m_gk (by exact hT) (by decide) fX7_92 dX7_thread_15 rfl rfl Nat.zero_lt_one ?_
  refine v_iconst 1 dX7_thread_18 (by decide) ?_
  refine v_isub dX7_thread_19 ?_
  refine v_calls3i lX7_84 kX7_in (c_X7_in) dX7_thread_20 rfl (by decide) (by decide) (st8 rfl) ?_
  refine v_if_ne 28 dX7_thread_23 (by decide) (fun h_23 => ?_) (fun h_23 => absurd h_23 (by rw [i001]; exact rng_in ht (by omega)))
  refine v_iload_n dX7_thread_28 rfl ?_
  refine v_tsIn (off := 55) 84 0 dX7_thread_29 rfl (by decide) (by decide) (by decide) (by decide) ?_
  refine v_aload_n dX7_thread_84 rfl ?_
  refine v_gr 0 fX7_19 dX7_thread_85 rfl rfl rfl Nat.zero_lt_one ?_
  refine v_iload_n dX7_thread_88 rfl ?_
  refine m_iald t (by decide) rfl dX7_thread_89 Nat.zero_lt_one rfl (by omega) ?_
  exact v_iret dX7_thread_90 ⟨rfl, rfl⟩
set_option maxHeartbeats 4000000 in
set_option maxRecDepth 100000 in
theorem c_X7_thread_1 {a b : tH} {T t : Nat} (hT : b.1 20 0 11 = nI T) (h24 : T ≤ 24) (ht : t < T) (hh : ¬ b.1 20 0 5 = 0) : Ci yX7_thread cX7_thread 3 .int 1 [.inr (some (20, 0)), .inl (nI t), .inl 1] (mix a b) (b.1 25 0 t) (mix a (z0 b)) := by
  refine Ct.of (by decide) [_, _, _] rfl (Nat.le_of_ble_eq_true rfl) ?_
  refine v_aload_n dX7_thread_0 rfl ?_
  refine v_iconst 0 dX7_thread_1 (by decide) ?_
  refine m_pi (by decide) fX7_77 dX7_thread_2 rfl rfl Nat.zero_lt_one ?_
  refine v_aload_n dX7_thread_5 rfl ?_
  refine m_gi (by decide) fX7_102 dX7_thread_6 rfl rfl Nat.zero_lt_one ?_
  refine v_if_eq 26 dX7_thread_9 (by decide) (fun h_9 => absurd h_9 (by exact hh)) (fun h_9 => ?_)
  refine v_iload_n dX7_thread_12 rfl ?_
  refine v_iconst 0 dX7_thread_13 (by decide) ?_
  refine v_aload_n dX7_thread_14 rfl ?_
  refine m_gk (by exact hT) (by decide) fX7_92 dX7_thread_15 rfl rfl Nat.zero_lt_one ?_
  refine v_iconst 1 dX7_thread_18 (by decide) ?_
  refine v_isub dX7_thread_19 ?_
  refine v_calls3i lX7_84 kX7_in (c_X7_in) dX7_thread_20 rfl (by decide) (by decide) (st8 rfl) ?_
  refine v_if_ne 28 dX7_thread_23 (by decide) (fun h_23 => ?_) (fun h_23 => absurd h_23 (by rw [i001]; exact rng_in ht (by omega)))
  refine v_iload_n dX7_thread_28 rfl ?_
  refine v_tsIn (off := 62) 91 1 dX7_thread_29 rfl (by decide) (by decide) (by decide) (by decide) ?_
  refine v_aload_n dX7_thread_91 rfl ?_
  refine v_gr 0 fX7_22 dX7_thread_92 rfl rfl rfl Nat.zero_lt_one ?_
  refine v_iload_n dX7_thread_95 rfl ?_
  refine m_iald t (by decide) rfl dX7_thread_96 Nat.zero_lt_one rfl (by omega) ?_
  exact v_iret dX7_thread_97 ⟨rfl, rfl⟩
set_option maxHeartbeats 4000000 in
set_option maxRecDepth 100000 in
theorem c_X7_thread_2 {a b : tH} {T t : Nat} (hT : b.1 20 0 11 = nI T) (h24 : T ≤ 24) (ht : t < T) (hh : ¬ b.1 20 0 5 = 0) : Ci yX7_thread cX7_thread 3 .int 1 [.inr (some (20, 0)), .inl (nI t), .inl 2] (mix a b) (if b.1 24 0 t ≤ 4 then b.1 26 0 t else (-3)) (mix a (z0 b)) := by
  refine Ct.of (by decide) [_, _, _] rfl (Nat.le_of_ble_eq_true rfl) ?_
  refine v_aload_n dX7_thread_0 rfl ?_
  refine v_iconst 0 dX7_thread_1 (by decide) ?_
  refine m_pi (by decide) fX7_77 dX7_thread_2 rfl rfl Nat.zero_lt_one ?_
  refine v_aload_n dX7_thread_5 rfl ?_
  refine m_gi (by decide) fX7_102 dX7_thread_6 rfl rfl Nat.zero_lt_one ?_
  refine v_if_eq 26 dX7_thread_9 (by decide) (fun h_9 => absurd h_9 (by exact hh)) (fun h_9 => ?_)
  refine v_iload_n dX7_thread_12 rfl ?_
  refine v_iconst 0 dX7_thread_13 (by decide) ?_
  refine v_aload_n dX7_thread_14 rfl ?_
  refine m_gk (by exact hT) (by decide) fX7_92 dX7_thread_15 rfl rfl Nat.zero_lt_one ?_
  refine v_iconst 1 dX7_thread_18 (by decide) ?_
  refine v_isub dX7_thread_19 ?_
  refine v_calls3i lX7_84 kX7_in (c_X7_in) dX7_thread_20 rfl (by decide) (by decide) (st8 rfl) ?_
  refine v_if_ne 28 dX7_thread_23 (by decide) (fun h_23 => ?_) (fun h_23 => absurd h_23 (by rw [i001]; exact rng_in ht (by omega)))
  refine v_iload_n dX7_thread_28 rfl ?_
  refine v_tsIn (off := 69) 98 2 dX7_thread_29 rfl (by decide) (by decide) (by decide) (by decide) ?_
  refine v_aload_n dX7_thread_98 rfl ?_
  refine v_gr 0 fX7_19 dX7_thread_99 rfl rfl rfl Nat.zero_lt_one ?_
  refine v_iload_n dX7_thread_102 rfl ?_
  refine m_iald t (by decide) rfl dX7_thread_103 Nat.zero_lt_one rfl (by omega) ?_
  refine v_iconst 4 dX7_thread_104 (by decide) ?_
  refine v_icmp_le 113 dX7_thread_105 (by decide) (fun h_105 => ?_) (fun h_105 => ?_)
  · refine v_aload_n dX7_thread_113 rfl ?_
    refine v_gr 0 fX7_25 dX7_thread_114 rfl rfl rfl Nat.zero_lt_one ?_
    refine v_iload_n dX7_thread_117 rfl ?_
    refine m_iald t (by decide) rfl dX7_thread_118 Nat.zero_lt_one rfl (by omega) ?_
    exact v_iret dX7_thread_119 ⟨by first | exact congrArg (fun z : Int32 => some (Sum.inl z : tV)) (if_pos h_105).symm | exact congrArg (fun z : Int32 => some (Sum.inl z : tV)) (if_neg h_105).symm, rfl⟩
  · refine v_bipush (-3) dX7_thread_108 (by decide) ?_
    refine v_goto 119 dX7_thread_110 (by decide) ?_
    exact v_iret dX7_thread_119 ⟨by first | exact congrArg (fun z : Int32 => some (Sum.inl z : tV)) (if_pos h_105).symm | exact congrArg (fun z : Int32 => some (Sum.inl z : tV)) (if_neg h_105).symm, rfl⟩
set_option maxHeartbeats 4000000 in
set_option maxRecDepth 100000 in
theorem c_X7_thread_3 {a b : tH} {T t : Nat} (hT : b.1 20 0 11 = nI T) (h24 : T ≤ 24) (ht : t < T) (hh : ¬ b.1 20 0 5 = 0) : Ci yX7_thread cX7_thread 3 .int 1 [.inr (some (20, 0)), .inl (nI t), .inl 3] (mix a b) (b.1 27 0 t) (mix a (z0 b)) := by
  refine Ct.of (by decide) [_, _, _] rfl (Nat.le_of_ble_eq_true rfl) ?_
  refine v_aload_n dX7_thread_0 rfl ?_
  refine v_iconst 0 dX7_thread_1 (by decide) ?_
  refine m_pi (by decide) fX7_77 dX7_thread_2 rfl rfl Nat.zero_lt_one ?_
  refine v_aload_n dX7_thread_5 rfl ?_
  refine m_gi (by decide) fX7_102 dX7_thread_6 rfl rfl Nat.zero_lt_one ?_
  refine v_if_eq 26 dX7_thread_9 (by decide) (fun h_9 => absurd h_9 (by exact hh)) (fun h_9 => ?_)
  refine v_iload_n dX7_thread_12 rfl ?_
  refine v_iconst 0 dX7_thread_13 (by decide) ?_
  refine v_aload_n dX7_thread_14 rfl ?_
  refine m_gk (by exact hT) (by decide) fX7_92 dX7_thread_15 rfl rfl Nat.zero_lt_one ?_
  refine v_iconst 1 dX7_thread_18 (by decide) ?_
  refine v_isub dX7_thread_19 ?_
  refine v_calls3i lX7_84 kX7_in (c_X7_in) dX7_thread_20 rfl (by decide) (by decide) (st8 rfl) ?_
  refine v_if_ne 28 dX7_thread_23 (by decide) (fun h_23 => ?_) (fun h_23 => absurd h_23 (by rw [i001]; exact rng_in ht (by omega)))
  refine v_iload_n dX7_thread_28 rfl ?_
  refine v_tsIn (off := 91) 120 3 dX7_thread_29 rfl (by decide) (by decide) (by decide) (by decide) ?_
  refine v_aload_n dX7_thread_120 rfl ?_
  refine v_gr 0 fX7_28 dX7_thread_121 rfl rfl rfl Nat.zero_lt_one ?_
  refine v_iload_n dX7_thread_124 rfl ?_
  refine m_iald t (by decide) rfl dX7_thread_125 Nat.zero_lt_one rfl (by omega) ?_
  exact v_iret dX7_thread_126 ⟨rfl, rfl⟩
set_option maxHeartbeats 4000000 in
set_option maxRecDepth 100000 in
theorem c_X7_thread_4 {a b : tH} {T t : Nat} (hT : b.1 20 0 11 = nI T) (h24 : T ≤ 24) (ht : t < T) (hh : ¬ b.1 20 0 5 = 0) : Ci yX7_thread cX7_thread 3 .int 1 [.inr (some (20, 0)), .inl (nI t), .inl 4] (mix a b) (b.1 28 0 t) (mix a (z0 b)) := by
  refine Ct.of (by decide) [_, _, _] rfl (Nat.le_of_ble_eq_true rfl) ?_
  refine v_aload_n dX7_thread_0 rfl ?_
  refine v_iconst 0 dX7_thread_1 (by decide) ?_
  refine m_pi (by decide) fX7_77 dX7_thread_2 rfl rfl Nat.zero_lt_one ?_
  refine v_aload_n dX7_thread_5 rfl ?_
  refine m_gi (by decide) fX7_102 dX7_thread_6 rfl rfl Nat.zero_lt_one ?_
  refine v_if_eq 26 dX7_thread_9 (by decide) (fun h_9 => absurd h_9 (by exact hh)) (fun h_9 => ?_)
  refine v_iload_n dX7_thread_12 rfl ?_
  refine v_iconst 0 dX7_thread_13 (by decide) ?_
  refine v_aload_n dX7_thread_14 rfl ?_
  refine m_gk (by exact hT) (by decide) fX7_92 dX7_thread_15 rfl rfl Nat.zero_lt_one ?_
  refine v_iconst 1 dX7_thread_18 (by decide) ?_
  refine v_isub dX7_thread_19 ?_
  refine v_calls3i lX7_84 kX7_in (c_X7_in) dX7_thread_20 rfl (by decide) (by decide) (st8 rfl) ?_
  refine v_if_ne 28 dX7_thread_23 (by decide) (fun h_23 => ?_) (fun h_23 => absurd h_23 (by rw [i001]; exact rng_in ht (by omega)))
  refine v_iload_n dX7_thread_28 rfl ?_
  refine v_tsIn (off := 98) 127 4 dX7_thread_29 rfl (by decide) (by decide) (by decide) (by decide) ?_
  refine v_aload_n dX7_thread_127 rfl ?_
  refine v_gr 0 fX7_31 dX7_thread_128 rfl rfl rfl Nat.zero_lt_one ?_
  refine v_iload_n dX7_thread_131 rfl ?_
  refine m_iald t (by decide) rfl dX7_thread_132 Nat.zero_lt_one rfl (by omega) ?_
  exact v_iret dX7_thread_133 ⟨rfl, rfl⟩
set_option maxHeartbeats 4000000 in
set_option maxRecDepth 100000 in
theorem c_X7_thread_5 {a b : tH} {T t : Nat} (hT : b.1 20 0 11 = nI T) (h24 : T ≤ 24) (ht : t < T) (hh : ¬ b.1 20 0 5 = 0) : Ci yX7_thread cX7_thread 3 .int 1 [.inr (some (20, 0)), .inl (nI t), .inl 5] (mix a b) (if b.1 30 0 t = 0 then 0 else 1) (mix a (z0 b)) := by
  refine Ct.of (by decide) [_, _, _] rfl (Nat.le_of_ble_eq_true rfl) ?_
  refine v_aload_n dX7_thread_0 rfl ?_
  refine v_iconst 0 dX7_thread_1 (by decide) ?_
  refine m_pi (by decide) fX7_77 dX7_thread_2 rfl rfl Nat.zero_lt_one ?_
  refine v_aload_n dX7_thread_5 rfl ?_
  refine m_gi (by decide) fX7_102 dX7_thread_6 rfl rfl Nat.zero_lt_one ?_
  refine v_if_eq 26 dX7_thread_9 (by decide) (fun h_9 => absurd h_9 (by exact hh)) (fun h_9 => ?_)
  refine v_iload_n dX7_thread_12 rfl ?_
  refine v_iconst 0 dX7_thread_13 (by decide) ?_
  refine v_aload_n dX7_thread_14 rfl ?_
  refine m_gk (by exact hT) (by decide) fX7_92 dX7_thread_15 rfl rfl Nat.zero_lt_one ?_
  refine v_iconst 1 dX7_thread_18 (by decide) ?_
  refine v_isub dX7_thread_19 ?_
  refine v_calls3i lX7_84 kX7_in (c_X7_in) dX7_thread_20 rfl (by decide) (by decide) (st8 rfl) ?_
  refine v_if_ne 28 dX7_thread_23 (by decide) (fun h_23 => ?_) (fun h_23 => absurd h_23 (by rw [i001]; exact rng_in ht (by omega)))
  refine v_iload_n dX7_thread_28 rfl ?_
  refine v_tsIn (off := 105) 134 5 dX7_thread_29 rfl (by decide) (by decide) (by decide) (by decide) ?_
  refine v_aload_n dX7_thread_134 rfl ?_
  refine v_gr 0 fX7_37 dX7_thread_135 rfl rfl rfl Nat.zero_lt_one ?_
  refine v_iload_n dX7_thread_138 rfl ?_
  refine m_zald t (by decide) rfl dX7_thread_139 Nat.zero_lt_one rfl (by omega) ?_
  refine v_if_eq 147 dX7_thread_140 (by decide) (fun h_140 => ?_) (fun h_140 => ?_)
  · refine v_iconst 0 dX7_thread_147 (by decide) ?_
    exact v_iret dX7_thread_148 ⟨by first | exact congrArg (fun z : Int32 => some (Sum.inl z : tV)) (if_pos h_140).symm | exact congrArg (fun z : Int32 => some (Sum.inl z : tV)) (if_neg h_140).symm, rfl⟩
  · refine v_iconst 1 dX7_thread_143 (by decide) ?_
    refine v_goto 148 dX7_thread_144 (by decide) ?_
    exact v_iret dX7_thread_148 ⟨by first | exact congrArg (fun z : Int32 => some (Sum.inl z : tV)) (if_pos h_140).symm | exact congrArg (fun z : Int32 => some (Sum.inl z : tV)) (if_neg h_140).symm, rfl⟩
set_option maxHeartbeats 4000000 in
set_option maxRecDepth 100000 in
theorem c_X7_thread_6 {a b : tH} {T t : Nat} (hT : b.1 20 0 11 = nI T) (h24 : T ≤ 24) (ht : t < T) (hh : ¬ b.1 20 0 5 = 0) : Ci yX7_thread cX7_thread 3 .int 1 [.inr (some (20, 0)), .inl (nI t), .inl 6] (mix a b) (b.1 31 0 t) (mix a (z0 b)) := by
  refine Ct.of (by decide) [_, _, _] rfl (Nat.le_of_ble_eq_true rfl) ?_
  refine v_aload_n dX7_thread_0 rfl ?_
  refine v_iconst 0 dX7_thread_1 (by decide) ?_
  refine m_pi (by decide) fX7_77 dX7_thread_2 rfl rfl Nat.zero_lt_one ?_
  refine v_aload_n dX7_thread_5 rfl ?_
  refine m_gi (by decide) fX7_102 dX7_thread_6 rfl rfl Nat.zero_lt_one ?_
  refine v_if_eq 26 dX7_thread_9 (by decide) (fun h_9 => absurd h_9 (by exact hh)) (fun h_9 => ?_)
  refine v_iload_n dX7_thread_12 rfl ?_
  refine v_iconst 0 dX7_thread_13 (by decide) ?_
  refine v_aload_n dX7_thread_14 rfl ?_
  refine m_gk (by exact hT) (by decide) fX7_92 dX7_thread_15 rfl rfl Nat.zero_lt_one ?_
  refine v_iconst 1 dX7_thread_18 (by decide) ?_
  refine v_isub dX7_thread_19 ?_
  refine v_calls3i lX7_84 kX7_in (c_X7_in) dX7_thread_20 rfl (by decide) (by decide) (st8 rfl) ?_
  refine v_if_ne 28 dX7_thread_23 (by decide) (fun h_23 => ?_) (fun h_23 => absurd h_23 (by rw [i001]; exact rng_in ht (by omega)))
  refine v_iload_n dX7_thread_28 rfl ?_
  refine v_tsIn (off := 120) 149 6 dX7_thread_29 rfl (by decide) (by decide) (by decide) (by decide) ?_
  refine v_aload_n dX7_thread_149 rfl ?_
  refine v_gr 0 fX7_41 dX7_thread_150 rfl rfl rfl Nat.zero_lt_one ?_
  refine v_iload_n dX7_thread_153 rfl ?_
  refine m_iald t (by decide) rfl dX7_thread_154 Nat.zero_lt_one rfl (by omega) ?_
  exact v_iret dX7_thread_155 ⟨rfl, rfl⟩
set_option maxHeartbeats 4000000 in
set_option maxRecDepth 100000 in
theorem c_X7_thread_7 {a b : tH} {T t : Nat} (hT : b.1 20 0 11 = nI T) (h24 : T ≤ 24) (ht : t < T) (hh : ¬ b.1 20 0 5 = 0) : Ci yX7_thread cX7_thread 3 .int 1 [.inr (some (20, 0)), .inl (nI t), .inl 7] (mix a b) (b.1 33 0 t) (mix a (z0 b)) := by
  refine Ct.of (by decide) [_, _, _] rfl (Nat.le_of_ble_eq_true rfl) ?_
  refine v_aload_n dX7_thread_0 rfl ?_
  refine v_iconst 0 dX7_thread_1 (by decide) ?_
  refine m_pi (by decide) fX7_77 dX7_thread_2 rfl rfl Nat.zero_lt_one ?_
  refine v_aload_n dX7_thread_5 rfl ?_
  refine m_gi (by decide) fX7_102 dX7_thread_6 rfl rfl Nat.zero_lt_one ?_
  refine v_if_eq 26 dX7_thread_9 (by decide) (fun h_9 => absurd h_9 (by exact hh)) (fun h_9 => ?_)
  refine v_iload_n dX7_thread_12 rfl ?_
  refine v_iconst 0 dX7_thread_13 (by decide) ?_
  refine v_aload_n dX7_thread_14 rfl ?_
  refine m_gk (by exact hT) (by decide) fX7_92 dX7_thread_15 rfl rfl Nat.zero_lt_one ?_
  refine v_iconst 1 dX7_thread_18 (by decide) ?_
  refine v_isub dX7_thread_19 ?_
  refine v_calls3i lX7_84 kX7_in (c_X7_in) dX7_thread_20 rfl (by decide) (by decide) (st8 rfl) ?_
  refine v_if_ne 28 dX7_thread_23 (by decide) (fun h_23 => ?_) (fun h_23 => absurd h_23 (by rw [i001]; exact rng_in ht (by omega)))
  refine v_iload_n dX7_thread_28 rfl ?_
  refine v_tsIn (off := 127) 156 7 dX7_thread_29 rfl (by decide) (by decide) (by decide) (by decide) ?_
  refine v_aload_n dX7_thread_156 rfl ?_
  refine v_gr 0 fX7_47 dX7_thread_157 rfl rfl rfl Nat.zero_lt_one ?_
  refine v_iload_n dX7_thread_160 rfl ?_
  refine m_iald t (by decide) rfl dX7_thread_161 Nat.zero_lt_one rfl (by omega) ?_
  exact v_iret dX7_thread_162 ⟨rfl, rfl⟩
set_option maxHeartbeats 4000000 in
set_option maxRecDepth 100000 in
theorem c_X7_thread_8 {a b : tH} {T t : Nat} (hT : b.1 20 0 11 = nI T) (h24 : T ≤ 24) (ht : t < T) (hh : ¬ b.1 20 0 5 = 0) : Ci yX7_thread cX7_thread 3 .int 1 [.inr (some (20, 0)), .inl (nI t), .inl 8] (mix a b) (b.1 34 0 t) (mix a (z0 b)) := by
  refine Ct.of (by decide) [_, _, _] rfl (Nat.le_of_ble_eq_true rfl) ?_
  refine v_aload_n dX7_thread_0 rfl ?_
  refine v_iconst 0 dX7_thread_1 (by decide) ?_
  refine m_pi (by decide) fX7_77 dX7_thread_2 rfl rfl Nat.zero_lt_one ?_
  refine v_aload_n dX7_thread_5 rfl ?_
  refine m_gi (by decide) fX7_102 dX7_thread_6 rfl rfl Nat.zero_lt_one ?_
  refine v_if_eq 26 dX7_thread_9 (by decide) (fun h_9 => absurd h_9 (by exact hh)) (fun h_9 => ?_)
  refine v_iload_n dX7_thread_12 rfl ?_
  refine v_iconst 0 dX7_thread_13 (by decide) ?_
  refine v_aload_n dX7_thread_14 rfl ?_
  refine m_gk (by exact hT) (by decide) fX7_92 dX7_thread_15 rfl rfl Nat.zero_lt_one ?_
  refine v_iconst 1 dX7_thread_18 (by decide) ?_
  refine v_isub dX7_thread_19 ?_
  refine v_calls3i lX7_84 kX7_in (c_X7_in) dX7_thread_20 rfl (by decide) (by decide) (st8 rfl) ?_
  refine v_if_ne 28 dX7_thread_23 (by decide) (fun h_23 => ?_) (fun h_23 => absurd h_23 (by rw [i001]; exact rng_in ht (by omega)))
  refine v_iload_n dX7_thread_28 rfl ?_
  refine v_tsIn (off := 134) 163 8 dX7_thread_29 rfl (by decide) (by decide) (by decide) (by decide) ?_
  refine v_aload_n dX7_thread_163 rfl ?_
  refine v_gr 0 fX7_50 dX7_thread_164 rfl rfl rfl Nat.zero_lt_one ?_
  refine v_iload_n dX7_thread_167 rfl ?_
  refine m_iald t (by decide) rfl dX7_thread_168 Nat.zero_lt_one rfl (by omega) ?_
  exact v_iret dX7_thread_169 ⟨rfl, rfl⟩
set_option maxHeartbeats 4000000 in
set_option maxRecDepth 100000 in
theorem c_X7_thread_9 {a b : tH} {T t : Nat} (hT : b.1 20 0 11 = nI T) (h24 : T ≤ 24) (ht : t < T) (hh : ¬ b.1 20 0 5 = 0) : Ci yX7_thread cX7_thread 3 .int 1 [.inr (some (20, 0)), .inl (nI t), .inl 9] (mix a b) (b.1 35 0 t) (mix a (z0 b)) := by
  refine Ct.of (by decide) [_, _, _] rfl (Nat.le_of_ble_eq_true rfl) ?_
  refine v_aload_n dX7_thread_0 rfl ?_
  refine v_iconst 0 dX7_thread_1 (by decide) ?_
  refine m_pi (by decide) fX7_77 dX7_thread_2 rfl rfl Nat.zero_lt_one ?_
  refine v_aload_n dX7_thread_5 rfl ?_
  refine m_gi (by decide) fX7_102 dX7_thread_6 rfl rfl Nat.zero_lt_one ?_
  refine v_if_eq 26 dX7_thread_9 (by decide) (fun h_9 => absurd h_9 (by exact hh)) (fun h_9 => ?_)
  refine v_iload_n dX7_thread_12 rfl ?_
  refine v_iconst 0 dX7_thread_13 (by decide) ?_
  refine v_aload_n dX7_thread_14 rfl ?_
  refine m_gk (by exact hT) (by decide) fX7_92 dX7_thread_15 rfl rfl Nat.zero_lt_one ?_
  refine v_iconst 1 dX7_thread_18 (by decide) ?_
  refine v_isub dX7_thread_19 ?_
  refine v_calls3i lX7_84 kX7_in (c_X7_in) dX7_thread_20 rfl (by decide) (by decide) (st8 rfl) ?_
  refine v_if_ne 28 dX7_thread_23 (by decide) (fun h_23 => ?_) (fun h_23 => absurd h_23 (by rw [i001]; exact rng_in ht (by omega)))
  refine v_iload_n dX7_thread_28 rfl ?_
  refine v_tsIn (off := 141) 170 9 dX7_thread_29 rfl (by decide) (by decide) (by decide) (by decide) ?_
  refine v_aload_n dX7_thread_170 rfl ?_
  refine v_gr 0 fX7_53 dX7_thread_171 rfl rfl rfl Nat.zero_lt_one ?_
  refine v_iload_n dX7_thread_174 rfl ?_
  refine m_iald t (by decide) rfl dX7_thread_175 Nat.zero_lt_one rfl (by omega) ?_
  exact v_iret dX7_thread_176 ⟨rfl, rfl⟩
set_option maxHeartbeats 4000000 in
set_option maxRecDepth 100000 in
theorem c_X7_thread2 {a b : tH} {T t : Nat} (hT : b.1 20 0 11 = nI T) (h24 : T ≤ 24) (ht : t < T) (hh : ¬ b.1 20 0 5 = 0) {w : Int32} (hw : w.toInt < 0 ∨ 9 < w.toInt) : Ci yX7_thread cX7_thread 3 .int 1 [.inr (some (20, 0)), .inl (nI t), .inl w] (mix a b) ((-2)) (mix a (z0 b)) := by
  refine Ct.of (by decide) [_, _, _] rfl (Nat.le_of_ble_eq_true rfl) ?_
  refine v_aload_n dX7_thread_0 rfl ?_
  refine v_iconst 0 dX7_thread_1 (by decide) ?_
  refine m_pi (by decide) fX7_77 dX7_thread_2 rfl rfl Nat.zero_lt_one ?_
  refine v_aload_n dX7_thread_5 rfl ?_
  refine m_gi (by decide) fX7_102 dX7_thread_6 rfl rfl Nat.zero_lt_one ?_
  refine v_if_eq 26 dX7_thread_9 (by decide) (fun h_9 => absurd h_9 (by exact hh)) (fun h_9 => ?_)
  refine v_iload_n dX7_thread_12 rfl ?_
  refine v_iconst 0 dX7_thread_13 (by decide) ?_
  refine v_aload_n dX7_thread_14 rfl ?_
  refine m_gk (by exact hT) (by decide) fX7_92 dX7_thread_15 rfl rfl Nat.zero_lt_one ?_
  refine v_iconst 1 dX7_thread_18 (by decide) ?_
  refine v_isub dX7_thread_19 ?_
  refine v_calls3i lX7_84 kX7_in (c_X7_in) dX7_thread_20 rfl (by decide) (by decide) (st8 rfl) ?_
  refine v_if_ne 28 dX7_thread_23 (by decide) (fun h_23 => ?_) (fun h_23 => absurd h_23 (by rw [i001]; exact rng_in ht (by omega)))
  refine v_iload_n dX7_thread_28 rfl ?_
  refine v_tsOut 177 dX7_thread_29 hw (by decide) ?_
  refine v_bipush (-2) dX7_thread_177 (by decide) ?_
  exact v_iret dX7_thread_179 ⟨rfl, rfl⟩
set_option maxHeartbeats 4000000 in
set_option maxRecDepth 100000 in
theorem c_X7_queued1 {a b : tH} {q : Nat} {i : Int32} (hq : b.1 20 0 27 = nI q) (h24 : q ≤ 24) (hi : b.1 20 0 5 = 0 ∨ i < 0 ∨ nI q ≤ i) : Ci yX7_queued cX7_queued 2 .int 1 [.inr (some (20, 0)), .inl i] (mix a b) ((-1)) (mix a (z0 b)) := by
  refine Ct.of (by decide) [_, _] rfl (Nat.le_of_ble_eq_true rfl) ?_
  refine v_aload_n dX7_queued_0 rfl ?_
  refine v_iconst 0 dX7_queued_1 (by decide) ?_
  refine m_pi (by decide) fX7_77 dX7_queued_2 rfl rfl Nat.zero_lt_one ?_
  refine v_aload_n dX7_queued_5 rfl ?_
  refine m_gi (by decide) fX7_102 dX7_queued_6 rfl rfl Nat.zero_lt_one ?_
  refine v_if_eq 35 dX7_queued_9 (by decide) (fun h_9 => ?_) (fun h_9 => ?_)
  · refine v_iconst (-1) dX7_queued_35 (by decide) ?_
    exact v_iret dX7_queued_36 ⟨rfl, rfl⟩
  · refine v_iload_n dX7_queued_12 rfl ?_
    refine v_iconst 0 dX7_queued_13 (by decide) ?_
    refine v_aload_n dX7_queued_14 rfl ?_
    refine m_gk (by exact hq) (by decide) fX7_99 dX7_queued_15 rfl rfl Nat.zero_lt_one ?_
    refine v_iconst 1 dX7_queued_18 (by decide) ?_
    refine v_isub dX7_queued_19 ?_
    refine v_calls3i lX7_84 kX7_in (c_X7_in) dX7_queued_20 rfl (by decide) (by decide) (st8 rfl) ?_
    refine v_if_eq 35 dX7_queued_23 (by decide) (fun h_23 => ?_) (fun h_23 => hi.elim (fun z => absurd z h_9) (fun z => absurd (by rw [i001, rng (by omega)]; exact z) h_23))
    refine v_iconst (-1) dX7_queued_35 (by decide) ?_
    exact v_iret dX7_queued_36 ⟨rfl, rfl⟩
set_option maxHeartbeats 4000000 in
set_option maxRecDepth 100000 in
theorem c_X7_queued_ok {a b : tH} {q i : Nat} (hq : b.1 20 0 27 = nI q) (h24 : q ≤ 24) (hi : i < q) (hh : ¬ b.1 20 0 5 = 0) : Ci yX7_queued cX7_queued 2 .int 1 [.inr (some (20, 0)), .inl (nI i)] (mix a b) (b.1 38 0 i) (mix a (z0 b)) := by
  refine Ct.of (by decide) [_, _] rfl (Nat.le_of_ble_eq_true rfl) ?_
  refine v_aload_n dX7_queued_0 rfl ?_
  refine v_iconst 0 dX7_queued_1 (by decide) ?_
  refine m_pi (by decide) fX7_77 dX7_queued_2 rfl rfl Nat.zero_lt_one ?_
  refine v_aload_n dX7_queued_5 rfl ?_
  refine m_gi (by decide) fX7_102 dX7_queued_6 rfl rfl Nat.zero_lt_one ?_
  refine v_if_eq 35 dX7_queued_9 (by decide) (fun h_9 => absurd h_9 (by exact hh)) (fun h_9 => ?_)
  refine v_iload_n dX7_queued_12 rfl ?_
  refine v_iconst 0 dX7_queued_13 (by decide) ?_
  refine v_aload_n dX7_queued_14 rfl ?_
  refine m_gk (by exact hq) (by decide) fX7_99 dX7_queued_15 rfl rfl Nat.zero_lt_one ?_
  refine v_iconst 1 dX7_queued_18 (by decide) ?_
  refine v_isub dX7_queued_19 ?_
  refine v_calls3i lX7_84 kX7_in (c_X7_in) dX7_queued_20 rfl (by decide) (by decide) (st8 rfl) ?_
  refine v_if_eq 35 dX7_queued_23 (by decide) (fun h_23 => absurd h_23 (by rw [i001]; exact rng_in hi (by omega))) (fun h_23 => ?_)
  refine v_aload_n dX7_queued_26 rfl ?_
  refine v_gr 0 fX7_62 dX7_queued_27 rfl rfl rfl Nat.zero_lt_one ?_
  refine v_iload_n dX7_queued_30 rfl ?_
  refine m_iald i (by decide) rfl dX7_queued_31 Nat.zero_lt_one rfl (by omega) ?_
  refine v_goto 36 dX7_queued_32 (by decide) ?_
  exact v_iret dX7_queued_36 ⟨rfl, rfl⟩
set_option maxHeartbeats 4000000 in
set_option maxRecDepth 100000 in
theorem c_X7_box1 {a b : tH} {x w : Int32} (hx : b.1 20 0 5 = 0 ∨ x < 0 ∨ 7 < x) : Ci yX7_box cX7_box 5 .int 1 [.inr (some (20, 0)), .inl x, .inl w] (mix a b) ((-1)) (mix a (z0 b)) := by
  refine Ct.of (by decide) [_, _, _, _, _] rfl (Nat.le_of_ble_eq_true rfl) ?_
  refine v_aload_n dX7_box_0 rfl ?_
  refine v_iconst 0 dX7_box_1 (by decide) ?_
  refine m_pi (by decide) fX7_77 dX7_box_2 rfl rfl Nat.zero_lt_one ?_
  refine v_aload_n dX7_box_5 rfl ?_
  refine m_gi (by decide) fX7_102 dX7_box_6 rfl rfl Nat.zero_lt_one ?_
  refine v_if_eq 22 dX7_box_9 (by decide) (fun h_9 => ?_) (fun h_9 => ?_)
  · refine v_iconst (-1) dX7_box_22 (by decide) ?_
    exact v_iret dX7_box_23 ⟨rfl, rfl⟩
  · refine v_iload_n dX7_box_12 rfl ?_
    refine v_iconst 0 dX7_box_13 (by decide) ?_
    refine v_bipush 7 dX7_box_14 (by decide) ?_
    refine v_calls3i lX7_84 kX7_in (c_X7_in) dX7_box_16 rfl (by decide) (by decide) (st8 rfl) ?_
    refine v_if_ne 24 dX7_box_19 (by decide) (fun h_19 => hx.elim (fun z => absurd z h_9) (fun z => absurd (by rw [i001]; exact z) h_19)) (fun h_19 => ?_)
    refine v_iconst (-1) dX7_box_22 (by decide) ?_
    exact v_iret dX7_box_23 ⟨rfl, rfl⟩
set_option maxHeartbeats 4000000 in
set_option maxRecDepth 100000 in
theorem c_X7_box2 {a b : tH} {x : Nat} (hx : x < 8) (hh : ¬ b.1 20 0 5 = 0) {w : Int32} (hw : w < 0 ∨ 4 < w) : Ci yX7_box cX7_box 5 .int 1 [.inr (some (20, 0)), .inl (nI x), .inl w] (mix a b) ((-2)) (mix a (z0 b)) := by
  refine Ct.of (by decide) [_, _, _, _, _] rfl (Nat.le_of_ble_eq_true rfl) ?_
  refine v_aload_n dX7_box_0 rfl ?_
  refine v_iconst 0 dX7_box_1 (by decide) ?_
  refine m_pi (by decide) fX7_77 dX7_box_2 rfl rfl Nat.zero_lt_one ?_
  refine v_aload_n dX7_box_5 rfl ?_
  refine m_gi (by decide) fX7_102 dX7_box_6 rfl rfl Nat.zero_lt_one ?_
  refine v_if_eq 22 dX7_box_9 (by decide) (fun h_9 => absurd h_9 (by exact hh)) (fun h_9 => ?_)
  refine v_iload_n dX7_box_12 rfl ?_
  refine v_iconst 0 dX7_box_13 (by decide) ?_
  refine v_bipush 7 dX7_box_14 (by decide) ?_
  refine v_calls3i lX7_84 kX7_in (c_X7_in) dX7_box_16 rfl (by decide) (by decide) (st8 rfl) ?_
  refine v_if_ne 24 dX7_box_19 (by decide) (fun h_19 => ?_) (fun h_19 => absurd h_19 (by rw [i001]; exact fun z => z.elim (nI_pos (by omega)) (fun y => absurd y (nI_nlt (a := 7) (b := x) (by omega) (by omega)))))
  refine v_iload_n dX7_box_24 rfl ?_
  refine v_iconst 0 dX7_box_25 (by decide) ?_
  refine v_iconst 4 dX7_box_26 (by decide) ?_
  refine v_calls3i lX7_84 kX7_in (c_X7_in) dX7_box_27 rfl (by decide) (by decide) (st8 rfl) ?_
  refine v_if_ne 36 dX7_box_30 (by decide) (fun h_30 => absurd (by rw [i001]; exact hw) h_30) (fun h_30 => ?_)
  refine v_bipush (-2) dX7_box_33 (by decide) ?_
  exact v_iret dX7_box_35 ⟨rfl, rfl⟩
set_option maxHeartbeats 4000000 in
set_option maxRecDepth 100000 in
theorem c_X7_box_0 {a b : tH} {x : Nat} (hx : x < 8) (hh : ¬ b.1 20 0 5 = 0) : Ci yX7_box cX7_box 5 .int 1 [.inr (some (20, 0)), .inl (nI x), .inl 0] (mix a b) (if b.1 40 0 x = 0 then (-3) else b.1 39 0 x) (mix a (z0 b)) := by
  refine Ct.of (by decide) [_, _, _, _, _] rfl (Nat.le_of_ble_eq_true rfl) ?_
  refine v_aload_n dX7_box_0 rfl ?_
  refine v_iconst 0 dX7_box_1 (by decide) ?_
  refine m_pi (by decide) fX7_77 dX7_box_2 rfl rfl Nat.zero_lt_one ?_
  refine v_aload_n dX7_box_5 rfl ?_
  refine m_gi (by decide) fX7_102 dX7_box_6 rfl rfl Nat.zero_lt_one ?_
  refine v_if_eq 22 dX7_box_9 (by decide) (fun h_9 => absurd h_9 (by exact hh)) (fun h_9 => ?_)
  refine v_iload_n dX7_box_12 rfl ?_
  refine v_iconst 0 dX7_box_13 (by decide) ?_
  refine v_bipush 7 dX7_box_14 (by decide) ?_
  refine v_calls3i lX7_84 kX7_in (c_X7_in) dX7_box_16 rfl (by decide) (by decide) (st8 rfl) ?_
  refine v_if_ne 24 dX7_box_19 (by decide) (fun h_19 => ?_) (fun h_19 => absurd h_19 (by rw [i001]; exact fun z => z.elim (nI_pos (by omega)) (fun y => absurd y (nI_nlt (a := 7) (b := x) (by omega) (by omega)))))
  refine v_iload_n dX7_box_24 rfl ?_
  refine v_iconst 0 dX7_box_25 (by decide) ?_
  refine v_iconst 4 dX7_box_26 (by decide) ?_
  refine v_calls3i lX7_84 kX7_in (c_X7_in) dX7_box_27 rfl (by decide) (by decide) (st8 rfl) ?_
  refine v_if_ne 36 dX7_box_30 (by decide) (fun h_30 => ?_) (fun h_30 => absurd h_30 (by decide))
  refine v_iload_n dX7_box_36 rfl ?_
  refine v_if_ne 61 dX7_box_37 (by decide) (fun h_37 => absurd rfl h_37) (fun h_37 => ?_)
  refine v_aload_n dX7_box_40 rfl ?_
  refine v_gr 0 fX7_68 dX7_box_41 rfl rfl rfl Nat.zero_lt_one ?_
  refine v_iload_n dX7_box_44 rfl ?_
  refine m_zald x (by decide) rfl dX7_box_45 Nat.zero_lt_one rfl hx ?_
  refine v_if_eq 58 dX7_box_46 (by decide) (fun h_46 => ?_) (fun h_46 => ?_)
  · refine v_bipush (-3) dX7_box_58 (by decide) ?_
    exact v_iret dX7_box_60 ⟨by first | exact congrArg (fun z : Int32 => some (Sum.inl z : tV)) (if_pos h_46).symm | exact congrArg (fun z : Int32 => some (Sum.inl z : tV)) (if_neg h_46).symm, rfl⟩
  · refine v_aload_n dX7_box_49 rfl ?_
    refine v_gr 0 fX7_65 dX7_box_50 rfl rfl rfl Nat.zero_lt_one ?_
    refine v_iload_n dX7_box_53 rfl ?_
    refine m_iald x (by decide) rfl dX7_box_54 Nat.zero_lt_one rfl hx ?_
    refine v_goto 60 dX7_box_55 (by decide) ?_
    exact v_iret dX7_box_60 ⟨by first | exact congrArg (fun z : Int32 => some (Sum.inl z : tV)) (if_pos h_46).symm | exact congrArg (fun z : Int32 => some (Sum.inl z : tV)) (if_neg h_46).symm, rfl⟩
set_option maxHeartbeats 4000000 in
set_option maxRecDepth 100000 in
theorem c_X7_box_1 {a b : tH} {x : Nat} (hx : x < 8) (hh : ¬ b.1 20 0 5 = 0) : Ci yX7_box cX7_box 5 .int 1 [.inr (some (20, 0)), .inl (nI x), .inl 1] (mix a b) (if b.1 40 0 x = 0 then 0 else 1) (mix a (z0 b)) := by
  refine Ct.of (by decide) [_, _, _, _, _] rfl (Nat.le_of_ble_eq_true rfl) ?_
  refine v_aload_n dX7_box_0 rfl ?_
  refine v_iconst 0 dX7_box_1 (by decide) ?_
  refine m_pi (by decide) fX7_77 dX7_box_2 rfl rfl Nat.zero_lt_one ?_
  refine v_aload_n dX7_box_5 rfl ?_
  refine m_gi (by decide) fX7_102 dX7_box_6 rfl rfl Nat.zero_lt_one ?_
  refine v_if_eq 22 dX7_box_9 (by decide) (fun h_9 => absurd h_9 (by exact hh)) (fun h_9 => ?_)
  refine v_iload_n dX7_box_12 rfl ?_
  refine v_iconst 0 dX7_box_13 (by decide) ?_
  refine v_bipush 7 dX7_box_14 (by decide) ?_
  refine v_calls3i lX7_84 kX7_in (c_X7_in) dX7_box_16 rfl (by decide) (by decide) (st8 rfl) ?_
  refine v_if_ne 24 dX7_box_19 (by decide) (fun h_19 => ?_) (fun h_19 => absurd h_19 (by rw [i001]; exact fun z => z.elim (nI_pos (by omega)) (fun y => absurd y (nI_nlt (a := 7) (b := x) (by omega) (by omega)))))
  refine v_iload_n dX7_box_24 rfl ?_
  refine v_iconst 0 dX7_box_25 (by decide) ?_
  refine v_iconst 4 dX7_box_26 (by decide) ?_
  refine v_calls3i lX7_84 kX7_in (c_X7_in) dX7_box_27 rfl (by decide) (by decide) (st8 rfl) ?_
  refine v_if_ne 36 dX7_box_30 (by decide) (fun h_30 => ?_) (fun h_30 => absurd h_30 (by decide))
  refine v_iload_n dX7_box_36 rfl ?_
  refine v_if_ne 61 dX7_box_37 (by decide) (fun h_37 => ?_) (fun h_37 => absurd h_37 (by decide))
  refine v_iload_n dX7_box_61 rfl ?_
  refine v_iconst 1 dX7_box_62 (by decide) ?_
  refine v_icmp_ne 81 dX7_box_63 (by decide) (fun h_63 => absurd rfl h_63) (fun h_63 => ?_)
  refine v_aload_n dX7_box_66 rfl ?_
  refine v_gr 0 fX7_68 dX7_box_67 rfl rfl rfl Nat.zero_lt_one ?_
  refine v_iload_n dX7_box_70 rfl ?_
  refine m_zald x (by decide) rfl dX7_box_71 Nat.zero_lt_one rfl hx ?_
  refine v_if_eq 79 dX7_box_72 (by decide) (fun h_72 => ?_) (fun h_72 => ?_)
  · refine v_iconst 0 dX7_box_79 (by decide) ?_
    exact v_iret dX7_box_80 ⟨by first | exact congrArg (fun z : Int32 => some (Sum.inl z : tV)) (if_pos h_72).symm | exact congrArg (fun z : Int32 => some (Sum.inl z : tV)) (if_neg h_72).symm, rfl⟩
  · refine v_iconst 1 dX7_box_75 (by decide) ?_
    refine v_goto 80 dX7_box_76 (by decide) ?_
    exact v_iret dX7_box_80 ⟨by first | exact congrArg (fun z : Int32 => some (Sum.inl z : tV)) (if_pos h_72).symm | exact congrArg (fun z : Int32 => some (Sum.inl z : tV)) (if_neg h_72).symm, rfl⟩
set_option maxHeartbeats 4000000 in
set_option maxRecDepth 100000 in
theorem l_X7_box {a b : tH} {x : Nat} {W w : Int32} {T : Nat} (hW : W - 1 = w) (hT : b.1 20 0 11 = nI T) (h24 : T ≤ 24) : ∀ (m k : Nat), T = k + m → Vw yX7_box.cls cX7_box 5 (some .int) 1 (fun r h' => r = some (.inl (nI (cnt (fun t => decide (b.1 24 0 t = w) && decide (b.1 36 0 t = nI x)) T))) ∧ h' = mix a b) 86 [some (.inr (some (20, 0))), some (.inl (nI x)), some (.inl W), some (.inl (nI (cnt (fun t => decide (b.1 24 0 t = w) && decide (b.1 36 0 t = nI x)) k))), some (.inl (nI k))] [] (mix a b) := by
  intro m
  induction m with
  | zero =>
    intro k hk
    obtain rfl : T = k := hk
    refine v_iload dX7_box_86 rfl ?_
    refine v_aload_n dX7_box_88 rfl ?_
    refine m_gk hT (by decide) fX7_92 dX7_box_89 rfl rfl Nat.zero_lt_one ?_
    refine v_icmp_ge 133 dX7_box_92 (by decide) (fun h_92 => ?_) (fun h_92 => absurd (Int32.le_refl _) h_92)
    refine v_iload_n dX7_box_133 rfl ?_
    exact v_iret dX7_box_134 ⟨rfl, rfl⟩
  | succ m ih =>
    intro k hk
    have hk24 : k < 24 := by omega
    refine v_iload dX7_box_86 rfl ?_
    refine v_aload_n dX7_box_88 rfl ?_
    refine m_gk hT (by decide) fX7_92 dX7_box_89 rfl rfl Nat.zero_lt_one ?_
    refine v_icmp_ge 133 dX7_box_92 (by decide) (fun h_92 => absurd h_92 (nI_ge (by omega) (by omega))) (fun h_92 => ?_)
    refine v_iload_n dX7_box_95 rfl ?_
    refine v_aload_n dX7_box_96 rfl ?_
    refine v_gr 0 fX7_19 dX7_box_97 rfl rfl rfl Nat.zero_lt_one ?_
    refine v_iload dX7_box_100 rfl ?_
    refine m_iald k (by decide) rfl dX7_box_102 Nat.zero_lt_one rfl hk24 ?_
    refine v_iload_n dX7_box_103 rfl ?_
    refine v_iconst 1 dX7_box_104 (by decide) ?_
    refine v_isub dX7_box_105 ?_
    rw [hW]
    refine v_icmp_ne 124 dX7_box_106 (by decide) (fun h_106 => ?_) (fun h_106 => ?_)
    · refine v_iconst 0 dX7_box_124 (by decide) ?_
      refine v_iadd dX7_box_125 ?_
      refine v_istore_n [_, _, _, _, _] dX7_box_126 rfl (by decide) ?_
      refine v_iinc [_, _, _, _, _] dX7_box_127 rfl (by first | exact inc1 _ | rfl) rfl (by decide) ?_
      refine v_goto 86 dX7_box_130 (by decide) ?_
      have e0 : (decide (b.1 24 0 k = w) && decide (b.1 36 0 k = nI x)) = false := by simp only [h_106, decide_false, Bool.false_and]
      have q := ih (k + 1) (by omega)
      rw [show cnt (fun t => decide (b.1 24 0 t = w) && decide (b.1 36 0 t = nI x)) (k + 1) = cnt (fun t => decide (b.1 24 0 t = w) && decide (b.1 36 0 t = nI x)) k by show cnt (fun t => decide (b.1 24 0 t = w) && decide (b.1 36 0 t = nI x)) k + (if (decide (b.1 24 0 k = w) && decide (b.1 36 0 k = nI x)) = true then 1 else 0) = _; rw [e0]; simp] at q
      rw [show nI (cnt (fun t => decide (b.1 24 0 t = w) && decide (b.1 36 0 t = nI x)) k) + 0 = nI (cnt (fun t => decide (b.1 24 0 t = w) && decide (b.1 36 0 t = nI x)) k) from Int32.add_zero _]
      exact q
    · refine v_aload_n dX7_box_109 rfl ?_
      refine v_gr 0 fX7_56 dX7_box_110 rfl rfl rfl Nat.zero_lt_one ?_
      refine v_iload dX7_box_113 rfl ?_
      refine m_iald k (by decide) rfl dX7_box_115 Nat.zero_lt_one rfl hk24 ?_
      refine v_iload_n dX7_box_116 rfl ?_
      refine v_icmp_ne 124 dX7_box_117 (by decide) (fun h_117 => ?_) (fun h_117 => ?_)
      · refine v_iconst 0 dX7_box_124 (by decide) ?_
        refine v_iadd dX7_box_125 ?_
        refine v_istore_n [_, _, _, _, _] dX7_box_126 rfl (by decide) ?_
        refine v_iinc [_, _, _, _, _] dX7_box_127 rfl (by first | exact inc1 _ | rfl) rfl (by decide) ?_
        refine v_goto 86 dX7_box_130 (by decide) ?_
        have e0 : (decide (b.1 24 0 k = w) && decide (b.1 36 0 k = nI x)) = false := by simp only [h_117, decide_false, Bool.and_false]
        have q := ih (k + 1) (by omega)
        rw [show cnt (fun t => decide (b.1 24 0 t = w) && decide (b.1 36 0 t = nI x)) (k + 1) = cnt (fun t => decide (b.1 24 0 t = w) && decide (b.1 36 0 t = nI x)) k by show cnt (fun t => decide (b.1 24 0 t = w) && decide (b.1 36 0 t = nI x)) k + (if (decide (b.1 24 0 k = w) && decide (b.1 36 0 k = nI x)) = true then 1 else 0) = _; rw [e0]; simp] at q
        rw [show nI (cnt (fun t => decide (b.1 24 0 t = w) && decide (b.1 36 0 t = nI x)) k) + 0 = nI (cnt (fun t => decide (b.1 24 0 t = w) && decide (b.1 36 0 t = nI x)) k) from Int32.add_zero _]
        exact q
      · refine v_iconst 1 dX7_box_120 (by decide) ?_
        refine v_goto 125 dX7_box_121 (by decide) ?_
        refine v_iadd dX7_box_125 ?_
        refine v_istore_n [_, _, _, _, _] dX7_box_126 rfl (by decide) ?_
        refine v_iinc [_, _, _, _, _] dX7_box_127 rfl (by first | exact inc1 _ | rfl) rfl (by decide) ?_
        refine v_goto 86 dX7_box_130 (by decide) ?_
        have e0 : (decide (b.1 24 0 k = w) && decide (b.1 36 0 k = nI x)) = true := by simp only [h_106, h_117, decide_true, Bool.and_self]
        have q := ih (k + 1) (by omega)
        rw [show cnt (fun t => decide (b.1 24 0 t = w) && decide (b.1 36 0 t = nI x)) (k + 1) = cnt (fun t => decide (b.1 24 0 t = w) && decide (b.1 36 0 t = nI x)) k + 1 by show cnt (fun t => decide (b.1 24 0 t = w) && decide (b.1 36 0 t = nI x)) k + (if (decide (b.1 24 0 k = w) && decide (b.1 36 0 k = nI x)) = true then 1 else 0) = _; rw [e0]; simp] at q
        rw [nI_1]
        exact q
set_option maxHeartbeats 4000000 in
set_option maxRecDepth 100000 in
theorem c_X7_box_2 {a b : tH} {x : Nat} (hx : x < 8) (hh : ¬ b.1 20 0 5 = 0) {T : Nat} (hT : b.1 20 0 11 = nI T) (h24 : T ≤ 24) : Ci yX7_box cX7_box 5 .int 1 [.inr (some (20, 0)), .inl (nI x), .inl 2] (mix a b) (nI (cnt (fun t => decide (b.1 24 0 t = 1) && decide (b.1 36 0 t = nI x)) T)) (mix a (z0 b)) := by
  refine Ct.of (by decide) [_, _, _, _, _] rfl (Nat.le_of_ble_eq_true rfl) ?_
  refine v_aload_n dX7_box_0 rfl ?_
  refine v_iconst 0 dX7_box_1 (by decide) ?_
  refine m_pi (by decide) fX7_77 dX7_box_2 rfl rfl Nat.zero_lt_one ?_
  refine v_aload_n dX7_box_5 rfl ?_
  refine m_gi (by decide) fX7_102 dX7_box_6 rfl rfl Nat.zero_lt_one ?_
  refine v_if_eq 22 dX7_box_9 (by decide) (fun h_9 => absurd h_9 (by exact hh)) (fun h_9 => ?_)
  refine v_iload_n dX7_box_12 rfl ?_
  refine v_iconst 0 dX7_box_13 (by decide) ?_
  refine v_bipush 7 dX7_box_14 (by decide) ?_
  refine v_calls3i lX7_84 kX7_in (c_X7_in) dX7_box_16 rfl (by decide) (by decide) (st8 rfl) ?_
  refine v_if_ne 24 dX7_box_19 (by decide) (fun h_19 => ?_) (fun h_19 => absurd h_19 (by rw [i001]; exact fun z => z.elim (nI_pos (by omega)) (fun y => absurd y (nI_nlt (a := 7) (b := x) (by omega) (by omega)))))
  refine v_iload_n dX7_box_24 rfl ?_
  refine v_iconst 0 dX7_box_25 (by decide) ?_
  refine v_iconst 4 dX7_box_26 (by decide) ?_
  refine v_calls3i lX7_84 kX7_in (c_X7_in) dX7_box_27 rfl (by decide) (by decide) (st8 rfl) ?_
  refine v_if_ne 36 dX7_box_30 (by decide) (fun h_30 => ?_) (fun h_30 => absurd h_30 (by decide))
  refine v_iload_n dX7_box_36 rfl ?_
  refine v_if_ne 61 dX7_box_37 (by decide) (fun h_37 => ?_) (fun h_37 => absurd h_37 (by decide))
  refine v_iload_n dX7_box_61 rfl ?_
  refine v_iconst 1 dX7_box_62 (by decide) ?_
  refine v_icmp_ne 81 dX7_box_63 (by decide) (fun h_63 => ?_) (fun h_63 => absurd h_63 (by decide))
  refine v_iconst 0 dX7_box_81 (by decide) ?_
  refine v_istore_n [_, _, _, _, _] dX7_box_82 rfl (by decide) ?_
  refine v_iconst 0 dX7_box_83 (by decide) ?_
  refine v_istore [_, _, _, _, _] dX7_box_84 rfl (by decide) ?_
  exact l_X7_box (b := z0 b) (W := 2) (w := 1) (by decide) hT h24 T 0 (by omega)
set_option maxHeartbeats 4000000 in
set_option maxRecDepth 100000 in
theorem c_X7_box_3 {a b : tH} {x : Nat} (hx : x < 8) (hh : ¬ b.1 20 0 5 = 0) {T : Nat} (hT : b.1 20 0 11 = nI T) (h24 : T ≤ 24) : Ci yX7_box cX7_box 5 .int 1 [.inr (some (20, 0)), .inl (nI x), .inl 3] (mix a b) (nI (cnt (fun t => decide (b.1 24 0 t = 2) && decide (b.1 36 0 t = nI x)) T)) (mix a (z0 b)) := by
  refine Ct.of (by decide) [_, _, _, _, _] rfl (Nat.le_of_ble_eq_true rfl) ?_
  refine v_aload_n dX7_box_0 rfl ?_
  refine v_iconst 0 dX7_box_1 (by decide) ?_
  refine m_pi (by decide) fX7_77 dX7_box_2 rfl rfl Nat.zero_lt_one ?_
  refine v_aload_n dX7_box_5 rfl ?_
  refine m_gi (by decide) fX7_102 dX7_box_6 rfl rfl Nat.zero_lt_one ?_
  refine v_if_eq 22 dX7_box_9 (by decide) (fun h_9 => absurd h_9 (by exact hh)) (fun h_9 => ?_)
  refine v_iload_n dX7_box_12 rfl ?_
  refine v_iconst 0 dX7_box_13 (by decide) ?_
  refine v_bipush 7 dX7_box_14 (by decide) ?_
  refine v_calls3i lX7_84 kX7_in (c_X7_in) dX7_box_16 rfl (by decide) (by decide) (st8 rfl) ?_
  refine v_if_ne 24 dX7_box_19 (by decide) (fun h_19 => ?_) (fun h_19 => absurd h_19 (by rw [i001]; exact fun z => z.elim (nI_pos (by omega)) (fun y => absurd y (nI_nlt (a := 7) (b := x) (by omega) (by omega)))))
  refine v_iload_n dX7_box_24 rfl ?_
  refine v_iconst 0 dX7_box_25 (by decide) ?_
  refine v_iconst 4 dX7_box_26 (by decide) ?_
  refine v_calls3i lX7_84 kX7_in (c_X7_in) dX7_box_27 rfl (by decide) (by decide) (st8 rfl) ?_
  refine v_if_ne 36 dX7_box_30 (by decide) (fun h_30 => ?_) (fun h_30 => absurd h_30 (by decide))
  refine v_iload_n dX7_box_36 rfl ?_
  refine v_if_ne 61 dX7_box_37 (by decide) (fun h_37 => ?_) (fun h_37 => absurd h_37 (by decide))
  refine v_iload_n dX7_box_61 rfl ?_
  refine v_iconst 1 dX7_box_62 (by decide) ?_
  refine v_icmp_ne 81 dX7_box_63 (by decide) (fun h_63 => ?_) (fun h_63 => absurd h_63 (by decide))
  refine v_iconst 0 dX7_box_81 (by decide) ?_
  refine v_istore_n [_, _, _, _, _] dX7_box_82 rfl (by decide) ?_
  refine v_iconst 0 dX7_box_83 (by decide) ?_
  refine v_istore [_, _, _, _, _] dX7_box_84 rfl (by decide) ?_
  exact l_X7_box (b := z0 b) (W := 3) (w := 2) (by decide) hT h24 T 0 (by omega)
set_option maxHeartbeats 4000000 in
set_option maxRecDepth 100000 in
theorem c_X7_box_4 {a b : tH} {x : Nat} (hx : x < 8) (hh : ¬ b.1 20 0 5 = 0) {T : Nat} (hT : b.1 20 0 11 = nI T) (h24 : T ≤ 24) : Ci yX7_box cX7_box 5 .int 1 [.inr (some (20, 0)), .inl (nI x), .inl 4] (mix a b) (nI (cnt (fun t => decide (b.1 24 0 t = 3) && decide (b.1 36 0 t = nI x)) T)) (mix a (z0 b)) := by
  refine Ct.of (by decide) [_, _, _, _, _] rfl (Nat.le_of_ble_eq_true rfl) ?_
  refine v_aload_n dX7_box_0 rfl ?_
  refine v_iconst 0 dX7_box_1 (by decide) ?_
  refine m_pi (by decide) fX7_77 dX7_box_2 rfl rfl Nat.zero_lt_one ?_
  refine v_aload_n dX7_box_5 rfl ?_
  refine m_gi (by decide) fX7_102 dX7_box_6 rfl rfl Nat.zero_lt_one ?_
  refine v_if_eq 22 dX7_box_9 (by decide) (fun h_9 => absurd h_9 (by exact hh)) (fun h_9 => ?_)
  refine v_iload_n dX7_box_12 rfl ?_
  refine v_iconst 0 dX7_box_13 (by decide) ?_
  refine v_bipush 7 dX7_box_14 (by decide) ?_
  refine v_calls3i lX7_84 kX7_in (c_X7_in) dX7_box_16 rfl (by decide) (by decide) (st8 rfl) ?_
  refine v_if_ne 24 dX7_box_19 (by decide) (fun h_19 => ?_) (fun h_19 => absurd h_19 (by rw [i001]; exact fun z => z.elim (nI_pos (by omega)) (fun y => absurd y (nI_nlt (a := 7) (b := x) (by omega) (by omega)))))
  refine v_iload_n dX7_box_24 rfl ?_
  refine v_iconst 0 dX7_box_25 (by decide) ?_
  refine v_iconst 4 dX7_box_26 (by decide) ?_
  refine v_calls3i lX7_84 kX7_in (c_X7_in) dX7_box_27 rfl (by decide) (by decide) (st8 rfl) ?_
  refine v_if_ne 36 dX7_box_30 (by decide) (fun h_30 => ?_) (fun h_30 => absurd h_30 (by decide))
  refine v_iload_n dX7_box_36 rfl ?_
  refine v_if_ne 61 dX7_box_37 (by decide) (fun h_37 => ?_) (fun h_37 => absurd h_37 (by decide))
  refine v_iload_n dX7_box_61 rfl ?_
  refine v_iconst 1 dX7_box_62 (by decide) ?_
  refine v_icmp_ne 81 dX7_box_63 (by decide) (fun h_63 => ?_) (fun h_63 => absurd h_63 (by decide))
  refine v_iconst 0 dX7_box_81 (by decide) ?_
  refine v_istore_n [_, _, _, _, _] dX7_box_82 rfl (by decide) ?_
  refine v_iconst 0 dX7_box_83 (by decide) ?_
  refine v_istore [_, _, _, _, _] dX7_box_84 rfl (by decide) ?_
  exact l_X7_box (b := z0 b) (W := 4) (w := 3) (by decide) hT h24 T 0 (by omega)
theorem rngm {x : Int32} {n : Nat} (hn : n < 2 ^ 31) : (x < -1 ∨ nI n - 1 < x) ↔ (x < -1 ∨ nI n ≤ x) := by
  have h1 : (0 : Int32).toInt = 0 := by decide
  have h2 : (-1 : Int32).toInt = -1 := by decide
  by_cases h0 : x < 0
  · by_cases h : x < -1
    · exact ⟨fun _ => Or.inl h, fun _ => Or.inl h⟩
    · have hx : x = -1 := by
        have a1 := Int32.lt_iff_toInt_lt.mp h0
        have a2 : ¬ x.toInt < (-1 : Int32).toInt := fun z => h (Int32.lt_iff_toInt_lt.mpr z)
        exact Int32.toInt_inj.mp (by omega)
      subst hx
      constructor
      · intro z
        rcases z with z | z
        · exact Or.inl z
        · exfalso
          cases n with
          | zero => exact absurd z (by decide)
          | succ n =>
            rw [nI_pred] at z
            exact absurd (Int32.lt_trans z (by decide : (-1 : Int32) < 0)) (nI_pos (by omega))
      · intro z
        rcases z with z | z
        · exact Or.inl z
        · exact absurd (Int32.lt_of_le_of_lt z (by decide : (-1 : Int32) < 0)) (nI_pos hn)
  · have hm : ¬ x < -1 := fun z => h0 (Int32.lt_trans z (by decide))
    have r := rng (x := x) hn
    constructor
    · intro z
      rcases z with z | z
      · exact Or.inl z
      · rcases r.mp (Or.inr z) with y | y
        · exact absurd y h0
        · exact Or.inr y
    · intro z
      rcases z with z | z
      · exact Or.inl z
      · rcases r.mpr (Or.inr z) with y | y
        · exact absurd y h0
        · exact Or.inr y
set_option maxHeartbeats 4000000 in
set_option maxRecDepth 100000 in
theorem c_X7_trace1 {a b : tH} {r : Nat} {i w : Int32} (hr : b.1 20 0 31 = nI r) (h100 : r ≤ 100) (hi : b.1 20 0 5 = 0 ∨ i < -1 ∨ nI r ≤ i) : Ci yX7_trace cX7_trace 3 .int 1 [.inr (some (20, 0)), .inl i, .inl w] (mix a b) ((-1)) (mix a (z0 b)) := by
  refine Ct.of (by decide) [_, _, _] rfl (Nat.le_of_ble_eq_true rfl) ?_
  refine v_aload_n dX7_trace_0 rfl ?_
  refine v_iconst 0 dX7_trace_1 (by decide) ?_
  refine m_pi (by decide) fX7_77 dX7_trace_2 rfl rfl Nat.zero_lt_one ?_
  refine v_aload_n dX7_trace_5 rfl ?_
  refine m_gi (by decide) fX7_102 dX7_trace_6 rfl rfl Nat.zero_lt_one ?_
  refine v_if_eq 26 dX7_trace_9 (by decide) (fun h_9 => ?_) (fun h_9 => ?_)
  · refine v_iconst (-1) dX7_trace_26 (by decide) ?_
    exact v_iret dX7_trace_27 ⟨rfl, rfl⟩
  · refine v_iload_n dX7_trace_12 rfl ?_
    refine v_iconst (-1) dX7_trace_13 (by decide) ?_
    refine v_aload_n dX7_trace_14 rfl ?_
    refine m_gk (by exact hr) (by decide) fX7_121 dX7_trace_15 rfl rfl Nat.zero_lt_one ?_
    refine v_iconst 1 dX7_trace_18 (by decide) ?_
    refine v_isub dX7_trace_19 ?_
    refine v_calls3i lX7_84 kX7_in (c_X7_in) dX7_trace_20 rfl (by decide) (by decide) (st8 rfl) ?_
    refine v_if_ne 28 dX7_trace_23 (by decide) (fun h_23 => hi.elim (fun z => absurd z h_9) (fun z => absurd (by rw [i001, rngm (by omega)]; exact z) h_23)) (fun h_23 => ?_)
    refine v_iconst (-1) dX7_trace_26 (by decide) ?_
    exact v_iret dX7_trace_27 ⟨rfl, rfl⟩
set_option maxHeartbeats 4000000 in
set_option maxRecDepth 100000 in
theorem c_X7_trace2 {a b : tH} {r : Nat} {i w : Int32} (hr : b.1 20 0 31 = nI r) (h100 : r ≤ 100) (hh : ¬ b.1 20 0 5 = 0) (hi : ¬ (i < -1 ∨ nI r ≤ i)) (hw : w < 0 ∨ 1 < w) : Ci yX7_trace cX7_trace 3 .int 1 [.inr (some (20, 0)), .inl i, .inl w] (mix a b) ((-2)) (mix a (z0 b)) := by
  refine Ct.of (by decide) [_, _, _] rfl (Nat.le_of_ble_eq_true rfl) ?_
  refine v_aload_n dX7_trace_0 rfl ?_
  refine v_iconst 0 dX7_trace_1 (by decide) ?_
  refine m_pi (by decide) fX7_77 dX7_trace_2 rfl rfl Nat.zero_lt_one ?_
  refine v_aload_n dX7_trace_5 rfl ?_
  refine m_gi (by decide) fX7_102 dX7_trace_6 rfl rfl Nat.zero_lt_one ?_
  refine v_if_eq 26 dX7_trace_9 (by decide) (fun h_9 => absurd h_9 (by exact hh)) (fun h_9 => ?_)
  refine v_iload_n dX7_trace_12 rfl ?_
  refine v_iconst (-1) dX7_trace_13 (by decide) ?_
  refine v_aload_n dX7_trace_14 rfl ?_
  refine m_gk (by exact hr) (by decide) fX7_121 dX7_trace_15 rfl rfl Nat.zero_lt_one ?_
  refine v_iconst 1 dX7_trace_18 (by decide) ?_
  refine v_isub dX7_trace_19 ?_
  refine v_calls3i lX7_84 kX7_in (c_X7_in) dX7_trace_20 rfl (by decide) (by decide) (st8 rfl) ?_
  refine v_if_ne 28 dX7_trace_23 (by decide) (fun h_23 => ?_) (fun h_23 => absurd h_23 (by rw [i001, rngm (by omega)]; exact hi))
  refine v_iload_n dX7_trace_28 rfl ?_
  refine v_iconst 0 dX7_trace_29 (by decide) ?_
  refine v_iconst 1 dX7_trace_30 (by decide) ?_
  refine v_calls3i lX7_84 kX7_in (c_X7_in) dX7_trace_31 rfl (by decide) (by decide) (st8 rfl) ?_
  refine v_if_ne 40 dX7_trace_34 (by decide) (fun h_34 => absurd (by rw [i001]; exact hw) h_34) (fun h_34 => ?_)
  refine v_bipush (-2) dX7_trace_37 (by decide) ?_
  exact v_iret dX7_trace_39 ⟨rfl, rfl⟩
set_option maxHeartbeats 4000000 in
set_option maxRecDepth 100000 in
theorem c_X7_trace_n {a b : tH} {r : Nat} {i w : Int32} (hr : b.1 20 0 31 = nI r) (h100 : r ≤ 100) (hh : ¬ b.1 20 0 5 = 0) (hi : ¬ (i < -1 ∨ nI r ≤ i)) (hw : ¬ (w < 0 ∨ 1 < w)) (hm : i < 0) : Ci yX7_trace cX7_trace 3 .int 1 [.inr (some (20, 0)), .inl i, .inl w] (mix a b) (b.1 20 0 31) (mix a (z0 b)) := by
  refine Ct.of (by decide) [_, _, _] rfl (Nat.le_of_ble_eq_true rfl) ?_
  refine v_aload_n dX7_trace_0 rfl ?_
  refine v_iconst 0 dX7_trace_1 (by decide) ?_
  refine m_pi (by decide) fX7_77 dX7_trace_2 rfl rfl Nat.zero_lt_one ?_
  refine v_aload_n dX7_trace_5 rfl ?_
  refine m_gi (by decide) fX7_102 dX7_trace_6 rfl rfl Nat.zero_lt_one ?_
  refine v_if_eq 26 dX7_trace_9 (by decide) (fun h_9 => absurd h_9 (by exact hh)) (fun h_9 => ?_)
  refine v_iload_n dX7_trace_12 rfl ?_
  refine v_iconst (-1) dX7_trace_13 (by decide) ?_
  refine v_aload_n dX7_trace_14 rfl ?_
  refine m_gk (by exact hr) (by decide) fX7_121 dX7_trace_15 rfl rfl Nat.zero_lt_one ?_
  refine v_iconst 1 dX7_trace_18 (by decide) ?_
  refine v_isub dX7_trace_19 ?_
  refine v_calls3i lX7_84 kX7_in (c_X7_in) dX7_trace_20 rfl (by decide) (by decide) (st8 rfl) ?_
  refine v_if_ne 28 dX7_trace_23 (by decide) (fun h_23 => ?_) (fun h_23 => absurd h_23 (by rw [i001, rngm (by omega)]; exact hi))
  refine v_iload_n dX7_trace_28 rfl ?_
  refine v_iconst 0 dX7_trace_29 (by decide) ?_
  refine v_iconst 1 dX7_trace_30 (by decide) ?_
  refine v_calls3i lX7_84 kX7_in (c_X7_in) dX7_trace_31 rfl (by decide) (by decide) (st8 rfl) ?_
  refine v_if_ne 40 dX7_trace_34 (by decide) (fun h_34 => ?_) (fun h_34 => absurd h_34 (by rw [i001]; exact hw))
  refine v_iload_n dX7_trace_40 rfl ?_
  refine v_if_ge 51 dX7_trace_41 (by decide) (fun h_41 => absurd h_41 (Int32.not_le.mpr hm)) (fun h_41 => ?_)
  refine v_aload_n dX7_trace_44 rfl ?_
  refine m_gi (by decide) fX7_121 dX7_trace_45 rfl rfl Nat.zero_lt_one ?_
  refine v_goto 70 dX7_trace_48 (by decide) ?_
  exact v_iret dX7_trace_70 ⟨rfl, rfl⟩
set_option maxHeartbeats 4000000 in
set_option maxRecDepth 100000 in
theorem c_X7_trace_0 {a b : tH} {r i : Nat} (hr : b.1 20 0 31 = nI r) (h100 : r ≤ 100) (hh : ¬ b.1 20 0 5 = 0) (hi : i < r) : Ci yX7_trace cX7_trace 3 .int 1 [.inr (some (20, 0)), .inl (nI i), .inl 0] (mix a b) (b.1 41 0 i) (mix a (z0 b)) := by
  refine Ct.of (by decide) [_, _, _] rfl (Nat.le_of_ble_eq_true rfl) ?_
  refine v_aload_n dX7_trace_0 rfl ?_
  refine v_iconst 0 dX7_trace_1 (by decide) ?_
  refine m_pi (by decide) fX7_77 dX7_trace_2 rfl rfl Nat.zero_lt_one ?_
  refine v_aload_n dX7_trace_5 rfl ?_
  refine m_gi (by decide) fX7_102 dX7_trace_6 rfl rfl Nat.zero_lt_one ?_
  refine v_if_eq 26 dX7_trace_9 (by decide) (fun h_9 => absurd h_9 (by exact hh)) (fun h_9 => ?_)
  refine v_iload_n dX7_trace_12 rfl ?_
  refine v_iconst (-1) dX7_trace_13 (by decide) ?_
  refine v_aload_n dX7_trace_14 rfl ?_
  refine m_gk (by exact hr) (by decide) fX7_121 dX7_trace_15 rfl rfl Nat.zero_lt_one ?_
  refine v_iconst 1 dX7_trace_18 (by decide) ?_
  refine v_isub dX7_trace_19 ?_
  refine v_calls3i lX7_84 kX7_in (c_X7_in) dX7_trace_20 rfl (by decide) (by decide) (st8 rfl) ?_
  refine v_if_ne 28 dX7_trace_23 (by decide) (fun h_23 => ?_) (fun h_23 => absurd h_23 (by rw [i001, rngm (by omega)]; exact fun z => z.elim (fun y => absurd (Int32.lt_trans y (by decide : (-1 : Int32) < 0)) (nI_pos (by omega))) (nI_ge hi (by omega))))
  refine v_iload_n dX7_trace_28 rfl ?_
  refine v_iconst 0 dX7_trace_29 (by decide) ?_
  refine v_iconst 1 dX7_trace_30 (by decide) ?_
  refine v_calls3i lX7_84 kX7_in (c_X7_in) dX7_trace_31 rfl (by decide) (by decide) (st8 rfl) ?_
  refine v_if_ne 40 dX7_trace_34 (by decide) (fun h_34 => ?_) (fun h_34 => absurd h_34 (by decide))
  refine v_iload_n dX7_trace_40 rfl ?_
  refine v_if_ge 51 dX7_trace_41 (by decide) (fun h_41 => ?_) (fun h_41 => absurd (nI_pos' (by omega)) h_41)
  refine v_iload_n dX7_trace_51 rfl ?_
  refine v_if_ne 64 dX7_trace_52 (by decide) (fun h_52 => absurd rfl h_52) (fun h_52 => ?_)
  refine v_aload_n dX7_trace_55 rfl ?_
  refine v_gr 0 fX7_71 dX7_trace_56 rfl rfl rfl Nat.zero_lt_one ?_
  refine v_iload_n dX7_trace_59 rfl ?_
  refine m_iald i (by decide) rfl dX7_trace_60 Nat.zero_lt_one rfl (by omega) ?_
  refine v_goto 70 dX7_trace_61 (by decide) ?_
  exact v_iret dX7_trace_70 ⟨rfl, rfl⟩
set_option maxHeartbeats 4000000 in
set_option maxRecDepth 100000 in
theorem c_X7_trace_1 {a b : tH} {r i : Nat} (hr : b.1 20 0 31 = nI r) (h100 : r ≤ 100) (hh : ¬ b.1 20 0 5 = 0) (hi : i < r) : Ci yX7_trace cX7_trace 3 .int 1 [.inr (some (20, 0)), .inl (nI i), .inl 1] (mix a b) (b.1 42 0 i) (mix a (z0 b)) := by
  refine Ct.of (by decide) [_, _, _] rfl (Nat.le_of_ble_eq_true rfl) ?_
  refine v_aload_n dX7_trace_0 rfl ?_
  refine v_iconst 0 dX7_trace_1 (by decide) ?_
  refine m_pi (by decide) fX7_77 dX7_trace_2 rfl rfl Nat.zero_lt_one ?_
  refine v_aload_n dX7_trace_5 rfl ?_
  refine m_gi (by decide) fX7_102 dX7_trace_6 rfl rfl Nat.zero_lt_one ?_
  refine v_if_eq 26 dX7_trace_9 (by decide) (fun h_9 => absurd h_9 (by exact hh)) (fun h_9 => ?_)
  refine v_iload_n dX7_trace_12 rfl ?_
  refine v_iconst (-1) dX7_trace_13 (by decide) ?_
  refine v_aload_n dX7_trace_14 rfl ?_
  refine m_gk (by exact hr) (by decide) fX7_121 dX7_trace_15 rfl rfl Nat.zero_lt_one ?_
  refine v_iconst 1 dX7_trace_18 (by decide) ?_
  refine v_isub dX7_trace_19 ?_
  refine v_calls3i lX7_84 kX7_in (c_X7_in) dX7_trace_20 rfl (by decide) (by decide) (st8 rfl) ?_
  refine v_if_ne 28 dX7_trace_23 (by decide) (fun h_23 => ?_) (fun h_23 => absurd h_23 (by rw [i001, rngm (by omega)]; exact fun z => z.elim (fun y => absurd (Int32.lt_trans y (by decide : (-1 : Int32) < 0)) (nI_pos (by omega))) (nI_ge hi (by omega))))
  refine v_iload_n dX7_trace_28 rfl ?_
  refine v_iconst 0 dX7_trace_29 (by decide) ?_
  refine v_iconst 1 dX7_trace_30 (by decide) ?_
  refine v_calls3i lX7_84 kX7_in (c_X7_in) dX7_trace_31 rfl (by decide) (by decide) (st8 rfl) ?_
  refine v_if_ne 40 dX7_trace_34 (by decide) (fun h_34 => ?_) (fun h_34 => absurd h_34 (by decide))
  refine v_iload_n dX7_trace_40 rfl ?_
  refine v_if_ge 51 dX7_trace_41 (by decide) (fun h_41 => ?_) (fun h_41 => absurd (nI_pos' (by omega)) h_41)
  refine v_iload_n dX7_trace_51 rfl ?_
  refine v_if_ne 64 dX7_trace_52 (by decide) (fun h_52 => ?_) (fun h_52 => absurd h_52 (by decide))
  refine v_aload_n dX7_trace_64 rfl ?_
  refine v_gr 0 fX7_74 dX7_trace_65 rfl rfl rfl Nat.zero_lt_one ?_
  refine v_iload_n dX7_trace_68 rfl ?_
  refine m_iald i (by decide) rfl dX7_trace_69 Nat.zero_lt_one rfl (by omega) ?_
  exact v_iret dX7_trace_70 ⟨rfl, rfl⟩
set_option maxHeartbeats 4000000 in
set_option maxRecDepth 100000 in
theorem c_X7_share1 {a b : tH} {T : Nat} {t : Int32} (hT : b.1 20 0 11 = nI T) (h24 : T ≤ 24) (ht : b.1 20 0 5 = 0 ∨ t < 0 ∨ nI T ≤ t) : Ci yX7_share cX7_share 2 .int 1 [.inr (some (20, 0)), .inl t] (mix a b) ((-1)) (mix a (z0 b)) := by
  refine Ct.of (by decide) [_, _] rfl (Nat.le_of_ble_eq_true rfl) ?_
  refine v_aload_n dX7_share_0 rfl ?_
  refine v_iconst 0 dX7_share_1 (by decide) ?_
  refine m_pi (by decide) fX7_77 dX7_share_2 rfl rfl Nat.zero_lt_one ?_
  refine v_aload_n dX7_share_5 rfl ?_
  refine m_gi (by decide) fX7_102 dX7_share_6 rfl rfl Nat.zero_lt_one ?_
  refine v_if_eq 26 dX7_share_9 (by decide) (fun h_9 => ?_) (fun h_9 => ?_)
  · refine v_iconst (-1) dX7_share_26 (by decide) ?_
    exact v_iret dX7_share_27 ⟨rfl, rfl⟩
  · refine v_iload_n dX7_share_12 rfl ?_
    refine v_iconst 0 dX7_share_13 (by decide) ?_
    refine v_aload_n dX7_share_14 rfl ?_
    refine m_gk (by exact hT) (by decide) fX7_92 dX7_share_15 rfl rfl Nat.zero_lt_one ?_
    refine v_iconst 1 dX7_share_18 (by decide) ?_
    refine v_isub dX7_share_19 ?_
    refine v_calls3i lX7_84 kX7_in (c_X7_in) dX7_share_20 rfl (by decide) (by decide) (st8 rfl) ?_
    refine v_if_ne 28 dX7_share_23 (by decide) (fun h_23 => ht.elim (fun z => absurd z h_9) (fun z => absurd (by rw [i001, rng (by omega)]; exact z) h_23)) (fun h_23 => ?_)
    refine v_iconst (-1) dX7_share_26 (by decide) ?_
    exact v_iret dX7_share_27 ⟨rfl, rfl⟩
set_option maxHeartbeats 4000000 in
set_option maxRecDepth 100000 in
theorem c_X7_share0 {a b : tH} {T t : Nat} (hT : b.1 20 0 11 = nI T) (h24 : T ≤ 24) (ht : t < T) (hh : ¬ b.1 20 0 5 = 0) (h0 : b.1 20 0 9 = 0) : Ci yX7_share cX7_share 2 .int 1 [.inr (some (20, 0)), .inl (nI t)] (mix a b) (0) (mix a (put (z0 b) 20 0 0 1)) := by
  refine Ct.of (by decide) [_, _] rfl (Nat.le_of_ble_eq_true rfl) ?_
  refine v_aload_n dX7_share_0 rfl ?_
  refine v_iconst 0 dX7_share_1 (by decide) ?_
  refine m_pi (by decide) fX7_77 dX7_share_2 rfl rfl Nat.zero_lt_one ?_
  refine v_aload_n dX7_share_5 rfl ?_
  refine m_gi (by decide) fX7_102 dX7_share_6 rfl rfl Nat.zero_lt_one ?_
  refine v_if_eq 26 dX7_share_9 (by decide) (fun h_9 => absurd h_9 (by exact hh)) (fun h_9 => ?_)
  refine v_iload_n dX7_share_12 rfl ?_
  refine v_iconst 0 dX7_share_13 (by decide) ?_
  refine v_aload_n dX7_share_14 rfl ?_
  refine m_gk (by exact hT) (by decide) fX7_92 dX7_share_15 rfl rfl Nat.zero_lt_one ?_
  refine v_iconst 1 dX7_share_18 (by decide) ?_
  refine v_isub dX7_share_19 ?_
  refine v_calls3i lX7_84 kX7_in (c_X7_in) dX7_share_20 rfl (by decide) (by decide) (st8 rfl) ?_
  refine v_if_ne 28 dX7_share_23 (by decide) (fun h_23 => ?_) (fun h_23 => absurd h_23 (by rw [i001]; exact rng_in ht (by omega)))
  refine v_aload_n dX7_share_28 rfl ?_
  refine m_gk (by exact h0) (by decide) fX7_115 dX7_share_29 rfl rfl Nat.zero_lt_one ?_
  refine v_if_ne 42 dX7_share_32 (by decide) (fun h_32 => absurd rfl h_32) (fun h_32 => ?_)
  refine v_aload_n dX7_share_35 rfl ?_
  refine v_iconst 1 dX7_share_36 (by decide) ?_
  refine m_pi (by decide) fX7_77 dX7_share_37 rfl rfl Nat.zero_lt_one ?_
  refine v_iconst 0 dX7_share_40 (by decide) ?_
  exact v_iret dX7_share_41 ⟨rfl, rfl⟩
set_option maxHeartbeats 4000000 in
set_option maxRecDepth 100000 in
theorem c_X7_share_ok {a b : tH} {T t : Nat} (hT : b.1 20 0 11 = nI T) (h24 : T ≤ 24) (ht : t < T) (hh : ¬ b.1 20 0 5 = 0) (h0 : ¬ b.1 20 0 9 = 0) : Ci yX7_share cX7_share 2 .int 1 [.inr (some (20, 0)), .inl (nI t)] (mix a b) (1000 * b.1 34 0 t / b.1 20 0 9) (mix a (z0 b)) := by
  refine Ct.of (by decide) [_, _] rfl (Nat.le_of_ble_eq_true rfl) ?_
  refine v_aload_n dX7_share_0 rfl ?_
  refine v_iconst 0 dX7_share_1 (by decide) ?_
  refine m_pi (by decide) fX7_77 dX7_share_2 rfl rfl Nat.zero_lt_one ?_
  refine v_aload_n dX7_share_5 rfl ?_
  refine m_gi (by decide) fX7_102 dX7_share_6 rfl rfl Nat.zero_lt_one ?_
  refine v_if_eq 26 dX7_share_9 (by decide) (fun h_9 => absurd h_9 (by exact hh)) (fun h_9 => ?_)
  refine v_iload_n dX7_share_12 rfl ?_
  refine v_iconst 0 dX7_share_13 (by decide) ?_
  refine v_aload_n dX7_share_14 rfl ?_
  refine m_gk (by exact hT) (by decide) fX7_92 dX7_share_15 rfl rfl Nat.zero_lt_one ?_
  refine v_iconst 1 dX7_share_18 (by decide) ?_
  refine v_isub dX7_share_19 ?_
  refine v_calls3i lX7_84 kX7_in (c_X7_in) dX7_share_20 rfl (by decide) (by decide) (st8 rfl) ?_
  refine v_if_ne 28 dX7_share_23 (by decide) (fun h_23 => ?_) (fun h_23 => absurd h_23 (by rw [i001]; exact rng_in ht (by omega)))
  refine v_aload_n dX7_share_28 rfl ?_
  refine m_gi (by decide) fX7_115 dX7_share_29 rfl rfl Nat.zero_lt_one ?_
  refine v_if_ne 42 dX7_share_32 (by decide) (fun h_32 => ?_) (fun h_32 => absurd h_32 (by exact h0))
  refine v_sipush 1000 dX7_share_42 (by decide) ?_
  refine v_aload_n dX7_share_45 rfl ?_
  refine v_gr 0 fX7_50 dX7_share_46 rfl rfl rfl Nat.zero_lt_one ?_
  refine v_iload_n dX7_share_49 rfl ?_
  refine m_iald t (by decide) rfl dX7_share_50 Nat.zero_lt_one rfl (by omega) ?_
  refine v_imul dX7_share_51 ?_
  refine v_aload_n dX7_share_52 rfl ?_
  refine m_gi (by decide) fX7_115 dX7_share_53 rfl rfl Nat.zero_lt_one ?_
  refine v_idiv dX7_share_56 (by exact h0) ?_
  exact v_iret dX7_share_57 ⟨rfl, rfl⟩
