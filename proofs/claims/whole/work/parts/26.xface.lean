/-! The class's face -/
theorem ge_gt {x M N : Int32} (h : M.toInt = N.toInt + 1) : M ≤ x ↔ N < x := by
  rw [Int32.le_iff_toInt_le, Int32.lt_iff_toInt_lt]
  omega
theorem in_01 {x : Int32} : inI x 0 1 = if x = 0 then 1 else if x = 1 then 1 else 0 := by
  have h0 : (0 : Int32).toInt = 0 := by decide
  have h1 : (1 : Int32).toInt = 1 := by decide
  unfold inI
  by_cases e0 : x = 0
  · subst e0; decide
  · by_cases e1 : x = 1
    · subst e1; decide
    · rw [if_neg e0, if_neg e1]
      by_cases hl : x < 0
      · rw [if_pos hl]
      · rw [if_neg hl, if_pos]
        rw [Int32.lt_iff_toInt_lt] at hl ⊢
        have n0 : x.toInt ≠ 0 := fun z => e0 (Int32.toInt_inj.mp (by omega))
        have n1 : x.toInt ≠ 1 := fun z => e1 (Int32.toInt_inj.mp (by omega))
        omega
def xBg0 (a : tH) (q : Int32) : tH := put (put (put (put (put (put (put (put (put (put (put (put (put (put (put (put (put (put a 10 0 1 0) 15 0 2 0) 13 0 0 0) 13 0 1 0) 13 0 2 0) 13 0 3 0) 13 0 4 0) 13 0 5 0) 13 0 6 0) 13 0 7 0) 18 0 5 0) 18 0 6 1) 18 0 7 0) 18 0 8 q) 18 0 9 0) 18 0 10 0) 18 0 11 0) 18 0 12 0
def xBegin (a : tH) (p q r : Int32) : tH := xStart (xBg0 a q) 0 p r
def xTurn (a : tH) : Int32 × tH := if a.1 18 0 7 = 0 then
    if (xNext a (nv (a.1 18 0 5))).1 10 0 1 = 0 then (0, put (xNext a (nv (a.1 18 0 5))) 10 0 1 0) else (1, xTurnB (xNext a (nv (a.1 18 0 5))) (((xNext a (nv (a.1 18 0 5))).2 0).getD 0) (nv (a.1 18 0 8)))
  else (0, a)
def xStepL : Nat → Nat → tH → Nat × tH
  | 0, d, a => (d, a)
  | m + 1, d, a => if (xTurn a).1 = 0 then (d, (xTurn a).2) else xStepL m (d + 1) (xTurn a).2
def XO (a : tH) : Prop := ∀ b : tH, Ci yX5_takeTurn cX5_takeTurn 4 .boolean 5 [.inr (some (18, 0))] (mix a b) (xTurn a).1 (mix (xTurn a).2 b)
def SXn : Nat → tH → Prop
  | 0, _ => True
  | m + 1, a => XO a ∧ (¬ (xTurn a).1 = 0 → SXn m (xTurn a).2)

set_option maxHeartbeats 4000000 in
set_option maxRecDepth 100000 in
theorem c_X6_fits0 {a b : tH} {x : Int32} : Ci yX6_fits cX6_fits 2 .boolean 0 [.inl 0, .inl x] (mix a b) (gk 0 x) (mix (a) b) := by
  refine Ct.of (by decide) [_, _] rfl (Nat.le_of_ble_eq_true rfl) ?_
  refine v_iload_n dX6_fits_0 rfl ?_
  refine v_tsIn (off := 79) 80 0 dX6_fits_1 rfl (by decide) (by decide) (by decide) (by decide) ?_
  refine v_iload_n dX6_fits_80 rfl ?_
  refine v_if_lt 94 dX6_fits_81 (by decide) (fun h_81 => ?_) (fun h_81 => ?_)
  · refine v_iconst 0 dX6_fits_94 (by decide) ?_
    exact v_zret dX6_fits_95 (by decide) ⟨congrArg (fun z : Int32 => some (Sum.inl z : tV)) (show _ = inI x 0 7 by unfold inI; first | (rw [if_pos h_81]; done) | (rw [if_neg h_81, if_pos ((ge_gt (M := 8) (by decide)).mp h_87)]; done) | (rw [if_neg h_81, if_neg (fun y => h_87 ((ge_gt (M := 8) (by decide)).mpr y))])), rfl⟩
  · refine v_iload_n dX6_fits_84 rfl ?_
    refine v_bipush 8 dX6_fits_85 (by decide) ?_
    refine v_icmp_ge 94 dX6_fits_87 (by decide) (fun h_87 => ?_) (fun h_87 => ?_)
    · refine v_iconst 0 dX6_fits_94 (by decide) ?_
      exact v_zret dX6_fits_95 (by decide) ⟨congrArg (fun z : Int32 => some (Sum.inl z : tV)) (show _ = inI x 0 7 by unfold inI; first | (rw [if_pos h_81]; done) | (rw [if_neg h_81, if_pos ((ge_gt (M := 8) (by decide)).mp h_87)]; done) | (rw [if_neg h_81, if_neg (fun y => h_87 ((ge_gt (M := 8) (by decide)).mpr y))])), rfl⟩
    · refine v_iconst 1 dX6_fits_90 (by decide) ?_
      refine v_goto 95 dX6_fits_91 (by decide) ?_
      exact v_zret dX6_fits_95 (by decide) ⟨congrArg (fun z : Int32 => some (Sum.inl z : tV)) (show _ = inI x 0 7 by unfold inI; first | (rw [if_pos h_81]; done) | (rw [if_neg h_81, if_pos ((ge_gt (M := 8) (by decide)).mp h_87)]; done) | (rw [if_neg h_81, if_neg (fun y => h_87 ((ge_gt (M := 8) (by decide)).mpr y))])), rfl⟩
set_option maxHeartbeats 4000000 in
set_option maxRecDepth 100000 in
theorem c_X6_fits1 {a b : tH} {x : Int32} : Ci yX6_fits cX6_fits 2 .boolean 0 [.inl 1, .inl x] (mix a b) (gk 1 x) (mix (a) b) := by
  refine Ct.of (by decide) [_, _] rfl (Nat.le_of_ble_eq_true rfl) ?_
  refine v_iload_n dX6_fits_0 rfl ?_
  refine v_tsIn (off := 79) 80 1 dX6_fits_1 rfl (by decide) (by decide) (by decide) (by decide) ?_
  refine v_iload_n dX6_fits_80 rfl ?_
  refine v_if_lt 94 dX6_fits_81 (by decide) (fun h_81 => ?_) (fun h_81 => ?_)
  · refine v_iconst 0 dX6_fits_94 (by decide) ?_
    exact v_zret dX6_fits_95 (by decide) ⟨congrArg (fun z : Int32 => some (Sum.inl z : tV)) (show _ = inI x 0 7 by unfold inI; first | (rw [if_pos h_81]; done) | (rw [if_neg h_81, if_pos ((ge_gt (M := 8) (by decide)).mp h_87)]; done) | (rw [if_neg h_81, if_neg (fun y => h_87 ((ge_gt (M := 8) (by decide)).mpr y))])), rfl⟩
  · refine v_iload_n dX6_fits_84 rfl ?_
    refine v_bipush 8 dX6_fits_85 (by decide) ?_
    refine v_icmp_ge 94 dX6_fits_87 (by decide) (fun h_87 => ?_) (fun h_87 => ?_)
    · refine v_iconst 0 dX6_fits_94 (by decide) ?_
      exact v_zret dX6_fits_95 (by decide) ⟨congrArg (fun z : Int32 => some (Sum.inl z : tV)) (show _ = inI x 0 7 by unfold inI; first | (rw [if_pos h_81]; done) | (rw [if_neg h_81, if_pos ((ge_gt (M := 8) (by decide)).mp h_87)]; done) | (rw [if_neg h_81, if_neg (fun y => h_87 ((ge_gt (M := 8) (by decide)).mpr y))])), rfl⟩
    · refine v_iconst 1 dX6_fits_90 (by decide) ?_
      refine v_goto 95 dX6_fits_91 (by decide) ?_
      exact v_zret dX6_fits_95 (by decide) ⟨congrArg (fun z : Int32 => some (Sum.inl z : tV)) (show _ = inI x 0 7 by unfold inI; first | (rw [if_pos h_81]; done) | (rw [if_neg h_81, if_pos ((ge_gt (M := 8) (by decide)).mp h_87)]; done) | (rw [if_neg h_81, if_neg (fun y => h_87 ((ge_gt (M := 8) (by decide)).mpr y))])), rfl⟩
set_option maxHeartbeats 4000000 in
set_option maxRecDepth 100000 in
theorem c_X6_fits2 {a b : tH} {x : Int32} : Ci yX6_fits cX6_fits 2 .boolean 0 [.inl 2, .inl x] (mix a b) (gk 2 x) (mix (a) b) := by
  refine Ct.of (by decide) [_, _] rfl (Nat.le_of_ble_eq_true rfl) ?_
  refine v_iload_n dX6_fits_0 rfl ?_
  refine v_tsIn (off := 79) 80 2 dX6_fits_1 rfl (by decide) (by decide) (by decide) (by decide) ?_
  refine v_iload_n dX6_fits_80 rfl ?_
  refine v_if_lt 94 dX6_fits_81 (by decide) (fun h_81 => ?_) (fun h_81 => ?_)
  · refine v_iconst 0 dX6_fits_94 (by decide) ?_
    exact v_zret dX6_fits_95 (by decide) ⟨congrArg (fun z : Int32 => some (Sum.inl z : tV)) (show _ = inI x 0 7 by unfold inI; first | (rw [if_pos h_81]; done) | (rw [if_neg h_81, if_pos ((ge_gt (M := 8) (by decide)).mp h_87)]; done) | (rw [if_neg h_81, if_neg (fun y => h_87 ((ge_gt (M := 8) (by decide)).mpr y))])), rfl⟩
  · refine v_iload_n dX6_fits_84 rfl ?_
    refine v_bipush 8 dX6_fits_85 (by decide) ?_
    refine v_icmp_ge 94 dX6_fits_87 (by decide) (fun h_87 => ?_) (fun h_87 => ?_)
    · refine v_iconst 0 dX6_fits_94 (by decide) ?_
      exact v_zret dX6_fits_95 (by decide) ⟨congrArg (fun z : Int32 => some (Sum.inl z : tV)) (show _ = inI x 0 7 by unfold inI; first | (rw [if_pos h_81]; done) | (rw [if_neg h_81, if_pos ((ge_gt (M := 8) (by decide)).mp h_87)]; done) | (rw [if_neg h_81, if_neg (fun y => h_87 ((ge_gt (M := 8) (by decide)).mpr y))])), rfl⟩
    · refine v_iconst 1 dX6_fits_90 (by decide) ?_
      refine v_goto 95 dX6_fits_91 (by decide) ?_
      exact v_zret dX6_fits_95 (by decide) ⟨congrArg (fun z : Int32 => some (Sum.inl z : tV)) (show _ = inI x 0 7 by unfold inI; first | (rw [if_pos h_81]; done) | (rw [if_neg h_81, if_pos ((ge_gt (M := 8) (by decide)).mp h_87)]; done) | (rw [if_neg h_81, if_neg (fun y => h_87 ((ge_gt (M := 8) (by decide)).mpr y))])), rfl⟩
set_option maxHeartbeats 4000000 in
set_option maxRecDepth 100000 in
theorem c_X6_fits3 {a b : tH} {x : Int32} : Ci yX6_fits cX6_fits 2 .boolean 0 [.inl 3, .inl x] (mix a b) (gk 3 x) (mix (a) b) := by
  refine Ct.of (by decide) [_, _] rfl (Nat.le_of_ble_eq_true rfl) ?_
  refine v_iload_n dX6_fits_0 rfl ?_
  refine v_tsIn (off := 175) 176 3 dX6_fits_1 rfl (by decide) (by decide) (by decide) (by decide) ?_
  refine v_iload_n dX6_fits_176 rfl ?_
  refine v_if_lt 190 dX6_fits_177 (by decide) (fun h_177 => absurd h_177 (by decide)) (fun h_177 => ?_)
  refine v_iload_n dX6_fits_180 rfl ?_
  refine v_bipush 16 dX6_fits_181 (by decide) ?_
  refine v_icmp_gt 190 dX6_fits_183 (by decide) (fun h_183 => absurd h_183 (by decide)) (fun h_183 => ?_)
  refine v_iconst 1 dX6_fits_186 (by decide) ?_
  refine v_goto 191 dX6_fits_187 (by decide) ?_
  exact v_zret dX6_fits_191 (by decide) ⟨rfl, rfl⟩
set_option maxHeartbeats 4000000 in
set_option maxRecDepth 100000 in
theorem c_X6_fits4 {a b : tH} {x : Int32} : Ci yX6_fits cX6_fits 2 .boolean 0 [.inl 4, .inl x] (mix a b) (gk 4 x) (mix (a) b) := by
  refine Ct.of (by decide) [_, _] rfl (Nat.le_of_ble_eq_true rfl) ?_
  refine v_iload_n dX6_fits_0 rfl ?_
  refine v_tsIn (off := 175) 176 4 dX6_fits_1 rfl (by decide) (by decide) (by decide) (by decide) ?_
  refine v_iload_n dX6_fits_176 rfl ?_
  refine v_if_lt 190 dX6_fits_177 (by decide) (fun h_177 => absurd h_177 (by decide)) (fun h_177 => ?_)
  refine v_iload_n dX6_fits_180 rfl ?_
  refine v_bipush 16 dX6_fits_181 (by decide) ?_
  refine v_icmp_gt 190 dX6_fits_183 (by decide) (fun h_183 => absurd h_183 (by decide)) (fun h_183 => ?_)
  refine v_iconst 1 dX6_fits_186 (by decide) ?_
  refine v_goto 191 dX6_fits_187 (by decide) ?_
  exact v_zret dX6_fits_191 (by decide) ⟨rfl, rfl⟩
set_option maxHeartbeats 4000000 in
set_option maxRecDepth 100000 in
theorem c_X6_fits5 {a b : tH} {x : Int32} : Ci yX6_fits cX6_fits 2 .boolean 0 [.inl 5, .inl x] (mix a b) (gk 5 x) (mix (a) b) := by
  refine Ct.of (by decide) [_, _] rfl (Nat.le_of_ble_eq_true rfl) ?_
  refine v_iload_n dX6_fits_0 rfl ?_
  refine v_tsIn (off := 95) 96 5 dX6_fits_1 rfl (by decide) (by decide) (by decide) (by decide) ?_
  refine v_iload_n dX6_fits_96 rfl ?_
  refine v_if_lt 110 dX6_fits_97 (by decide) (fun h_97 => ?_) (fun h_97 => ?_)
  · refine v_iconst 0 dX6_fits_110 (by decide) ?_
    exact v_zret dX6_fits_111 (by decide) ⟨congrArg (fun z : Int32 => some (Sum.inl z : tV)) (show _ = inI x 0 11 by unfold inI; first | (rw [if_pos h_97]; done) | (rw [if_neg h_97, if_pos ((ge_gt (M := 12) (by decide)).mp h_103)]; done) | (rw [if_neg h_97, if_neg (fun y => h_103 ((ge_gt (M := 12) (by decide)).mpr y))])), rfl⟩
  · refine v_iload_n dX6_fits_100 rfl ?_
    refine v_bipush 12 dX6_fits_101 (by decide) ?_
    refine v_icmp_ge 110 dX6_fits_103 (by decide) (fun h_103 => ?_) (fun h_103 => ?_)
    · refine v_iconst 0 dX6_fits_110 (by decide) ?_
      exact v_zret dX6_fits_111 (by decide) ⟨congrArg (fun z : Int32 => some (Sum.inl z : tV)) (show _ = inI x 0 11 by unfold inI; first | (rw [if_pos h_97]; done) | (rw [if_neg h_97, if_pos ((ge_gt (M := 12) (by decide)).mp h_103)]; done) | (rw [if_neg h_97, if_neg (fun y => h_103 ((ge_gt (M := 12) (by decide)).mpr y))])), rfl⟩
    · refine v_iconst 1 dX6_fits_106 (by decide) ?_
      refine v_goto 111 dX6_fits_107 (by decide) ?_
      exact v_zret dX6_fits_111 (by decide) ⟨congrArg (fun z : Int32 => some (Sum.inl z : tV)) (show _ = inI x 0 11 by unfold inI; first | (rw [if_pos h_97]; done) | (rw [if_neg h_97, if_pos ((ge_gt (M := 12) (by decide)).mp h_103)]; done) | (rw [if_neg h_97, if_neg (fun y => h_103 ((ge_gt (M := 12) (by decide)).mpr y))])), rfl⟩
set_option maxHeartbeats 4000000 in
set_option maxRecDepth 100000 in
theorem c_X6_fits6 {a b : tH} {x : Int32} : Ci yX6_fits cX6_fits 2 .boolean 0 [.inl 6, .inl x] (mix a b) (gk 6 x) (mix (a) b) := by
  refine Ct.of (by decide) [_, _] rfl (Nat.le_of_ble_eq_true rfl) ?_
  refine v_iload_n dX6_fits_0 rfl ?_
  refine v_tsIn (off := 175) 176 6 dX6_fits_1 rfl (by decide) (by decide) (by decide) (by decide) ?_
  refine v_iload_n dX6_fits_176 rfl ?_
  refine v_if_lt 190 dX6_fits_177 (by decide) (fun h_177 => absurd h_177 (by decide)) (fun h_177 => ?_)
  refine v_iload_n dX6_fits_180 rfl ?_
  refine v_bipush 16 dX6_fits_181 (by decide) ?_
  refine v_icmp_gt 190 dX6_fits_183 (by decide) (fun h_183 => absurd h_183 (by decide)) (fun h_183 => ?_)
  refine v_iconst 1 dX6_fits_186 (by decide) ?_
  refine v_goto 191 dX6_fits_187 (by decide) ?_
  exact v_zret dX6_fits_191 (by decide) ⟨rfl, rfl⟩
set_option maxHeartbeats 4000000 in
set_option maxRecDepth 100000 in
theorem c_X6_fits7 {a b : tH} {x : Int32} : Ci yX6_fits cX6_fits 2 .boolean 0 [.inl 7, .inl x] (mix a b) (gk 7 x) (mix (a) b) := by
  refine Ct.of (by decide) [_, _] rfl (Nat.le_of_ble_eq_true rfl) ?_
  refine v_iload_n dX6_fits_0 rfl ?_
  refine v_tsIn (off := 111) 112 7 dX6_fits_1 rfl (by decide) (by decide) (by decide) (by decide) ?_
  refine v_iload_n dX6_fits_112 rfl ?_
  refine v_if_lt 126 dX6_fits_113 (by decide) (fun h_113 => ?_) (fun h_113 => ?_)
  · refine v_iconst 0 dX6_fits_126 (by decide) ?_
    exact v_zret dX6_fits_127 (by decide) ⟨congrArg (fun z : Int32 => some (Sum.inl z : tV)) (show _ = inI x 0 100 by unfold inI; first | (rw [if_pos h_113]; done) | (rw [if_neg h_113, if_pos h_119]; done) | (rw [if_neg h_113, if_neg h_119])), rfl⟩
  · refine v_iload_n dX6_fits_116 rfl ?_
    refine v_bipush 100 dX6_fits_117 (by decide) ?_
    refine v_icmp_gt 126 dX6_fits_119 (by decide) (fun h_119 => ?_) (fun h_119 => ?_)
    · refine v_iconst 0 dX6_fits_126 (by decide) ?_
      exact v_zret dX6_fits_127 (by decide) ⟨congrArg (fun z : Int32 => some (Sum.inl z : tV)) (show _ = inI x 0 100 by unfold inI; first | (rw [if_pos h_113]; done) | (rw [if_neg h_113, if_pos h_119]; done) | (rw [if_neg h_113, if_neg h_119])), rfl⟩
    · refine v_iconst 1 dX6_fits_122 (by decide) ?_
      refine v_goto 127 dX6_fits_123 (by decide) ?_
      exact v_zret dX6_fits_127 (by decide) ⟨congrArg (fun z : Int32 => some (Sum.inl z : tV)) (show _ = inI x 0 100 by unfold inI; first | (rw [if_pos h_113]; done) | (rw [if_neg h_113, if_pos h_119]; done) | (rw [if_neg h_113, if_neg h_119])), rfl⟩
set_option maxHeartbeats 4000000 in
set_option maxRecDepth 100000 in
theorem c_X6_fits8 {a b : tH} {x : Int32} : Ci yX6_fits cX6_fits 2 .boolean 0 [.inl 8, .inl x] (mix a b) (gk 8 x) (mix (a) b) := by
  refine Ct.of (by decide) [_, _] rfl (Nat.le_of_ble_eq_true rfl) ?_
  refine v_iload_n dX6_fits_0 rfl ?_
  refine v_tsIn (off := 127) 128 8 dX6_fits_1 rfl (by decide) (by decide) (by decide) (by decide) ?_
  refine v_iload_n dX6_fits_128 rfl ?_
  refine v_if_lt 142 dX6_fits_129 (by decide) (fun h_129 => ?_) (fun h_129 => ?_)
  · refine v_iconst 0 dX6_fits_142 (by decide) ?_
    exact v_zret dX6_fits_143 (by decide) ⟨congrArg (fun z : Int32 => some (Sum.inl z : tV)) (show _ = inI x 0 20 by unfold inI; first | (rw [if_pos h_129]; done) | (rw [if_neg h_129, if_pos h_135]; done) | (rw [if_neg h_129, if_neg h_135])), rfl⟩
  · refine v_iload_n dX6_fits_132 rfl ?_
    refine v_bipush 20 dX6_fits_133 (by decide) ?_
    refine v_icmp_gt 142 dX6_fits_135 (by decide) (fun h_135 => ?_) (fun h_135 => ?_)
    · refine v_iconst 0 dX6_fits_142 (by decide) ?_
      exact v_zret dX6_fits_143 (by decide) ⟨congrArg (fun z : Int32 => some (Sum.inl z : tV)) (show _ = inI x 0 20 by unfold inI; first | (rw [if_pos h_129]; done) | (rw [if_neg h_129, if_pos h_135]; done) | (rw [if_neg h_129, if_neg h_135])), rfl⟩
    · refine v_iconst 1 dX6_fits_138 (by decide) ?_
      refine v_goto 143 dX6_fits_139 (by decide) ?_
      exact v_zret dX6_fits_143 (by decide) ⟨congrArg (fun z : Int32 => some (Sum.inl z : tV)) (show _ = inI x 0 20 by unfold inI; first | (rw [if_pos h_129]; done) | (rw [if_neg h_129, if_pos h_135]; done) | (rw [if_neg h_129, if_neg h_135])), rfl⟩
set_option maxHeartbeats 4000000 in
set_option maxRecDepth 100000 in
theorem c_X6_fits9 {a b : tH} {x : Int32} : Ci yX6_fits cX6_fits 2 .boolean 0 [.inl 9, .inl x] (mix a b) (gk 9 x) (mix (a) b) := by
  refine Ct.of (by decide) [_, _] rfl (Nat.le_of_ble_eq_true rfl) ?_
  refine v_iload_n dX6_fits_0 rfl ?_
  refine v_tsIn (off := 127) 128 9 dX6_fits_1 rfl (by decide) (by decide) (by decide) (by decide) ?_
  refine v_iload_n dX6_fits_128 rfl ?_
  refine v_if_lt 142 dX6_fits_129 (by decide) (fun h_129 => ?_) (fun h_129 => ?_)
  · refine v_iconst 0 dX6_fits_142 (by decide) ?_
    exact v_zret dX6_fits_143 (by decide) ⟨congrArg (fun z : Int32 => some (Sum.inl z : tV)) (show _ = inI x 0 20 by unfold inI; first | (rw [if_pos h_129]; done) | (rw [if_neg h_129, if_pos h_135]; done) | (rw [if_neg h_129, if_neg h_135])), rfl⟩
  · refine v_iload_n dX6_fits_132 rfl ?_
    refine v_bipush 20 dX6_fits_133 (by decide) ?_
    refine v_icmp_gt 142 dX6_fits_135 (by decide) (fun h_135 => ?_) (fun h_135 => ?_)
    · refine v_iconst 0 dX6_fits_142 (by decide) ?_
      exact v_zret dX6_fits_143 (by decide) ⟨congrArg (fun z : Int32 => some (Sum.inl z : tV)) (show _ = inI x 0 20 by unfold inI; first | (rw [if_pos h_129]; done) | (rw [if_neg h_129, if_pos h_135]; done) | (rw [if_neg h_129, if_neg h_135])), rfl⟩
    · refine v_iconst 1 dX6_fits_138 (by decide) ?_
      refine v_goto 143 dX6_fits_139 (by decide) ?_
      exact v_zret dX6_fits_143 (by decide) ⟨congrArg (fun z : Int32 => some (Sum.inl z : tV)) (show _ = inI x 0 20 by unfold inI; first | (rw [if_pos h_129]; done) | (rw [if_neg h_129, if_pos h_135]; done) | (rw [if_neg h_129, if_neg h_135])), rfl⟩
set_option maxHeartbeats 4000000 in
set_option maxRecDepth 100000 in
theorem c_X6_fits10 {a b : tH} {x : Int32} : Ci yX6_fits cX6_fits 2 .boolean 0 [.inl 10, .inl x] (mix a b) (gk 10 x) (mix (a) b) := by
  refine Ct.of (by decide) [_, _] rfl (Nat.le_of_ble_eq_true rfl) ?_
  refine v_iload_n dX6_fits_0 rfl ?_
  refine v_tsIn (off := 175) 176 10 dX6_fits_1 rfl (by decide) (by decide) (by decide) (by decide) ?_
  refine v_iload_n dX6_fits_176 rfl ?_
  refine v_if_lt 190 dX6_fits_177 (by decide) (fun h_177 => absurd h_177 (by decide)) (fun h_177 => ?_)
  refine v_iload_n dX6_fits_180 rfl ?_
  refine v_bipush 16 dX6_fits_181 (by decide) ?_
  refine v_icmp_gt 190 dX6_fits_183 (by decide) (fun h_183 => absurd h_183 (by decide)) (fun h_183 => ?_)
  refine v_iconst 1 dX6_fits_186 (by decide) ?_
  refine v_goto 191 dX6_fits_187 (by decide) ?_
  exact v_zret dX6_fits_191 (by decide) ⟨rfl, rfl⟩
set_option maxHeartbeats 4000000 in
set_option maxRecDepth 100000 in
theorem c_X6_fits11 {a b : tH} {x : Int32} : Ci yX6_fits cX6_fits 2 .boolean 0 [.inl 11, .inl x] (mix a b) (gk 11 x) (mix (a) b) := by
  refine Ct.of (by decide) [_, _] rfl (Nat.le_of_ble_eq_true rfl) ?_
  refine v_iload_n dX6_fits_0 rfl ?_
  refine v_tsIn (off := 143) 144 11 dX6_fits_1 rfl (by decide) (by decide) (by decide) (by decide) ?_
  refine v_iload_n dX6_fits_144 rfl ?_
  refine v_iconst 1 dX6_fits_145 (by decide) ?_
  refine v_icmp_lt 159 dX6_fits_146 (by decide) (fun h_146 => ?_) (fun h_146 => ?_)
  · refine v_iconst 0 dX6_fits_159 (by decide) ?_
    exact v_zret dX6_fits_160 (by decide) ⟨congrArg (fun z : Int32 => some (Sum.inl z : tV)) (show _ = inI x 1 9 by unfold inI; first | (rw [if_pos h_146]; done) | (rw [if_neg h_146, if_pos h_152]; done) | (rw [if_neg h_146, if_neg h_152])), rfl⟩
  · refine v_iload_n dX6_fits_149 rfl ?_
    refine v_bipush 9 dX6_fits_150 (by decide) ?_
    refine v_icmp_gt 159 dX6_fits_152 (by decide) (fun h_152 => ?_) (fun h_152 => ?_)
    · refine v_iconst 0 dX6_fits_159 (by decide) ?_
      exact v_zret dX6_fits_160 (by decide) ⟨congrArg (fun z : Int32 => some (Sum.inl z : tV)) (show _ = inI x 1 9 by unfold inI; first | (rw [if_pos h_146]; done) | (rw [if_neg h_146, if_pos h_152]; done) | (rw [if_neg h_146, if_neg h_152])), rfl⟩
    · refine v_iconst 1 dX6_fits_155 (by decide) ?_
      refine v_goto 160 dX6_fits_156 (by decide) ?_
      exact v_zret dX6_fits_160 (by decide) ⟨congrArg (fun z : Int32 => some (Sum.inl z : tV)) (show _ = inI x 1 9 by unfold inI; first | (rw [if_pos h_146]; done) | (rw [if_neg h_146, if_pos h_152]; done) | (rw [if_neg h_146, if_neg h_152])), rfl⟩
set_option maxHeartbeats 4000000 in
set_option maxRecDepth 100000 in
theorem c_X6_fits12 {a b : tH} {x : Int32} : Ci yX6_fits cX6_fits 2 .boolean 0 [.inl 12, .inl x] (mix a b) (gk 12 x) (mix (a) b) := by
  refine Ct.of (by decide) [_, _] rfl (Nat.le_of_ble_eq_true rfl) ?_
  refine v_iload_n dX6_fits_0 rfl ?_
  refine v_tsIn (off := 143) 144 12 dX6_fits_1 rfl (by decide) (by decide) (by decide) (by decide) ?_
  refine v_iload_n dX6_fits_144 rfl ?_
  refine v_iconst 1 dX6_fits_145 (by decide) ?_
  refine v_icmp_lt 159 dX6_fits_146 (by decide) (fun h_146 => ?_) (fun h_146 => ?_)
  · refine v_iconst 0 dX6_fits_159 (by decide) ?_
    exact v_zret dX6_fits_160 (by decide) ⟨congrArg (fun z : Int32 => some (Sum.inl z : tV)) (show _ = inI x 1 9 by unfold inI; first | (rw [if_pos h_146]; done) | (rw [if_neg h_146, if_pos h_152]; done) | (rw [if_neg h_146, if_neg h_152])), rfl⟩
  · refine v_iload_n dX6_fits_149 rfl ?_
    refine v_bipush 9 dX6_fits_150 (by decide) ?_
    refine v_icmp_gt 159 dX6_fits_152 (by decide) (fun h_152 => ?_) (fun h_152 => ?_)
    · refine v_iconst 0 dX6_fits_159 (by decide) ?_
      exact v_zret dX6_fits_160 (by decide) ⟨congrArg (fun z : Int32 => some (Sum.inl z : tV)) (show _ = inI x 1 9 by unfold inI; first | (rw [if_pos h_146]; done) | (rw [if_neg h_146, if_pos h_152]; done) | (rw [if_neg h_146, if_neg h_152])), rfl⟩
    · refine v_iconst 1 dX6_fits_155 (by decide) ?_
      refine v_goto 160 dX6_fits_156 (by decide) ?_
      exact v_zret dX6_fits_160 (by decide) ⟨congrArg (fun z : Int32 => some (Sum.inl z : tV)) (show _ = inI x 1 9 by unfold inI; first | (rw [if_pos h_146]; done) | (rw [if_neg h_146, if_pos h_152]; done) | (rw [if_neg h_146, if_neg h_152])), rfl⟩
set_option maxHeartbeats 4000000 in
set_option maxRecDepth 100000 in
theorem c_X6_fits13 {a b : tH} {x : Int32} : Ci yX6_fits cX6_fits 2 .boolean 0 [.inl 13, .inl x] (mix a b) (gk 13 x) (mix (a) b) := by
  refine Ct.of (by decide) [_, _] rfl (Nat.le_of_ble_eq_true rfl) ?_
  refine v_iload_n dX6_fits_0 rfl ?_
  refine v_tsIn (off := 127) 128 13 dX6_fits_1 rfl (by decide) (by decide) (by decide) (by decide) ?_
  refine v_iload_n dX6_fits_128 rfl ?_
  refine v_if_lt 142 dX6_fits_129 (by decide) (fun h_129 => ?_) (fun h_129 => ?_)
  · refine v_iconst 0 dX6_fits_142 (by decide) ?_
    exact v_zret dX6_fits_143 (by decide) ⟨congrArg (fun z : Int32 => some (Sum.inl z : tV)) (show _ = inI x 0 20 by unfold inI; first | (rw [if_pos h_129]; done) | (rw [if_neg h_129, if_pos h_135]; done) | (rw [if_neg h_129, if_neg h_135])), rfl⟩
  · refine v_iload_n dX6_fits_132 rfl ?_
    refine v_bipush 20 dX6_fits_133 (by decide) ?_
    refine v_icmp_gt 142 dX6_fits_135 (by decide) (fun h_135 => ?_) (fun h_135 => ?_)
    · refine v_iconst 0 dX6_fits_142 (by decide) ?_
      exact v_zret dX6_fits_143 (by decide) ⟨congrArg (fun z : Int32 => some (Sum.inl z : tV)) (show _ = inI x 0 20 by unfold inI; first | (rw [if_pos h_129]; done) | (rw [if_neg h_129, if_pos h_135]; done) | (rw [if_neg h_129, if_neg h_135])), rfl⟩
    · refine v_iconst 1 dX6_fits_138 (by decide) ?_
      refine v_goto 143 dX6_fits_139 (by decide) ?_
      exact v_zret dX6_fits_143 (by decide) ⟨congrArg (fun z : Int32 => some (Sum.inl z : tV)) (show _ = inI x 0 20 by unfold inI; first | (rw [if_pos h_129]; done) | (rw [if_neg h_129, if_pos h_135]; done) | (rw [if_neg h_129, if_neg h_135])), rfl⟩
set_option maxHeartbeats 4000000 in
set_option maxRecDepth 100000 in
theorem c_X6_fits14 {a b : tH} {x : Int32} : Ci yX6_fits cX6_fits 2 .boolean 0 [.inl 14, .inl x] (mix a b) (gk 14 x) (mix (a) b) := by
  refine Ct.of (by decide) [_, _] rfl (Nat.le_of_ble_eq_true rfl) ?_
  refine v_iload_n dX6_fits_0 rfl ?_
  refine v_tsIn (off := 175) 176 14 dX6_fits_1 rfl (by decide) (by decide) (by decide) (by decide) ?_
  refine v_iload_n dX6_fits_176 rfl ?_
  refine v_if_lt 190 dX6_fits_177 (by decide) (fun h_177 => absurd h_177 (by decide)) (fun h_177 => ?_)
  refine v_iload_n dX6_fits_180 rfl ?_
  refine v_bipush 16 dX6_fits_181 (by decide) ?_
  refine v_icmp_gt 190 dX6_fits_183 (by decide) (fun h_183 => absurd h_183 (by decide)) (fun h_183 => ?_)
  refine v_iconst 1 dX6_fits_186 (by decide) ?_
  refine v_goto 191 dX6_fits_187 (by decide) ?_
  exact v_zret dX6_fits_191 (by decide) ⟨rfl, rfl⟩
set_option maxHeartbeats 4000000 in
set_option maxRecDepth 100000 in
theorem c_X6_fits15 {a b : tH} {x : Int32} : Ci yX6_fits cX6_fits 2 .boolean 0 [.inl 15, .inl x] (mix a b) (gk 15 x) (mix (a) b) := by
  refine Ct.of (by decide) [_, _] rfl (Nat.le_of_ble_eq_true rfl) ?_
  refine v_iload_n dX6_fits_0 rfl ?_
  refine v_tsIn (off := 160) 161 15 dX6_fits_1 rfl (by decide) (by decide) (by decide) (by decide) ?_
  refine v_iload_n dX6_fits_161 rfl ?_
  refine v_if_eq 170 dX6_fits_162 (by decide) (fun h_162 => ?_) (fun h_162 => ?_)
  · refine v_iconst 1 dX6_fits_170 (by decide) ?_
    refine v_goto 175 dX6_fits_171 (by decide) ?_
    exact v_zret dX6_fits_175 (by decide) ⟨congrArg (fun z : Int32 => some (Sum.inl z : tV)) (show _ = inI x 0 1 by rw [in_01]; first | (rw [if_pos h_162]; done) | (rw [if_neg h_162, if_neg h_167]; done) | (rw [if_neg h_162, if_pos h_167])), rfl⟩
  · refine v_iload_n dX6_fits_165 rfl ?_
    refine v_iconst 1 dX6_fits_166 (by decide) ?_
    refine v_icmp_ne 174 dX6_fits_167 (by decide) (fun h_167 => ?_) (fun h_167 => ?_)
    · refine v_iconst 0 dX6_fits_174 (by decide) ?_
      exact v_zret dX6_fits_175 (by decide) ⟨congrArg (fun z : Int32 => some (Sum.inl z : tV)) (show _ = inI x 0 1 by rw [in_01]; first | (rw [if_pos h_162]; done) | (rw [if_neg h_162, if_neg h_167]; done) | (rw [if_neg h_162, if_pos h_167])), rfl⟩
    · refine v_iconst 1 dX6_fits_170 (by decide) ?_
      refine v_goto 175 dX6_fits_171 (by decide) ?_
      exact v_zret dX6_fits_175 (by decide) ⟨congrArg (fun z : Int32 => some (Sum.inl z : tV)) (show _ = inI x 0 1 by rw [in_01]; first | (rw [if_pos h_162]; done) | (rw [if_neg h_162, if_neg h_167]; done) | (rw [if_neg h_162, if_pos h_167])), rfl⟩
set_option maxHeartbeats 4000000 in
set_option maxRecDepth 100000 in
theorem c_X6_fits16 {a b : tH} {x : Int32} : Ci yX6_fits cX6_fits 2 .boolean 0 [.inl 16, .inl x] (mix a b) (gk 16 x) (mix (a) b) := by
  refine Ct.of (by decide) [_, _] rfl (Nat.le_of_ble_eq_true rfl) ?_
  refine v_iload_n dX6_fits_0 rfl ?_
  refine v_tsOut 176 dX6_fits_1 (Or.inr (by decide)) (by decide) ?_
  refine v_iload_n dX6_fits_176 rfl ?_
  refine v_if_lt 190 dX6_fits_177 (by decide) (fun h_177 => absurd h_177 (by decide)) (fun h_177 => ?_)
  refine v_iload_n dX6_fits_180 rfl ?_
  refine v_bipush 16 dX6_fits_181 (by decide) ?_
  refine v_icmp_gt 190 dX6_fits_183 (by decide) (fun h_183 => absurd h_183 (by decide)) (fun h_183 => ?_)
  refine v_iconst 1 dX6_fits_186 (by decide) ?_
  refine v_goto 191 dX6_fits_187 (by decide) ?_
  exact v_zret dX6_fits_191 (by decide) ⟨rfl, rfl⟩
set_option maxHeartbeats 4000000 in
set_option maxRecDepth 100000 in
theorem c_X6_fits_out {a b : tH} {k x : Int32} (hk : k < 0 ∨ 16 < k) : Ci yX6_fits cX6_fits 2 .boolean 0 [.inl k, .inl x] (mix a b) (0) (mix (a) b) := by
  refine Ct.of (by decide) [_, _] rfl (Nat.le_of_ble_eq_true rfl) ?_
  refine v_iload_n dX6_fits_0 rfl ?_
  refine v_tsOut 176 dX6_fits_1 (out_ti hk) (by decide) ?_
  refine v_iload_n dX6_fits_176 rfl ?_
  refine v_if_lt 190 dX6_fits_177 (by decide) (fun h_177 => ?_) (fun h_177 => ?_)
  · refine v_iconst 0 dX6_fits_190 (by decide) ?_
    exact v_zret dX6_fits_191 (by decide) ⟨rfl, rfl⟩
  · refine v_iload_n dX6_fits_180 rfl ?_
    refine v_bipush 16 dX6_fits_181 (by decide) ?_
    refine v_icmp_gt 190 dX6_fits_183 (by decide) (fun h_183 => ?_) (fun h_183 => hk.elim (fun z => absurd z h_177) (fun z => absurd z h_183))
    refine v_iconst 0 dX6_fits_190 (by decide) ?_
    exact v_zret dX6_fits_191 (by decide) ⟨rfl, rfl⟩
theorem c_X6_fits {a b : tH} {j : Nat} {x : Int32} (hj : j ≤ 16) : Ci yX6_fits cX6_fits 2 .boolean 0 [.inl (nI j), .inl x] (mix a b) (gk j x) (mix a b) := by
  rcases (show j = 0 ∨ j = 1 ∨ j = 2 ∨ j = 3 ∨ j = 4 ∨ j = 5 ∨ j = 6 ∨ j = 7 ∨ j = 8 ∨ j = 9 ∨ j = 10 ∨ j = 11 ∨ j = 12 ∨ j = 13 ∨ j = 14 ∨ j = 15 ∨ j = 16 by omega) with rfl | rfl | rfl | rfl | rfl | rfl | rfl | rfl | rfl | rfl | rfl | rfl | rfl | rfl | rfl | rfl | rfl
  · exact c_X6_fits0
  · exact c_X6_fits1
  · exact c_X6_fits2
  · exact c_X6_fits3
  · exact c_X6_fits4
  · exact c_X6_fits5
  · exact c_X6_fits6
  · exact c_X6_fits7
  · exact c_X6_fits8
  · exact c_X6_fits9
  · exact c_X6_fits10
  · exact c_X6_fits11
  · exact c_X6_fits12
  · exact c_X6_fits13
  · exact c_X6_fits14
  · exact c_X6_fits15
  · exact c_X6_fits16
set_option maxHeartbeats 4000000 in
set_option maxRecDepth 100000 in
theorem c_X6_program {a b : tH} {n : Nat} (hn : a.1 1 0 3 = nI n) (h12 : n ≤ 12) : Ci yX6_program cX6_program 1 .int 1 [.inr (some (0, 0))] (mix a b) (if n < 12 then nI n else (-4)) (mix (if n < 12 then put a 1 0 3 (nI (n + 1)) else a) b) := by
  refine Ct.of (by decide) [_] rfl (Nat.le_of_ble_eq_true rfl) ?_
  refine v_aload_n dX6_program_0 rfl ?_
  refine v_gr 0 fX6_10 dX6_program_1 rfl rfl rfl Nat.zero_lt_one ?_
  refine v_call0i lX6_25 kX3_addProgram (c_X3_addProgram hn h12) dX6_program_4 rfl rfl Nat.zero_lt_one rfl (by decide) (by decide) (st8 rfl) ?_
  exact v_iret dX6_program_7 ⟨rfl, rfl⟩
set_option maxHeartbeats 4000000 in
set_option maxRecDepth 100000 in
theorem c_X6_act2o {a b : tH} {k x : Int32} (hk : k < 0 ∨ 16 < k) : Ci yX6_act cX6_act 3 .int 2 [.inr (some (0, 0)), .inl k, .inl x] (mix a b) ((-2)) (mix (a) b) := by
  refine Ct.of (by decide) [_, _, _] rfl (Nat.le_of_ble_eq_true rfl) ?_
  refine v_iload_n dX6_act_0 rfl ?_
  refine v_iload_n dX6_act_1 rfl ?_
  refine v_calls2i lX6_29 kX6_fits (c_X6_fits_out hk) dX6_act_2 rfl (by decide) (by decide) (st8 rfl) ?_
  refine v_if_ne 11 dX6_act_5 (by decide) (fun h_5 => absurd rfl h_5) (fun h_5 => ?_)
  refine v_bipush (-2) dX6_act_8 (by decide) ?_
  exact v_iret dX6_act_10 ⟨rfl, rfl⟩
set_option maxHeartbeats 4000000 in
set_option maxRecDepth 100000 in
theorem c_X6_act2 {a b : tH} {j : Nat} {x : Int32} (hj : j ≤ 16) (hg : gk j x = 0) : Ci yX6_act cX6_act 3 .int 2 [.inr (some (0, 0)), .inl (nI j), .inl x] (mix a b) ((-2)) (mix (a) b) := by
  refine Ct.of (by decide) [_, _, _] rfl (Nat.le_of_ble_eq_true rfl) ?_
  refine v_iload_n dX6_act_0 rfl ?_
  refine v_iload_n dX6_act_1 rfl ?_
  refine v_calls2i lX6_29 kX6_fits (c_X6_fits hj) dX6_act_2 rfl (by decide) (by decide) (st8 rfl) ?_
  refine v_if_ne 11 dX6_act_5 (by decide) (fun h_5 => absurd hg h_5) (fun h_5 => ?_)
  refine v_bipush (-2) dX6_act_8 (by decide) ?_
  exact v_iret dX6_act_10 ⟨rfl, rfl⟩
set_option maxHeartbeats 4000000 in
set_option maxRecDepth 100000 in
theorem c_X6_act3 {a b : tH} {j : Nat} {x : Int32} (hj : j ≤ 16) (hg : ¬ gk j x = 0) (hP : a.1 1 0 3 = 0) : Ci yX6_act cX6_act 3 .int 2 [.inr (some (0, 0)), .inl (nI j), .inl x] (mix a b) ((-3)) (mix (a) b) := by
  refine Ct.of (by decide) [_, _, _] rfl (Nat.le_of_ble_eq_true rfl) ?_
  refine v_iload_n dX6_act_0 rfl ?_
  refine v_iload_n dX6_act_1 rfl ?_
  refine v_calls2i lX6_29 kX6_fits (c_X6_fits hj) dX6_act_2 rfl (by decide) (by decide) (st8 rfl) ?_
  refine v_if_ne 11 dX6_act_5 (by decide) (fun h_5 => ?_) (fun h_5 => absurd h_5 hg)
  refine v_aload_n dX6_act_11 rfl ?_
  refine v_gr 0 fX6_10 dX6_act_12 rfl rfl rfl Nat.zero_lt_one ?_
  refine v_call0i lX6_33 kX3_isEmpty (c_X3_isEmpty) dX6_act_15 rfl rfl Nat.zero_lt_one rfl (by decide) (by decide) (st8 rfl) ?_
  refine v_if_eq 24 dX6_act_18 (by decide) (fun h_18 => absurd h_18 (by rw [if_pos hP]; decide)) (fun h_18 => ?_)
  refine v_bipush (-3) dX6_act_21 (by decide) ?_
  exact v_iret dX6_act_23 ⟨rfl, rfl⟩
set_option maxHeartbeats 4000000 in
set_option maxRecDepth 100000 in
theorem c_X6_act_ok {a b : tH} {j p z : Nat} {x : Int32} (hj : j ≤ 16) (hg : ¬ gk j x = 0) (hP : a.1 1 0 3 = nI (p + 1)) (h12 : p < 12) (hz : a.1 2 0 p = nI z) (h20 : z ≤ 20) : Ci yX6_act cX6_act 3 .int 2 [.inr (some (0, 0)), .inl (nI j), .inl x] (mix a b) (if z < 20 then nI (z + 1) else (-4)) (mix (if z < 20 then put (put (put a 4 p z (nI j)) 6 p z x) 2 0 p (nI (z + 1)) else a) b) := by
  refine Ct.of (by decide) [_, _, _] rfl (Nat.le_of_ble_eq_true rfl) ?_
  refine v_iload_n dX6_act_0 rfl ?_
  refine v_iload_n dX6_act_1 rfl ?_
  refine v_calls2i lX6_29 kX6_fits (c_X6_fits hj) dX6_act_2 rfl (by decide) (by decide) (st8 rfl) ?_
  refine v_if_ne 11 dX6_act_5 (by decide) (fun h_5 => ?_) (fun h_5 => absurd h_5 hg)
  refine v_aload_n dX6_act_11 rfl ?_
  refine v_gr 0 fX6_10 dX6_act_12 rfl rfl rfl Nat.zero_lt_one ?_
  refine v_call0i lX6_33 kX3_isEmpty (c_X3_isEmpty) dX6_act_15 rfl rfl Nat.zero_lt_one rfl (by decide) (by decide) (st8 rfl) ?_
  refine v_if_eq 24 dX6_act_18 (by decide) (fun h_18 => ?_) (fun h_18 => absurd (by rw [if_neg (by rw [hP]; exact nI_ne0 (by omega) (by omega))]) h_18)
  refine v_aload_n dX6_act_24 rfl ?_
  refine v_gr 0 fX6_10 dX6_act_25 rfl rfl rfl Nat.zero_lt_one ?_
  refine v_iload_n dX6_act_28 rfl ?_
  refine v_iload_n dX6_act_29 rfl ?_
  refine v_call2i lX6_37 kX3_addAct (c_X3_addAct hP h12 hz h20) dX6_act_30 rfl rfl Nat.zero_lt_one rfl (by decide) (by decide) (st8 rfl) ?_
  exact v_iret dX6_act_33 ⟨rfl, rfl⟩
set_option maxHeartbeats 4000000 in
set_option maxRecDepth 100000 in
theorem c_X5_start {a b : tH} {p P : Nat} {q r : Int32} (hP : a.1 1 0 3 = nI P) (h12 : P ≤ 12) (hp : p < P) (hN : a.1 7 0 0 = nI 0) : Cn yX5_start cX5_start 5 2 [.inr (some (18, 0)), .inl (nI p), .inl q, .inl r] (mix a b) (mix (xBegin a (nI p) q r) b) := by
  refine Ct.of (by decide) [_, _, _, _, _] rfl (Nat.le_of_ble_eq_true rfl) ?_
  refine v_aload_n dX5_start_0 rfl ?_
  refine v_gr 0 fX5_20 dX5_start_1 rfl rfl rfl Nat.zero_lt_one ?_
  refine v_call0n lX5_71 kX2_clear (c_X2_clear) dX5_start_4 rfl rfl Nat.zero_lt_one rfl (by decide) (by decide) (st8 rfl) ?_
  refine v_aload_n dX5_start_7 rfl ?_
  refine v_gr 0 fX5_34 dX5_start_8 rfl rfl rfl Nat.zero_lt_one ?_
  refine v_call0n lX5_74 kX4_clear (c_X4_clear) dX5_start_11 rfl rfl Nat.zero_lt_one rfl (by decide) (by decide) (st8 rfl) ?_
  refine v_iconst 0 dX5_start_14 (by decide) ?_
  refine v_istore [_, _, _, _, _] dX5_start_15 rfl (by decide) ?_
  refine v_iload dX5_start_17 rfl ?_
  refine v_bipush 8 dX5_start_19 (by decide) ?_
  refine v_icmp_ge 39 dX5_start_21 (by decide) (fun h_21 => absurd h_21 (by decide)) (fun h_21 => ?_)
  refine v_aload_n dX5_start_24 rfl ?_
  refine v_gr 0 fX5_27 dX5_start_25 rfl rfl rfl Nat.zero_lt_one ?_
  refine v_iload dX5_start_28 rfl ?_
  refine v_call1n lX5_75 kX0_empty (c_X0_empty (k := 0) (by decide)) dX5_start_30 rfl rfl Nat.zero_lt_one rfl (by decide) (by decide) (st8 rfl) ?_
  refine v_iinc [_, _, _, _, _] dX5_start_33 rfl (by first | exact inc1 _ | rfl) rfl (by decide) ?_
  refine v_goto 17 dX5_start_36 (by decide) ?_
  refine v_iload dX5_start_17 rfl ?_
  refine v_bipush 8 dX5_start_19 (by decide) ?_
  refine v_icmp_ge 39 dX5_start_21 (by decide) (fun h_21_1 => absurd h_21_1 (by decide)) (fun h_21_1 => ?_)
  refine v_aload_n dX5_start_24 rfl ?_
  refine v_gr 0 fX5_27 dX5_start_25 rfl rfl rfl Nat.zero_lt_one ?_
  refine v_iload dX5_start_28 rfl ?_
  refine v_call1n lX5_75 kX0_empty (c_X0_empty (k := 1) (by decide)) dX5_start_30 rfl rfl Nat.zero_lt_one rfl (by decide) (by decide) (st8 rfl) ?_
  refine v_iinc [_, _, _, _, _] dX5_start_33 rfl (by first | exact inc1 _ | rfl) rfl (by decide) ?_
  refine v_goto 17 dX5_start_36 (by decide) ?_
  refine v_iload dX5_start_17 rfl ?_
  refine v_bipush 8 dX5_start_19 (by decide) ?_
  refine v_icmp_ge 39 dX5_start_21 (by decide) (fun h_21_2 => absurd h_21_2 (by decide)) (fun h_21_2 => ?_)
  refine v_aload_n dX5_start_24 rfl ?_
  refine v_gr 0 fX5_27 dX5_start_25 rfl rfl rfl Nat.zero_lt_one ?_
  refine v_iload dX5_start_28 rfl ?_
  refine v_call1n lX5_75 kX0_empty (c_X0_empty (k := 2) (by decide)) dX5_start_30 rfl rfl Nat.zero_lt_one rfl (by decide) (by decide) (st8 rfl) ?_
  refine v_iinc [_, _, _, _, _] dX5_start_33 rfl (by first | exact inc1 _ | rfl) rfl (by decide) ?_
  refine v_goto 17 dX5_start_36 (by decide) ?_
  refine v_iload dX5_start_17 rfl ?_
  refine v_bipush 8 dX5_start_19 (by decide) ?_
  refine v_icmp_ge 39 dX5_start_21 (by decide) (fun h_21_3 => absurd h_21_3 (by decide)) (fun h_21_3 => ?_)
  refine v_aload_n dX5_start_24 rfl ?_
  refine v_gr 0 fX5_27 dX5_start_25 rfl rfl rfl Nat.zero_lt_one ?_
  refine v_iload dX5_start_28 rfl ?_
  refine v_call1n lX5_75 kX0_empty (c_X0_empty (k := 3) (by decide)) dX5_start_30 rfl rfl Nat.zero_lt_one rfl (by decide) (by decide) (st8 rfl) ?_
  refine v_iinc [_, _, _, _, _] dX5_start_33 rfl (by first | exact inc1 _ | rfl) rfl (by decide) ?_
  refine v_goto 17 dX5_start_36 (by decide) ?_
  refine v_iload dX5_start_17 rfl ?_
  refine v_bipush 8 dX5_start_19 (by decide) ?_
  refine v_icmp_ge 39 dX5_start_21 (by decide) (fun h_21_4 => absurd h_21_4 (by decide)) (fun h_21_4 => ?_)
  refine v_aload_n dX5_start_24 rfl ?_
  refine v_gr 0 fX5_27 dX5_start_25 rfl rfl rfl Nat.zero_lt_one ?_
  refine v_iload dX5_start_28 rfl ?_
  refine v_call1n lX5_75 kX0_empty (c_X0_empty (k := 4) (by decide)) dX5_start_30 rfl rfl Nat.zero_lt_one rfl (by decide) (by decide) (st8 rfl) ?_
  refine v_iinc [_, _, _, _, _] dX5_start_33 rfl (by first | exact inc1 _ | rfl) rfl (by decide) ?_
  refine v_goto 17 dX5_start_36 (by decide) ?_
  refine v_iload dX5_start_17 rfl ?_
  refine v_bipush 8 dX5_start_19 (by decide) ?_
  refine v_icmp_ge 39 dX5_start_21 (by decide) (fun h_21_5 => absurd h_21_5 (by decide)) (fun h_21_5 => ?_)
  refine v_aload_n dX5_start_24 rfl ?_
  refine v_gr 0 fX5_27 dX5_start_25 rfl rfl rfl Nat.zero_lt_one ?_
  refine v_iload dX5_start_28 rfl ?_
  refine v_call1n lX5_75 kX0_empty (c_X0_empty (k := 5) (by decide)) dX5_start_30 rfl rfl Nat.zero_lt_one rfl (by decide) (by decide) (st8 rfl) ?_
  refine v_iinc [_, _, _, _, _] dX5_start_33 rfl (by first | exact inc1 _ | rfl) rfl (by decide) ?_
  refine v_goto 17 dX5_start_36 (by decide) ?_
  refine v_iload dX5_start_17 rfl ?_
  refine v_bipush 8 dX5_start_19 (by decide) ?_
  refine v_icmp_ge 39 dX5_start_21 (by decide) (fun h_21_6 => absurd h_21_6 (by decide)) (fun h_21_6 => ?_)
  refine v_aload_n dX5_start_24 rfl ?_
  refine v_gr 0 fX5_27 dX5_start_25 rfl rfl rfl Nat.zero_lt_one ?_
  refine v_iload dX5_start_28 rfl ?_
  refine v_call1n lX5_75 kX0_empty (c_X0_empty (k := 6) (by decide)) dX5_start_30 rfl rfl Nat.zero_lt_one rfl (by decide) (by decide) (st8 rfl) ?_
  refine v_iinc [_, _, _, _, _] dX5_start_33 rfl (by first | exact inc1 _ | rfl) rfl (by decide) ?_
  refine v_goto 17 dX5_start_36 (by decide) ?_
  refine v_iload dX5_start_17 rfl ?_
  refine v_bipush 8 dX5_start_19 (by decide) ?_
  refine v_icmp_ge 39 dX5_start_21 (by decide) (fun h_21_7 => absurd h_21_7 (by decide)) (fun h_21_7 => ?_)
  refine v_aload_n dX5_start_24 rfl ?_
  refine v_gr 0 fX5_27 dX5_start_25 rfl rfl rfl Nat.zero_lt_one ?_
  refine v_iload dX5_start_28 rfl ?_
  refine v_call1n lX5_75 kX0_empty (c_X0_empty (k := 7) (by decide)) dX5_start_30 rfl rfl Nat.zero_lt_one rfl (by decide) (by decide) (st8 rfl) ?_
  refine v_iinc [_, _, _, _, _] dX5_start_33 rfl (by first | exact inc1 _ | rfl) rfl (by decide) ?_
  refine v_goto 17 dX5_start_36 (by decide) ?_
  refine v_iload dX5_start_17 rfl ?_
  refine v_bipush 8 dX5_start_19 (by decide) ?_
  refine v_icmp_ge 39 dX5_start_21 (by decide) (fun h_21_8 => ?_) (fun h_21_8 => absurd (by decide) h_21_8)
  refine v_aload_n dX5_start_39 rfl ?_
  refine v_iconst 0 dX5_start_40 (by decide) ?_
  refine x_pi (by decide) fX5_38 dX5_start_41 rfl rfl Nat.zero_lt_one ?_
  refine v_aload_n dX5_start_44 rfl ?_
  refine v_iconst 1 dX5_start_45 (by decide) ?_
  refine x_pz (by decide) fX5_42 dX5_start_46 rfl rfl Nat.zero_lt_one (by decide) ?_
  refine v_aload_n dX5_start_49 rfl ?_
  refine v_iconst 0 dX5_start_50 (by decide) ?_
  refine x_pz (by decide) fX5_46 dX5_start_51 rfl rfl Nat.zero_lt_one (by decide) ?_
  refine v_aload_n dX5_start_54 rfl ?_
  refine v_iload_n dX5_start_55 rfl ?_
  refine x_pi (by decide) fX5_49 dX5_start_56 rfl rfl Nat.zero_lt_one ?_
  refine v_aload_n dX5_start_59 rfl ?_
  refine v_iconst 0 dX5_start_60 (by decide) ?_
  refine x_pi (by decide) fX5_52 dX5_start_61 rfl rfl Nat.zero_lt_one ?_
  refine v_aload_n dX5_start_64 rfl ?_
  refine v_iconst 0 dX5_start_65 (by decide) ?_
  refine x_pi (by decide) fX5_55 dX5_start_66 rfl rfl Nat.zero_lt_one ?_
  refine v_aload_n dX5_start_69 rfl ?_
  refine v_iconst 0 dX5_start_70 (by decide) ?_
  refine x_pi (by decide) fX5_58 dX5_start_71 rfl rfl Nat.zero_lt_one ?_
  refine v_aload_n dX5_start_74 rfl ?_
  refine v_iconst 0 dX5_start_75 (by decide) ?_
  refine x_pi (by decide) fX5_61 dX5_start_76 rfl rfl Nat.zero_lt_one ?_
  refine v_aload_n dX5_start_79 rfl ?_
  refine v_iload_n dX5_start_80 rfl ?_
  refine v_iload_n dX5_start_81 rfl ?_
  refine v_call2i lX5_78 kX5_startFiber (c_X5_startFiber_ok (T := 0) (q := 0) (P := P) (by exact hP) h12 hp (by exact rfl) (by decide) (by exact rfl) (by decide) (by exact hN)) dX5_start_82 rfl rfl Nat.zero_lt_one rfl (by decide) (by decide) (st8 rfl) ?_
  refine v_pop dX5_start_85 ?_
  exact v_vret dX5_start_86 ⟨rfl, rfl⟩
set_option maxHeartbeats 4000000 in
set_option maxRecDepth 100000 in
theorem c_X6_begin1 {a b : tH} {p q r : Int32} (hp : p < 0 ∨ a.1 1 0 3 ≤ p) : Ci yX6_begin cX6_begin 4 .int 3 [.inr (some (0, 0)), .inl p, .inl q, .inl r] (mix a b) ((-1)) (mix (a) b) := by
  refine Ct.of (by decide) [_, _, _, _] rfl (Nat.le_of_ble_eq_true rfl) ?_
  refine v_aload_n dX6_begin_0 rfl ?_
  refine v_gr 0 fX6_10 dX6_begin_1 rfl rfl rfl Nat.zero_lt_one ?_
  refine v_iload_n dX6_begin_4 rfl ?_
  refine v_call1i lX6_41 kX3_has (c_X3_has) dX6_begin_5 rfl rfl Nat.zero_lt_one rfl (by decide) (by decide) (st8 rfl) ?_
  refine v_if_ne 13 dX6_begin_8 (by decide) (fun h_8 => absurd (by rw [i001]; exact hp) h_8) (fun h_8 => ?_)
  refine v_iconst (-1) dX6_begin_11 (by decide) ?_
  exact v_iret dX6_begin_12 ⟨rfl, rfl⟩
set_option maxHeartbeats 4000000 in
set_option maxRecDepth 100000 in
theorem c_X6_begin2 {a b : tH} {p P : Nat} {q r : Int32} (hP : a.1 1 0 3 = nI P) (h12 : P ≤ 12) (hp : p < P) (hq : q < 1 ∨ 10 < q) : Ci yX6_begin cX6_begin 4 .int 3 [.inr (some (0, 0)), .inl (nI p), .inl q, .inl r] (mix a b) ((-2)) (mix (a) b) := by
  refine Ct.of (by decide) [_, _, _, _] rfl (Nat.le_of_ble_eq_true rfl) ?_
  refine v_aload_n dX6_begin_0 rfl ?_
  refine v_gr 0 fX6_10 dX6_begin_1 rfl rfl rfl Nat.zero_lt_one ?_
  refine v_iload_n dX6_begin_4 rfl ?_
  refine v_call1i lX6_41 kX3_has (c_X3_has_in hP hp h12) dX6_begin_5 rfl rfl Nat.zero_lt_one rfl (by decide) (by decide) (st8 rfl) ?_
  refine v_if_ne 13 dX6_begin_8 (by decide) (fun h_8 => ?_) (fun h_8 => absurd h_8 n10)
  refine v_iload_n dX6_begin_13 rfl ?_
  refine v_iconst 1 dX6_begin_14 (by decide) ?_
  refine v_icmp_lt 24 dX6_begin_15 (by decide) (fun h_15 => ?_) (fun h_15 => ?_)
  · refine v_bipush (-2) dX6_begin_24 (by decide) ?_
    exact v_iret dX6_begin_26 ⟨rfl, rfl⟩
  · refine v_iload_n dX6_begin_18 rfl ?_
    refine v_bipush 10 dX6_begin_19 (by decide) ?_
    refine v_icmp_le 27 dX6_begin_21 (by decide) (fun h_21 => hq.elim (fun z => absurd z h_15) (fun z => absurd h_21 (Int32.not_le.mpr z))) (fun h_21 => ?_)
    refine v_bipush (-2) dX6_begin_24 (by decide) ?_
    exact v_iret dX6_begin_26 ⟨rfl, rfl⟩
set_option maxHeartbeats 4000000 in
set_option maxRecDepth 100000 in
theorem c_X6_begin_ok {a b : tH} {p P : Nat} {q r : Int32} (hP : a.1 1 0 3 = nI P) (h12 : P ≤ 12) (hp : p < P) (hq : ¬ (q < 1 ∨ 10 < q)) (hN : a.1 7 0 0 = nI 0) : Ci yX6_begin cX6_begin 4 .int 3 [.inr (some (0, 0)), .inl (nI p), .inl q, .inl r] (mix a b) (1) (mix (xBegin a (nI p) q r) b) := by
  refine Ct.of (by decide) [_, _, _, _] rfl (Nat.le_of_ble_eq_true rfl) ?_
  refine v_aload_n dX6_begin_0 rfl ?_
  refine v_gr 0 fX6_10 dX6_begin_1 rfl rfl rfl Nat.zero_lt_one ?_
  refine v_iload_n dX6_begin_4 rfl ?_
  refine v_call1i lX6_41 kX3_has (c_X3_has_in hP hp h12) dX6_begin_5 rfl rfl Nat.zero_lt_one rfl (by decide) (by decide) (st8 rfl) ?_
  refine v_if_ne 13 dX6_begin_8 (by decide) (fun h_8 => ?_) (fun h_8 => absurd h_8 n10)
  refine v_iload_n dX6_begin_13 rfl ?_
  refine v_iconst 1 dX6_begin_14 (by decide) ?_
  refine v_icmp_lt 24 dX6_begin_15 (by decide) (fun h_15 => absurd (Or.inl h_15) hq) (fun h_15 => ?_)
  refine v_iload_n dX6_begin_18 rfl ?_
  refine v_bipush 10 dX6_begin_19 (by decide) ?_
  refine v_icmp_le 27 dX6_begin_21 (by decide) (fun h_21 => ?_) (fun h_21 => absurd (Or.inr (Int32.not_le.mp h_21)) hq)
  refine v_aload_n dX6_begin_27 rfl ?_
  refine v_gr 0 fX6_21 dX6_begin_28 rfl rfl rfl Nat.zero_lt_one ?_
  refine v_iload_n dX6_begin_31 rfl ?_
  refine v_iload_n dX6_begin_32 rfl ?_
  refine v_iload_n dX6_begin_33 rfl ?_
  refine v_call3n lX6_45 kX5_start (c_X5_start hP h12 hp hN) dX6_begin_34 rfl rfl Nat.zero_lt_one rfl (by decide) (by decide) (st8 rfl) ?_
  refine v_iconst 1 dX6_begin_37 (by decide) ?_
  exact v_iret dX6_begin_38 ⟨rfl, rfl⟩
set_option maxHeartbeats 4000000 in
set_option maxRecDepth 100000 in
theorem c_X6_fill1 {a b : tH} {x v : Int32} (hx : x < 0 ∨ 8 ≤ x) : Ci yX6_fill cX6_fill 3 .int 3 [.inr (some (0, 0)), .inl x, .inl v] (mix a b) ((-1)) (mix (a) b) := by
  refine Ct.of (by decide) [_, _, _] rfl (Nat.le_of_ble_eq_true rfl) ?_
  refine v_aload_n dX6_fill_0 rfl ?_
  refine v_gr 0 fX6_21 dX6_fill_1 rfl rfl rfl Nat.zero_lt_one ?_
  refine v_gr 0 fX6_49 dX6_fill_4 rfl rfl rfl Nat.zero_lt_one ?_
  refine v_iload_n dX6_fill_7 rfl ?_
  refine v_call1i lX6_53 kX0_has (c_X0_has) dX6_fill_8 rfl rfl Nat.zero_lt_one rfl (by decide) (by decide) (st8 rfl) ?_
  refine v_if_ne 16 dX6_fill_11 (by decide) (fun h_11 => absurd (by rw [i001]; exact hx) h_11) (fun h_11 => ?_)
  refine v_iconst (-1) dX6_fill_14 (by decide) ?_
  exact v_iret dX6_fill_15 ⟨rfl, rfl⟩
set_option maxHeartbeats 4000000 in
set_option maxRecDepth 100000 in
theorem c_X6_fill3 {a b : tH} {x : Nat} {v : Int32} (hx : x < 8) (hr : a.1 18 0 6 = 0 ∨ ¬ a.1 18 0 7 = 0 ∨ ¬ a.1 13 0 x = 0) : Ci yX6_fill cX6_fill 3 .int 3 [.inr (some (0, 0)), .inl (nI x), .inl v] (mix a b) ((-3)) (mix (a) b) := by
  refine Ct.of (by decide) [_, _, _] rfl (Nat.le_of_ble_eq_true rfl) ?_
  refine v_aload_n dX6_fill_0 rfl ?_
  refine v_gr 0 fX6_21 dX6_fill_1 rfl rfl rfl Nat.zero_lt_one ?_
  refine v_gr 0 fX6_49 dX6_fill_4 rfl rfl rfl Nat.zero_lt_one ?_
  refine v_iload_n dX6_fill_7 rfl ?_
  refine v_call1i lX6_53 kX0_has (c_X0_has_in hx) dX6_fill_8 rfl rfl Nat.zero_lt_one rfl (by decide) (by decide) (st8 rfl) ?_
  refine v_if_ne 16 dX6_fill_11 (by decide) (fun h_11 => ?_) (fun h_11 => absurd h_11 n10)
  refine v_aload_n dX6_fill_16 rfl ?_
  refine v_gr 0 fX6_21 dX6_fill_17 rfl rfl rfl Nat.zero_lt_one ?_
  refine x_gi (by decide) fX6_56 dX6_fill_20 rfl rfl Nat.zero_lt_one ?_
  refine v_if_eq 50 dX6_fill_23 (by decide) (fun h_23 => ?_) (fun h_23 => ?_)
  · refine v_bipush (-3) dX6_fill_50 (by decide) ?_
    exact v_iret dX6_fill_52 ⟨rfl, rfl⟩
  · refine v_aload_n dX6_fill_26 rfl ?_
    refine v_gr 0 fX6_21 dX6_fill_27 rfl rfl rfl Nat.zero_lt_one ?_
    refine x_gi (by decide) fX6_60 dX6_fill_30 rfl rfl Nat.zero_lt_one ?_
    refine v_if_ne 50 dX6_fill_33 (by decide) (fun h_33 => ?_) (fun h_33 => ?_)
    · refine v_bipush (-3) dX6_fill_50 (by decide) ?_
      exact v_iret dX6_fill_52 ⟨rfl, rfl⟩
    · refine v_aload_n dX6_fill_36 rfl ?_
      refine v_gr 0 fX6_21 dX6_fill_37 rfl rfl rfl Nat.zero_lt_one ?_
      refine v_gr 0 fX6_49 dX6_fill_40 rfl rfl rfl Nat.zero_lt_one ?_
      refine v_iload_n dX6_fill_43 rfl ?_
      refine v_call1i lX6_63 kX0_isFull (c_X0_isFull hx) dX6_fill_44 rfl rfl Nat.zero_lt_one rfl (by decide) (by decide) (st8 rfl) ?_
      refine v_if_eq 53 dX6_fill_47 (by decide) (fun h_47 => hr.elim (fun z => absurd z h_23) (fun z => z.elim (fun y => absurd h_33 y) (fun y => by rw [i01] at h_47; exact absurd h_47 y))) (fun h_47 => ?_)
      refine v_bipush (-3) dX6_fill_50 (by decide) ?_
      exact v_iret dX6_fill_52 ⟨rfl, rfl⟩
set_option maxHeartbeats 4000000 in
set_option maxRecDepth 100000 in
theorem c_X6_fill_ok {a b : tH} {x : Nat} {v : Int32} (hx : x < 8) {T : Nat} {ρ : Option Nat} {L : List Nat} (Z : XQ a ρ T L) (hρ : ∀ r, ρ = some r → a.1 7 r 3 = 0) (hh : ¬ a.1 18 0 6 = 0) (ho : a.1 18 0 7 = 0) (hf : a.1 13 0 x = 0) : Ci yX6_fill cX6_fill 3 .int 3 [.inr (some (0, 0)), .inl (nI x), .inl v] (mix a b) (1) (mix (xBring a T x v) b) := by
  refine Ct.of (by decide) [_, _, _] rfl (Nat.le_of_ble_eq_true rfl) ?_
  refine v_aload_n dX6_fill_0 rfl ?_
  refine v_gr 0 fX6_21 dX6_fill_1 rfl rfl rfl Nat.zero_lt_one ?_
  refine v_gr 0 fX6_49 dX6_fill_4 rfl rfl rfl Nat.zero_lt_one ?_
  refine v_iload_n dX6_fill_7 rfl ?_
  refine v_call1i lX6_53 kX0_has (c_X0_has_in hx) dX6_fill_8 rfl rfl Nat.zero_lt_one rfl (by decide) (by decide) (st8 rfl) ?_
  refine v_if_ne 16 dX6_fill_11 (by decide) (fun h_11 => ?_) (fun h_11 => absurd h_11 n10)
  refine v_aload_n dX6_fill_16 rfl ?_
  refine v_gr 0 fX6_21 dX6_fill_17 rfl rfl rfl Nat.zero_lt_one ?_
  refine x_gi (by decide) fX6_56 dX6_fill_20 rfl rfl Nat.zero_lt_one ?_
  refine v_if_eq 50 dX6_fill_23 (by decide) (fun h_23 => absurd h_23 hh) (fun h_23 => ?_)
  refine v_aload_n dX6_fill_26 rfl ?_
  refine v_gr 0 fX6_21 dX6_fill_27 rfl rfl rfl Nat.zero_lt_one ?_
  refine x_gk ho (by decide) fX6_60 dX6_fill_30 rfl rfl Nat.zero_lt_one ?_
  refine v_if_ne 50 dX6_fill_33 (by decide) (fun h_33 => absurd rfl h_33) (fun h_33 => ?_)
  refine v_aload_n dX6_fill_36 rfl ?_
  refine v_gr 0 fX6_21 dX6_fill_37 rfl rfl rfl Nat.zero_lt_one ?_
  refine v_gr 0 fX6_49 dX6_fill_40 rfl rfl rfl Nat.zero_lt_one ?_
  refine v_iload_n dX6_fill_43 rfl ?_
  refine v_call1i lX6_63 kX0_isFull (c_X0_isFull hx) dX6_fill_44 rfl rfl Nat.zero_lt_one rfl (by decide) (by decide) (st8 rfl) ?_
  refine v_if_eq 53 dX6_fill_47 (by decide) (fun h_47 => ?_) (fun h_47 => absurd (by rw [i01]; exact hf) h_47)
  refine v_aload_n dX6_fill_53 rfl ?_
  refine v_gr 0 fX6_21 dX6_fill_54 rfl rfl rfl Nat.zero_lt_one ?_
  refine v_iload_n dX6_fill_57 rfl ?_
  refine v_iload_n dX6_fill_58 rfl ?_
  refine v_call2n lX6_66 kX5_bring (c_X5_bring (T := T) hx Z hρ) dX6_fill_59 rfl rfl Nat.zero_lt_one rfl (by decide) (by decide) (st8 rfl) ?_
  refine v_iconst 1 dX6_fill_62 (by decide) ?_
  exact v_iret dX6_fill_63 ⟨rfl, rfl⟩
set_option maxHeartbeats 4000000 in
set_option maxRecDepth 100000 in
theorem l_X6_step {b : tH} {n : Nat} (h500 : n ≤ 500) : ∀ (m d : Nat) (a : tH), n = d + m → SXn m a → Vw yX6_step.cls cX6_step 3 (some .int) 6 (fun r h' => r = some (.inl (nI (xStepL m d a).1)) ∧ h' = mix (xStepL m d a).2 b) 48 [some (.inr (some (0, 0))), some (.inl (nI n)), some (.inl (nI d))] [] (mix a b) := by
  intro m
  induction m with
  | zero =>
    intro d a hd S
    obtain rfl : n = d := hd
    refine v_iload_n dX6_step_48 rfl ?_
    refine v_iload_n dX6_step_49 rfl ?_
    refine v_icmp_ge 71 dX6_step_50 (by decide) (fun h_50 => ?_) (fun h_50 => absurd (Int32.le_refl _) h_50)
    refine v_iload_n dX6_step_71 rfl ?_
    exact v_iret dX6_step_72 ⟨rfl, rfl⟩
  | succ m ih =>
    intro d a hd S
    refine v_iload_n dX6_step_48 rfl ?_
    refine v_iload_n dX6_step_49 rfl ?_
    refine v_icmp_ge 71 dX6_step_50 (by decide) (fun h_50 => absurd h_50 (nI_ge (by omega) (by omega))) (fun h_50 => ?_)
    refine v_aload_n dX6_step_53 rfl ?_
    refine v_gr 0 fX6_21 dX6_step_54 rfl rfl rfl Nat.zero_lt_one ?_
    refine v_call0i lX6_74 kX5_takeTurn (S.1 b) dX6_step_57 rfl rfl Nat.zero_lt_one rfl (by decide) (by decide) (st8 rfl) ?_
    refine v_if_ne 65 dX6_step_60 (by decide) (fun h_60 => ?_) (fun h_60 => ?_)
    · have e1 : xStepL (m + 1) d a = xStepL m (d + 1) (xTurn a).2 := if_neg h_60
      rw [e1]
      refine v_iinc [_, _, _] dX6_step_65 rfl (by first | exact inc1 _ | rfl) rfl (by decide) ?_
      refine v_goto 48 dX6_step_68 (by decide) ?_
      exact ih (d + 1) (xTurn a).2 (by omega) (S.2 h_60)
    · have e1 : xStepL (m + 1) d a = (d, (xTurn a).2) := if_pos h_60
      rw [e1]
      refine v_iload_n dX6_step_63 rfl ?_
      exact v_iret dX6_step_64 ⟨rfl, rfl⟩
set_option maxHeartbeats 4000000 in
set_option maxRecDepth 100000 in
theorem c_X6_step2 {a b : tH} {n : Int32} (hn : n < 1 ∨ 500 < n) : Ci yX6_step cX6_step 3 .int 6 [.inr (some (0, 0)), .inl n] (mix a b) ((-2)) (mix (a) b) := by
  refine Ct.of (by decide) [_, _, _] rfl (Nat.le_of_ble_eq_true rfl) ?_
  refine v_iload_n dX6_step_0 rfl ?_
  refine v_iconst 1 dX6_step_1 (by decide) ?_
  refine v_icmp_lt 12 dX6_step_2 (by decide) (fun h_2 => ?_) (fun h_2 => ?_)
  · refine v_bipush (-2) dX6_step_12 (by decide) ?_
    exact v_iret dX6_step_14 ⟨rfl, rfl⟩
  · refine v_iload_n dX6_step_5 rfl ?_
    refine v_sipush 500 dX6_step_6 (by decide) ?_
    refine v_icmp_le 15 dX6_step_9 (by decide) (fun h_9 => hn.elim (fun z => absurd z h_2) (fun z => absurd h_9 (Int32.not_le.mpr z))) (fun h_9 => ?_)
    refine v_bipush (-2) dX6_step_12 (by decide) ?_
    exact v_iret dX6_step_14 ⟨rfl, rfl⟩
set_option maxHeartbeats 4000000 in
set_option maxRecDepth 100000 in
theorem c_X6_step3 {a b : tH} {n : Nat} (h1 : 1 ≤ n) (h500 : n ≤ 500) (hh : a.1 18 0 6 = 0) : Ci yX6_step cX6_step 3 .int 6 [.inr (some (0, 0)), .inl (nI n)] (mix a b) ((-3)) (mix (a) b) := by
  refine Ct.of (by decide) [_, _, _] rfl (Nat.le_of_ble_eq_true rfl) ?_
  refine v_iload_n dX6_step_0 rfl ?_
  refine v_iconst 1 dX6_step_1 (by decide) ?_
  refine v_icmp_lt 12 dX6_step_2 (by decide) (fun h_2 => absurd h_2 (nI_nlt (b := 1) h1 (by omega))) (fun h_2 => ?_)
  refine v_iload_n dX6_step_5 rfl ?_
  refine v_sipush 500 dX6_step_6 (by decide) ?_
  refine v_icmp_le 15 dX6_step_9 (by decide) (fun h_9 => ?_) (fun h_9 => absurd (nI_le (b := 500) h500 (by decide)) h_9)
  refine v_aload_n dX6_step_15 rfl ?_
  refine v_gr 0 fX6_21 dX6_step_16 rfl rfl rfl Nat.zero_lt_one ?_
  refine x_gk hh (by decide) fX6_56 dX6_step_19 rfl rfl Nat.zero_lt_one ?_
  refine v_if_ne 28 dX6_step_22 (by decide) (fun h_22 => absurd rfl h_22) (fun h_22 => ?_)
  refine v_bipush (-3) dX6_step_25 (by decide) ?_
  exact v_iret dX6_step_27 ⟨rfl, rfl⟩
set_option maxHeartbeats 4000000 in
set_option maxRecDepth 100000 in
theorem c_X6_step4 {a b : tH} {n : Nat} (h1 : 1 ≤ n) (h500 : n ≤ 500) {N : Nat} (hh : ¬ a.1 18 0 6 = 0) (hN : a.1 18 0 10 = nI N) (hN2 : N < 2 ^ 30) (h3 : 3000 < N + n) : Ci yX6_step cX6_step 3 .int 6 [.inr (some (0, 0)), .inl (nI n)] (mix a b) ((-4)) (mix (a) b) := by
  refine Ct.of (by decide) [_, _, _] rfl (Nat.le_of_ble_eq_true rfl) ?_
  refine v_iload_n dX6_step_0 rfl ?_
  refine v_iconst 1 dX6_step_1 (by decide) ?_
  refine v_icmp_lt 12 dX6_step_2 (by decide) (fun h_2 => absurd h_2 (nI_nlt (b := 1) h1 (by omega))) (fun h_2 => ?_)
  refine v_iload_n dX6_step_5 rfl ?_
  refine v_sipush 500 dX6_step_6 (by decide) ?_
  refine v_icmp_le 15 dX6_step_9 (by decide) (fun h_9 => ?_) (fun h_9 => absurd (nI_le (b := 500) h500 (by decide)) h_9)
  refine v_aload_n dX6_step_15 rfl ?_
  refine v_gr 0 fX6_21 dX6_step_16 rfl rfl rfl Nat.zero_lt_one ?_
  refine x_gi (by decide) fX6_56 dX6_step_19 rfl rfl Nat.zero_lt_one ?_
  refine v_if_ne 28 dX6_step_22 (by decide) (fun h_22 => ?_) (fun h_22 => absurd h_22 hh)
  refine v_aload_n dX6_step_28 rfl ?_
  refine v_gr 0 fX6_21 dX6_step_29 rfl rfl rfl Nat.zero_lt_one ?_
  refine x_gk hN (by decide) fX6_70 dX6_step_32 rfl rfl Nat.zero_lt_one ?_
  refine v_iload_n dX6_step_35 rfl ?_
  refine v_iadd dX6_step_36 ?_
  refine v_sipush 3000 dX6_step_37 (by decide) ?_
  rw [nI_add]
  refine v_icmp_le 46 dX6_step_40 (by decide) (fun h_40 => absurd h_40 (nI_ge (a := 3000) h3 (by omega))) (fun h_40 => ?_)
  refine v_bipush (-4) dX6_step_43 (by decide) ?_
  exact v_iret dX6_step_45 ⟨rfl, rfl⟩
set_option maxHeartbeats 4000000 in
set_option maxRecDepth 100000 in
theorem c_X6_step_ok {a b : tH} {n : Nat} (h1 : 1 ≤ n) (h500 : n ≤ 500) {N : Nat} (hh : ¬ a.1 18 0 6 = 0) (hN : a.1 18 0 10 = nI N) (h3 : N + n ≤ 3000) (S : SXn n a) : Ci yX6_step cX6_step 3 .int 6 [.inr (some (0, 0)), .inl (nI n)] (mix a b) (nI (xStepL n 0 a).1) (mix ((xStepL n 0 a).2) b) := by
  refine Ct.of (by decide) [_, _, _] rfl (Nat.le_of_ble_eq_true rfl) ?_
  refine v_iload_n dX6_step_0 rfl ?_
  refine v_iconst 1 dX6_step_1 (by decide) ?_
  refine v_icmp_lt 12 dX6_step_2 (by decide) (fun h_2 => absurd h_2 (nI_nlt (b := 1) h1 (by omega))) (fun h_2 => ?_)
  refine v_iload_n dX6_step_5 rfl ?_
  refine v_sipush 500 dX6_step_6 (by decide) ?_
  refine v_icmp_le 15 dX6_step_9 (by decide) (fun h_9 => ?_) (fun h_9 => absurd (nI_le (b := 500) h500 (by decide)) h_9)
  refine v_aload_n dX6_step_15 rfl ?_
  refine v_gr 0 fX6_21 dX6_step_16 rfl rfl rfl Nat.zero_lt_one ?_
  refine x_gi (by decide) fX6_56 dX6_step_19 rfl rfl Nat.zero_lt_one ?_
  refine v_if_ne 28 dX6_step_22 (by decide) (fun h_22 => ?_) (fun h_22 => absurd h_22 hh)
  refine v_aload_n dX6_step_28 rfl ?_
  refine v_gr 0 fX6_21 dX6_step_29 rfl rfl rfl Nat.zero_lt_one ?_
  refine x_gk hN (by decide) fX6_70 dX6_step_32 rfl rfl Nat.zero_lt_one ?_
  refine v_iload_n dX6_step_35 rfl ?_
  refine v_iadd dX6_step_36 ?_
  refine v_sipush 3000 dX6_step_37 (by decide) ?_
  rw [nI_add]
  refine v_icmp_le 46 dX6_step_40 (by decide) (fun h_40 => ?_) (fun h_40 => absurd (nI_le (b := 3000) h3 (by omega)) h_40)
  refine v_iconst 0 dX6_step_46 (by decide) ?_
  refine v_istore_n [_, _, _] dX6_step_47 rfl (by decide) ?_
  exact l_X6_step h500 n 0 a (by omega) S
set_option maxHeartbeats 4000000 in
set_option maxRecDepth 100000 in
theorem c_X6_told2 {a b : tH} {w : Int32} (hw : w < 0 ∨ 5 < w) : Ci yX6_told cX6_told 2 .int 1 [.inr (some (0, 0)), .inl w] (mix a b) ((-2)) (mix (a) b) := by
  refine Ct.of (by decide) [_, _] rfl (Nat.le_of_ble_eq_true rfl) ?_
  refine v_iload_n dX6_told_0 rfl ?_
  refine v_if_lt 9 dX6_told_1 (by decide) (fun h_1 => ?_) (fun h_1 => ?_)
  · refine v_bipush (-2) dX6_told_9 (by decide) ?_
    exact v_iret dX6_told_11 ⟨rfl, rfl⟩
  · refine v_iload_n dX6_told_4 rfl ?_
    refine v_iconst 5 dX6_told_5 (by decide) ?_
    refine v_icmp_le 12 dX6_told_6 (by decide) (fun h_6 => hw.elim (fun z => absurd z h_1) (fun z => absurd h_6 (Int32.not_le.mpr z))) (fun h_6 => ?_)
    refine v_bipush (-2) dX6_told_9 (by decide) ?_
    exact v_iret dX6_told_11 ⟨rfl, rfl⟩
set_option maxHeartbeats 4000000 in
set_option maxRecDepth 100000 in
theorem c_X6_told3_0 {a b : tH} (hh : a.1 18 0 6 = 0) : Ci yX6_told cX6_told 2 .int 1 [.inr (some (0, 0)), .inl 0] (mix a b) ((-3)) (mix (a) b) := by
  refine Ct.of (by decide) [_, _] rfl (Nat.le_of_ble_eq_true rfl) ?_
  refine v_iload_n dX6_told_0 rfl ?_
  refine v_if_lt 9 dX6_told_1 (by decide) (fun h_1 => absurd h_1 (by decide)) (fun h_1 => ?_)
  refine v_iload_n dX6_told_4 rfl ?_
  refine v_iconst 5 dX6_told_5 (by decide) ?_
  refine v_icmp_le 12 dX6_told_6 (by decide) (fun h_6 => ?_) (fun h_6 => absurd (by decide) h_6)
  refine v_aload_n dX6_told_12 rfl ?_
  refine v_gr 0 fX6_21 dX6_told_13 rfl rfl rfl Nat.zero_lt_one ?_
  refine x_gk hh (by decide) fX6_56 dX6_told_16 rfl rfl Nat.zero_lt_one ?_
  refine v_if_ne 25 dX6_told_19 (by decide) (fun h_19 => absurd rfl h_19) (fun h_19 => ?_)
  refine v_bipush (-3) dX6_told_22 (by decide) ?_
  exact v_iret dX6_told_24 ⟨rfl, rfl⟩
set_option maxHeartbeats 4000000 in
set_option maxRecDepth 100000 in
theorem c_X6_told_0 {a b : tH} (hh : ¬ a.1 18 0 6 = 0) : Ci yX6_told cX6_told 2 .int 1 [.inr (some (0, 0)), .inl 0] (mix a b) (if a.1 18 0 7 = 0 then 0 else 1) (mix (a) b) := by
  refine Ct.of (by decide) [_, _] rfl (Nat.le_of_ble_eq_true rfl) ?_
  refine v_iload_n dX6_told_0 rfl ?_
  refine v_if_lt 9 dX6_told_1 (by decide) (fun h_1 => absurd h_1 (by decide)) (fun h_1 => ?_)
  refine v_iload_n dX6_told_4 rfl ?_
  refine v_iconst 5 dX6_told_5 (by decide) ?_
  refine v_icmp_le 12 dX6_told_6 (by decide) (fun h_6 => ?_) (fun h_6 => absurd (by decide) h_6)
  refine v_aload_n dX6_told_12 rfl ?_
  refine v_gr 0 fX6_21 dX6_told_13 rfl rfl rfl Nat.zero_lt_one ?_
  refine x_gi (by decide) fX6_56 dX6_told_16 rfl rfl Nat.zero_lt_one ?_
  refine v_if_ne 25 dX6_told_19 (by decide) (fun h_19 => ?_) (fun h_19 => absurd h_19 hh)
  refine v_iload_n dX6_told_25 rfl ?_
  refine v_tsIn (off := 34) 60 0 dX6_told_26 rfl (by decide) (by decide) (by decide) (by decide) ?_
  refine v_aload_n dX6_told_60 rfl ?_
  refine v_gr 0 fX6_21 dX6_told_61 rfl rfl rfl Nat.zero_lt_one ?_
  refine x_gi (by decide) fX6_60 dX6_told_64 rfl rfl Nat.zero_lt_one ?_
  refine v_if_eq 74 dX6_told_67 (by decide) (fun h_67 => ?_) (fun h_67 => ?_)
  · refine v_iconst 0 dX6_told_74 (by decide) ?_
    exact v_iret dX6_told_75 ⟨by first | (rw [if_pos h_67]; done) | (rw [if_neg h_67]), rfl⟩
  · refine v_iconst 1 dX6_told_70 (by decide) ?_
    refine v_goto 75 dX6_told_71 (by decide) ?_
    exact v_iret dX6_told_75 ⟨by first | (rw [if_pos h_67]; done) | (rw [if_neg h_67]), rfl⟩
set_option maxHeartbeats 4000000 in
set_option maxRecDepth 100000 in
theorem c_X6_told3_1 {a b : tH} (hh : a.1 18 0 6 = 0) : Ci yX6_told cX6_told 2 .int 1 [.inr (some (0, 0)), .inl 1] (mix a b) ((-3)) (mix (a) b) := by
  refine Ct.of (by decide) [_, _] rfl (Nat.le_of_ble_eq_true rfl) ?_
  refine v_iload_n dX6_told_0 rfl ?_
  refine v_if_lt 9 dX6_told_1 (by decide) (fun h_1 => absurd h_1 (by decide)) (fun h_1 => ?_)
  refine v_iload_n dX6_told_4 rfl ?_
  refine v_iconst 5 dX6_told_5 (by decide) ?_
  refine v_icmp_le 12 dX6_told_6 (by decide) (fun h_6 => ?_) (fun h_6 => absurd (by decide) h_6)
  refine v_aload_n dX6_told_12 rfl ?_
  refine v_gr 0 fX6_21 dX6_told_13 rfl rfl rfl Nat.zero_lt_one ?_
  refine x_gk hh (by decide) fX6_56 dX6_told_16 rfl rfl Nat.zero_lt_one ?_
  refine v_if_ne 25 dX6_told_19 (by decide) (fun h_19 => absurd rfl h_19) (fun h_19 => ?_)
  refine v_bipush (-3) dX6_told_22 (by decide) ?_
  exact v_iret dX6_told_24 ⟨rfl, rfl⟩
set_option maxHeartbeats 4000000 in
set_option maxRecDepth 100000 in
theorem c_X6_told_1 {a b : tH} (hh : ¬ a.1 18 0 6 = 0) : Ci yX6_told cX6_told 2 .int 1 [.inr (some (0, 0)), .inl 1] (mix a b) (a.1 18 0 9) (mix (a) b) := by
  refine Ct.of (by decide) [_, _] rfl (Nat.le_of_ble_eq_true rfl) ?_
  refine v_iload_n dX6_told_0 rfl ?_
  refine v_if_lt 9 dX6_told_1 (by decide) (fun h_1 => absurd h_1 (by decide)) (fun h_1 => ?_)
  refine v_iload_n dX6_told_4 rfl ?_
  refine v_iconst 5 dX6_told_5 (by decide) ?_
  refine v_icmp_le 12 dX6_told_6 (by decide) (fun h_6 => ?_) (fun h_6 => absurd (by decide) h_6)
  refine v_aload_n dX6_told_12 rfl ?_
  refine v_gr 0 fX6_21 dX6_told_13 rfl rfl rfl Nat.zero_lt_one ?_
  refine x_gi (by decide) fX6_56 dX6_told_16 rfl rfl Nat.zero_lt_one ?_
  refine v_if_ne 25 dX6_told_19 (by decide) (fun h_19 => ?_) (fun h_19 => absurd h_19 hh)
  refine v_iload_n dX6_told_25 rfl ?_
  refine v_tsIn (off := 50) 76 1 dX6_told_26 rfl (by decide) (by decide) (by decide) (by decide) ?_
  refine v_aload_n dX6_told_76 rfl ?_
  refine v_gr 0 fX6_21 dX6_told_77 rfl rfl rfl Nat.zero_lt_one ?_
  refine x_gi (by decide) fX6_77 dX6_told_80 rfl rfl Nat.zero_lt_one ?_
  exact v_iret dX6_told_83 ⟨rfl, rfl⟩
set_option maxHeartbeats 4000000 in
set_option maxRecDepth 100000 in
theorem c_X6_told3_2 {a b : tH} (hh : a.1 18 0 6 = 0) : Ci yX6_told cX6_told 2 .int 1 [.inr (some (0, 0)), .inl 2] (mix a b) ((-3)) (mix (a) b) := by
  refine Ct.of (by decide) [_, _] rfl (Nat.le_of_ble_eq_true rfl) ?_
  refine v_iload_n dX6_told_0 rfl ?_
  refine v_if_lt 9 dX6_told_1 (by decide) (fun h_1 => absurd h_1 (by decide)) (fun h_1 => ?_)
  refine v_iload_n dX6_told_4 rfl ?_
  refine v_iconst 5 dX6_told_5 (by decide) ?_
  refine v_icmp_le 12 dX6_told_6 (by decide) (fun h_6 => ?_) (fun h_6 => absurd (by decide) h_6)
  refine v_aload_n dX6_told_12 rfl ?_
  refine v_gr 0 fX6_21 dX6_told_13 rfl rfl rfl Nat.zero_lt_one ?_
  refine x_gk hh (by decide) fX6_56 dX6_told_16 rfl rfl Nat.zero_lt_one ?_
  refine v_if_ne 25 dX6_told_19 (by decide) (fun h_19 => absurd rfl h_19) (fun h_19 => ?_)
  refine v_bipush (-3) dX6_told_22 (by decide) ?_
  exact v_iret dX6_told_24 ⟨rfl, rfl⟩
set_option maxHeartbeats 4000000 in
set_option maxRecDepth 100000 in
theorem c_X6_told_2 {a b : tH} (hh : ¬ a.1 18 0 6 = 0) : Ci yX6_told cX6_told 2 .int 1 [.inr (some (0, 0)), .inl 2] (mix a b) (a.1 18 0 10) (mix (a) b) := by
  refine Ct.of (by decide) [_, _] rfl (Nat.le_of_ble_eq_true rfl) ?_
  refine v_iload_n dX6_told_0 rfl ?_
  refine v_if_lt 9 dX6_told_1 (by decide) (fun h_1 => absurd h_1 (by decide)) (fun h_1 => ?_)
  refine v_iload_n dX6_told_4 rfl ?_
  refine v_iconst 5 dX6_told_5 (by decide) ?_
  refine v_icmp_le 12 dX6_told_6 (by decide) (fun h_6 => ?_) (fun h_6 => absurd (by decide) h_6)
  refine v_aload_n dX6_told_12 rfl ?_
  refine v_gr 0 fX6_21 dX6_told_13 rfl rfl rfl Nat.zero_lt_one ?_
  refine x_gi (by decide) fX6_56 dX6_told_16 rfl rfl Nat.zero_lt_one ?_
  refine v_if_ne 25 dX6_told_19 (by decide) (fun h_19 => ?_) (fun h_19 => absurd h_19 hh)
  refine v_iload_n dX6_told_25 rfl ?_
  refine v_tsIn (off := 58) 84 2 dX6_told_26 rfl (by decide) (by decide) (by decide) (by decide) ?_
  refine v_aload_n dX6_told_84 rfl ?_
  refine v_gr 0 fX6_21 dX6_told_85 rfl rfl rfl Nat.zero_lt_one ?_
  refine x_gi (by decide) fX6_70 dX6_told_88 rfl rfl Nat.zero_lt_one ?_
  exact v_iret dX6_told_91 ⟨rfl, rfl⟩
set_option maxHeartbeats 4000000 in
set_option maxRecDepth 100000 in
theorem c_X6_told3_3 {a b : tH} (hh : a.1 18 0 6 = 0) : Ci yX6_told cX6_told 2 .int 1 [.inr (some (0, 0)), .inl 3] (mix a b) ((-3)) (mix (a) b) := by
  refine Ct.of (by decide) [_, _] rfl (Nat.le_of_ble_eq_true rfl) ?_
  refine v_iload_n dX6_told_0 rfl ?_
  refine v_if_lt 9 dX6_told_1 (by decide) (fun h_1 => absurd h_1 (by decide)) (fun h_1 => ?_)
  refine v_iload_n dX6_told_4 rfl ?_
  refine v_iconst 5 dX6_told_5 (by decide) ?_
  refine v_icmp_le 12 dX6_told_6 (by decide) (fun h_6 => ?_) (fun h_6 => absurd (by decide) h_6)
  refine v_aload_n dX6_told_12 rfl ?_
  refine v_gr 0 fX6_21 dX6_told_13 rfl rfl rfl Nat.zero_lt_one ?_
  refine x_gk hh (by decide) fX6_56 dX6_told_16 rfl rfl Nat.zero_lt_one ?_
  refine v_if_ne 25 dX6_told_19 (by decide) (fun h_19 => absurd rfl h_19) (fun h_19 => ?_)
  refine v_bipush (-3) dX6_told_22 (by decide) ?_
  exact v_iret dX6_told_24 ⟨rfl, rfl⟩
set_option maxHeartbeats 4000000 in
set_option maxRecDepth 100000 in
theorem c_X6_told_3 {a b : tH} (hh : ¬ a.1 18 0 6 = 0) : Ci yX6_told cX6_told 2 .int 1 [.inr (some (0, 0)), .inl 3] (mix a b) (a.1 18 0 5) (mix (a) b) := by
  refine Ct.of (by decide) [_, _] rfl (Nat.le_of_ble_eq_true rfl) ?_
  refine v_iload_n dX6_told_0 rfl ?_
  refine v_if_lt 9 dX6_told_1 (by decide) (fun h_1 => absurd h_1 (by decide)) (fun h_1 => ?_)
  refine v_iload_n dX6_told_4 rfl ?_
  refine v_iconst 5 dX6_told_5 (by decide) ?_
  refine v_icmp_le 12 dX6_told_6 (by decide) (fun h_6 => ?_) (fun h_6 => absurd (by decide) h_6)
  refine v_aload_n dX6_told_12 rfl ?_
  refine v_gr 0 fX6_21 dX6_told_13 rfl rfl rfl Nat.zero_lt_one ?_
  refine x_gi (by decide) fX6_56 dX6_told_16 rfl rfl Nat.zero_lt_one ?_
  refine v_if_ne 25 dX6_told_19 (by decide) (fun h_19 => ?_) (fun h_19 => absurd h_19 hh)
  refine v_iload_n dX6_told_25 rfl ?_
  refine v_tsIn (off := 66) 92 3 dX6_told_26 rfl (by decide) (by decide) (by decide) (by decide) ?_
  refine v_aload_n dX6_told_92 rfl ?_
  refine v_gr 0 fX6_21 dX6_told_93 rfl rfl rfl Nat.zero_lt_one ?_
  refine x_gi (by decide) fX6_80 dX6_told_96 rfl rfl Nat.zero_lt_one ?_
  exact v_iret dX6_told_99 ⟨rfl, rfl⟩
set_option maxHeartbeats 4000000 in
set_option maxRecDepth 100000 in
theorem c_X6_told3_4 {a b : tH} (hh : a.1 18 0 6 = 0) : Ci yX6_told cX6_told 2 .int 1 [.inr (some (0, 0)), .inl 4] (mix a b) ((-3)) (mix (a) b) := by
  refine Ct.of (by decide) [_, _] rfl (Nat.le_of_ble_eq_true rfl) ?_
  refine v_iload_n dX6_told_0 rfl ?_
  refine v_if_lt 9 dX6_told_1 (by decide) (fun h_1 => absurd h_1 (by decide)) (fun h_1 => ?_)
  refine v_iload_n dX6_told_4 rfl ?_
  refine v_iconst 5 dX6_told_5 (by decide) ?_
  refine v_icmp_le 12 dX6_told_6 (by decide) (fun h_6 => ?_) (fun h_6 => absurd (by decide) h_6)
  refine v_aload_n dX6_told_12 rfl ?_
  refine v_gr 0 fX6_21 dX6_told_13 rfl rfl rfl Nat.zero_lt_one ?_
  refine x_gk hh (by decide) fX6_56 dX6_told_16 rfl rfl Nat.zero_lt_one ?_
  refine v_if_ne 25 dX6_told_19 (by decide) (fun h_19 => absurd rfl h_19) (fun h_19 => ?_)
  refine v_bipush (-3) dX6_told_22 (by decide) ?_
  exact v_iret dX6_told_24 ⟨rfl, rfl⟩
set_option maxHeartbeats 4000000 in
set_option maxRecDepth 100000 in
theorem c_X6_told_4 {a b : tH} (hh : ¬ a.1 18 0 6 = 0) : Ci yX6_told cX6_told 2 .int 1 [.inr (some (0, 0)), .inl 4] (mix a b) (a.1 10 0 1) (mix (a) b) := by
  refine Ct.of (by decide) [_, _] rfl (Nat.le_of_ble_eq_true rfl) ?_
  refine v_iload_n dX6_told_0 rfl ?_
  refine v_if_lt 9 dX6_told_1 (by decide) (fun h_1 => absurd h_1 (by decide)) (fun h_1 => ?_)
  refine v_iload_n dX6_told_4 rfl ?_
  refine v_iconst 5 dX6_told_5 (by decide) ?_
  refine v_icmp_le 12 dX6_told_6 (by decide) (fun h_6 => ?_) (fun h_6 => absurd (by decide) h_6)
  refine v_aload_n dX6_told_12 rfl ?_
  refine v_gr 0 fX6_21 dX6_told_13 rfl rfl rfl Nat.zero_lt_one ?_
  refine x_gi (by decide) fX6_56 dX6_told_16 rfl rfl Nat.zero_lt_one ?_
  refine v_if_ne 25 dX6_told_19 (by decide) (fun h_19 => ?_) (fun h_19 => absurd h_19 hh)
  refine v_iload_n dX6_told_25 rfl ?_
  refine v_tsIn (off := 74) 100 4 dX6_told_26 rfl (by decide) (by decide) (by decide) (by decide) ?_
  refine v_aload_n dX6_told_100 rfl ?_
  refine v_gr 0 fX6_21 dX6_told_101 rfl rfl rfl Nat.zero_lt_one ?_
  refine v_gr 0 fX6_83 dX6_told_104 rfl rfl rfl Nat.zero_lt_one ?_
  refine v_call0i lX6_87 kX2_size (c_X2_size) dX6_told_107 rfl rfl Nat.zero_lt_one rfl (by decide) (by decide) (st8 rfl) ?_
  exact v_iret dX6_told_110 ⟨rfl, rfl⟩
set_option maxHeartbeats 4000000 in
set_option maxRecDepth 100000 in
theorem c_X6_told3_5 {a b : tH} (hh : a.1 18 0 6 = 0) : Ci yX6_told cX6_told 2 .int 1 [.inr (some (0, 0)), .inl 5] (mix a b) ((-3)) (mix (a) b) := by
  refine Ct.of (by decide) [_, _] rfl (Nat.le_of_ble_eq_true rfl) ?_
  refine v_iload_n dX6_told_0 rfl ?_
  refine v_if_lt 9 dX6_told_1 (by decide) (fun h_1 => absurd h_1 (by decide)) (fun h_1 => ?_)
  refine v_iload_n dX6_told_4 rfl ?_
  refine v_iconst 5 dX6_told_5 (by decide) ?_
  refine v_icmp_le 12 dX6_told_6 (by decide) (fun h_6 => ?_) (fun h_6 => absurd (by decide) h_6)
  refine v_aload_n dX6_told_12 rfl ?_
  refine v_gr 0 fX6_21 dX6_told_13 rfl rfl rfl Nat.zero_lt_one ?_
  refine x_gk hh (by decide) fX6_56 dX6_told_16 rfl rfl Nat.zero_lt_one ?_
  refine v_if_ne 25 dX6_told_19 (by decide) (fun h_19 => absurd rfl h_19) (fun h_19 => ?_)
  refine v_bipush (-3) dX6_told_22 (by decide) ?_
  exact v_iret dX6_told_24 ⟨rfl, rfl⟩
set_option maxHeartbeats 4000000 in
set_option maxRecDepth 100000 in
theorem c_X6_told_5 {a b : tH} (hh : ¬ a.1 18 0 6 = 0) : Ci yX6_told cX6_told 2 .int 1 [.inr (some (0, 0)), .inl 5] (mix a b) (a.1 18 0 11) (mix (a) b) := by
  refine Ct.of (by decide) [_, _] rfl (Nat.le_of_ble_eq_true rfl) ?_
  refine v_iload_n dX6_told_0 rfl ?_
  refine v_if_lt 9 dX6_told_1 (by decide) (fun h_1 => absurd h_1 (by decide)) (fun h_1 => ?_)
  refine v_iload_n dX6_told_4 rfl ?_
  refine v_iconst 5 dX6_told_5 (by decide) ?_
  refine v_icmp_le 12 dX6_told_6 (by decide) (fun h_6 => ?_) (fun h_6 => absurd (by decide) h_6)
  refine v_aload_n dX6_told_12 rfl ?_
  refine v_gr 0 fX6_21 dX6_told_13 rfl rfl rfl Nat.zero_lt_one ?_
  refine x_gi (by decide) fX6_56 dX6_told_16 rfl rfl Nat.zero_lt_one ?_
  refine v_if_ne 25 dX6_told_19 (by decide) (fun h_19 => ?_) (fun h_19 => absurd h_19 hh)
  refine v_iload_n dX6_told_25 rfl ?_
  refine v_tsOut 111 dX6_told_26 (Or.inr (by decide)) (by decide) ?_
  refine v_aload_n dX6_told_111 rfl ?_
  refine v_gr 0 fX6_21 dX6_told_112 rfl rfl rfl Nat.zero_lt_one ?_
  refine x_gi (by decide) fX6_92 dX6_told_115 rfl rfl Nat.zero_lt_one ?_
  exact v_iret dX6_told_118 ⟨rfl, rfl⟩
set_option maxHeartbeats 4000000 in
set_option maxRecDepth 100000 in
theorem c_X1_tell0 {a b : tH} {t : Nat} (ht : t < 24) : Ci yX1_tell cX1_tell 2 .int 2 [.inr (some (7, t)), .inl 0] (mix a b) (a.1 7 t 3) (mix (a) b) := by
  refine Ct.of (by decide) [_, _] rfl (Nat.le_of_ble_eq_true rfl) ?_
  refine v_iload_n dX1_tell_0 rfl ?_
  refine v_tsIn (off := 51) 52 0 dX1_tell_1 rfl (by decide) (by decide) (by decide) (by decide) ?_
  refine v_aload_n dX1_tell_52 rfl ?_
  refine x_gi (by decide) fX1_18 dX1_tell_53 rfl rfl ht ?_
  exact v_iret dX1_tell_56 ⟨rfl, rfl⟩
set_option maxHeartbeats 4000000 in
set_option maxRecDepth 100000 in
theorem c_X1_tell1 {a b : tH} {t : Nat} (ht : t < 24) : Ci yX1_tell cX1_tell 2 .int 2 [.inr (some (7, t)), .inl 1] (mix a b) (a.1 7 t 4) (mix (a) b) := by
  refine Ct.of (by decide) [_, _] rfl (Nat.le_of_ble_eq_true rfl) ?_
  refine v_iload_n dX1_tell_0 rfl ?_
  refine v_tsIn (off := 56) 57 1 dX1_tell_1 rfl (by decide) (by decide) (by decide) (by decide) ?_
  refine v_aload_n dX1_tell_57 rfl ?_
  refine x_gi (by decide) fX1_22 dX1_tell_58 rfl rfl ht ?_
  exact v_iret dX1_tell_61 ⟨rfl, rfl⟩
set_option maxHeartbeats 4000000 in
set_option maxRecDepth 100000 in
theorem c_X1_tell2 {a b : tH} {t : Nat} (ht : t < 24) : Ci yX1_tell cX1_tell 2 .int 2 [.inr (some (7, t)), .inl 2] (mix a b) (if a.1 7 t 3 < 5 then if a.1 7 t 3 < 1 then a.1 7 t 5 else if 3 < a.1 7 t 3 then a.1 7 t 5 else a.1 7 t 5 - 1 else (-3)) (mix (a) b) := by
  refine Ct.of (by decide) [_, _] rfl (Nat.le_of_ble_eq_true rfl) ?_
  refine v_iload_n dX1_tell_0 rfl ?_
  refine v_tsIn (off := 61) 62 2 dX1_tell_1 rfl (by decide) (by decide) (by decide) (by decide) ?_
  refine v_aload_n dX1_tell_62 rfl ?_
  refine v_call0i lX1_59 kX1_actToCome (c_X1_actToCome ht) dX1_tell_63 rfl rfl ht rfl (by decide) (by decide) (st8 rfl) ?_
  exact v_iret dX1_tell_66 ⟨rfl, rfl⟩
set_option maxHeartbeats 4000000 in
set_option maxRecDepth 100000 in
theorem c_X1_tell3 {a b : tH} {t : Nat} (ht : t < 24) : Ci yX1_tell cX1_tell 2 .int 2 [.inr (some (7, t)), .inl 3] (mix a b) (a.1 7 t 6) (mix (a) b) := by
  refine Ct.of (by decide) [_, _] rfl (Nat.le_of_ble_eq_true rfl) ?_
  refine v_iload_n dX1_tell_0 rfl ?_
  refine v_tsIn (off := 66) 67 3 dX1_tell_1 rfl (by decide) (by decide) (by decide) (by decide) ?_
  refine v_aload_n dX1_tell_67 rfl ?_
  refine x_gi (by decide) fX1_28 dX1_tell_68 rfl rfl ht ?_
  exact v_iret dX1_tell_71 ⟨rfl, rfl⟩
set_option maxHeartbeats 4000000 in
set_option maxRecDepth 100000 in
theorem c_X1_tell4 {a b : tH} {t : Nat} (ht : t < 24) : Ci yX1_tell cX1_tell 2 .int 2 [.inr (some (7, t)), .inl 4] (mix a b) (a.1 7 t 7) (mix (a) b) := by
  refine Ct.of (by decide) [_, _] rfl (Nat.le_of_ble_eq_true rfl) ?_
  refine v_iload_n dX1_tell_0 rfl ?_
  refine v_tsIn (off := 71) 72 4 dX1_tell_1 rfl (by decide) (by decide) (by decide) (by decide) ?_
  refine v_aload_n dX1_tell_72 rfl ?_
  refine x_gi (by decide) fX1_31 dX1_tell_73 rfl rfl ht ?_
  exact v_iret dX1_tell_76 ⟨rfl, rfl⟩
set_option maxHeartbeats 4000000 in
set_option maxRecDepth 100000 in
theorem c_X1_tell5 {a b : tH} {t : Nat} (ht : t < 24) : Ci yX1_tell cX1_tell 2 .int 2 [.inr (some (7, t)), .inl 5] (mix a b) (if a.1 7 t 9 = 0 then 0 else 1) (mix (a) b) := by
  refine Ct.of (by decide) [_, _] rfl (Nat.le_of_ble_eq_true rfl) ?_
  refine v_iload_n dX1_tell_0 rfl ?_
  refine v_tsIn (off := 76) 77 5 dX1_tell_1 rfl (by decide) (by decide) (by decide) (by decide) ?_
  refine v_aload_n dX1_tell_77 rfl ?_
  refine x_gi (by decide) fX1_37 dX1_tell_78 rfl rfl ht ?_
  refine v_if_eq 88 dX1_tell_81 (by decide) (fun h_81 => ?_) (fun h_81 => ?_)
  · refine v_iconst 0 dX1_tell_88 (by decide) ?_
    exact v_iret dX1_tell_89 ⟨by first | (rw [if_pos h_81]; done) | (rw [if_neg h_81]), rfl⟩
  · refine v_iconst 1 dX1_tell_84 (by decide) ?_
    refine v_goto 89 dX1_tell_85 (by decide) ?_
    exact v_iret dX1_tell_89 ⟨by first | (rw [if_pos h_81]; done) | (rw [if_neg h_81]), rfl⟩
set_option maxHeartbeats 4000000 in
set_option maxRecDepth 100000 in
theorem c_X1_tell6 {a b : tH} {t : Nat} (ht : t < 24) : Ci yX1_tell cX1_tell 2 .int 2 [.inr (some (7, t)), .inl 6] (mix a b) (a.1 7 t 8) (mix (a) b) := by
  refine Ct.of (by decide) [_, _] rfl (Nat.le_of_ble_eq_true rfl) ?_
  refine v_iload_n dX1_tell_0 rfl ?_
  refine v_tsIn (off := 89) 90 6 dX1_tell_1 rfl (by decide) (by decide) (by decide) (by decide) ?_
  refine v_aload_n dX1_tell_90 rfl ?_
  refine x_gi (by decide) fX1_34 dX1_tell_91 rfl rfl ht ?_
  exact v_iret dX1_tell_94 ⟨rfl, rfl⟩
set_option maxHeartbeats 4000000 in
set_option maxRecDepth 100000 in
theorem c_X1_tell7 {a b : tH} {t : Nat} (ht : t < 24) : Ci yX1_tell cX1_tell 2 .int 2 [.inr (some (7, t)), .inl 7] (mix a b) (a.1 7 t 10) (mix (a) b) := by
  refine Ct.of (by decide) [_, _] rfl (Nat.le_of_ble_eq_true rfl) ?_
  refine v_iload_n dX1_tell_0 rfl ?_
  refine v_tsIn (off := 94) 95 7 dX1_tell_1 rfl (by decide) (by decide) (by decide) (by decide) ?_
  refine v_aload_n dX1_tell_95 rfl ?_
  refine x_gi (by decide) fX1_41 dX1_tell_96 rfl rfl ht ?_
  exact v_iret dX1_tell_99 ⟨rfl, rfl⟩
set_option maxHeartbeats 4000000 in
set_option maxRecDepth 100000 in
theorem c_X1_tell8 {a b : tH} {t : Nat} (ht : t < 24) : Ci yX1_tell cX1_tell 2 .int 2 [.inr (some (7, t)), .inl 8] (mix a b) (a.1 7 t 11) (mix (a) b) := by
  refine Ct.of (by decide) [_, _] rfl (Nat.le_of_ble_eq_true rfl) ?_
  refine v_iload_n dX1_tell_0 rfl ?_
  refine v_tsIn (off := 99) 100 8 dX1_tell_1 rfl (by decide) (by decide) (by decide) (by decide) ?_
  refine v_aload_n dX1_tell_100 rfl ?_
  refine x_gi (by decide) fX1_44 dX1_tell_101 rfl rfl ht ?_
  exact v_iret dX1_tell_104 ⟨rfl, rfl⟩
set_option maxHeartbeats 4000000 in
set_option maxRecDepth 100000 in
theorem c_X1_tell9 {a b : tH} {t : Nat} (ht : t < 24) : Ci yX1_tell cX1_tell 2 .int 2 [.inr (some (7, t)), .inl 9] (mix a b) (if a.1 7 t 3 = 4 then a.1 7 t 12 else (-3)) (mix (a) b) := by
  refine Ct.of (by decide) [_, _] rfl (Nat.le_of_ble_eq_true rfl) ?_
  refine v_iload_n dX1_tell_0 rfl ?_
  refine v_tsOut 105 dX1_tell_1 (Or.inr (by decide)) (by decide) ?_
  refine v_aload_n dX1_tell_105 rfl ?_
  refine x_gi (by decide) fX1_18 dX1_tell_106 rfl rfl ht ?_
  refine v_iconst 4 dX1_tell_109 (by decide) ?_
  refine v_icmp_ne 120 dX1_tell_110 (by decide) (fun h_110 => ?_) (fun h_110 => ?_)
  · refine v_bipush (-3) dX1_tell_120 (by decide) ?_
    exact v_iret dX1_tell_122 ⟨by first | (rw [if_pos h_110]; done) | (rw [if_neg h_110]), rfl⟩
  · refine v_aload_n dX1_tell_113 rfl ?_
    refine x_gi (by decide) fX1_47 dX1_tell_114 rfl rfl ht ?_
    refine v_goto 122 dX1_tell_117 (by decide) ?_
    exact v_iret dX1_tell_122 ⟨by first | (rw [if_pos h_110]; done) | (rw [if_neg h_110]), rfl⟩
set_option maxHeartbeats 4000000 in
set_option maxRecDepth 100000 in
theorem c_X6_thread1 {a b : tH} {t w : Int32} (ht : t < 0 ∨ a.1 18 0 5 ≤ t) : Ci yX6_thread cX6_thread 4 .int 3 [.inr (some (0, 0)), .inl t, .inl w] (mix a b) ((-1)) (mix (a) b) := by
  refine Ct.of (by decide) [_, _, _, _] rfl (Nat.le_of_ble_eq_true rfl) ?_
  refine v_aload_n dX6_thread_0 rfl ?_
  refine v_gr 0 fX6_21 dX6_thread_1 rfl rfl rfl Nat.zero_lt_one ?_
  refine v_iload_n dX6_thread_4 rfl ?_
  refine v_call1r lX6_95 kX5_fiberAt (c_X5_fiberAt_out ht) dX6_thread_5 rfl rfl Nat.zero_lt_one rfl (by decide) (by decide) (st8 rfl) ?_
  refine v_astore_n [_, _, _, _] dX6_thread_8 rfl (by decide) ?_
  refine v_aload_n dX6_thread_9 rfl ?_
  refine v_ifnonnull 15 dX6_thread_10 (by decide) (fun q_10 h_10 => nomatch h_10) (fun h_10 => ?_)
  refine v_iconst (-1) dX6_thread_13 (by decide) ?_
  exact v_iret dX6_thread_14 ⟨rfl, rfl⟩
set_option maxHeartbeats 4000000 in
set_option maxRecDepth 100000 in
theorem c_X6_thread2 {a b : tH} {T t : Nat} (hT : a.1 18 0 5 = nI T) (h24 : T ≤ 24) (ht : t < T) {w : Int32} (hw : w < 0 ∨ 9 < w) : Ci yX6_thread cX6_thread 4 .int 3 [.inr (some (0, 0)), .inl (nI t), .inl w] (mix a b) ((-2)) (mix (a) b) := by
  refine Ct.of (by decide) [_, _, _, _] rfl (Nat.le_of_ble_eq_true rfl) ?_
  refine v_aload_n dX6_thread_0 rfl ?_
  refine v_gr 0 fX6_21 dX6_thread_1 rfl rfl rfl Nat.zero_lt_one ?_
  refine v_iload_n dX6_thread_4 rfl ?_
  refine v_call1r lX6_95 kX5_fiberAt (c_X5_fiberAt_in hT ht h24) dX6_thread_5 rfl rfl Nat.zero_lt_one rfl (by decide) (by decide) (st8 rfl) ?_
  refine v_astore_n [_, _, _, _] dX6_thread_8 rfl (by decide) ?_
  refine v_aload_n dX6_thread_9 rfl ?_
  refine v_ifnonnull 15 dX6_thread_10 (by decide) (fun q_10 h_10 => ?_) (fun h_10 => nomatch h_10)
  refine v_iload_n dX6_thread_15 rfl ?_
  refine v_if_lt 25 dX6_thread_16 (by decide) (fun h_16 => ?_) (fun h_16 => ?_)
  · refine v_bipush (-2) dX6_thread_25 (by decide) ?_
    exact v_iret dX6_thread_27 ⟨rfl, rfl⟩
  · refine v_iload_n dX6_thread_19 rfl ?_
    refine v_bipush 9 dX6_thread_20 (by decide) ?_
    refine v_icmp_le 28 dX6_thread_22 (by decide) (fun h_22 => hw.elim (fun z => absurd z h_16) (fun z => absurd h_22 (Int32.not_le.mpr z))) (fun h_22 => ?_)
    refine v_bipush (-2) dX6_thread_25 (by decide) ?_
    exact v_iret dX6_thread_27 ⟨rfl, rfl⟩
set_option maxHeartbeats 4000000 in
set_option maxRecDepth 100000 in
theorem c_X6_thread_0 {a b : tH} {T t : Nat} (hT : a.1 18 0 5 = nI T) (h24 : T ≤ 24) (ht : t < T) : Ci yX6_thread cX6_thread 4 .int 3 [.inr (some (0, 0)), .inl (nI t), .inl 0] (mix a b) (a.1 7 t 3) (mix (a) b) := by
  refine Ct.of (by decide) [_, _, _, _] rfl (Nat.le_of_ble_eq_true rfl) ?_
  refine v_aload_n dX6_thread_0 rfl ?_
  refine v_gr 0 fX6_21 dX6_thread_1 rfl rfl rfl Nat.zero_lt_one ?_
  refine v_iload_n dX6_thread_4 rfl ?_
  refine v_call1r lX6_95 kX5_fiberAt (c_X5_fiberAt_in hT ht h24) dX6_thread_5 rfl rfl Nat.zero_lt_one rfl (by decide) (by decide) (st8 rfl) ?_
  refine v_astore_n [_, _, _, _] dX6_thread_8 rfl (by decide) ?_
  refine v_aload_n dX6_thread_9 rfl ?_
  refine v_ifnonnull 15 dX6_thread_10 (by decide) (fun q_10 h_10 => ?_) (fun h_10 => nomatch h_10)
  refine v_iload_n dX6_thread_15 rfl ?_
  refine v_if_lt 25 dX6_thread_16 (by decide) (fun h_16 => absurd h_16 (by decide)) (fun h_16 => ?_)
  refine v_iload_n dX6_thread_19 rfl ?_
  refine v_bipush 9 dX6_thread_20 (by decide) ?_
  refine v_icmp_le 28 dX6_thread_22 (by decide) (fun h_22 => ?_) (fun h_22 => absurd (by decide) h_22)
  refine v_aload_n dX6_thread_28 rfl ?_
  refine v_iload_n dX6_thread_29 rfl ?_
  refine v_call1i lX6_99 kX1_tell (c_X1_tell0 (t := t) (by omega)) dX6_thread_30 rfl rfl (show t < 24 by omega) rfl (by decide) (by decide) (st8 rfl) ?_
  exact v_iret dX6_thread_33 ⟨rfl, rfl⟩
set_option maxHeartbeats 4000000 in
set_option maxRecDepth 100000 in
theorem c_X6_thread_1 {a b : tH} {T t : Nat} (hT : a.1 18 0 5 = nI T) (h24 : T ≤ 24) (ht : t < T) : Ci yX6_thread cX6_thread 4 .int 3 [.inr (some (0, 0)), .inl (nI t), .inl 1] (mix a b) (a.1 7 t 4) (mix (a) b) := by
  refine Ct.of (by decide) [_, _, _, _] rfl (Nat.le_of_ble_eq_true rfl) ?_
  refine v_aload_n dX6_thread_0 rfl ?_
  refine v_gr 0 fX6_21 dX6_thread_1 rfl rfl rfl Nat.zero_lt_one ?_
  refine v_iload_n dX6_thread_4 rfl ?_
  refine v_call1r lX6_95 kX5_fiberAt (c_X5_fiberAt_in hT ht h24) dX6_thread_5 rfl rfl Nat.zero_lt_one rfl (by decide) (by decide) (st8 rfl) ?_
  refine v_astore_n [_, _, _, _] dX6_thread_8 rfl (by decide) ?_
  refine v_aload_n dX6_thread_9 rfl ?_
  refine v_ifnonnull 15 dX6_thread_10 (by decide) (fun q_10 h_10 => ?_) (fun h_10 => nomatch h_10)
  refine v_iload_n dX6_thread_15 rfl ?_
  refine v_if_lt 25 dX6_thread_16 (by decide) (fun h_16 => absurd h_16 (by decide)) (fun h_16 => ?_)
  refine v_iload_n dX6_thread_19 rfl ?_
  refine v_bipush 9 dX6_thread_20 (by decide) ?_
  refine v_icmp_le 28 dX6_thread_22 (by decide) (fun h_22 => ?_) (fun h_22 => absurd (by decide) h_22)
  refine v_aload_n dX6_thread_28 rfl ?_
  refine v_iload_n dX6_thread_29 rfl ?_
  refine v_call1i lX6_99 kX1_tell (c_X1_tell1 (t := t) (by omega)) dX6_thread_30 rfl rfl (show t < 24 by omega) rfl (by decide) (by decide) (st8 rfl) ?_
  exact v_iret dX6_thread_33 ⟨rfl, rfl⟩
set_option maxHeartbeats 4000000 in
set_option maxRecDepth 100000 in
theorem c_X6_thread_2 {a b : tH} {T t : Nat} (hT : a.1 18 0 5 = nI T) (h24 : T ≤ 24) (ht : t < T) : Ci yX6_thread cX6_thread 4 .int 3 [.inr (some (0, 0)), .inl (nI t), .inl 2] (mix a b) (if a.1 7 t 3 < 5 then if a.1 7 t 3 < 1 then a.1 7 t 5 else if 3 < a.1 7 t 3 then a.1 7 t 5 else a.1 7 t 5 - 1 else (-3)) (mix (a) b) := by
  refine Ct.of (by decide) [_, _, _, _] rfl (Nat.le_of_ble_eq_true rfl) ?_
  refine v_aload_n dX6_thread_0 rfl ?_
  refine v_gr 0 fX6_21 dX6_thread_1 rfl rfl rfl Nat.zero_lt_one ?_
  refine v_iload_n dX6_thread_4 rfl ?_
  refine v_call1r lX6_95 kX5_fiberAt (c_X5_fiberAt_in hT ht h24) dX6_thread_5 rfl rfl Nat.zero_lt_one rfl (by decide) (by decide) (st8 rfl) ?_
  refine v_astore_n [_, _, _, _] dX6_thread_8 rfl (by decide) ?_
  refine v_aload_n dX6_thread_9 rfl ?_
  refine v_ifnonnull 15 dX6_thread_10 (by decide) (fun q_10 h_10 => ?_) (fun h_10 => nomatch h_10)
  refine v_iload_n dX6_thread_15 rfl ?_
  refine v_if_lt 25 dX6_thread_16 (by decide) (fun h_16 => absurd h_16 (by decide)) (fun h_16 => ?_)
  refine v_iload_n dX6_thread_19 rfl ?_
  refine v_bipush 9 dX6_thread_20 (by decide) ?_
  refine v_icmp_le 28 dX6_thread_22 (by decide) (fun h_22 => ?_) (fun h_22 => absurd (by decide) h_22)
  refine v_aload_n dX6_thread_28 rfl ?_
  refine v_iload_n dX6_thread_29 rfl ?_
  refine v_call1i lX6_99 kX1_tell (c_X1_tell2 (t := t) (by omega)) dX6_thread_30 rfl rfl (show t < 24 by omega) rfl (by decide) (by decide) (st8 rfl) ?_
  exact v_iret dX6_thread_33 ⟨rfl, rfl⟩
set_option maxHeartbeats 4000000 in
set_option maxRecDepth 100000 in
theorem c_X6_thread_3 {a b : tH} {T t : Nat} (hT : a.1 18 0 5 = nI T) (h24 : T ≤ 24) (ht : t < T) : Ci yX6_thread cX6_thread 4 .int 3 [.inr (some (0, 0)), .inl (nI t), .inl 3] (mix a b) (a.1 7 t 6) (mix (a) b) := by
  refine Ct.of (by decide) [_, _, _, _] rfl (Nat.le_of_ble_eq_true rfl) ?_
  refine v_aload_n dX6_thread_0 rfl ?_
  refine v_gr 0 fX6_21 dX6_thread_1 rfl rfl rfl Nat.zero_lt_one ?_
  refine v_iload_n dX6_thread_4 rfl ?_
  refine v_call1r lX6_95 kX5_fiberAt (c_X5_fiberAt_in hT ht h24) dX6_thread_5 rfl rfl Nat.zero_lt_one rfl (by decide) (by decide) (st8 rfl) ?_
  refine v_astore_n [_, _, _, _] dX6_thread_8 rfl (by decide) ?_
  refine v_aload_n dX6_thread_9 rfl ?_
  refine v_ifnonnull 15 dX6_thread_10 (by decide) (fun q_10 h_10 => ?_) (fun h_10 => nomatch h_10)
  refine v_iload_n dX6_thread_15 rfl ?_
  refine v_if_lt 25 dX6_thread_16 (by decide) (fun h_16 => absurd h_16 (by decide)) (fun h_16 => ?_)
  refine v_iload_n dX6_thread_19 rfl ?_
  refine v_bipush 9 dX6_thread_20 (by decide) ?_
  refine v_icmp_le 28 dX6_thread_22 (by decide) (fun h_22 => ?_) (fun h_22 => absurd (by decide) h_22)
  refine v_aload_n dX6_thread_28 rfl ?_
  refine v_iload_n dX6_thread_29 rfl ?_
  refine v_call1i lX6_99 kX1_tell (c_X1_tell3 (t := t) (by omega)) dX6_thread_30 rfl rfl (show t < 24 by omega) rfl (by decide) (by decide) (st8 rfl) ?_
  exact v_iret dX6_thread_33 ⟨rfl, rfl⟩
set_option maxHeartbeats 4000000 in
set_option maxRecDepth 100000 in
theorem c_X6_thread_4 {a b : tH} {T t : Nat} (hT : a.1 18 0 5 = nI T) (h24 : T ≤ 24) (ht : t < T) : Ci yX6_thread cX6_thread 4 .int 3 [.inr (some (0, 0)), .inl (nI t), .inl 4] (mix a b) (a.1 7 t 7) (mix (a) b) := by
  refine Ct.of (by decide) [_, _, _, _] rfl (Nat.le_of_ble_eq_true rfl) ?_
  refine v_aload_n dX6_thread_0 rfl ?_
  refine v_gr 0 fX6_21 dX6_thread_1 rfl rfl rfl Nat.zero_lt_one ?_
  refine v_iload_n dX6_thread_4 rfl ?_
  refine v_call1r lX6_95 kX5_fiberAt (c_X5_fiberAt_in hT ht h24) dX6_thread_5 rfl rfl Nat.zero_lt_one rfl (by decide) (by decide) (st8 rfl) ?_
  refine v_astore_n [_, _, _, _] dX6_thread_8 rfl (by decide) ?_
  refine v_aload_n dX6_thread_9 rfl ?_
  refine v_ifnonnull 15 dX6_thread_10 (by decide) (fun q_10 h_10 => ?_) (fun h_10 => nomatch h_10)
  refine v_iload_n dX6_thread_15 rfl ?_
  refine v_if_lt 25 dX6_thread_16 (by decide) (fun h_16 => absurd h_16 (by decide)) (fun h_16 => ?_)
  refine v_iload_n dX6_thread_19 rfl ?_
  refine v_bipush 9 dX6_thread_20 (by decide) ?_
  refine v_icmp_le 28 dX6_thread_22 (by decide) (fun h_22 => ?_) (fun h_22 => absurd (by decide) h_22)
  refine v_aload_n dX6_thread_28 rfl ?_
  refine v_iload_n dX6_thread_29 rfl ?_
  refine v_call1i lX6_99 kX1_tell (c_X1_tell4 (t := t) (by omega)) dX6_thread_30 rfl rfl (show t < 24 by omega) rfl (by decide) (by decide) (st8 rfl) ?_
  exact v_iret dX6_thread_33 ⟨rfl, rfl⟩
set_option maxHeartbeats 4000000 in
set_option maxRecDepth 100000 in
theorem c_X6_thread_5 {a b : tH} {T t : Nat} (hT : a.1 18 0 5 = nI T) (h24 : T ≤ 24) (ht : t < T) : Ci yX6_thread cX6_thread 4 .int 3 [.inr (some (0, 0)), .inl (nI t), .inl 5] (mix a b) (if a.1 7 t 9 = 0 then 0 else 1) (mix (a) b) := by
  refine Ct.of (by decide) [_, _, _, _] rfl (Nat.le_of_ble_eq_true rfl) ?_
  refine v_aload_n dX6_thread_0 rfl ?_
  refine v_gr 0 fX6_21 dX6_thread_1 rfl rfl rfl Nat.zero_lt_one ?_
  refine v_iload_n dX6_thread_4 rfl ?_
  refine v_call1r lX6_95 kX5_fiberAt (c_X5_fiberAt_in hT ht h24) dX6_thread_5 rfl rfl Nat.zero_lt_one rfl (by decide) (by decide) (st8 rfl) ?_
  refine v_astore_n [_, _, _, _] dX6_thread_8 rfl (by decide) ?_
  refine v_aload_n dX6_thread_9 rfl ?_
  refine v_ifnonnull 15 dX6_thread_10 (by decide) (fun q_10 h_10 => ?_) (fun h_10 => nomatch h_10)
  refine v_iload_n dX6_thread_15 rfl ?_
  refine v_if_lt 25 dX6_thread_16 (by decide) (fun h_16 => absurd h_16 (by decide)) (fun h_16 => ?_)
  refine v_iload_n dX6_thread_19 rfl ?_
  refine v_bipush 9 dX6_thread_20 (by decide) ?_
  refine v_icmp_le 28 dX6_thread_22 (by decide) (fun h_22 => ?_) (fun h_22 => absurd (by decide) h_22)
  refine v_aload_n dX6_thread_28 rfl ?_
  refine v_iload_n dX6_thread_29 rfl ?_
  refine v_call1i lX6_99 kX1_tell (c_X1_tell5 (t := t) (by omega)) dX6_thread_30 rfl rfl (show t < 24 by omega) rfl (by decide) (by decide) (st8 rfl) ?_
  exact v_iret dX6_thread_33 ⟨rfl, rfl⟩
set_option maxHeartbeats 4000000 in
set_option maxRecDepth 100000 in
theorem c_X6_thread_6 {a b : tH} {T t : Nat} (hT : a.1 18 0 5 = nI T) (h24 : T ≤ 24) (ht : t < T) : Ci yX6_thread cX6_thread 4 .int 3 [.inr (some (0, 0)), .inl (nI t), .inl 6] (mix a b) (a.1 7 t 8) (mix (a) b) := by
  refine Ct.of (by decide) [_, _, _, _] rfl (Nat.le_of_ble_eq_true rfl) ?_
  refine v_aload_n dX6_thread_0 rfl ?_
  refine v_gr 0 fX6_21 dX6_thread_1 rfl rfl rfl Nat.zero_lt_one ?_
  refine v_iload_n dX6_thread_4 rfl ?_
  refine v_call1r lX6_95 kX5_fiberAt (c_X5_fiberAt_in hT ht h24) dX6_thread_5 rfl rfl Nat.zero_lt_one rfl (by decide) (by decide) (st8 rfl) ?_
  refine v_astore_n [_, _, _, _] dX6_thread_8 rfl (by decide) ?_
  refine v_aload_n dX6_thread_9 rfl ?_
  refine v_ifnonnull 15 dX6_thread_10 (by decide) (fun q_10 h_10 => ?_) (fun h_10 => nomatch h_10)
  refine v_iload_n dX6_thread_15 rfl ?_
  refine v_if_lt 25 dX6_thread_16 (by decide) (fun h_16 => absurd h_16 (by decide)) (fun h_16 => ?_)
  refine v_iload_n dX6_thread_19 rfl ?_
  refine v_bipush 9 dX6_thread_20 (by decide) ?_
  refine v_icmp_le 28 dX6_thread_22 (by decide) (fun h_22 => ?_) (fun h_22 => absurd (by decide) h_22)
  refine v_aload_n dX6_thread_28 rfl ?_
  refine v_iload_n dX6_thread_29 rfl ?_
  refine v_call1i lX6_99 kX1_tell (c_X1_tell6 (t := t) (by omega)) dX6_thread_30 rfl rfl (show t < 24 by omega) rfl (by decide) (by decide) (st8 rfl) ?_
  exact v_iret dX6_thread_33 ⟨rfl, rfl⟩
set_option maxHeartbeats 4000000 in
set_option maxRecDepth 100000 in
theorem c_X6_thread_7 {a b : tH} {T t : Nat} (hT : a.1 18 0 5 = nI T) (h24 : T ≤ 24) (ht : t < T) : Ci yX6_thread cX6_thread 4 .int 3 [.inr (some (0, 0)), .inl (nI t), .inl 7] (mix a b) (a.1 7 t 10) (mix (a) b) := by
  refine Ct.of (by decide) [_, _, _, _] rfl (Nat.le_of_ble_eq_true rfl) ?_
  refine v_aload_n dX6_thread_0 rfl ?_
  refine v_gr 0 fX6_21 dX6_thread_1 rfl rfl rfl Nat.zero_lt_one ?_
  refine v_iload_n dX6_thread_4 rfl ?_
  refine v_call1r lX6_95 kX5_fiberAt (c_X5_fiberAt_in hT ht h24) dX6_thread_5 rfl rfl Nat.zero_lt_one rfl (by decide) (by decide) (st8 rfl) ?_
  refine v_astore_n [_, _, _, _] dX6_thread_8 rfl (by decide) ?_
  refine v_aload_n dX6_thread_9 rfl ?_
  refine v_ifnonnull 15 dX6_thread_10 (by decide) (fun q_10 h_10 => ?_) (fun h_10 => nomatch h_10)
  refine v_iload_n dX6_thread_15 rfl ?_
  refine v_if_lt 25 dX6_thread_16 (by decide) (fun h_16 => absurd h_16 (by decide)) (fun h_16 => ?_)
  refine v_iload_n dX6_thread_19 rfl ?_
  refine v_bipush 9 dX6_thread_20 (by decide) ?_
  refine v_icmp_le 28 dX6_thread_22 (by decide) (fun h_22 => ?_) (fun h_22 => absurd (by decide) h_22)
  refine v_aload_n dX6_thread_28 rfl ?_
  refine v_iload_n dX6_thread_29 rfl ?_
  refine v_call1i lX6_99 kX1_tell (c_X1_tell7 (t := t) (by omega)) dX6_thread_30 rfl rfl (show t < 24 by omega) rfl (by decide) (by decide) (st8 rfl) ?_
  exact v_iret dX6_thread_33 ⟨rfl, rfl⟩
set_option maxHeartbeats 4000000 in
set_option maxRecDepth 100000 in
theorem c_X6_thread_8 {a b : tH} {T t : Nat} (hT : a.1 18 0 5 = nI T) (h24 : T ≤ 24) (ht : t < T) : Ci yX6_thread cX6_thread 4 .int 3 [.inr (some (0, 0)), .inl (nI t), .inl 8] (mix a b) (a.1 7 t 11) (mix (a) b) := by
  refine Ct.of (by decide) [_, _, _, _] rfl (Nat.le_of_ble_eq_true rfl) ?_
  refine v_aload_n dX6_thread_0 rfl ?_
  refine v_gr 0 fX6_21 dX6_thread_1 rfl rfl rfl Nat.zero_lt_one ?_
  refine v_iload_n dX6_thread_4 rfl ?_
  refine v_call1r lX6_95 kX5_fiberAt (c_X5_fiberAt_in hT ht h24) dX6_thread_5 rfl rfl Nat.zero_lt_one rfl (by decide) (by decide) (st8 rfl) ?_
  refine v_astore_n [_, _, _, _] dX6_thread_8 rfl (by decide) ?_
  refine v_aload_n dX6_thread_9 rfl ?_
  refine v_ifnonnull 15 dX6_thread_10 (by decide) (fun q_10 h_10 => ?_) (fun h_10 => nomatch h_10)
  refine v_iload_n dX6_thread_15 rfl ?_
  refine v_if_lt 25 dX6_thread_16 (by decide) (fun h_16 => absurd h_16 (by decide)) (fun h_16 => ?_)
  refine v_iload_n dX6_thread_19 rfl ?_
  refine v_bipush 9 dX6_thread_20 (by decide) ?_
  refine v_icmp_le 28 dX6_thread_22 (by decide) (fun h_22 => ?_) (fun h_22 => absurd (by decide) h_22)
  refine v_aload_n dX6_thread_28 rfl ?_
  refine v_iload_n dX6_thread_29 rfl ?_
  refine v_call1i lX6_99 kX1_tell (c_X1_tell8 (t := t) (by omega)) dX6_thread_30 rfl rfl (show t < 24 by omega) rfl (by decide) (by decide) (st8 rfl) ?_
  exact v_iret dX6_thread_33 ⟨rfl, rfl⟩
set_option maxHeartbeats 4000000 in
set_option maxRecDepth 100000 in
theorem c_X6_thread_9 {a b : tH} {T t : Nat} (hT : a.1 18 0 5 = nI T) (h24 : T ≤ 24) (ht : t < T) : Ci yX6_thread cX6_thread 4 .int 3 [.inr (some (0, 0)), .inl (nI t), .inl 9] (mix a b) (if a.1 7 t 3 = 4 then a.1 7 t 12 else (-3)) (mix (a) b) := by
  refine Ct.of (by decide) [_, _, _, _] rfl (Nat.le_of_ble_eq_true rfl) ?_
  refine v_aload_n dX6_thread_0 rfl ?_
  refine v_gr 0 fX6_21 dX6_thread_1 rfl rfl rfl Nat.zero_lt_one ?_
  refine v_iload_n dX6_thread_4 rfl ?_
  refine v_call1r lX6_95 kX5_fiberAt (c_X5_fiberAt_in hT ht h24) dX6_thread_5 rfl rfl Nat.zero_lt_one rfl (by decide) (by decide) (st8 rfl) ?_
  refine v_astore_n [_, _, _, _] dX6_thread_8 rfl (by decide) ?_
  refine v_aload_n dX6_thread_9 rfl ?_
  refine v_ifnonnull 15 dX6_thread_10 (by decide) (fun q_10 h_10 => ?_) (fun h_10 => nomatch h_10)
  refine v_iload_n dX6_thread_15 rfl ?_
  refine v_if_lt 25 dX6_thread_16 (by decide) (fun h_16 => absurd h_16 (by decide)) (fun h_16 => ?_)
  refine v_iload_n dX6_thread_19 rfl ?_
  refine v_bipush 9 dX6_thread_20 (by decide) ?_
  refine v_icmp_le 28 dX6_thread_22 (by decide) (fun h_22 => ?_) (fun h_22 => absurd (by decide) h_22)
  refine v_aload_n dX6_thread_28 rfl ?_
  refine v_iload_n dX6_thread_29 rfl ?_
  refine v_call1i lX6_99 kX1_tell (c_X1_tell9 (t := t) (by omega)) dX6_thread_30 rfl rfl (show t < 24 by omega) rfl (by decide) (by decide) (st8 rfl) ?_
  exact v_iret dX6_thread_33 ⟨rfl, rfl⟩
set_option maxHeartbeats 4000000 in
set_option maxRecDepth 100000 in
theorem c_X6_queued1 {a b : tH} {i : Int32} (hi : i < 0 ∨ a.1 10 0 1 ≤ i) : Ci yX6_queued cX6_queued 3 .int 1 [.inr (some (0, 0)), .inl i] (mix a b) ((-1)) (mix (a) b) := by
  refine Ct.of (by decide) [_, _, _] rfl (Nat.le_of_ble_eq_true rfl) ?_
  refine v_aload_n dX6_queued_0 rfl ?_
  refine v_gr 0 fX6_21 dX6_queued_1 rfl rfl rfl Nat.zero_lt_one ?_
  refine v_gr 0 fX6_83 dX6_queued_4 rfl rfl rfl Nat.zero_lt_one ?_
  refine v_iload_n dX6_queued_7 rfl ?_
  refine v_call1r lX6_105 kX2_at (c_X2_at_out hi) dX6_queued_8 rfl rfl Nat.zero_lt_one rfl (by decide) (by decide) (st8 rfl) ?_
  refine v_astore_n [_, _, _] dX6_queued_11 rfl (by decide) ?_
  refine v_aload_n dX6_queued_12 rfl ?_
  refine v_ifnonnull 20 dX6_queued_13 (by decide) (fun q_13 h_13 => nomatch h_13) (fun h_13 => ?_)
  refine v_iconst (-1) dX6_queued_16 (by decide) ?_
  refine v_goto 24 dX6_queued_17 (by decide) ?_
  exact v_iret dX6_queued_24 ⟨rfl, rfl⟩
set_option maxHeartbeats 4000000 in
set_option maxRecDepth 100000 in
theorem c_X6_queued_ok {a b : tH} {i n t : Nat} (hn : a.1 10 0 1 = nI n) (hi : i < n) (h24 : n ≤ 24) (ha : a.2 i = some t) (ht : t < 24) : Ci yX6_queued cX6_queued 3 .int 1 [.inr (some (0, 0)), .inl (nI i)] (mix a b) (a.1 7 t 0) (mix (a) b) := by
  refine Ct.of (by decide) [_, _, _] rfl (Nat.le_of_ble_eq_true rfl) ?_
  refine v_aload_n dX6_queued_0 rfl ?_
  refine v_gr 0 fX6_21 dX6_queued_1 rfl rfl rfl Nat.zero_lt_one ?_
  refine v_gr 0 fX6_83 dX6_queued_4 rfl rfl rfl Nat.zero_lt_one ?_
  refine v_iload_n dX6_queued_7 rfl ?_
  refine v_call1r lX6_105 kX2_at (c_X2_at_in hn hi h24) dX6_queued_8 rfl rfl Nat.zero_lt_one rfl (by decide) (by decide) (st8 rfl) ?_
  rw [ha]
  refine v_astore_n [_, _, _] dX6_queued_11 rfl (by decide) ?_
  refine v_aload_n dX6_queued_12 rfl ?_
  refine v_ifnonnull 20 dX6_queued_13 (by decide) (fun q_13 h_13 => ?_) (fun h_13 => nomatch h_13)
  refine v_aload_n dX6_queued_20 rfl ?_
  refine x_gi (by decide) fX6_108 dX6_queued_21 rfl rfl ht ?_
  exact v_iret dX6_queued_24 ⟨rfl, rfl⟩
set_option maxHeartbeats 4000000 in
set_option maxRecDepth 100000 in
theorem c_X6_box1 {a b : tH} {x w : Int32} (hx : a.1 18 0 6 = 0 ∨ x < 0 ∨ 8 ≤ x) : Ci yX6_box cX6_box 3 .int 2 [.inr (some (0, 0)), .inl x, .inl w] (mix a b) ((-1)) (mix (a) b) := by
  refine Ct.of (by decide) [_, _, _] rfl (Nat.le_of_ble_eq_true rfl) ?_
  refine v_aload_n dX6_box_0 rfl ?_
  refine v_gr 0 fX6_21 dX6_box_1 rfl rfl rfl Nat.zero_lt_one ?_
  refine x_gi (by decide) fX6_56 dX6_box_4 rfl rfl Nat.zero_lt_one ?_
  refine v_if_eq 24 dX6_box_7 (by decide) (fun h_7 => ?_) (fun h_7 => ?_)
  · refine v_iconst (-1) dX6_box_24 (by decide) ?_
    exact v_iret dX6_box_25 ⟨rfl, rfl⟩
  · refine v_aload_n dX6_box_10 rfl ?_
    refine v_gr 0 fX6_21 dX6_box_11 rfl rfl rfl Nat.zero_lt_one ?_
    refine v_gr 0 fX6_49 dX6_box_14 rfl rfl rfl Nat.zero_lt_one ?_
    refine v_iload_n dX6_box_17 rfl ?_
    refine v_call1i lX6_53 kX0_has (c_X0_has) dX6_box_18 rfl rfl Nat.zero_lt_one rfl (by decide) (by decide) (st8 rfl) ?_
    refine v_if_ne 26 dX6_box_21 (by decide) (fun h_21 => hx.elim (fun z => absurd z h_7) (fun z => absurd (by rw [i001]; exact z) h_21)) (fun h_21 => ?_)
    refine v_iconst (-1) dX6_box_24 (by decide) ?_
    exact v_iret dX6_box_25 ⟨rfl, rfl⟩
set_option maxHeartbeats 4000000 in
set_option maxRecDepth 100000 in
theorem c_X6_box2 {a b : tH} {x : Nat} (hx : x < 8) (hh : ¬ a.1 18 0 6 = 0) {w : Int32} (hw : w < 0 ∨ 4 < w) : Ci yX6_box cX6_box 3 .int 2 [.inr (some (0, 0)), .inl (nI x), .inl w] (mix a b) ((-2)) (mix (a) b) := by
  refine Ct.of (by decide) [_, _, _] rfl (Nat.le_of_ble_eq_true rfl) ?_
  refine v_aload_n dX6_box_0 rfl ?_
  refine v_gr 0 fX6_21 dX6_box_1 rfl rfl rfl Nat.zero_lt_one ?_
  refine x_gi (by decide) fX6_56 dX6_box_4 rfl rfl Nat.zero_lt_one ?_
  refine v_if_eq 24 dX6_box_7 (by decide) (fun h_7 => absurd h_7 hh) (fun h_7 => ?_)
  refine v_aload_n dX6_box_10 rfl ?_
  refine v_gr 0 fX6_21 dX6_box_11 rfl rfl rfl Nat.zero_lt_one ?_
  refine v_gr 0 fX6_49 dX6_box_14 rfl rfl rfl Nat.zero_lt_one ?_
  refine v_iload_n dX6_box_17 rfl ?_
  refine v_call1i lX6_53 kX0_has (c_X0_has_in hx) dX6_box_18 rfl rfl Nat.zero_lt_one rfl (by decide) (by decide) (st8 rfl) ?_
  refine v_if_ne 26 dX6_box_21 (by decide) (fun h_21 => ?_) (fun h_21 => absurd h_21 n10)
  refine v_iload_n dX6_box_26 rfl ?_
  refine v_if_lt 35 dX6_box_27 (by decide) (fun h_27 => ?_) (fun h_27 => ?_)
  · refine v_bipush (-2) dX6_box_35 (by decide) ?_
    exact v_iret dX6_box_37 ⟨rfl, rfl⟩
  · refine v_iload_n dX6_box_30 rfl ?_
    refine v_iconst 4 dX6_box_31 (by decide) ?_
    refine v_icmp_le 38 dX6_box_32 (by decide) (fun h_32 => hw.elim (fun z => absurd z h_27) (fun z => absurd h_32 (Int32.not_le.mpr z))) (fun h_32 => ?_)
    refine v_bipush (-2) dX6_box_35 (by decide) ?_
    exact v_iret dX6_box_37 ⟨rfl, rfl⟩
set_option maxHeartbeats 4000000 in
set_option maxRecDepth 100000 in
theorem c_X6_box_0 {a b : tH} {x : Nat} (hx : x < 8) (hh : ¬ a.1 18 0 6 = 0) : Ci yX6_box cX6_box 3 .int 2 [.inr (some (0, 0)), .inl (nI x), .inl 0] (mix a b) (if a.1 13 0 x = 0 then (-3) else a.1 14 0 x) (mix (a) b) := by
  refine Ct.of (by decide) [_, _, _] rfl (Nat.le_of_ble_eq_true rfl) ?_
  refine v_aload_n dX6_box_0 rfl ?_
  refine v_gr 0 fX6_21 dX6_box_1 rfl rfl rfl Nat.zero_lt_one ?_
  refine x_gi (by decide) fX6_56 dX6_box_4 rfl rfl Nat.zero_lt_one ?_
  refine v_if_eq 24 dX6_box_7 (by decide) (fun h_7 => absurd h_7 hh) (fun h_7 => ?_)
  refine v_aload_n dX6_box_10 rfl ?_
  refine v_gr 0 fX6_21 dX6_box_11 rfl rfl rfl Nat.zero_lt_one ?_
  refine v_gr 0 fX6_49 dX6_box_14 rfl rfl rfl Nat.zero_lt_one ?_
  refine v_iload_n dX6_box_17 rfl ?_
  refine v_call1i lX6_53 kX0_has (c_X0_has_in hx) dX6_box_18 rfl rfl Nat.zero_lt_one rfl (by decide) (by decide) (st8 rfl) ?_
  refine v_if_ne 26 dX6_box_21 (by decide) (fun h_21 => ?_) (fun h_21 => absurd h_21 n10)
  refine v_iload_n dX6_box_26 rfl ?_
  refine v_if_lt 35 dX6_box_27 (by decide) (fun h_27 => absurd h_27 (by decide)) (fun h_27 => ?_)
  refine v_iload_n dX6_box_30 rfl ?_
  refine v_iconst 4 dX6_box_31 (by decide) ?_
  refine v_icmp_le 38 dX6_box_32 (by decide) (fun h_32 => ?_) (fun h_32 => absurd (by decide) h_32)
  refine v_iload_n dX6_box_38 rfl ?_
  refine v_tsIn (off := 29) 68 0 dX6_box_39 rfl (by decide) (by decide) (by decide) (by decide) ?_
  refine v_aload_n dX6_box_68 rfl ?_
  refine v_gr 0 fX6_21 dX6_box_69 rfl rfl rfl Nat.zero_lt_one ?_
  refine v_gr 0 fX6_49 dX6_box_72 rfl rfl rfl Nat.zero_lt_one ?_
  refine v_iload_n dX6_box_75 rfl ?_
  refine v_call1i lX6_63 kX0_isFull (c_X0_isFull hx) dX6_box_76 rfl rfl Nat.zero_lt_one rfl (by decide) (by decide) (st8 rfl) ?_
  refine v_if_eq 96 dX6_box_79 (by decide) (fun h_79 => ?_) (fun h_79 => ?_)
  · rw [i01] at h_79
    refine v_bipush (-3) dX6_box_96 (by decide) ?_
    exact v_iret dX6_box_98 ⟨by first | (rw [if_pos h_79]; done) | (rw [if_neg h_79]), rfl⟩
  · rw [i01] at h_79
    refine v_aload_n dX6_box_82 rfl ?_
    refine v_gr 0 fX6_21 dX6_box_83 rfl rfl rfl Nat.zero_lt_one ?_
    refine v_gr 0 fX6_49 dX6_box_86 rfl rfl rfl Nat.zero_lt_one ?_
    refine v_iload_n dX6_box_89 rfl ?_
    refine v_call1i lX6_111 kX0_valueOf (c_X0_valueOf hx) dX6_box_90 rfl rfl Nat.zero_lt_one rfl (by decide) (by decide) (st8 rfl) ?_
    refine v_goto 98 dX6_box_93 (by decide) ?_
    exact v_iret dX6_box_98 ⟨by first | (rw [if_pos h_79]; done) | (rw [if_neg h_79]), rfl⟩
set_option maxHeartbeats 4000000 in
set_option maxRecDepth 100000 in
theorem c_X6_box_1 {a b : tH} {x : Nat} (hx : x < 8) (hh : ¬ a.1 18 0 6 = 0) : Ci yX6_box cX6_box 3 .int 2 [.inr (some (0, 0)), .inl (nI x), .inl 1] (mix a b) (if a.1 13 0 x = 0 then 0 else 1) (mix (a) b) := by
  refine Ct.of (by decide) [_, _, _] rfl (Nat.le_of_ble_eq_true rfl) ?_
  refine v_aload_n dX6_box_0 rfl ?_
  refine v_gr 0 fX6_21 dX6_box_1 rfl rfl rfl Nat.zero_lt_one ?_
  refine x_gi (by decide) fX6_56 dX6_box_4 rfl rfl Nat.zero_lt_one ?_
  refine v_if_eq 24 dX6_box_7 (by decide) (fun h_7 => absurd h_7 hh) (fun h_7 => ?_)
  refine v_aload_n dX6_box_10 rfl ?_
  refine v_gr 0 fX6_21 dX6_box_11 rfl rfl rfl Nat.zero_lt_one ?_
  refine v_gr 0 fX6_49 dX6_box_14 rfl rfl rfl Nat.zero_lt_one ?_
  refine v_iload_n dX6_box_17 rfl ?_
  refine v_call1i lX6_53 kX0_has (c_X0_has_in hx) dX6_box_18 rfl rfl Nat.zero_lt_one rfl (by decide) (by decide) (st8 rfl) ?_
  refine v_if_ne 26 dX6_box_21 (by decide) (fun h_21 => ?_) (fun h_21 => absurd h_21 n10)
  refine v_iload_n dX6_box_26 rfl ?_
  refine v_if_lt 35 dX6_box_27 (by decide) (fun h_27 => absurd h_27 (by decide)) (fun h_27 => ?_)
  refine v_iload_n dX6_box_30 rfl ?_
  refine v_iconst 4 dX6_box_31 (by decide) ?_
  refine v_icmp_le 38 dX6_box_32 (by decide) (fun h_32 => ?_) (fun h_32 => absurd (by decide) h_32)
  refine v_iload_n dX6_box_38 rfl ?_
  refine v_tsIn (off := 60) 99 1 dX6_box_39 rfl (by decide) (by decide) (by decide) (by decide) ?_
  refine v_aload_n dX6_box_99 rfl ?_
  refine v_gr 0 fX6_21 dX6_box_100 rfl rfl rfl Nat.zero_lt_one ?_
  refine v_gr 0 fX6_49 dX6_box_103 rfl rfl rfl Nat.zero_lt_one ?_
  refine v_iload_n dX6_box_106 rfl ?_
  refine v_call1i lX6_63 kX0_isFull (c_X0_isFull hx) dX6_box_107 rfl rfl Nat.zero_lt_one rfl (by decide) (by decide) (st8 rfl) ?_
  refine v_if_eq 117 dX6_box_110 (by decide) (fun h_110 => ?_) (fun h_110 => ?_)
  · rw [i01] at h_110
    refine v_iconst 0 dX6_box_117 (by decide) ?_
    exact v_iret dX6_box_118 ⟨by first | (rw [if_pos h_110]; done) | (rw [if_neg h_110]), rfl⟩
  · rw [i01] at h_110
    refine v_iconst 1 dX6_box_113 (by decide) ?_
    refine v_goto 118 dX6_box_114 (by decide) ?_
    exact v_iret dX6_box_118 ⟨by first | (rw [if_pos h_110]; done) | (rw [if_neg h_110]), rfl⟩
set_option maxHeartbeats 4000000 in
set_option maxRecDepth 100000 in
theorem c_X6_box_2 {a b : tH} {x : Nat} (hx : x < 8) (hh : ¬ a.1 18 0 6 = 0) {T : Nat} (hT : a.1 18 0 5 = nI T) (h24 : T ≤ 24) : Ci yX6_box cX6_box 3 .int 2 [.inr (some (0, 0)), .inl (nI x), .inl 2] (mix a b) (nI (cnt (fun t => decide (a.1 7 t 3 = 1) && decide (a.1 7 t 13 = nI x)) T)) (mix (a) b) := by
  refine Ct.of (by decide) [_, _, _] rfl (Nat.le_of_ble_eq_true rfl) ?_
  refine v_aload_n dX6_box_0 rfl ?_
  refine v_gr 0 fX6_21 dX6_box_1 rfl rfl rfl Nat.zero_lt_one ?_
  refine x_gi (by decide) fX6_56 dX6_box_4 rfl rfl Nat.zero_lt_one ?_
  refine v_if_eq 24 dX6_box_7 (by decide) (fun h_7 => absurd h_7 hh) (fun h_7 => ?_)
  refine v_aload_n dX6_box_10 rfl ?_
  refine v_gr 0 fX6_21 dX6_box_11 rfl rfl rfl Nat.zero_lt_one ?_
  refine v_gr 0 fX6_49 dX6_box_14 rfl rfl rfl Nat.zero_lt_one ?_
  refine v_iload_n dX6_box_17 rfl ?_
  refine v_call1i lX6_53 kX0_has (c_X0_has_in hx) dX6_box_18 rfl rfl Nat.zero_lt_one rfl (by decide) (by decide) (st8 rfl) ?_
  refine v_if_ne 26 dX6_box_21 (by decide) (fun h_21 => ?_) (fun h_21 => absurd h_21 n10)
  refine v_iload_n dX6_box_26 rfl ?_
  refine v_if_lt 35 dX6_box_27 (by decide) (fun h_27 => absurd h_27 (by decide)) (fun h_27 => ?_)
  refine v_iload_n dX6_box_30 rfl ?_
  refine v_iconst 4 dX6_box_31 (by decide) ?_
  refine v_icmp_le 38 dX6_box_32 (by decide) (fun h_32 => ?_) (fun h_32 => absurd (by decide) h_32)
  refine v_iload_n dX6_box_38 rfl ?_
  refine v_tsIn (off := 80) 119 2 dX6_box_39 rfl (by decide) (by decide) (by decide) (by decide) ?_
  refine v_aload_n dX6_box_119 rfl ?_
  refine v_gr 0 fX6_21 dX6_box_120 rfl rfl rfl Nat.zero_lt_one ?_
  refine v_iload_n dX6_box_123 rfl ?_
  refine v_iconst 1 dX6_box_124 (by decide) ?_
  refine v_call2i lX6_114 kX5_countWaiting (c_X5_countWaiting hT h24) dX6_box_125 rfl rfl Nat.zero_lt_one rfl (by decide) (by decide) (st8 rfl) ?_
  exact v_iret dX6_box_128 ⟨rfl, rfl⟩
set_option maxHeartbeats 4000000 in
set_option maxRecDepth 100000 in
theorem c_X6_box_3 {a b : tH} {x : Nat} (hx : x < 8) (hh : ¬ a.1 18 0 6 = 0) {T : Nat} (hT : a.1 18 0 5 = nI T) (h24 : T ≤ 24) : Ci yX6_box cX6_box 3 .int 2 [.inr (some (0, 0)), .inl (nI x), .inl 3] (mix a b) (nI (cnt (fun t => decide (a.1 7 t 3 = 2) && decide (a.1 7 t 13 = nI x)) T)) (mix (a) b) := by
  refine Ct.of (by decide) [_, _, _] rfl (Nat.le_of_ble_eq_true rfl) ?_
  refine v_aload_n dX6_box_0 rfl ?_
  refine v_gr 0 fX6_21 dX6_box_1 rfl rfl rfl Nat.zero_lt_one ?_
  refine x_gi (by decide) fX6_56 dX6_box_4 rfl rfl Nat.zero_lt_one ?_
  refine v_if_eq 24 dX6_box_7 (by decide) (fun h_7 => absurd h_7 hh) (fun h_7 => ?_)
  refine v_aload_n dX6_box_10 rfl ?_
  refine v_gr 0 fX6_21 dX6_box_11 rfl rfl rfl Nat.zero_lt_one ?_
  refine v_gr 0 fX6_49 dX6_box_14 rfl rfl rfl Nat.zero_lt_one ?_
  refine v_iload_n dX6_box_17 rfl ?_
  refine v_call1i lX6_53 kX0_has (c_X0_has_in hx) dX6_box_18 rfl rfl Nat.zero_lt_one rfl (by decide) (by decide) (st8 rfl) ?_
  refine v_if_ne 26 dX6_box_21 (by decide) (fun h_21 => ?_) (fun h_21 => absurd h_21 n10)
  refine v_iload_n dX6_box_26 rfl ?_
  refine v_if_lt 35 dX6_box_27 (by decide) (fun h_27 => absurd h_27 (by decide)) (fun h_27 => ?_)
  refine v_iload_n dX6_box_30 rfl ?_
  refine v_iconst 4 dX6_box_31 (by decide) ?_
  refine v_icmp_le 38 dX6_box_32 (by decide) (fun h_32 => ?_) (fun h_32 => absurd (by decide) h_32)
  refine v_iload_n dX6_box_38 rfl ?_
  refine v_tsIn (off := 90) 129 3 dX6_box_39 rfl (by decide) (by decide) (by decide) (by decide) ?_
  refine v_aload_n dX6_box_129 rfl ?_
  refine v_gr 0 fX6_21 dX6_box_130 rfl rfl rfl Nat.zero_lt_one ?_
  refine v_iload_n dX6_box_133 rfl ?_
  refine v_iconst 2 dX6_box_134 (by decide) ?_
  refine v_call2i lX6_114 kX5_countWaiting (c_X5_countWaiting hT h24) dX6_box_135 rfl rfl Nat.zero_lt_one rfl (by decide) (by decide) (st8 rfl) ?_
  exact v_iret dX6_box_138 ⟨rfl, rfl⟩
set_option maxHeartbeats 4000000 in
set_option maxRecDepth 100000 in
theorem c_X6_box_4 {a b : tH} {x : Nat} (hx : x < 8) (hh : ¬ a.1 18 0 6 = 0) {T : Nat} (hT : a.1 18 0 5 = nI T) (h24 : T ≤ 24) : Ci yX6_box cX6_box 3 .int 2 [.inr (some (0, 0)), .inl (nI x), .inl 4] (mix a b) (nI (cnt (fun t => decide (a.1 7 t 3 = 3) && decide (a.1 7 t 13 = nI x)) T)) (mix (a) b) := by
  refine Ct.of (by decide) [_, _, _] rfl (Nat.le_of_ble_eq_true rfl) ?_
  refine v_aload_n dX6_box_0 rfl ?_
  refine v_gr 0 fX6_21 dX6_box_1 rfl rfl rfl Nat.zero_lt_one ?_
  refine x_gi (by decide) fX6_56 dX6_box_4 rfl rfl Nat.zero_lt_one ?_
  refine v_if_eq 24 dX6_box_7 (by decide) (fun h_7 => absurd h_7 hh) (fun h_7 => ?_)
  refine v_aload_n dX6_box_10 rfl ?_
  refine v_gr 0 fX6_21 dX6_box_11 rfl rfl rfl Nat.zero_lt_one ?_
  refine v_gr 0 fX6_49 dX6_box_14 rfl rfl rfl Nat.zero_lt_one ?_
  refine v_iload_n dX6_box_17 rfl ?_
  refine v_call1i lX6_53 kX0_has (c_X0_has_in hx) dX6_box_18 rfl rfl Nat.zero_lt_one rfl (by decide) (by decide) (st8 rfl) ?_
  refine v_if_ne 26 dX6_box_21 (by decide) (fun h_21 => ?_) (fun h_21 => absurd h_21 n10)
  refine v_iload_n dX6_box_26 rfl ?_
  refine v_if_lt 35 dX6_box_27 (by decide) (fun h_27 => absurd h_27 (by decide)) (fun h_27 => ?_)
  refine v_iload_n dX6_box_30 rfl ?_
  refine v_iconst 4 dX6_box_31 (by decide) ?_
  refine v_icmp_le 38 dX6_box_32 (by decide) (fun h_32 => ?_) (fun h_32 => absurd (by decide) h_32)
  refine v_iload_n dX6_box_38 rfl ?_
  refine v_tsOut 139 dX6_box_39 (Or.inr (by decide)) (by decide) ?_
  refine v_aload_n dX6_box_139 rfl ?_
  refine v_gr 0 fX6_21 dX6_box_140 rfl rfl rfl Nat.zero_lt_one ?_
  refine v_iload_n dX6_box_143 rfl ?_
  refine v_iconst 3 dX6_box_144 (by decide) ?_
  refine v_call2i lX6_114 kX5_countWaiting (c_X5_countWaiting hT h24) dX6_box_145 rfl rfl Nat.zero_lt_one rfl (by decide) (by decide) (st8 rfl) ?_
  exact v_iret dX6_box_148 ⟨rfl, rfl⟩
set_option maxHeartbeats 4000000 in
set_option maxRecDepth 100000 in
theorem c_X6_trace1 {a b : tH} {i w : Int32} (hi : a.1 18 0 6 = 0 ∨ i < -1 ∨ a.1 15 0 2 ≤ i) : Ci yX6_trace cX6_trace 4 .int 1 [.inr (some (0, 0)), .inl i, .inl w] (mix a b) ((-1)) (mix (a) b) := by
  refine Ct.of (by decide) [_, _, _, _] rfl (Nat.le_of_ble_eq_true rfl) ?_
  refine v_aload_n dX6_trace_0 rfl ?_
  refine v_gr 0 fX6_21 dX6_trace_1 rfl rfl rfl Nat.zero_lt_one ?_
  refine v_gr 0 fX6_117 dX6_trace_4 rfl rfl rfl Nat.zero_lt_one ?_
  refine v_call0i lX6_121 kX4_size (c_X4_size) dX6_trace_7 rfl rfl Nat.zero_lt_one rfl (by decide) (by decide) (st8 rfl) ?_
  refine v_istore_n [_, _, _, _] dX6_trace_10 rfl (by decide) ?_
  refine v_aload_n dX6_trace_11 rfl ?_
  refine v_gr 0 fX6_21 dX6_trace_12 rfl rfl rfl Nat.zero_lt_one ?_
  refine x_gi (by decide) fX6_56 dX6_trace_15 rfl rfl Nat.zero_lt_one ?_
  refine v_if_eq 31 dX6_trace_18 (by decide) (fun h_18 => ?_) (fun h_18 => ?_)
  · refine v_iconst (-1) dX6_trace_31 (by decide) ?_
    exact v_iret dX6_trace_32 ⟨rfl, rfl⟩
  · refine v_iload_n dX6_trace_21 rfl ?_
    refine v_iconst (-1) dX6_trace_22 (by decide) ?_
    refine v_icmp_lt 31 dX6_trace_23 (by decide) (fun h_23 => ?_) (fun h_23 => ?_)
    · refine v_iconst (-1) dX6_trace_31 (by decide) ?_
      exact v_iret dX6_trace_32 ⟨rfl, rfl⟩
    · refine v_iload_n dX6_trace_26 rfl ?_
      refine v_iload_n dX6_trace_27 rfl ?_
      refine v_icmp_lt 33 dX6_trace_28 (by decide) (fun h_28 => hi.elim (fun z => absurd z h_18) (fun z => z.elim (fun y => absurd y h_23) (fun y => absurd h_28 (Int32.not_lt.mpr y)))) (fun h_28 => ?_)
      refine v_iconst (-1) dX6_trace_31 (by decide) ?_
      exact v_iret dX6_trace_32 ⟨rfl, rfl⟩
set_option maxHeartbeats 4000000 in
set_option maxRecDepth 100000 in
theorem c_X6_trace2 {a b : tH} {i w : Int32} (hh : ¬ a.1 18 0 6 = 0) (hi : ¬ (i < -1 ∨ a.1 15 0 2 ≤ i)) (hw : w < 0 ∨ 1 < w) : Ci yX6_trace cX6_trace 4 .int 1 [.inr (some (0, 0)), .inl i, .inl w] (mix a b) ((-2)) (mix (a) b) := by
  refine Ct.of (by decide) [_, _, _, _] rfl (Nat.le_of_ble_eq_true rfl) ?_
  refine v_aload_n dX6_trace_0 rfl ?_
  refine v_gr 0 fX6_21 dX6_trace_1 rfl rfl rfl Nat.zero_lt_one ?_
  refine v_gr 0 fX6_117 dX6_trace_4 rfl rfl rfl Nat.zero_lt_one ?_
  refine v_call0i lX6_121 kX4_size (c_X4_size) dX6_trace_7 rfl rfl Nat.zero_lt_one rfl (by decide) (by decide) (st8 rfl) ?_
  refine v_istore_n [_, _, _, _] dX6_trace_10 rfl (by decide) ?_
  refine v_aload_n dX6_trace_11 rfl ?_
  refine v_gr 0 fX6_21 dX6_trace_12 rfl rfl rfl Nat.zero_lt_one ?_
  refine x_gi (by decide) fX6_56 dX6_trace_15 rfl rfl Nat.zero_lt_one ?_
  refine v_if_eq 31 dX6_trace_18 (by decide) (fun h_18 => absurd h_18 hh) (fun h_18 => ?_)
  refine v_iload_n dX6_trace_21 rfl ?_
  refine v_iconst (-1) dX6_trace_22 (by decide) ?_
  refine v_icmp_lt 31 dX6_trace_23 (by decide) (fun h_23 => absurd (Or.inl h_23) hi) (fun h_23 => ?_)
  refine v_iload_n dX6_trace_26 rfl ?_
  refine v_iload_n dX6_trace_27 rfl ?_
  refine v_icmp_lt 33 dX6_trace_28 (by decide) (fun h_28 => ?_) (fun h_28 => absurd (Or.inr (Int32.not_lt.mp h_28)) hi)
  refine v_iload_n dX6_trace_33 rfl ?_
  refine v_if_lt 42 dX6_trace_34 (by decide) (fun h_34 => ?_) (fun h_34 => ?_)
  · refine v_bipush (-2) dX6_trace_42 (by decide) ?_
    exact v_iret dX6_trace_44 ⟨rfl, rfl⟩
  · refine v_iload_n dX6_trace_37 rfl ?_
    refine v_iconst 1 dX6_trace_38 (by decide) ?_
    refine v_icmp_le 45 dX6_trace_39 (by decide) (fun h_39 => hw.elim (fun z => absurd z h_34) (fun z => absurd h_39 (Int32.not_le.mpr z))) (fun h_39 => ?_)
    refine v_bipush (-2) dX6_trace_42 (by decide) ?_
    exact v_iret dX6_trace_44 ⟨rfl, rfl⟩
set_option maxHeartbeats 4000000 in
set_option maxRecDepth 100000 in
theorem c_X6_trace_n {a b : tH} {w : Int32} (hh : ¬ a.1 18 0 6 = 0) (hi : ¬ ((-1 : Int32) < -1 ∨ a.1 15 0 2 ≤ -1)) (hw : ¬ (w < 0 ∨ 1 < w)) : Ci yX6_trace cX6_trace 4 .int 1 [.inr (some (0, 0)), .inl (-1), .inl w] (mix a b) (a.1 15 0 2) (mix (a) b) := by
  refine Ct.of (by decide) [_, _, _, _] rfl (Nat.le_of_ble_eq_true rfl) ?_
  refine v_aload_n dX6_trace_0 rfl ?_
  refine v_gr 0 fX6_21 dX6_trace_1 rfl rfl rfl Nat.zero_lt_one ?_
  refine v_gr 0 fX6_117 dX6_trace_4 rfl rfl rfl Nat.zero_lt_one ?_
  refine v_call0i lX6_121 kX4_size (c_X4_size) dX6_trace_7 rfl rfl Nat.zero_lt_one rfl (by decide) (by decide) (st8 rfl) ?_
  refine v_istore_n [_, _, _, _] dX6_trace_10 rfl (by decide) ?_
  refine v_aload_n dX6_trace_11 rfl ?_
  refine v_gr 0 fX6_21 dX6_trace_12 rfl rfl rfl Nat.zero_lt_one ?_
  refine x_gi (by decide) fX6_56 dX6_trace_15 rfl rfl Nat.zero_lt_one ?_
  refine v_if_eq 31 dX6_trace_18 (by decide) (fun h_18 => absurd h_18 hh) (fun h_18 => ?_)
  refine v_iload_n dX6_trace_21 rfl ?_
  refine v_iconst (-1) dX6_trace_22 (by decide) ?_
  refine v_icmp_lt 31 dX6_trace_23 (by decide) (fun h_23 => absurd (Or.inl h_23) hi) (fun h_23 => ?_)
  refine v_iload_n dX6_trace_26 rfl ?_
  refine v_iload_n dX6_trace_27 rfl ?_
  refine v_icmp_lt 33 dX6_trace_28 (by decide) (fun h_28 => ?_) (fun h_28 => absurd (Or.inr (Int32.not_lt.mp h_28)) hi)
  refine v_iload_n dX6_trace_33 rfl ?_
  refine v_if_lt 42 dX6_trace_34 (by decide) (fun h_34 => absurd (Or.inl h_34) hw) (fun h_34 => ?_)
  refine v_iload_n dX6_trace_37 rfl ?_
  refine v_iconst 1 dX6_trace_38 (by decide) ?_
  refine v_icmp_le 45 dX6_trace_39 (by decide) (fun h_39 => ?_) (fun h_39 => absurd (Or.inr (Int32.not_le.mp h_39)) hw)
  refine v_iload_n dX6_trace_45 rfl ?_
  refine v_iconst (-1) dX6_trace_46 (by decide) ?_
  refine v_icmp_ne 52 dX6_trace_47 (by decide) (fun h_47 => absurd rfl h_47) (fun h_47 => ?_)
  refine v_iload_n dX6_trace_50 rfl ?_
  exact v_iret dX6_trace_51 ⟨rfl, rfl⟩
set_option maxHeartbeats 4000000 in
set_option maxRecDepth 100000 in
theorem c_X6_trace_0 {a b : tH} {r i : Nat} (hh : ¬ a.1 18 0 6 = 0) (hr : a.1 15 0 2 = nI r) (h100 : r ≤ 100) (hi : i < r) : Ci yX6_trace cX6_trace 4 .int 1 [.inr (some (0, 0)), .inl (nI i), .inl 0] (mix a b) (a.1 16 0 i) (mix (a) b) := by
  have hm : ¬ nI i < -1 := fun y => absurd (Int32.lt_trans y (by decide : (-1 : Int32) < 0)) (nI_pos (by omega))
  refine Ct.of (by decide) [_, _, _, _] rfl (Nat.le_of_ble_eq_true rfl) ?_
  refine v_aload_n dX6_trace_0 rfl ?_
  refine v_gr 0 fX6_21 dX6_trace_1 rfl rfl rfl Nat.zero_lt_one ?_
  refine v_gr 0 fX6_117 dX6_trace_4 rfl rfl rfl Nat.zero_lt_one ?_
  refine v_call0i lX6_121 kX4_size (c_X4_size) dX6_trace_7 rfl rfl Nat.zero_lt_one rfl (by decide) (by decide) (st8 rfl) ?_
  refine v_istore_n [_, _, _, _] dX6_trace_10 rfl (by decide) ?_
  refine v_aload_n dX6_trace_11 rfl ?_
  refine v_gr 0 fX6_21 dX6_trace_12 rfl rfl rfl Nat.zero_lt_one ?_
  refine x_gi (by decide) fX6_56 dX6_trace_15 rfl rfl Nat.zero_lt_one ?_
  refine v_if_eq 31 dX6_trace_18 (by decide) (fun h_18 => absurd h_18 hh) (fun h_18 => ?_)
  refine v_iload_n dX6_trace_21 rfl ?_
  refine v_iconst (-1) dX6_trace_22 (by decide) ?_
  refine v_icmp_lt 31 dX6_trace_23 (by decide) (fun h_23 => absurd h_23 hm) (fun h_23 => ?_)
  refine v_iload_n dX6_trace_26 rfl ?_
  refine v_iload_n dX6_trace_27 rfl ?_
  refine v_icmp_lt 33 dX6_trace_28 (by decide) (fun h_28 => ?_) (fun h_28 => absurd (by rw [hr]; exact nI_lt hi (by omega)) h_28)
  refine v_iload_n dX6_trace_33 rfl ?_
  refine v_if_lt 42 dX6_trace_34 (by decide) (fun h_34 => absurd h_34 (by decide)) (fun h_34 => ?_)
  refine v_iload_n dX6_trace_37 rfl ?_
  refine v_iconst 1 dX6_trace_38 (by decide) ?_
  refine v_icmp_le 45 dX6_trace_39 (by decide) (fun h_39 => ?_) (fun h_39 => absurd (by decide) h_39)
  refine v_iload_n dX6_trace_45 rfl ?_
  refine v_iconst (-1) dX6_trace_46 (by decide) ?_
  refine v_icmp_ne 52 dX6_trace_47 (by decide) (fun h_47 => ?_) (fun h_47 => absurd h_47 (nI_nm1 (by omega)))
  refine v_iload_n dX6_trace_52 rfl ?_
  refine v_if_ne 70 dX6_trace_53 (by decide) (fun h_53 => absurd rfl h_53) (fun h_53 => ?_)
  refine v_aload_n dX6_trace_56 rfl ?_
  refine v_gr 0 fX6_21 dX6_trace_57 rfl rfl rfl Nat.zero_lt_one ?_
  refine v_gr 0 fX6_117 dX6_trace_60 rfl rfl rfl Nat.zero_lt_one ?_
  refine v_iload_n dX6_trace_63 rfl ?_
  refine v_call1i lX6_124 kX4_numberAt (c_X4_numberAt hr hi h100) dX6_trace_64 rfl rfl Nat.zero_lt_one rfl (by decide) (by decide) (st8 rfl) ?_
  refine v_goto 81 dX6_trace_67 (by decide) ?_
  exact v_iret dX6_trace_81 ⟨rfl, rfl⟩
set_option maxHeartbeats 4000000 in
set_option maxRecDepth 100000 in
theorem c_X6_trace_1 {a b : tH} {r i : Nat} (hh : ¬ a.1 18 0 6 = 0) (hr : a.1 15 0 2 = nI r) (h100 : r ≤ 100) (hi : i < r) : Ci yX6_trace cX6_trace 4 .int 1 [.inr (some (0, 0)), .inl (nI i), .inl 1] (mix a b) (a.1 17 0 i) (mix (a) b) := by
  have hm : ¬ nI i < -1 := fun y => absurd (Int32.lt_trans y (by decide : (-1 : Int32) < 0)) (nI_pos (by omega))
  refine Ct.of (by decide) [_, _, _, _] rfl (Nat.le_of_ble_eq_true rfl) ?_
  refine v_aload_n dX6_trace_0 rfl ?_
  refine v_gr 0 fX6_21 dX6_trace_1 rfl rfl rfl Nat.zero_lt_one ?_
  refine v_gr 0 fX6_117 dX6_trace_4 rfl rfl rfl Nat.zero_lt_one ?_
  refine v_call0i lX6_121 kX4_size (c_X4_size) dX6_trace_7 rfl rfl Nat.zero_lt_one rfl (by decide) (by decide) (st8 rfl) ?_
  refine v_istore_n [_, _, _, _] dX6_trace_10 rfl (by decide) ?_
  refine v_aload_n dX6_trace_11 rfl ?_
  refine v_gr 0 fX6_21 dX6_trace_12 rfl rfl rfl Nat.zero_lt_one ?_
  refine x_gi (by decide) fX6_56 dX6_trace_15 rfl rfl Nat.zero_lt_one ?_
  refine v_if_eq 31 dX6_trace_18 (by decide) (fun h_18 => absurd h_18 hh) (fun h_18 => ?_)
  refine v_iload_n dX6_trace_21 rfl ?_
  refine v_iconst (-1) dX6_trace_22 (by decide) ?_
  refine v_icmp_lt 31 dX6_trace_23 (by decide) (fun h_23 => absurd h_23 hm) (fun h_23 => ?_)
  refine v_iload_n dX6_trace_26 rfl ?_
  refine v_iload_n dX6_trace_27 rfl ?_
  refine v_icmp_lt 33 dX6_trace_28 (by decide) (fun h_28 => ?_) (fun h_28 => absurd (by rw [hr]; exact nI_lt hi (by omega)) h_28)
  refine v_iload_n dX6_trace_33 rfl ?_
  refine v_if_lt 42 dX6_trace_34 (by decide) (fun h_34 => absurd h_34 (by decide)) (fun h_34 => ?_)
  refine v_iload_n dX6_trace_37 rfl ?_
  refine v_iconst 1 dX6_trace_38 (by decide) ?_
  refine v_icmp_le 45 dX6_trace_39 (by decide) (fun h_39 => ?_) (fun h_39 => absurd (by decide) h_39)
  refine v_iload_n dX6_trace_45 rfl ?_
  refine v_iconst (-1) dX6_trace_46 (by decide) ?_
  refine v_icmp_ne 52 dX6_trace_47 (by decide) (fun h_47 => ?_) (fun h_47 => absurd h_47 (nI_nm1 (by omega)))
  refine v_iload_n dX6_trace_52 rfl ?_
  refine v_if_ne 70 dX6_trace_53 (by decide) (fun h_53 => ?_) (fun h_53 => absurd h_53 (by decide))
  refine v_aload_n dX6_trace_70 rfl ?_
  refine v_gr 0 fX6_21 dX6_trace_71 rfl rfl rfl Nat.zero_lt_one ?_
  refine v_gr 0 fX6_117 dX6_trace_74 rfl rfl rfl Nat.zero_lt_one ?_
  refine v_iload_n dX6_trace_77 rfl ?_
  refine v_call1i lX6_127 kX4_registerAt (c_X4_registerAt hr hi h100) dX6_trace_78 rfl rfl Nat.zero_lt_one rfl (by decide) (by decide) (st8 rfl) ?_
  exact v_iret dX6_trace_81 ⟨rfl, rfl⟩
set_option maxHeartbeats 4000000 in
set_option maxRecDepth 100000 in
theorem c_X6_share1 {a b : tH} {t : Int32} (ht : t < 0 ∨ a.1 18 0 5 ≤ t) : Ci yX6_share cX6_share 3 .int 1 [.inr (some (0, 0)), .inl t] (mix a b) ((-1)) (mix (a) b) := by
  refine Ct.of (by decide) [_, _, _] rfl (Nat.le_of_ble_eq_true rfl) ?_
  refine v_aload_n dX6_share_0 rfl ?_
  refine v_gr 0 fX6_21 dX6_share_1 rfl rfl rfl Nat.zero_lt_one ?_
  refine v_iload_n dX6_share_4 rfl ?_
  refine v_call1r lX6_95 kX5_fiberAt (c_X5_fiberAt_out ht) dX6_share_5 rfl rfl Nat.zero_lt_one rfl (by decide) (by decide) (st8 rfl) ?_
  refine v_astore_n [_, _, _] dX6_share_8 rfl (by decide) ?_
  refine v_aload_n dX6_share_9 rfl ?_
  refine v_ifnonnull 15 dX6_share_10 (by decide) (fun q_10 h_10 => nomatch h_10) (fun h_10 => ?_)
  refine v_iconst (-1) dX6_share_13 (by decide) ?_
  exact v_iret dX6_share_14 ⟨rfl, rfl⟩
set_option maxHeartbeats 4000000 in
set_option maxRecDepth 100000 in
theorem c_X6_share_ok {a b : tH} {T t : Nat} (hT : a.1 18 0 5 = nI T) (h24 : T ≤ 24) (ht : t < T) (h0 : ¬ a.1 18 0 10 = 0) : Ci yX6_share cX6_share 3 .int 1 [.inr (some (0, 0)), .inl (nI t)] (mix a b) (a.1 7 t 11 * 1000 / a.1 18 0 10) (mix (a) b) := by
  refine Ct.of (by decide) [_, _, _] rfl (Nat.le_of_ble_eq_true rfl) ?_
  refine v_aload_n dX6_share_0 rfl ?_
  refine v_gr 0 fX6_21 dX6_share_1 rfl rfl rfl Nat.zero_lt_one ?_
  refine v_iload_n dX6_share_4 rfl ?_
  refine v_call1r lX6_95 kX5_fiberAt (c_X5_fiberAt_in hT ht h24) dX6_share_5 rfl rfl Nat.zero_lt_one rfl (by decide) (by decide) (st8 rfl) ?_
  refine v_astore_n [_, _, _] dX6_share_8 rfl (by decide) ?_
  refine v_aload_n dX6_share_9 rfl ?_
  refine v_ifnonnull 15 dX6_share_10 (by decide) (fun q_10 h_10 => ?_) (fun h_10 => nomatch h_10)
  refine v_aload_n dX6_share_15 rfl ?_
  refine v_gr 0 fX6_21 dX6_share_16 rfl rfl rfl Nat.zero_lt_one ?_
  refine x_gi (by decide) fX6_70 dX6_share_19 rfl rfl Nat.zero_lt_one ?_
  refine v_if_ne 35 dX6_share_22 (by decide) (fun h_22 => ?_) (fun h_22 => absurd h_22 h0)
  refine v_aload_n dX6_share_35 rfl ?_
  refine x_gi (by decide) fX6_137 dX6_share_36 rfl rfl (show t < 24 by omega) ?_
  refine v_sipush 1000 dX6_share_39 (by decide) ?_
  refine v_imul dX6_share_42 ?_
  refine v_aload_n dX6_share_43 rfl ?_
  refine v_gr 0 fX6_21 dX6_share_44 rfl rfl rfl Nat.zero_lt_one ?_
  refine x_gi (by decide) fX6_70 dX6_share_47 rfl rfl Nat.zero_lt_one ?_
  refine v_idiv dX6_share_50 h0 ?_
  exact v_iret dX6_share_51 ⟨rfl, rfl⟩
