/-! The constructors -/
theorem pX0_9 : FP RX0 9 0 0 2 true (.array .boolean) := ⟨TX0, tyX0, rfl, inX0, rfl, by decide, tyX0_ok, nmX0, rfl, tyX0_ok 0 (by decide), by decide +kernel⟩
theorem pX0_15 : FP RX0 15 0 1 2 true (.array .int) := ⟨TX0, tyX0, rfl, inX0, rfl, by decide, tyX0_ok, nmX0, rfl, tyX0_ok 1 (by decide), by decide +kernel⟩
theorem pX1_9 : FP RX1 9 1 1 15 true (.array .int) := ⟨TX1, tyX1, rfl, inX1, rfl, by decide, tyX1_ok, nmX1, rfl, tyX1_ok 1 (by decide), by decide +kernel⟩
theorem pX1_15 : FP RX1 15 1 2 15 true (.array .int) := ⟨TX1, tyX1, rfl, inX1, rfl, by decide, tyX1_ok, nmX1, rfl, tyX1_ok 2 (by decide), by decide +kernel⟩
theorem pX1_18 : FP RX1 18 1 3 15 false .int := ⟨TX1, tyX1, rfl, inX1, rfl, by decide, tyX1_ok, nmX1, rfl, tyX1_ok 3 (by decide), by decide +kernel⟩
theorem pX1_22 : FP RX1 22 1 4 15 false .int := ⟨TX1, tyX1, rfl, inX1, rfl, by decide, tyX1_ok, nmX1, rfl, tyX1_ok 4 (by decide), by decide +kernel⟩
theorem pX1_25 : FP RX1 25 1 5 15 false .int := ⟨TX1, tyX1, rfl, inX1, rfl, by decide, tyX1_ok, nmX1, rfl, tyX1_ok 5 (by decide), by decide +kernel⟩
theorem pX1_28 : FP RX1 28 1 6 15 false .int := ⟨TX1, tyX1, rfl, inX1, rfl, by decide, tyX1_ok, nmX1, rfl, tyX1_ok 6 (by decide), by decide +kernel⟩
theorem pX1_31 : FP RX1 31 1 7 15 false .int := ⟨TX1, tyX1, rfl, inX1, rfl, by decide, tyX1_ok, nmX1, rfl, tyX1_ok 7 (by decide), by decide +kernel⟩
theorem pX1_34 : FP RX1 34 1 8 15 false .int := ⟨TX1, tyX1, rfl, inX1, rfl, by decide, tyX1_ok, nmX1, rfl, tyX1_ok 8 (by decide), by decide +kernel⟩
theorem pX1_37 : FP RX1 37 1 9 15 false .boolean := ⟨TX1, tyX1, rfl, inX1, rfl, by decide, tyX1_ok, nmX1, rfl, tyX1_ok 9 (by decide), by decide +kernel⟩
theorem pX1_41 : FP RX1 41 1 10 15 false .int := ⟨TX1, tyX1, rfl, inX1, rfl, by decide, tyX1_ok, nmX1, rfl, tyX1_ok 10 (by decide), by decide +kernel⟩
theorem pX1_44 : FP RX1 44 1 11 15 false .int := ⟨TX1, tyX1, rfl, inX1, rfl, by decide, tyX1_ok, nmX1, rfl, tyX1_ok 11 (by decide), by decide +kernel⟩
theorem pX1_47 : FP RX1 47 1 12 15 false .int := ⟨TX1, tyX1, rfl, inX1, rfl, by decide, tyX1_ok, nmX1, rfl, tyX1_ok 12 (by decide), by decide +kernel⟩
theorem pX1_50 : FP RX1 50 1 13 15 false .int := ⟨TX1, tyX1, rfl, inX1, rfl, by decide, tyX1_ok, nmX1, rfl, tyX1_ok 13 (by decide), by decide +kernel⟩
theorem pX1_53 : FP RX1 53 1 14 15 false .int := ⟨TX1, tyX1, rfl, inX1, rfl, by decide, tyX1_ok, nmX1, rfl, tyX1_ok 14 (by decide), by decide +kernel⟩
theorem pX1_56 : FP RX1 56 1 0 15 true .int := ⟨TX1, tyX1, rfl, inX1, rfl, by decide, tyX1_ok, nmX1, rfl, tyX1_ok 0 (by decide), by decide +kernel⟩
theorem pX2_11 : FP RX2 11 2 0 2 true (.array (.object "TurnThreads$Fiber")) := ⟨TX2, tyX2, rfl, inX2, rfl, by decide, tyX2_ok, nmX2, rfl, tyX2_ok 0 (by decide), by decide +kernel⟩
theorem pX2_17 : FP RX2 17 2 1 2 false .int := ⟨TX2, tyX2, rfl, inX2, rfl, by decide, tyX2_ok, nmX2, rfl, tyX2_ok 1 (by decide), by decide +kernel⟩
theorem pX4_9 : FP RX4 9 4 0 3 true (.array .int) := ⟨TX4, tyX4, rfl, inX4, rfl, by decide, tyX4_ok, nmX4, rfl, tyX4_ok 0 (by decide), by decide +kernel⟩
theorem pX4_15 : FP RX4 15 4 1 3 true (.array .int) := ⟨TX4, tyX4, rfl, inX4, rfl, by decide, tyX4_ok, nmX4, rfl, tyX4_ok 1 (by decide), by decide +kernel⟩
theorem pX4_18 : FP RX4 18 4 2 3 false .int := ⟨TX4, tyX4, rfl, inX4, rfl, by decide, tyX4_ok, nmX4, rfl, tyX4_ok 2 (by decide), by decide +kernel⟩
theorem pX7_7 : FP RX7 7 7 2 35 true (.array .int) := ⟨TX7, tyX7, rfl, inX7, rfl, by decide, tyX7_ok, nmX7, rfl, tyX7_ok 2 (by decide), by decide +kernel⟩
theorem pX7_13 : FP RX7 13 7 3 35 true (.array .int) := ⟨TX7, tyX7, rfl, inX7, rfl, by decide, tyX7_ok, nmX7, rfl, tyX7_ok 3 (by decide), by decide +kernel⟩
theorem pX7_16 : FP RX7 16 7 4 35 true (.array .int) := ⟨TX7, tyX7, rfl, inX7, rfl, by decide, tyX7_ok, nmX7, rfl, tyX7_ok 4 (by decide), by decide +kernel⟩
theorem pX7_19 : FP RX7 19 7 12 35 true (.array .int) := ⟨TX7, tyX7, rfl, inX7, rfl, by decide, tyX7_ok, nmX7, rfl, tyX7_ok 12 (by decide), by decide +kernel⟩
theorem pX7_22 : FP RX7 22 7 13 35 true (.array .int) := ⟨TX7, tyX7, rfl, inX7, rfl, by decide, tyX7_ok, nmX7, rfl, tyX7_ok 13 (by decide), by decide +kernel⟩
theorem pX7_25 : FP RX7 25 7 14 35 true (.array .int) := ⟨TX7, tyX7, rfl, inX7, rfl, by decide, tyX7_ok, nmX7, rfl, tyX7_ok 14 (by decide), by decide +kernel⟩
theorem pX7_28 : FP RX7 28 7 15 35 true (.array .int) := ⟨TX7, tyX7, rfl, inX7, rfl, by decide, tyX7_ok, nmX7, rfl, tyX7_ok 15 (by decide), by decide +kernel⟩
theorem pX7_31 : FP RX7 31 7 16 35 true (.array .int) := ⟨TX7, tyX7, rfl, inX7, rfl, by decide, tyX7_ok, nmX7, rfl, tyX7_ok 16 (by decide), by decide +kernel⟩
theorem pX7_34 : FP RX7 34 7 17 35 true (.array .int) := ⟨TX7, tyX7, rfl, inX7, rfl, by decide, tyX7_ok, nmX7, rfl, tyX7_ok 17 (by decide), by decide +kernel⟩
theorem pX7_37 : FP RX7 37 7 18 35 true (.array .boolean) := ⟨TX7, tyX7, rfl, inX7, rfl, by decide, tyX7_ok, nmX7, rfl, tyX7_ok 18 (by decide), by decide +kernel⟩
theorem pX7_41 : FP RX7 41 7 19 35 true (.array .int) := ⟨TX7, tyX7, rfl, inX7, rfl, by decide, tyX7_ok, nmX7, rfl, tyX7_ok 19 (by decide), by decide +kernel⟩
theorem pX7_44 : FP RX7 44 7 20 35 true (.array .int) := ⟨TX7, tyX7, rfl, inX7, rfl, by decide, tyX7_ok, nmX7, rfl, tyX7_ok 20 (by decide), by decide +kernel⟩
theorem pX7_47 : FP RX7 47 7 21 35 true (.array .int) := ⟨TX7, tyX7, rfl, inX7, rfl, by decide, tyX7_ok, nmX7, rfl, tyX7_ok 21 (by decide), by decide +kernel⟩
theorem pX7_50 : FP RX7 50 7 22 35 true (.array .int) := ⟨TX7, tyX7, rfl, inX7, rfl, by decide, tyX7_ok, nmX7, rfl, tyX7_ok 22 (by decide), by decide +kernel⟩
theorem pX7_53 : FP RX7 53 7 23 35 true (.array .int) := ⟨TX7, tyX7, rfl, inX7, rfl, by decide, tyX7_ok, nmX7, rfl, tyX7_ok 23 (by decide), by decide +kernel⟩
theorem pX7_56 : FP RX7 56 7 24 35 true (.array .int) := ⟨TX7, tyX7, rfl, inX7, rfl, by decide, tyX7_ok, nmX7, rfl, tyX7_ok 24 (by decide), by decide +kernel⟩
theorem pX7_59 : FP RX7 59 7 25 35 true (.array .int) := ⟨TX7, tyX7, rfl, inX7, rfl, by decide, tyX7_ok, nmX7, rfl, tyX7_ok 25 (by decide), by decide +kernel⟩
theorem pX7_62 : FP RX7 62 7 28 35 true (.array .int) := ⟨TX7, tyX7, rfl, inX7, rfl, by decide, tyX7_ok, nmX7, rfl, tyX7_ok 28 (by decide), by decide +kernel⟩
theorem pX7_65 : FP RX7 65 7 29 35 true (.array .int) := ⟨TX7, tyX7, rfl, inX7, rfl, by decide, tyX7_ok, nmX7, rfl, tyX7_ok 29 (by decide), by decide +kernel⟩
theorem pX7_68 : FP RX7 68 7 30 35 true (.array .boolean) := ⟨TX7, tyX7, rfl, inX7, rfl, by decide, tyX7_ok, nmX7, rfl, tyX7_ok 30 (by decide), by decide +kernel⟩
theorem pX7_71 : FP RX7 71 7 32 35 true (.array .int) := ⟨TX7, tyX7, rfl, inX7, rfl, by decide, tyX7_ok, nmX7, rfl, tyX7_ok 32 (by decide), by decide +kernel⟩
theorem pX7_74 : FP RX7 74 7 33 35 true (.array .int) := ⟨TX7, tyX7, rfl, inX7, rfl, by decide, tyX7_ok, nmX7, rfl, tyX7_ok 33 (by decide), by decide +kernel⟩
theorem pX3_9 : FP RX3 9 3 0 4 true (.array .int) := ⟨TX3, tyX3, rfl, inX3, rfl, by decide, tyX3_ok, nmX3, rfl, tyX3_ok 0 (by decide), by decide +kernel⟩
theorem pX3_17 : FP RX3 17 3 1 4 true (.array (.array .int)) := ⟨TX3, tyX3, rfl, inX3, rfl, by decide, tyX3_ok, nmX3, rfl, tyX3_ok 1 (by decide), by decide +kernel⟩
theorem pX3_20 : FP RX3 20 3 2 4 true (.array (.array .int)) := ⟨TX3, tyX3, rfl, inX3, rfl, by decide, tyX3_ok, nmX3, rfl, tyX3_ok 2 (by decide), by decide +kernel⟩
theorem pX3_23 : FP RX3 23 3 3 4 false .int := ⟨TX3, tyX3, rfl, inX3, rfl, by decide, tyX3_ok, nmX3, rfl, tyX3_ok 3 (by decide), by decide +kernel⟩
theorem pX5_11 : FP RX5 11 5 1 13 true (.array (.object "TurnThreads$Fiber")) := ⟨TX5, tyX5, rfl, inX5, rfl, by decide, tyX5_ok, nmX5, rfl, tyX5_ok 1 (by decide), by decide +kernel⟩
theorem pX5_20 : FP RX5 20 5 2 13 true (.object "TurnThreads$Line") := ⟨TX5, tyX5, rfl, inX5, rfl, by decide, tyX5_ok, nmX5, rfl, tyX5_ok 2 (by decide), by decide +kernel⟩
theorem pX5_27 : FP RX5 27 5 3 13 true (.object "TurnThreads$Boxes") := ⟨TX5, tyX5, rfl, inX5, rfl, by decide, tyX5_ok, nmX5, rfl, tyX5_ok 3 (by decide), by decide +kernel⟩
theorem pX5_34 : FP RX5 34 5 4 13 true (.object "TurnThreads$Rows") := ⟨TX5, tyX5, rfl, inX5, rfl, by decide, tyX5_ok, nmX5, rfl, tyX5_ok 4 (by decide), by decide +kernel⟩
theorem pX5_38 : FP RX5 38 5 5 13 false .int := ⟨TX5, tyX5, rfl, inX5, rfl, by decide, tyX5_ok, nmX5, rfl, tyX5_ok 5 (by decide), by decide +kernel⟩
theorem pX5_42 : FP RX5 42 5 6 13 false .boolean := ⟨TX5, tyX5, rfl, inX5, rfl, by decide, tyX5_ok, nmX5, rfl, tyX5_ok 6 (by decide), by decide +kernel⟩
theorem pX5_46 : FP RX5 46 5 7 13 false .boolean := ⟨TX5, tyX5, rfl, inX5, rfl, by decide, tyX5_ok, nmX5, rfl, tyX5_ok 7 (by decide), by decide +kernel⟩
theorem pX5_49 : FP RX5 49 5 8 13 false .int := ⟨TX5, tyX5, rfl, inX5, rfl, by decide, tyX5_ok, nmX5, rfl, tyX5_ok 8 (by decide), by decide +kernel⟩
theorem pX5_52 : FP RX5 52 5 9 13 false .int := ⟨TX5, tyX5, rfl, inX5, rfl, by decide, tyX5_ok, nmX5, rfl, tyX5_ok 9 (by decide), by decide +kernel⟩
theorem pX5_55 : FP RX5 55 5 10 13 false .int := ⟨TX5, tyX5, rfl, inX5, rfl, by decide, tyX5_ok, nmX5, rfl, tyX5_ok 10 (by decide), by decide +kernel⟩
theorem pX5_58 : FP RX5 58 5 11 13 false .int := ⟨TX5, tyX5, rfl, inX5, rfl, by decide, tyX5_ok, nmX5, rfl, tyX5_ok 11 (by decide), by decide +kernel⟩
theorem pX5_61 : FP RX5 61 5 12 13 false .int := ⟨TX5, tyX5, rfl, inX5, rfl, by decide, tyX5_ok, nmX5, rfl, tyX5_ok 12 (by decide), by decide +kernel⟩
theorem pX5_64 : FP RX5 64 5 0 13 true (.object "TurnThreads$Programs") := ⟨TX5, tyX5, rfl, inX5, rfl, by decide, tyX5_ok, nmX5, rfl, tyX5_ok 0 (by decide), by decide +kernel⟩
theorem pX6_10 : FP RX6 10 6 0 2 true (.object "TurnThreads$Programs") := ⟨TX6, tyX6, rfl, inX6, rfl, by decide, tyX6_ok, nmX6, rfl, tyX6_ok 0 (by decide), by decide +kernel⟩
theorem pX6_21 : FP RX6 21 6 1 2 true (.object "TurnThreads$Run") := ⟨TX6, tyX6, rfl, inX6, rfl, by decide, tyX6_ok, nmX6, rfl, tyX6_ok 1 (by decide), by decide +kernel⟩
def fibF (i : Nat) (p q : Nat) : List Value := [.int (nI i), .ref p, .ref q, .int 0, .int 0, .int 0, .int 0, .int 0, .int 0, .int 0, .int 0, .int 0, .int 0, .int 0, .int 0]
set_option maxHeartbeats 4000000 in
set_option maxRecDepth 100000 in
theorem i_X0 (G : tG) (h0 : Nat)  : Kt yX0_init cX0_init 1 1 2 16 G [.ref h0] [(h0, .inr (0, [.null, .null]))] (fun w => ∃ q1 q2, w = [(h0, .inr (0, [.ref q1, .ref q2])), (q1, .inl (G.2 1, 8, .inl (fun _ => 0))), (q2, .inl (G.2 0, 8, .inl (fun _ => 0)))]) := by
  refine Kt.of (by decide) rfl (Nat.le_of_ble_eq_true rfl) ?_
  refine n_aload 0 dX0_init_0 rfl ?_
  refine n_obj (by decide +kernel) dX0_init_1 (by decide) ?_
  refine n_aload 0 dX0_init_4 rfl ?_
  refine n_bipush 8 dX0_init_5 (by decide) ?_
  refine n_newZ dX0_init_7 (N := 8) (by decide) (by decide) (by decide) (by decide) (fun q1 => ?_)
  refine n_w [(h0, .inr (0, [.null, .null])), (q1, .inl (G.2 1, 8, .inl (fun _ => 0)))] rfl ?_
  refine n_put pX0_9 rfl rfl rfl dX0_init_9 ?_
  refine n_w [(h0, .inr (0, [.ref q1, .null])), (q1, .inl (G.2 1, 8, .inl (fun _ => 0)))] rfl ?_
  refine n_aload 0 dX0_init_12 rfl ?_
  refine n_bipush 8 dX0_init_13 (by decide) ?_
  refine n_newI dX0_init_15 (N := 8) (by decide) (by decide) (by decide) (by decide) (fun q2 => ?_)
  refine n_w [(h0, .inr (0, [.ref q1, .null])), (q1, .inl (G.2 1, 8, .inl (fun _ => 0))), (q2, .inl (G.2 0, 8, .inl (fun _ => 0)))] rfl ?_
  refine n_put pX0_15 rfl rfl rfl dX0_init_17 ?_
  refine n_w [(h0, .inr (0, [.ref q1, .ref q2])), (q1, .inl (G.2 1, 8, .inl (fun _ => 0))), (q2, .inl (G.2 0, 8, .inl (fun _ => 0)))] rfl ?_
  exact n_ret dX0_init_20 (by decide) (by decide) ⟨q1, q2, rfl⟩
set_option maxHeartbeats 4000000 in
set_option maxRecDepth 100000 in
theorem i_X2 (G : tG) (h0 : Nat)  : Kt yX2_init cX2_init 1 1 1 24 G [.ref h0] [(h0, .inr (2, [.null, .int 0]))] (fun w => ∃ q1, w = [(h0, .inr (2, [.ref q1, .int 0])), (q1, .inl (G.2 2, 24, .inr (.inr (.inr (.inr (fun _ => none))))))]) := by
  refine Kt.of (by decide) rfl (Nat.le_of_ble_eq_true rfl) ?_
  refine n_aload 0 dX2_init_0 rfl ?_
  refine n_obj (by decide +kernel) dX2_init_1 (by decide) ?_
  refine n_aload 0 dX2_init_4 rfl ?_
  refine n_bipush 24 dX2_init_5 (by decide) ?_
  refine n_newF dX2_init_7 (N := 24) (by decide +kernel) (by decide) (by decide) (by decide) (by decide) (fun q1 => ?_)
  refine n_w [(h0, .inr (2, [.null, .int 0])), (q1, .inl (G.2 2, 24, .inr (.inr (.inr (.inr (fun _ => none))))))] rfl ?_
  refine n_put pX2_11 rfl rfl rfl dX2_init_10 ?_
  refine n_w [(h0, .inr (2, [.ref q1, .int 0])), (q1, .inl (G.2 2, 24, .inr (.inr (.inr (.inr (fun _ => none))))))] rfl ?_
  refine n_aload 0 dX2_init_13 rfl ?_
  refine n_iconst 0 dX2_init_14 (by decide) ?_
  refine n_put pX2_17 rfl rfl rfl dX2_init_15 ?_
  refine n_w [(h0, .inr (2, [.ref q1, .int 0])), (q1, .inl (G.2 2, 24, .inr (.inr (.inr (.inr (fun _ => none))))))] rfl ?_
  exact n_ret dX2_init_18 (by decide) (by decide) ⟨q1, rfl⟩
set_option maxHeartbeats 4000000 in
set_option maxRecDepth 100000 in
theorem i_X4 (G : tG) (h0 : Nat)  : Kt yX4_init cX4_init 1 1 2 200 G [.ref h0] [(h0, .inr (4, [.null, .null, .int 0]))] (fun w => ∃ q1 q2, w = [(h0, .inr (4, [.ref q1, .ref q2, .int 0])), (q1, .inl (G.2 0, 100, .inl (fun _ => 0))), (q2, .inl (G.2 0, 100, .inl (fun _ => 0)))]) := by
  refine Kt.of (by decide) rfl (Nat.le_of_ble_eq_true rfl) ?_
  refine n_aload 0 dX4_init_0 rfl ?_
  refine n_obj (by decide +kernel) dX4_init_1 (by decide) ?_
  refine n_aload 0 dX4_init_4 rfl ?_
  refine n_bipush 100 dX4_init_5 (by decide) ?_
  refine n_newI dX4_init_7 (N := 100) (by decide) (by decide) (by decide) (by decide) (fun q1 => ?_)
  refine n_w [(h0, .inr (4, [.null, .null, .int 0])), (q1, .inl (G.2 0, 100, .inl (fun _ => 0)))] rfl ?_
  refine n_put pX4_9 rfl rfl rfl dX4_init_9 ?_
  refine n_w [(h0, .inr (4, [.ref q1, .null, .int 0])), (q1, .inl (G.2 0, 100, .inl (fun _ => 0)))] rfl ?_
  refine n_aload 0 dX4_init_12 rfl ?_
  refine n_bipush 100 dX4_init_13 (by decide) ?_
  refine n_newI dX4_init_15 (N := 100) (by decide) (by decide) (by decide) (by decide) (fun q2 => ?_)
  refine n_w [(h0, .inr (4, [.ref q1, .null, .int 0])), (q1, .inl (G.2 0, 100, .inl (fun _ => 0))), (q2, .inl (G.2 0, 100, .inl (fun _ => 0)))] rfl ?_
  refine n_put pX4_15 rfl rfl rfl dX4_init_17 ?_
  refine n_w [(h0, .inr (4, [.ref q1, .ref q2, .int 0])), (q1, .inl (G.2 0, 100, .inl (fun _ => 0))), (q2, .inl (G.2 0, 100, .inl (fun _ => 0)))] rfl ?_
  refine n_aload 0 dX4_init_20 rfl ?_
  refine n_iconst 0 dX4_init_21 (by decide) ?_
  refine n_put pX4_18 rfl rfl rfl dX4_init_22 ?_
  refine n_w [(h0, .inr (4, [.ref q1, .ref q2, .int 0])), (q1, .inl (G.2 0, 100, .inl (fun _ => 0))), (q2, .inl (G.2 0, 100, .inl (fun _ => 0)))] rfl ?_
  exact n_ret dX4_init_25 (by decide) (by decide) ⟨q1, q2, rfl⟩
set_option maxHeartbeats 4000000 in
set_option maxRecDepth 100000 in
theorem i_X1 (G : tG) (h0 : Nat) (x : Int32) : Kt yX1_init cX1_init 2 1 2 8 G [.ref h0, .int x] [(h0, .inr (1, [.int 0, .null, .null, .int 0, .int 0, .int 0, .int 0, .int 0, .int 0, .int 0, .int 0, .int 0, .int 0, .int 0, .int 0]))] (fun w => ∃ q1 q2, w = [(h0, .inr (1, [.int x, .ref q1, .ref q2, .int 0, .int 0, .int 0, .int 0, .int 0, .int 0, .int 0, .int 0, .int 0, .int 0, .int 0, .int 0])), (q1, .inl (G.2 0, 4, .inl (fun _ => 0))), (q2, .inl (G.2 0, 4, .inl (fun _ => 0)))]) := by
  refine Kt.of (by decide) rfl (Nat.le_of_ble_eq_true rfl) ?_
  refine n_aload 0 dX1_init_0 rfl ?_
  refine n_obj (by decide +kernel) dX1_init_1 (by decide) ?_
  refine n_aload 0 dX1_init_4 rfl ?_
  refine n_iconst 4 dX1_init_5 (by decide) ?_
  refine n_newI dX1_init_6 (N := 4) (by decide) (by decide) (by decide) (by decide) (fun q1 => ?_)
  refine n_w [(h0, .inr (1, [.int 0, .null, .null, .int 0, .int 0, .int 0, .int 0, .int 0, .int 0, .int 0, .int 0, .int 0, .int 0, .int 0, .int 0])), (q1, .inl (G.2 0, 4, .inl (fun _ => 0)))] rfl ?_
  refine n_put pX1_9 rfl rfl rfl dX1_init_8 ?_
  refine n_w [(h0, .inr (1, [.int 0, .ref q1, .null, .int 0, .int 0, .int 0, .int 0, .int 0, .int 0, .int 0, .int 0, .int 0, .int 0, .int 0, .int 0])), (q1, .inl (G.2 0, 4, .inl (fun _ => 0)))] rfl ?_
  refine n_aload 0 dX1_init_11 rfl ?_
  refine n_iconst 4 dX1_init_12 (by decide) ?_
  refine n_newI dX1_init_13 (N := 4) (by decide) (by decide) (by decide) (by decide) (fun q2 => ?_)
  refine n_w [(h0, .inr (1, [.int 0, .ref q1, .null, .int 0, .int 0, .int 0, .int 0, .int 0, .int 0, .int 0, .int 0, .int 0, .int 0, .int 0, .int 0])), (q1, .inl (G.2 0, 4, .inl (fun _ => 0))), (q2, .inl (G.2 0, 4, .inl (fun _ => 0)))] rfl ?_
  refine n_put pX1_15 rfl rfl rfl dX1_init_15 ?_
  refine n_w [(h0, .inr (1, [.int 0, .ref q1, .ref q2, .int 0, .int 0, .int 0, .int 0, .int 0, .int 0, .int 0, .int 0, .int 0, .int 0, .int 0, .int 0])), (q1, .inl (G.2 0, 4, .inl (fun _ => 0))), (q2, .inl (G.2 0, 4, .inl (fun _ => 0)))] rfl ?_
  refine n_aload 0 dX1_init_18 rfl ?_
  refine n_iconst 0 dX1_init_19 (by decide) ?_
  refine n_put pX1_18 rfl rfl rfl dX1_init_20 ?_
  refine n_w [(h0, .inr (1, [.int 0, .ref q1, .ref q2, .int 0, .int 0, .int 0, .int 0, .int 0, .int 0, .int 0, .int 0, .int 0, .int 0, .int 0, .int 0])), (q1, .inl (G.2 0, 4, .inl (fun _ => 0))), (q2, .inl (G.2 0, 4, .inl (fun _ => 0)))] rfl ?_
  refine n_aload 0 dX1_init_23 rfl ?_
  refine n_iconst 0 dX1_init_24 (by decide) ?_
  refine n_put pX1_22 rfl rfl rfl dX1_init_25 ?_
  refine n_w [(h0, .inr (1, [.int 0, .ref q1, .ref q2, .int 0, .int 0, .int 0, .int 0, .int 0, .int 0, .int 0, .int 0, .int 0, .int 0, .int 0, .int 0])), (q1, .inl (G.2 0, 4, .inl (fun _ => 0))), (q2, .inl (G.2 0, 4, .inl (fun _ => 0)))] rfl ?_
  refine n_aload 0 dX1_init_28 rfl ?_
  refine n_iconst 0 dX1_init_29 (by decide) ?_
  refine n_put pX1_25 rfl rfl rfl dX1_init_30 ?_
  refine n_w [(h0, .inr (1, [.int 0, .ref q1, .ref q2, .int 0, .int 0, .int 0, .int 0, .int 0, .int 0, .int 0, .int 0, .int 0, .int 0, .int 0, .int 0])), (q1, .inl (G.2 0, 4, .inl (fun _ => 0))), (q2, .inl (G.2 0, 4, .inl (fun _ => 0)))] rfl ?_
  refine n_aload 0 dX1_init_33 rfl ?_
  refine n_iconst 0 dX1_init_34 (by decide) ?_
  refine n_put pX1_28 rfl rfl rfl dX1_init_35 ?_
  refine n_w [(h0, .inr (1, [.int 0, .ref q1, .ref q2, .int 0, .int 0, .int 0, .int 0, .int 0, .int 0, .int 0, .int 0, .int 0, .int 0, .int 0, .int 0])), (q1, .inl (G.2 0, 4, .inl (fun _ => 0))), (q2, .inl (G.2 0, 4, .inl (fun _ => 0)))] rfl ?_
  refine n_aload 0 dX1_init_38 rfl ?_
  refine n_iconst 0 dX1_init_39 (by decide) ?_
  refine n_put pX1_31 rfl rfl rfl dX1_init_40 ?_
  refine n_w [(h0, .inr (1, [.int 0, .ref q1, .ref q2, .int 0, .int 0, .int 0, .int 0, .int 0, .int 0, .int 0, .int 0, .int 0, .int 0, .int 0, .int 0])), (q1, .inl (G.2 0, 4, .inl (fun _ => 0))), (q2, .inl (G.2 0, 4, .inl (fun _ => 0)))] rfl ?_
  refine n_aload 0 dX1_init_43 rfl ?_
  refine n_iconst 0 dX1_init_44 (by decide) ?_
  refine n_put pX1_34 rfl rfl rfl dX1_init_45 ?_
  refine n_w [(h0, .inr (1, [.int 0, .ref q1, .ref q2, .int 0, .int 0, .int 0, .int 0, .int 0, .int 0, .int 0, .int 0, .int 0, .int 0, .int 0, .int 0])), (q1, .inl (G.2 0, 4, .inl (fun _ => 0))), (q2, .inl (G.2 0, 4, .inl (fun _ => 0)))] rfl ?_
  refine n_aload 0 dX1_init_48 rfl ?_
  refine n_iconst 0 dX1_init_49 (by decide) ?_
  refine n_put pX1_37 rfl (nar_z (Or.inl rfl)).1 (nar_z (Or.inl rfl)).2.1 dX1_init_50 ?_
  refine n_w [(h0, .inr (1, [.int 0, .ref q1, .ref q2, .int 0, .int 0, .int 0, .int 0, .int 0, .int 0, .int 0, .int 0, .int 0, .int 0, .int 0, .int 0])), (q1, .inl (G.2 0, 4, .inl (fun _ => 0))), (q2, .inl (G.2 0, 4, .inl (fun _ => 0)))] rfl ?_
  refine n_aload 0 dX1_init_53 rfl ?_
  refine n_iconst 0 dX1_init_54 (by decide) ?_
  refine n_put pX1_41 rfl rfl rfl dX1_init_55 ?_
  refine n_w [(h0, .inr (1, [.int 0, .ref q1, .ref q2, .int 0, .int 0, .int 0, .int 0, .int 0, .int 0, .int 0, .int 0, .int 0, .int 0, .int 0, .int 0])), (q1, .inl (G.2 0, 4, .inl (fun _ => 0))), (q2, .inl (G.2 0, 4, .inl (fun _ => 0)))] rfl ?_
  refine n_aload 0 dX1_init_58 rfl ?_
  refine n_iconst 0 dX1_init_59 (by decide) ?_
  refine n_put pX1_44 rfl rfl rfl dX1_init_60 ?_
  refine n_w [(h0, .inr (1, [.int 0, .ref q1, .ref q2, .int 0, .int 0, .int 0, .int 0, .int 0, .int 0, .int 0, .int 0, .int 0, .int 0, .int 0, .int 0])), (q1, .inl (G.2 0, 4, .inl (fun _ => 0))), (q2, .inl (G.2 0, 4, .inl (fun _ => 0)))] rfl ?_
  refine n_aload 0 dX1_init_63 rfl ?_
  refine n_iconst 0 dX1_init_64 (by decide) ?_
  refine n_put pX1_47 rfl rfl rfl dX1_init_65 ?_
  refine n_w [(h0, .inr (1, [.int 0, .ref q1, .ref q2, .int 0, .int 0, .int 0, .int 0, .int 0, .int 0, .int 0, .int 0, .int 0, .int 0, .int 0, .int 0])), (q1, .inl (G.2 0, 4, .inl (fun _ => 0))), (q2, .inl (G.2 0, 4, .inl (fun _ => 0)))] rfl ?_
  refine n_aload 0 dX1_init_68 rfl ?_
  refine n_iconst 0 dX1_init_69 (by decide) ?_
  refine n_put pX1_50 rfl rfl rfl dX1_init_70 ?_
  refine n_w [(h0, .inr (1, [.int 0, .ref q1, .ref q2, .int 0, .int 0, .int 0, .int 0, .int 0, .int 0, .int 0, .int 0, .int 0, .int 0, .int 0, .int 0])), (q1, .inl (G.2 0, 4, .inl (fun _ => 0))), (q2, .inl (G.2 0, 4, .inl (fun _ => 0)))] rfl ?_
  refine n_aload 0 dX1_init_73 rfl ?_
  refine n_iconst 0 dX1_init_74 (by decide) ?_
  refine n_put pX1_53 rfl rfl rfl dX1_init_75 ?_
  refine n_w [(h0, .inr (1, [.int 0, .ref q1, .ref q2, .int 0, .int 0, .int 0, .int 0, .int 0, .int 0, .int 0, .int 0, .int 0, .int 0, .int 0, .int 0])), (q1, .inl (G.2 0, 4, .inl (fun _ => 0))), (q2, .inl (G.2 0, 4, .inl (fun _ => 0)))] rfl ?_
  refine n_aload 0 dX1_init_78 rfl ?_
  refine n_iload 1 dX1_init_79 rfl ?_
  refine n_put pX1_56 rfl rfl rfl dX1_init_80 ?_
  refine n_w [(h0, .inr (1, [.int x, .ref q1, .ref q2, .int 0, .int 0, .int 0, .int 0, .int 0, .int 0, .int 0, .int 0, .int 0, .int 0, .int 0, .int 0])), (q1, .inl (G.2 0, 4, .inl (fun _ => 0))), (q2, .inl (G.2 0, 4, .inl (fun _ => 0)))] rfl ?_
  exact n_ret dX1_init_83 (by decide) (by decide) ⟨q1, q2, rfl⟩
set_option maxHeartbeats 4000000 in
set_option maxRecDepth 100000 in
theorem i_X7 (G : tG) (h0 : Nat)  : Kt yX7_init cX7_init 1 1 22 1213 G [.ref h0] [(h0, .inr (7, [.int 0, .int 0, .null, .null, .null, .int 0, .int 0, .int 0, .int 0, .int 0, .int 0, .int 0, .null, .null, .null, .null, .null, .null, .null, .null, .null, .null, .null, .null, .null, .null, .int 0, .int 0, .null, .null, .null, .int 0, .null, .null, .int 0]))] (fun w => ∃ q1 q2 q3 q4 q5 q6 q7 q8 q9 q10 q11 q12 q13 q14 q15 q16 q17 q18 q19 q20 q21 q22, w = [(h0, .inr (7, [.int 0, .int 0, .ref q1, .ref q2, .ref q3, .int 0, .int 0, .int 0, .int 0, .int 0, .int 0, .int 0, .ref q4, .ref q5, .ref q6, .ref q7, .ref q8, .ref q9, .ref q10, .ref q11, .ref q12, .ref q13, .ref q14, .ref q15, .ref q16, .ref q17, .int 0, .int 0, .ref q18, .ref q19, .ref q20, .int 0, .ref q21, .ref q22, .int 0])), (q1, .inl (G.2 0, 12, .inl (fun _ => 0))), (q2, .inl (G.2 0, 240, .inl (fun _ => 0))), (q3, .inl (G.2 0, 240, .inl (fun _ => 0))), (q4, .inl (G.2 0, 24, .inl (fun _ => 0))), (q5, .inl (G.2 0, 24, .inl (fun _ => 0))), (q6, .inl (G.2 0, 24, .inl (fun _ => 0))), (q7, .inl (G.2 0, 24, .inl (fun _ => 0))), (q8, .inl (G.2 0, 24, .inl (fun _ => 0))), (q9, .inl (G.2 0, 96, .inl (fun _ => 0))), (q10, .inl (G.2 1, 24, .inl (fun _ => 0))), (q11, .inl (G.2 0, 24, .inl (fun _ => 0))), (q12, .inl (G.2 0, 96, .inl (fun _ => 0))), (q13, .inl (G.2 0, 24, .inl (fun _ => 0))), (q14, .inl (G.2 0, 24, .inl (fun _ => 0))), (q15, .inl (G.2 0, 24, .inl (fun _ => 0))), (q16, .inl (G.2 0, 24, .inl (fun _ => 0))), (q17, .inl (G.2 0, 24, .inl (fun _ => 0))), (q18, .inl (G.2 0, 25, .inl (fun _ => 0))), (q19, .inl (G.2 0, 8, .inl (fun _ => 0))), (q20, .inl (G.2 1, 8, .inl (fun _ => 0))), (q21, .inl (G.2 0, 100, .inl (fun _ => 0))), (q22, .inl (G.2 0, 100, .inl (fun _ => 0)))]) := by
  refine Kt.of (by decide) rfl (Nat.le_of_ble_eq_true rfl) ?_
  refine n_aload 0 dX7_init_0 rfl ?_
  refine n_obj (by decide +kernel) dX7_init_1 (by decide) ?_
  refine n_aload 0 dX7_init_4 rfl ?_
  refine n_bipush 12 dX7_init_5 (by decide) ?_
  refine n_newI dX7_init_7 (N := 12) (by decide) (by decide) (by decide) (by decide) (fun q1 => ?_)
  refine n_w [(h0, .inr (7, [.int 0, .int 0, .null, .null, .null, .int 0, .int 0, .int 0, .int 0, .int 0, .int 0, .int 0, .null, .null, .null, .null, .null, .null, .null, .null, .null, .null, .null, .null, .null, .null, .int 0, .int 0, .null, .null, .null, .int 0, .null, .null, .int 0])), (q1, .inl (G.2 0, 12, .inl (fun _ => 0)))] rfl ?_
  refine n_put pX7_7 rfl rfl rfl dX7_init_9 ?_
  refine n_w [(h0, .inr (7, [.int 0, .int 0, .ref q1, .null, .null, .int 0, .int 0, .int 0, .int 0, .int 0, .int 0, .int 0, .null, .null, .null, .null, .null, .null, .null, .null, .null, .null, .null, .null, .null, .null, .int 0, .int 0, .null, .null, .null, .int 0, .null, .null, .int 0])), (q1, .inl (G.2 0, 12, .inl (fun _ => 0)))] rfl ?_
  refine n_aload 0 dX7_init_12 rfl ?_
  refine n_sipush 240 dX7_init_13 (by decide) ?_
  refine n_newI dX7_init_16 (N := 240) (by decide) (by decide) (by decide) (by decide) (fun q2 => ?_)
  refine n_w [(h0, .inr (7, [.int 0, .int 0, .ref q1, .null, .null, .int 0, .int 0, .int 0, .int 0, .int 0, .int 0, .int 0, .null, .null, .null, .null, .null, .null, .null, .null, .null, .null, .null, .null, .null, .null, .int 0, .int 0, .null, .null, .null, .int 0, .null, .null, .int 0])), (q1, .inl (G.2 0, 12, .inl (fun _ => 0))), (q2, .inl (G.2 0, 240, .inl (fun _ => 0)))] rfl ?_
  refine n_put pX7_13 rfl rfl rfl dX7_init_18 ?_
  refine n_w [(h0, .inr (7, [.int 0, .int 0, .ref q1, .ref q2, .null, .int 0, .int 0, .int 0, .int 0, .int 0, .int 0, .int 0, .null, .null, .null, .null, .null, .null, .null, .null, .null, .null, .null, .null, .null, .null, .int 0, .int 0, .null, .null, .null, .int 0, .null, .null, .int 0])), (q1, .inl (G.2 0, 12, .inl (fun _ => 0))), (q2, .inl (G.2 0, 240, .inl (fun _ => 0)))] rfl ?_
  refine n_aload 0 dX7_init_21 rfl ?_
  refine n_sipush 240 dX7_init_22 (by decide) ?_
  refine n_newI dX7_init_25 (N := 240) (by decide) (by decide) (by decide) (by decide) (fun q3 => ?_)
  refine n_w [(h0, .inr (7, [.int 0, .int 0, .ref q1, .ref q2, .null, .int 0, .int 0, .int 0, .int 0, .int 0, .int 0, .int 0, .null, .null, .null, .null, .null, .null, .null, .null, .null, .null, .null, .null, .null, .null, .int 0, .int 0, .null, .null, .null, .int 0, .null, .null, .int 0])), (q1, .inl (G.2 0, 12, .inl (fun _ => 0))), (q2, .inl (G.2 0, 240, .inl (fun _ => 0))), (q3, .inl (G.2 0, 240, .inl (fun _ => 0)))] rfl ?_
  refine n_put pX7_16 rfl rfl rfl dX7_init_27 ?_
  refine n_w [(h0, .inr (7, [.int 0, .int 0, .ref q1, .ref q2, .ref q3, .int 0, .int 0, .int 0, .int 0, .int 0, .int 0, .int 0, .null, .null, .null, .null, .null, .null, .null, .null, .null, .null, .null, .null, .null, .null, .int 0, .int 0, .null, .null, .null, .int 0, .null, .null, .int 0])), (q1, .inl (G.2 0, 12, .inl (fun _ => 0))), (q2, .inl (G.2 0, 240, .inl (fun _ => 0))), (q3, .inl (G.2 0, 240, .inl (fun _ => 0)))] rfl ?_
  refine n_aload 0 dX7_init_30 rfl ?_
  refine n_bipush 24 dX7_init_31 (by decide) ?_
  refine n_newI dX7_init_33 (N := 24) (by decide) (by decide) (by decide) (by decide) (fun q4 => ?_)
  refine n_w [(h0, .inr (7, [.int 0, .int 0, .ref q1, .ref q2, .ref q3, .int 0, .int 0, .int 0, .int 0, .int 0, .int 0, .int 0, .null, .null, .null, .null, .null, .null, .null, .null, .null, .null, .null, .null, .null, .null, .int 0, .int 0, .null, .null, .null, .int 0, .null, .null, .int 0])), (q1, .inl (G.2 0, 12, .inl (fun _ => 0))), (q2, .inl (G.2 0, 240, .inl (fun _ => 0))), (q3, .inl (G.2 0, 240, .inl (fun _ => 0))), (q4, .inl (G.2 0, 24, .inl (fun _ => 0)))] rfl ?_
  refine n_put pX7_19 rfl rfl rfl dX7_init_35 ?_
  refine n_w [(h0, .inr (7, [.int 0, .int 0, .ref q1, .ref q2, .ref q3, .int 0, .int 0, .int 0, .int 0, .int 0, .int 0, .int 0, .ref q4, .null, .null, .null, .null, .null, .null, .null, .null, .null, .null, .null, .null, .null, .int 0, .int 0, .null, .null, .null, .int 0, .null, .null, .int 0])), (q1, .inl (G.2 0, 12, .inl (fun _ => 0))), (q2, .inl (G.2 0, 240, .inl (fun _ => 0))), (q3, .inl (G.2 0, 240, .inl (fun _ => 0))), (q4, .inl (G.2 0, 24, .inl (fun _ => 0)))] rfl ?_
  refine n_aload 0 dX7_init_38 rfl ?_
  refine n_bipush 24 dX7_init_39 (by decide) ?_
  refine n_newI dX7_init_41 (N := 24) (by decide) (by decide) (by decide) (by decide) (fun q5 => ?_)
  refine n_w [(h0, .inr (7, [.int 0, .int 0, .ref q1, .ref q2, .ref q3, .int 0, .int 0, .int 0, .int 0, .int 0, .int 0, .int 0, .ref q4, .null, .null, .null, .null, .null, .null, .null, .null, .null, .null, .null, .null, .null, .int 0, .int 0, .null, .null, .null, .int 0, .null, .null, .int 0])), (q1, .inl (G.2 0, 12, .inl (fun _ => 0))), (q2, .inl (G.2 0, 240, .inl (fun _ => 0))), (q3, .inl (G.2 0, 240, .inl (fun _ => 0))), (q4, .inl (G.2 0, 24, .inl (fun _ => 0))), (q5, .inl (G.2 0, 24, .inl (fun _ => 0)))] rfl ?_
  refine n_put pX7_22 rfl rfl rfl dX7_init_43 ?_
  refine n_w [(h0, .inr (7, [.int 0, .int 0, .ref q1, .ref q2, .ref q3, .int 0, .int 0, .int 0, .int 0, .int 0, .int 0, .int 0, .ref q4, .ref q5, .null, .null, .null, .null, .null, .null, .null, .null, .null, .null, .null, .null, .int 0, .int 0, .null, .null, .null, .int 0, .null, .null, .int 0])), (q1, .inl (G.2 0, 12, .inl (fun _ => 0))), (q2, .inl (G.2 0, 240, .inl (fun _ => 0))), (q3, .inl (G.2 0, 240, .inl (fun _ => 0))), (q4, .inl (G.2 0, 24, .inl (fun _ => 0))), (q5, .inl (G.2 0, 24, .inl (fun _ => 0)))] rfl ?_
  refine n_aload 0 dX7_init_46 rfl ?_
  refine n_bipush 24 dX7_init_47 (by decide) ?_
  refine n_newI dX7_init_49 (N := 24) (by decide) (by decide) (by decide) (by decide) (fun q6 => ?_)
  refine n_w [(h0, .inr (7, [.int 0, .int 0, .ref q1, .ref q2, .ref q3, .int 0, .int 0, .int 0, .int 0, .int 0, .int 0, .int 0, .ref q4, .ref q5, .null, .null, .null, .null, .null, .null, .null, .null, .null, .null, .null, .null, .int 0, .int 0, .null, .null, .null, .int 0, .null, .null, .int 0])), (q1, .inl (G.2 0, 12, .inl (fun _ => 0))), (q2, .inl (G.2 0, 240, .inl (fun _ => 0))), (q3, .inl (G.2 0, 240, .inl (fun _ => 0))), (q4, .inl (G.2 0, 24, .inl (fun _ => 0))), (q5, .inl (G.2 0, 24, .inl (fun _ => 0))), (q6, .inl (G.2 0, 24, .inl (fun _ => 0)))] rfl ?_
  refine n_put pX7_25 rfl rfl rfl dX7_init_51 ?_
  refine n_w [(h0, .inr (7, [.int 0, .int 0, .ref q1, .ref q2, .ref q3, .int 0, .int 0, .int 0, .int 0, .int 0, .int 0, .int 0, .ref q4, .ref q5, .ref q6, .null, .null, .null, .null, .null, .null, .null, .null, .null, .null, .null, .int 0, .int 0, .null, .null, .null, .int 0, .null, .null, .int 0])), (q1, .inl (G.2 0, 12, .inl (fun _ => 0))), (q2, .inl (G.2 0, 240, .inl (fun _ => 0))), (q3, .inl (G.2 0, 240, .inl (fun _ => 0))), (q4, .inl (G.2 0, 24, .inl (fun _ => 0))), (q5, .inl (G.2 0, 24, .inl (fun _ => 0))), (q6, .inl (G.2 0, 24, .inl (fun _ => 0)))] rfl ?_
  refine n_aload 0 dX7_init_54 rfl ?_
  refine n_bipush 24 dX7_init_55 (by decide) ?_
  refine n_newI dX7_init_57 (N := 24) (by decide) (by decide) (by decide) (by decide) (fun q7 => ?_)
  refine n_w [(h0, .inr (7, [.int 0, .int 0, .ref q1, .ref q2, .ref q3, .int 0, .int 0, .int 0, .int 0, .int 0, .int 0, .int 0, .ref q4, .ref q5, .ref q6, .null, .null, .null, .null, .null, .null, .null, .null, .null, .null, .null, .int 0, .int 0, .null, .null, .null, .int 0, .null, .null, .int 0])), (q1, .inl (G.2 0, 12, .inl (fun _ => 0))), (q2, .inl (G.2 0, 240, .inl (fun _ => 0))), (q3, .inl (G.2 0, 240, .inl (fun _ => 0))), (q4, .inl (G.2 0, 24, .inl (fun _ => 0))), (q5, .inl (G.2 0, 24, .inl (fun _ => 0))), (q6, .inl (G.2 0, 24, .inl (fun _ => 0))), (q7, .inl (G.2 0, 24, .inl (fun _ => 0)))] rfl ?_
  refine n_put pX7_28 rfl rfl rfl dX7_init_59 ?_
  refine n_w [(h0, .inr (7, [.int 0, .int 0, .ref q1, .ref q2, .ref q3, .int 0, .int 0, .int 0, .int 0, .int 0, .int 0, .int 0, .ref q4, .ref q5, .ref q6, .ref q7, .null, .null, .null, .null, .null, .null, .null, .null, .null, .null, .int 0, .int 0, .null, .null, .null, .int 0, .null, .null, .int 0])), (q1, .inl (G.2 0, 12, .inl (fun _ => 0))), (q2, .inl (G.2 0, 240, .inl (fun _ => 0))), (q3, .inl (G.2 0, 240, .inl (fun _ => 0))), (q4, .inl (G.2 0, 24, .inl (fun _ => 0))), (q5, .inl (G.2 0, 24, .inl (fun _ => 0))), (q6, .inl (G.2 0, 24, .inl (fun _ => 0))), (q7, .inl (G.2 0, 24, .inl (fun _ => 0)))] rfl ?_
  refine n_aload 0 dX7_init_62 rfl ?_
  refine n_bipush 24 dX7_init_63 (by decide) ?_
  refine n_newI dX7_init_65 (N := 24) (by decide) (by decide) (by decide) (by decide) (fun q8 => ?_)
  refine n_w [(h0, .inr (7, [.int 0, .int 0, .ref q1, .ref q2, .ref q3, .int 0, .int 0, .int 0, .int 0, .int 0, .int 0, .int 0, .ref q4, .ref q5, .ref q6, .ref q7, .null, .null, .null, .null, .null, .null, .null, .null, .null, .null, .int 0, .int 0, .null, .null, .null, .int 0, .null, .null, .int 0])), (q1, .inl (G.2 0, 12, .inl (fun _ => 0))), (q2, .inl (G.2 0, 240, .inl (fun _ => 0))), (q3, .inl (G.2 0, 240, .inl (fun _ => 0))), (q4, .inl (G.2 0, 24, .inl (fun _ => 0))), (q5, .inl (G.2 0, 24, .inl (fun _ => 0))), (q6, .inl (G.2 0, 24, .inl (fun _ => 0))), (q7, .inl (G.2 0, 24, .inl (fun _ => 0))), (q8, .inl (G.2 0, 24, .inl (fun _ => 0)))] rfl ?_
  refine n_put pX7_31 rfl rfl rfl dX7_init_67 ?_
  refine n_w [(h0, .inr (7, [.int 0, .int 0, .ref q1, .ref q2, .ref q3, .int 0, .int 0, .int 0, .int 0, .int 0, .int 0, .int 0, .ref q4, .ref q5, .ref q6, .ref q7, .ref q8, .null, .null, .null, .null, .null, .null, .null, .null, .null, .int 0, .int 0, .null, .null, .null, .int 0, .null, .null, .int 0])), (q1, .inl (G.2 0, 12, .inl (fun _ => 0))), (q2, .inl (G.2 0, 240, .inl (fun _ => 0))), (q3, .inl (G.2 0, 240, .inl (fun _ => 0))), (q4, .inl (G.2 0, 24, .inl (fun _ => 0))), (q5, .inl (G.2 0, 24, .inl (fun _ => 0))), (q6, .inl (G.2 0, 24, .inl (fun _ => 0))), (q7, .inl (G.2 0, 24, .inl (fun _ => 0))), (q8, .inl (G.2 0, 24, .inl (fun _ => 0)))] rfl ?_
  refine n_aload 0 dX7_init_70 rfl ?_
  refine n_bipush 96 dX7_init_71 (by decide) ?_
  refine n_newI dX7_init_73 (N := 96) (by decide) (by decide) (by decide) (by decide) (fun q9 => ?_)
  refine n_w [(h0, .inr (7, [.int 0, .int 0, .ref q1, .ref q2, .ref q3, .int 0, .int 0, .int 0, .int 0, .int 0, .int 0, .int 0, .ref q4, .ref q5, .ref q6, .ref q7, .ref q8, .null, .null, .null, .null, .null, .null, .null, .null, .null, .int 0, .int 0, .null, .null, .null, .int 0, .null, .null, .int 0])), (q1, .inl (G.2 0, 12, .inl (fun _ => 0))), (q2, .inl (G.2 0, 240, .inl (fun _ => 0))), (q3, .inl (G.2 0, 240, .inl (fun _ => 0))), (q4, .inl (G.2 0, 24, .inl (fun _ => 0))), (q5, .inl (G.2 0, 24, .inl (fun _ => 0))), (q6, .inl (G.2 0, 24, .inl (fun _ => 0))), (q7, .inl (G.2 0, 24, .inl (fun _ => 0))), (q8, .inl (G.2 0, 24, .inl (fun _ => 0))), (q9, .inl (G.2 0, 96, .inl (fun _ => 0)))] rfl ?_
  refine n_put pX7_34 rfl rfl rfl dX7_init_75 ?_
  refine n_w [(h0, .inr (7, [.int 0, .int 0, .ref q1, .ref q2, .ref q3, .int 0, .int 0, .int 0, .int 0, .int 0, .int 0, .int 0, .ref q4, .ref q5, .ref q6, .ref q7, .ref q8, .ref q9, .null, .null, .null, .null, .null, .null, .null, .null, .int 0, .int 0, .null, .null, .null, .int 0, .null, .null, .int 0])), (q1, .inl (G.2 0, 12, .inl (fun _ => 0))), (q2, .inl (G.2 0, 240, .inl (fun _ => 0))), (q3, .inl (G.2 0, 240, .inl (fun _ => 0))), (q4, .inl (G.2 0, 24, .inl (fun _ => 0))), (q5, .inl (G.2 0, 24, .inl (fun _ => 0))), (q6, .inl (G.2 0, 24, .inl (fun _ => 0))), (q7, .inl (G.2 0, 24, .inl (fun _ => 0))), (q8, .inl (G.2 0, 24, .inl (fun _ => 0))), (q9, .inl (G.2 0, 96, .inl (fun _ => 0)))] rfl ?_
  refine n_aload 0 dX7_init_78 rfl ?_
  refine n_bipush 24 dX7_init_79 (by decide) ?_
  refine n_newZ dX7_init_81 (N := 24) (by decide) (by decide) (by decide) (by decide) (fun q10 => ?_)
  refine n_w [(h0, .inr (7, [.int 0, .int 0, .ref q1, .ref q2, .ref q3, .int 0, .int 0, .int 0, .int 0, .int 0, .int 0, .int 0, .ref q4, .ref q5, .ref q6, .ref q7, .ref q8, .ref q9, .null, .null, .null, .null, .null, .null, .null, .null, .int 0, .int 0, .null, .null, .null, .int 0, .null, .null, .int 0])), (q1, .inl (G.2 0, 12, .inl (fun _ => 0))), (q2, .inl (G.2 0, 240, .inl (fun _ => 0))), (q3, .inl (G.2 0, 240, .inl (fun _ => 0))), (q4, .inl (G.2 0, 24, .inl (fun _ => 0))), (q5, .inl (G.2 0, 24, .inl (fun _ => 0))), (q6, .inl (G.2 0, 24, .inl (fun _ => 0))), (q7, .inl (G.2 0, 24, .inl (fun _ => 0))), (q8, .inl (G.2 0, 24, .inl (fun _ => 0))), (q9, .inl (G.2 0, 96, .inl (fun _ => 0))), (q10, .inl (G.2 1, 24, .inl (fun _ => 0)))] rfl ?_
  refine n_put pX7_37 rfl rfl rfl dX7_init_83 ?_
  refine n_w [(h0, .inr (7, [.int 0, .int 0, .ref q1, .ref q2, .ref q3, .int 0, .int 0, .int 0, .int 0, .int 0, .int 0, .int 0, .ref q4, .ref q5, .ref q6, .ref q7, .ref q8, .ref q9, .ref q10, .null, .null, .null, .null, .null, .null, .null, .int 0, .int 0, .null, .null, .null, .int 0, .null, .null, .int 0])), (q1, .inl (G.2 0, 12, .inl (fun _ => 0))), (q2, .inl (G.2 0, 240, .inl (fun _ => 0))), (q3, .inl (G.2 0, 240, .inl (fun _ => 0))), (q4, .inl (G.2 0, 24, .inl (fun _ => 0))), (q5, .inl (G.2 0, 24, .inl (fun _ => 0))), (q6, .inl (G.2 0, 24, .inl (fun _ => 0))), (q7, .inl (G.2 0, 24, .inl (fun _ => 0))), (q8, .inl (G.2 0, 24, .inl (fun _ => 0))), (q9, .inl (G.2 0, 96, .inl (fun _ => 0))), (q10, .inl (G.2 1, 24, .inl (fun _ => 0)))] rfl ?_
  refine n_aload 0 dX7_init_86 rfl ?_
  refine n_bipush 24 dX7_init_87 (by decide) ?_
  refine n_newI dX7_init_89 (N := 24) (by decide) (by decide) (by decide) (by decide) (fun q11 => ?_)
  refine n_w [(h0, .inr (7, [.int 0, .int 0, .ref q1, .ref q2, .ref q3, .int 0, .int 0, .int 0, .int 0, .int 0, .int 0, .int 0, .ref q4, .ref q5, .ref q6, .ref q7, .ref q8, .ref q9, .ref q10, .null, .null, .null, .null, .null, .null, .null, .int 0, .int 0, .null, .null, .null, .int 0, .null, .null, .int 0])), (q1, .inl (G.2 0, 12, .inl (fun _ => 0))), (q2, .inl (G.2 0, 240, .inl (fun _ => 0))), (q3, .inl (G.2 0, 240, .inl (fun _ => 0))), (q4, .inl (G.2 0, 24, .inl (fun _ => 0))), (q5, .inl (G.2 0, 24, .inl (fun _ => 0))), (q6, .inl (G.2 0, 24, .inl (fun _ => 0))), (q7, .inl (G.2 0, 24, .inl (fun _ => 0))), (q8, .inl (G.2 0, 24, .inl (fun _ => 0))), (q9, .inl (G.2 0, 96, .inl (fun _ => 0))), (q10, .inl (G.2 1, 24, .inl (fun _ => 0))), (q11, .inl (G.2 0, 24, .inl (fun _ => 0)))] rfl ?_
  refine n_put pX7_41 rfl rfl rfl dX7_init_91 ?_
  refine n_w [(h0, .inr (7, [.int 0, .int 0, .ref q1, .ref q2, .ref q3, .int 0, .int 0, .int 0, .int 0, .int 0, .int 0, .int 0, .ref q4, .ref q5, .ref q6, .ref q7, .ref q8, .ref q9, .ref q10, .ref q11, .null, .null, .null, .null, .null, .null, .int 0, .int 0, .null, .null, .null, .int 0, .null, .null, .int 0])), (q1, .inl (G.2 0, 12, .inl (fun _ => 0))), (q2, .inl (G.2 0, 240, .inl (fun _ => 0))), (q3, .inl (G.2 0, 240, .inl (fun _ => 0))), (q4, .inl (G.2 0, 24, .inl (fun _ => 0))), (q5, .inl (G.2 0, 24, .inl (fun _ => 0))), (q6, .inl (G.2 0, 24, .inl (fun _ => 0))), (q7, .inl (G.2 0, 24, .inl (fun _ => 0))), (q8, .inl (G.2 0, 24, .inl (fun _ => 0))), (q9, .inl (G.2 0, 96, .inl (fun _ => 0))), (q10, .inl (G.2 1, 24, .inl (fun _ => 0))), (q11, .inl (G.2 0, 24, .inl (fun _ => 0)))] rfl ?_
  refine n_aload 0 dX7_init_94 rfl ?_
  refine n_bipush 96 dX7_init_95 (by decide) ?_
  refine n_newI dX7_init_97 (N := 96) (by decide) (by decide) (by decide) (by decide) (fun q12 => ?_)
  refine n_w [(h0, .inr (7, [.int 0, .int 0, .ref q1, .ref q2, .ref q3, .int 0, .int 0, .int 0, .int 0, .int 0, .int 0, .int 0, .ref q4, .ref q5, .ref q6, .ref q7, .ref q8, .ref q9, .ref q10, .ref q11, .null, .null, .null, .null, .null, .null, .int 0, .int 0, .null, .null, .null, .int 0, .null, .null, .int 0])), (q1, .inl (G.2 0, 12, .inl (fun _ => 0))), (q2, .inl (G.2 0, 240, .inl (fun _ => 0))), (q3, .inl (G.2 0, 240, .inl (fun _ => 0))), (q4, .inl (G.2 0, 24, .inl (fun _ => 0))), (q5, .inl (G.2 0, 24, .inl (fun _ => 0))), (q6, .inl (G.2 0, 24, .inl (fun _ => 0))), (q7, .inl (G.2 0, 24, .inl (fun _ => 0))), (q8, .inl (G.2 0, 24, .inl (fun _ => 0))), (q9, .inl (G.2 0, 96, .inl (fun _ => 0))), (q10, .inl (G.2 1, 24, .inl (fun _ => 0))), (q11, .inl (G.2 0, 24, .inl (fun _ => 0))), (q12, .inl (G.2 0, 96, .inl (fun _ => 0)))] rfl ?_
  refine n_put pX7_44 rfl rfl rfl dX7_init_99 ?_
  refine n_w [(h0, .inr (7, [.int 0, .int 0, .ref q1, .ref q2, .ref q3, .int 0, .int 0, .int 0, .int 0, .int 0, .int 0, .int 0, .ref q4, .ref q5, .ref q6, .ref q7, .ref q8, .ref q9, .ref q10, .ref q11, .ref q12, .null, .null, .null, .null, .null, .int 0, .int 0, .null, .null, .null, .int 0, .null, .null, .int 0])), (q1, .inl (G.2 0, 12, .inl (fun _ => 0))), (q2, .inl (G.2 0, 240, .inl (fun _ => 0))), (q3, .inl (G.2 0, 240, .inl (fun _ => 0))), (q4, .inl (G.2 0, 24, .inl (fun _ => 0))), (q5, .inl (G.2 0, 24, .inl (fun _ => 0))), (q6, .inl (G.2 0, 24, .inl (fun _ => 0))), (q7, .inl (G.2 0, 24, .inl (fun _ => 0))), (q8, .inl (G.2 0, 24, .inl (fun _ => 0))), (q9, .inl (G.2 0, 96, .inl (fun _ => 0))), (q10, .inl (G.2 1, 24, .inl (fun _ => 0))), (q11, .inl (G.2 0, 24, .inl (fun _ => 0))), (q12, .inl (G.2 0, 96, .inl (fun _ => 0)))] rfl ?_
  refine n_aload 0 dX7_init_102 rfl ?_
  refine n_bipush 24 dX7_init_103 (by decide) ?_
  refine n_newI dX7_init_105 (N := 24) (by decide) (by decide) (by decide) (by decide) (fun q13 => ?_)
  refine n_w [(h0, .inr (7, [.int 0, .int 0, .ref q1, .ref q2, .ref q3, .int 0, .int 0, .int 0, .int 0, .int 0, .int 0, .int 0, .ref q4, .ref q5, .ref q6, .ref q7, .ref q8, .ref q9, .ref q10, .ref q11, .ref q12, .null, .null, .null, .null, .null, .int 0, .int 0, .null, .null, .null, .int 0, .null, .null, .int 0])), (q1, .inl (G.2 0, 12, .inl (fun _ => 0))), (q2, .inl (G.2 0, 240, .inl (fun _ => 0))), (q3, .inl (G.2 0, 240, .inl (fun _ => 0))), (q4, .inl (G.2 0, 24, .inl (fun _ => 0))), (q5, .inl (G.2 0, 24, .inl (fun _ => 0))), (q6, .inl (G.2 0, 24, .inl (fun _ => 0))), (q7, .inl (G.2 0, 24, .inl (fun _ => 0))), (q8, .inl (G.2 0, 24, .inl (fun _ => 0))), (q9, .inl (G.2 0, 96, .inl (fun _ => 0))), (q10, .inl (G.2 1, 24, .inl (fun _ => 0))), (q11, .inl (G.2 0, 24, .inl (fun _ => 0))), (q12, .inl (G.2 0, 96, .inl (fun _ => 0))), (q13, .inl (G.2 0, 24, .inl (fun _ => 0)))] rfl ?_
  refine n_put pX7_47 rfl rfl rfl dX7_init_107 ?_
  refine n_w [(h0, .inr (7, [.int 0, .int 0, .ref q1, .ref q2, .ref q3, .int 0, .int 0, .int 0, .int 0, .int 0, .int 0, .int 0, .ref q4, .ref q5, .ref q6, .ref q7, .ref q8, .ref q9, .ref q10, .ref q11, .ref q12, .ref q13, .null, .null, .null, .null, .int 0, .int 0, .null, .null, .null, .int 0, .null, .null, .int 0])), (q1, .inl (G.2 0, 12, .inl (fun _ => 0))), (q2, .inl (G.2 0, 240, .inl (fun _ => 0))), (q3, .inl (G.2 0, 240, .inl (fun _ => 0))), (q4, .inl (G.2 0, 24, .inl (fun _ => 0))), (q5, .inl (G.2 0, 24, .inl (fun _ => 0))), (q6, .inl (G.2 0, 24, .inl (fun _ => 0))), (q7, .inl (G.2 0, 24, .inl (fun _ => 0))), (q8, .inl (G.2 0, 24, .inl (fun _ => 0))), (q9, .inl (G.2 0, 96, .inl (fun _ => 0))), (q10, .inl (G.2 1, 24, .inl (fun _ => 0))), (q11, .inl (G.2 0, 24, .inl (fun _ => 0))), (q12, .inl (G.2 0, 96, .inl (fun _ => 0))), (q13, .inl (G.2 0, 24, .inl (fun _ => 0)))] rfl ?_
  refine n_aload 0 dX7_init_110 rfl ?_
  refine n_bipush 24 dX7_init_111 (by decide) ?_
  refine n_newI dX7_init_113 (N := 24) (by decide) (by decide) (by decide) (by decide) (fun q14 => ?_)
  refine n_w [(h0, .inr (7, [.int 0, .int 0, .ref q1, .ref q2, .ref q3, .int 0, .int 0, .int 0, .int 0, .int 0, .int 0, .int 0, .ref q4, .ref q5, .ref q6, .ref q7, .ref q8, .ref q9, .ref q10, .ref q11, .ref q12, .ref q13, .null, .null, .null, .null, .int 0, .int 0, .null, .null, .null, .int 0, .null, .null, .int 0])), (q1, .inl (G.2 0, 12, .inl (fun _ => 0))), (q2, .inl (G.2 0, 240, .inl (fun _ => 0))), (q3, .inl (G.2 0, 240, .inl (fun _ => 0))), (q4, .inl (G.2 0, 24, .inl (fun _ => 0))), (q5, .inl (G.2 0, 24, .inl (fun _ => 0))), (q6, .inl (G.2 0, 24, .inl (fun _ => 0))), (q7, .inl (G.2 0, 24, .inl (fun _ => 0))), (q8, .inl (G.2 0, 24, .inl (fun _ => 0))), (q9, .inl (G.2 0, 96, .inl (fun _ => 0))), (q10, .inl (G.2 1, 24, .inl (fun _ => 0))), (q11, .inl (G.2 0, 24, .inl (fun _ => 0))), (q12, .inl (G.2 0, 96, .inl (fun _ => 0))), (q13, .inl (G.2 0, 24, .inl (fun _ => 0))), (q14, .inl (G.2 0, 24, .inl (fun _ => 0)))] rfl ?_
  refine n_put pX7_50 rfl rfl rfl dX7_init_115 ?_
  refine n_w [(h0, .inr (7, [.int 0, .int 0, .ref q1, .ref q2, .ref q3, .int 0, .int 0, .int 0, .int 0, .int 0, .int 0, .int 0, .ref q4, .ref q5, .ref q6, .ref q7, .ref q8, .ref q9, .ref q10, .ref q11, .ref q12, .ref q13, .ref q14, .null, .null, .null, .int 0, .int 0, .null, .null, .null, .int 0, .null, .null, .int 0])), (q1, .inl (G.2 0, 12, .inl (fun _ => 0))), (q2, .inl (G.2 0, 240, .inl (fun _ => 0))), (q3, .inl (G.2 0, 240, .inl (fun _ => 0))), (q4, .inl (G.2 0, 24, .inl (fun _ => 0))), (q5, .inl (G.2 0, 24, .inl (fun _ => 0))), (q6, .inl (G.2 0, 24, .inl (fun _ => 0))), (q7, .inl (G.2 0, 24, .inl (fun _ => 0))), (q8, .inl (G.2 0, 24, .inl (fun _ => 0))), (q9, .inl (G.2 0, 96, .inl (fun _ => 0))), (q10, .inl (G.2 1, 24, .inl (fun _ => 0))), (q11, .inl (G.2 0, 24, .inl (fun _ => 0))), (q12, .inl (G.2 0, 96, .inl (fun _ => 0))), (q13, .inl (G.2 0, 24, .inl (fun _ => 0))), (q14, .inl (G.2 0, 24, .inl (fun _ => 0)))] rfl ?_
  refine n_aload 0 dX7_init_118 rfl ?_
  refine n_bipush 24 dX7_init_119 (by decide) ?_
  refine n_newI dX7_init_121 (N := 24) (by decide) (by decide) (by decide) (by decide) (fun q15 => ?_)
  refine n_w [(h0, .inr (7, [.int 0, .int 0, .ref q1, .ref q2, .ref q3, .int 0, .int 0, .int 0, .int 0, .int 0, .int 0, .int 0, .ref q4, .ref q5, .ref q6, .ref q7, .ref q8, .ref q9, .ref q10, .ref q11, .ref q12, .ref q13, .ref q14, .null, .null, .null, .int 0, .int 0, .null, .null, .null, .int 0, .null, .null, .int 0])), (q1, .inl (G.2 0, 12, .inl (fun _ => 0))), (q2, .inl (G.2 0, 240, .inl (fun _ => 0))), (q3, .inl (G.2 0, 240, .inl (fun _ => 0))), (q4, .inl (G.2 0, 24, .inl (fun _ => 0))), (q5, .inl (G.2 0, 24, .inl (fun _ => 0))), (q6, .inl (G.2 0, 24, .inl (fun _ => 0))), (q7, .inl (G.2 0, 24, .inl (fun _ => 0))), (q8, .inl (G.2 0, 24, .inl (fun _ => 0))), (q9, .inl (G.2 0, 96, .inl (fun _ => 0))), (q10, .inl (G.2 1, 24, .inl (fun _ => 0))), (q11, .inl (G.2 0, 24, .inl (fun _ => 0))), (q12, .inl (G.2 0, 96, .inl (fun _ => 0))), (q13, .inl (G.2 0, 24, .inl (fun _ => 0))), (q14, .inl (G.2 0, 24, .inl (fun _ => 0))), (q15, .inl (G.2 0, 24, .inl (fun _ => 0)))] rfl ?_
  refine n_put pX7_53 rfl rfl rfl dX7_init_123 ?_
  refine n_w [(h0, .inr (7, [.int 0, .int 0, .ref q1, .ref q2, .ref q3, .int 0, .int 0, .int 0, .int 0, .int 0, .int 0, .int 0, .ref q4, .ref q5, .ref q6, .ref q7, .ref q8, .ref q9, .ref q10, .ref q11, .ref q12, .ref q13, .ref q14, .ref q15, .null, .null, .int 0, .int 0, .null, .null, .null, .int 0, .null, .null, .int 0])), (q1, .inl (G.2 0, 12, .inl (fun _ => 0))), (q2, .inl (G.2 0, 240, .inl (fun _ => 0))), (q3, .inl (G.2 0, 240, .inl (fun _ => 0))), (q4, .inl (G.2 0, 24, .inl (fun _ => 0))), (q5, .inl (G.2 0, 24, .inl (fun _ => 0))), (q6, .inl (G.2 0, 24, .inl (fun _ => 0))), (q7, .inl (G.2 0, 24, .inl (fun _ => 0))), (q8, .inl (G.2 0, 24, .inl (fun _ => 0))), (q9, .inl (G.2 0, 96, .inl (fun _ => 0))), (q10, .inl (G.2 1, 24, .inl (fun _ => 0))), (q11, .inl (G.2 0, 24, .inl (fun _ => 0))), (q12, .inl (G.2 0, 96, .inl (fun _ => 0))), (q13, .inl (G.2 0, 24, .inl (fun _ => 0))), (q14, .inl (G.2 0, 24, .inl (fun _ => 0))), (q15, .inl (G.2 0, 24, .inl (fun _ => 0)))] rfl ?_
  refine n_aload 0 dX7_init_126 rfl ?_
  refine n_bipush 24 dX7_init_127 (by decide) ?_
  refine n_newI dX7_init_129 (N := 24) (by decide) (by decide) (by decide) (by decide) (fun q16 => ?_)
  refine n_w [(h0, .inr (7, [.int 0, .int 0, .ref q1, .ref q2, .ref q3, .int 0, .int 0, .int 0, .int 0, .int 0, .int 0, .int 0, .ref q4, .ref q5, .ref q6, .ref q7, .ref q8, .ref q9, .ref q10, .ref q11, .ref q12, .ref q13, .ref q14, .ref q15, .null, .null, .int 0, .int 0, .null, .null, .null, .int 0, .null, .null, .int 0])), (q1, .inl (G.2 0, 12, .inl (fun _ => 0))), (q2, .inl (G.2 0, 240, .inl (fun _ => 0))), (q3, .inl (G.2 0, 240, .inl (fun _ => 0))), (q4, .inl (G.2 0, 24, .inl (fun _ => 0))), (q5, .inl (G.2 0, 24, .inl (fun _ => 0))), (q6, .inl (G.2 0, 24, .inl (fun _ => 0))), (q7, .inl (G.2 0, 24, .inl (fun _ => 0))), (q8, .inl (G.2 0, 24, .inl (fun _ => 0))), (q9, .inl (G.2 0, 96, .inl (fun _ => 0))), (q10, .inl (G.2 1, 24, .inl (fun _ => 0))), (q11, .inl (G.2 0, 24, .inl (fun _ => 0))), (q12, .inl (G.2 0, 96, .inl (fun _ => 0))), (q13, .inl (G.2 0, 24, .inl (fun _ => 0))), (q14, .inl (G.2 0, 24, .inl (fun _ => 0))), (q15, .inl (G.2 0, 24, .inl (fun _ => 0))), (q16, .inl (G.2 0, 24, .inl (fun _ => 0)))] rfl ?_
  refine n_put pX7_56 rfl rfl rfl dX7_init_131 ?_
  refine n_w [(h0, .inr (7, [.int 0, .int 0, .ref q1, .ref q2, .ref q3, .int 0, .int 0, .int 0, .int 0, .int 0, .int 0, .int 0, .ref q4, .ref q5, .ref q6, .ref q7, .ref q8, .ref q9, .ref q10, .ref q11, .ref q12, .ref q13, .ref q14, .ref q15, .ref q16, .null, .int 0, .int 0, .null, .null, .null, .int 0, .null, .null, .int 0])), (q1, .inl (G.2 0, 12, .inl (fun _ => 0))), (q2, .inl (G.2 0, 240, .inl (fun _ => 0))), (q3, .inl (G.2 0, 240, .inl (fun _ => 0))), (q4, .inl (G.2 0, 24, .inl (fun _ => 0))), (q5, .inl (G.2 0, 24, .inl (fun _ => 0))), (q6, .inl (G.2 0, 24, .inl (fun _ => 0))), (q7, .inl (G.2 0, 24, .inl (fun _ => 0))), (q8, .inl (G.2 0, 24, .inl (fun _ => 0))), (q9, .inl (G.2 0, 96, .inl (fun _ => 0))), (q10, .inl (G.2 1, 24, .inl (fun _ => 0))), (q11, .inl (G.2 0, 24, .inl (fun _ => 0))), (q12, .inl (G.2 0, 96, .inl (fun _ => 0))), (q13, .inl (G.2 0, 24, .inl (fun _ => 0))), (q14, .inl (G.2 0, 24, .inl (fun _ => 0))), (q15, .inl (G.2 0, 24, .inl (fun _ => 0))), (q16, .inl (G.2 0, 24, .inl (fun _ => 0)))] rfl ?_
  refine n_aload 0 dX7_init_134 rfl ?_
  refine n_bipush 24 dX7_init_135 (by decide) ?_
  refine n_newI dX7_init_137 (N := 24) (by decide) (by decide) (by decide) (by decide) (fun q17 => ?_)
  refine n_w [(h0, .inr (7, [.int 0, .int 0, .ref q1, .ref q2, .ref q3, .int 0, .int 0, .int 0, .int 0, .int 0, .int 0, .int 0, .ref q4, .ref q5, .ref q6, .ref q7, .ref q8, .ref q9, .ref q10, .ref q11, .ref q12, .ref q13, .ref q14, .ref q15, .ref q16, .null, .int 0, .int 0, .null, .null, .null, .int 0, .null, .null, .int 0])), (q1, .inl (G.2 0, 12, .inl (fun _ => 0))), (q2, .inl (G.2 0, 240, .inl (fun _ => 0))), (q3, .inl (G.2 0, 240, .inl (fun _ => 0))), (q4, .inl (G.2 0, 24, .inl (fun _ => 0))), (q5, .inl (G.2 0, 24, .inl (fun _ => 0))), (q6, .inl (G.2 0, 24, .inl (fun _ => 0))), (q7, .inl (G.2 0, 24, .inl (fun _ => 0))), (q8, .inl (G.2 0, 24, .inl (fun _ => 0))), (q9, .inl (G.2 0, 96, .inl (fun _ => 0))), (q10, .inl (G.2 1, 24, .inl (fun _ => 0))), (q11, .inl (G.2 0, 24, .inl (fun _ => 0))), (q12, .inl (G.2 0, 96, .inl (fun _ => 0))), (q13, .inl (G.2 0, 24, .inl (fun _ => 0))), (q14, .inl (G.2 0, 24, .inl (fun _ => 0))), (q15, .inl (G.2 0, 24, .inl (fun _ => 0))), (q16, .inl (G.2 0, 24, .inl (fun _ => 0))), (q17, .inl (G.2 0, 24, .inl (fun _ => 0)))] rfl ?_
  refine n_put pX7_59 rfl rfl rfl dX7_init_139 ?_
  refine n_w [(h0, .inr (7, [.int 0, .int 0, .ref q1, .ref q2, .ref q3, .int 0, .int 0, .int 0, .int 0, .int 0, .int 0, .int 0, .ref q4, .ref q5, .ref q6, .ref q7, .ref q8, .ref q9, .ref q10, .ref q11, .ref q12, .ref q13, .ref q14, .ref q15, .ref q16, .ref q17, .int 0, .int 0, .null, .null, .null, .int 0, .null, .null, .int 0])), (q1, .inl (G.2 0, 12, .inl (fun _ => 0))), (q2, .inl (G.2 0, 240, .inl (fun _ => 0))), (q3, .inl (G.2 0, 240, .inl (fun _ => 0))), (q4, .inl (G.2 0, 24, .inl (fun _ => 0))), (q5, .inl (G.2 0, 24, .inl (fun _ => 0))), (q6, .inl (G.2 0, 24, .inl (fun _ => 0))), (q7, .inl (G.2 0, 24, .inl (fun _ => 0))), (q8, .inl (G.2 0, 24, .inl (fun _ => 0))), (q9, .inl (G.2 0, 96, .inl (fun _ => 0))), (q10, .inl (G.2 1, 24, .inl (fun _ => 0))), (q11, .inl (G.2 0, 24, .inl (fun _ => 0))), (q12, .inl (G.2 0, 96, .inl (fun _ => 0))), (q13, .inl (G.2 0, 24, .inl (fun _ => 0))), (q14, .inl (G.2 0, 24, .inl (fun _ => 0))), (q15, .inl (G.2 0, 24, .inl (fun _ => 0))), (q16, .inl (G.2 0, 24, .inl (fun _ => 0))), (q17, .inl (G.2 0, 24, .inl (fun _ => 0)))] rfl ?_
  refine n_aload 0 dX7_init_142 rfl ?_
  refine n_bipush 25 dX7_init_143 (by decide) ?_
  refine n_newI dX7_init_145 (N := 25) (by decide) (by decide) (by decide) (by decide) (fun q18 => ?_)
  refine n_w [(h0, .inr (7, [.int 0, .int 0, .ref q1, .ref q2, .ref q3, .int 0, .int 0, .int 0, .int 0, .int 0, .int 0, .int 0, .ref q4, .ref q5, .ref q6, .ref q7, .ref q8, .ref q9, .ref q10, .ref q11, .ref q12, .ref q13, .ref q14, .ref q15, .ref q16, .ref q17, .int 0, .int 0, .null, .null, .null, .int 0, .null, .null, .int 0])), (q1, .inl (G.2 0, 12, .inl (fun _ => 0))), (q2, .inl (G.2 0, 240, .inl (fun _ => 0))), (q3, .inl (G.2 0, 240, .inl (fun _ => 0))), (q4, .inl (G.2 0, 24, .inl (fun _ => 0))), (q5, .inl (G.2 0, 24, .inl (fun _ => 0))), (q6, .inl (G.2 0, 24, .inl (fun _ => 0))), (q7, .inl (G.2 0, 24, .inl (fun _ => 0))), (q8, .inl (G.2 0, 24, .inl (fun _ => 0))), (q9, .inl (G.2 0, 96, .inl (fun _ => 0))), (q10, .inl (G.2 1, 24, .inl (fun _ => 0))), (q11, .inl (G.2 0, 24, .inl (fun _ => 0))), (q12, .inl (G.2 0, 96, .inl (fun _ => 0))), (q13, .inl (G.2 0, 24, .inl (fun _ => 0))), (q14, .inl (G.2 0, 24, .inl (fun _ => 0))), (q15, .inl (G.2 0, 24, .inl (fun _ => 0))), (q16, .inl (G.2 0, 24, .inl (fun _ => 0))), (q17, .inl (G.2 0, 24, .inl (fun _ => 0))), (q18, .inl (G.2 0, 25, .inl (fun _ => 0)))] rfl ?_
  refine n_put pX7_62 rfl rfl rfl dX7_init_147 ?_
  refine n_w [(h0, .inr (7, [.int 0, .int 0, .ref q1, .ref q2, .ref q3, .int 0, .int 0, .int 0, .int 0, .int 0, .int 0, .int 0, .ref q4, .ref q5, .ref q6, .ref q7, .ref q8, .ref q9, .ref q10, .ref q11, .ref q12, .ref q13, .ref q14, .ref q15, .ref q16, .ref q17, .int 0, .int 0, .ref q18, .null, .null, .int 0, .null, .null, .int 0])), (q1, .inl (G.2 0, 12, .inl (fun _ => 0))), (q2, .inl (G.2 0, 240, .inl (fun _ => 0))), (q3, .inl (G.2 0, 240, .inl (fun _ => 0))), (q4, .inl (G.2 0, 24, .inl (fun _ => 0))), (q5, .inl (G.2 0, 24, .inl (fun _ => 0))), (q6, .inl (G.2 0, 24, .inl (fun _ => 0))), (q7, .inl (G.2 0, 24, .inl (fun _ => 0))), (q8, .inl (G.2 0, 24, .inl (fun _ => 0))), (q9, .inl (G.2 0, 96, .inl (fun _ => 0))), (q10, .inl (G.2 1, 24, .inl (fun _ => 0))), (q11, .inl (G.2 0, 24, .inl (fun _ => 0))), (q12, .inl (G.2 0, 96, .inl (fun _ => 0))), (q13, .inl (G.2 0, 24, .inl (fun _ => 0))), (q14, .inl (G.2 0, 24, .inl (fun _ => 0))), (q15, .inl (G.2 0, 24, .inl (fun _ => 0))), (q16, .inl (G.2 0, 24, .inl (fun _ => 0))), (q17, .inl (G.2 0, 24, .inl (fun _ => 0))), (q18, .inl (G.2 0, 25, .inl (fun _ => 0)))] rfl ?_
  refine n_aload 0 dX7_init_150 rfl ?_
  refine n_bipush 8 dX7_init_151 (by decide) ?_
  refine n_newI dX7_init_153 (N := 8) (by decide) (by decide) (by decide) (by decide) (fun q19 => ?_)
  refine n_w [(h0, .inr (7, [.int 0, .int 0, .ref q1, .ref q2, .ref q3, .int 0, .int 0, .int 0, .int 0, .int 0, .int 0, .int 0, .ref q4, .ref q5, .ref q6, .ref q7, .ref q8, .ref q9, .ref q10, .ref q11, .ref q12, .ref q13, .ref q14, .ref q15, .ref q16, .ref q17, .int 0, .int 0, .ref q18, .null, .null, .int 0, .null, .null, .int 0])), (q1, .inl (G.2 0, 12, .inl (fun _ => 0))), (q2, .inl (G.2 0, 240, .inl (fun _ => 0))), (q3, .inl (G.2 0, 240, .inl (fun _ => 0))), (q4, .inl (G.2 0, 24, .inl (fun _ => 0))), (q5, .inl (G.2 0, 24, .inl (fun _ => 0))), (q6, .inl (G.2 0, 24, .inl (fun _ => 0))), (q7, .inl (G.2 0, 24, .inl (fun _ => 0))), (q8, .inl (G.2 0, 24, .inl (fun _ => 0))), (q9, .inl (G.2 0, 96, .inl (fun _ => 0))), (q10, .inl (G.2 1, 24, .inl (fun _ => 0))), (q11, .inl (G.2 0, 24, .inl (fun _ => 0))), (q12, .inl (G.2 0, 96, .inl (fun _ => 0))), (q13, .inl (G.2 0, 24, .inl (fun _ => 0))), (q14, .inl (G.2 0, 24, .inl (fun _ => 0))), (q15, .inl (G.2 0, 24, .inl (fun _ => 0))), (q16, .inl (G.2 0, 24, .inl (fun _ => 0))), (q17, .inl (G.2 0, 24, .inl (fun _ => 0))), (q18, .inl (G.2 0, 25, .inl (fun _ => 0))), (q19, .inl (G.2 0, 8, .inl (fun _ => 0)))] rfl ?_
  refine n_put pX7_65 rfl rfl rfl dX7_init_155 ?_
  refine n_w [(h0, .inr (7, [.int 0, .int 0, .ref q1, .ref q2, .ref q3, .int 0, .int 0, .int 0, .int 0, .int 0, .int 0, .int 0, .ref q4, .ref q5, .ref q6, .ref q7, .ref q8, .ref q9, .ref q10, .ref q11, .ref q12, .ref q13, .ref q14, .ref q15, .ref q16, .ref q17, .int 0, .int 0, .ref q18, .ref q19, .null, .int 0, .null, .null, .int 0])), (q1, .inl (G.2 0, 12, .inl (fun _ => 0))), (q2, .inl (G.2 0, 240, .inl (fun _ => 0))), (q3, .inl (G.2 0, 240, .inl (fun _ => 0))), (q4, .inl (G.2 0, 24, .inl (fun _ => 0))), (q5, .inl (G.2 0, 24, .inl (fun _ => 0))), (q6, .inl (G.2 0, 24, .inl (fun _ => 0))), (q7, .inl (G.2 0, 24, .inl (fun _ => 0))), (q8, .inl (G.2 0, 24, .inl (fun _ => 0))), (q9, .inl (G.2 0, 96, .inl (fun _ => 0))), (q10, .inl (G.2 1, 24, .inl (fun _ => 0))), (q11, .inl (G.2 0, 24, .inl (fun _ => 0))), (q12, .inl (G.2 0, 96, .inl (fun _ => 0))), (q13, .inl (G.2 0, 24, .inl (fun _ => 0))), (q14, .inl (G.2 0, 24, .inl (fun _ => 0))), (q15, .inl (G.2 0, 24, .inl (fun _ => 0))), (q16, .inl (G.2 0, 24, .inl (fun _ => 0))), (q17, .inl (G.2 0, 24, .inl (fun _ => 0))), (q18, .inl (G.2 0, 25, .inl (fun _ => 0))), (q19, .inl (G.2 0, 8, .inl (fun _ => 0)))] rfl ?_
  refine n_aload 0 dX7_init_158 rfl ?_
  refine n_bipush 8 dX7_init_159 (by decide) ?_
  refine n_newZ dX7_init_161 (N := 8) (by decide) (by decide) (by decide) (by decide) (fun q20 => ?_)
  refine n_w [(h0, .inr (7, [.int 0, .int 0, .ref q1, .ref q2, .ref q3, .int 0, .int 0, .int 0, .int 0, .int 0, .int 0, .int 0, .ref q4, .ref q5, .ref q6, .ref q7, .ref q8, .ref q9, .ref q10, .ref q11, .ref q12, .ref q13, .ref q14, .ref q15, .ref q16, .ref q17, .int 0, .int 0, .ref q18, .ref q19, .null, .int 0, .null, .null, .int 0])), (q1, .inl (G.2 0, 12, .inl (fun _ => 0))), (q2, .inl (G.2 0, 240, .inl (fun _ => 0))), (q3, .inl (G.2 0, 240, .inl (fun _ => 0))), (q4, .inl (G.2 0, 24, .inl (fun _ => 0))), (q5, .inl (G.2 0, 24, .inl (fun _ => 0))), (q6, .inl (G.2 0, 24, .inl (fun _ => 0))), (q7, .inl (G.2 0, 24, .inl (fun _ => 0))), (q8, .inl (G.2 0, 24, .inl (fun _ => 0))), (q9, .inl (G.2 0, 96, .inl (fun _ => 0))), (q10, .inl (G.2 1, 24, .inl (fun _ => 0))), (q11, .inl (G.2 0, 24, .inl (fun _ => 0))), (q12, .inl (G.2 0, 96, .inl (fun _ => 0))), (q13, .inl (G.2 0, 24, .inl (fun _ => 0))), (q14, .inl (G.2 0, 24, .inl (fun _ => 0))), (q15, .inl (G.2 0, 24, .inl (fun _ => 0))), (q16, .inl (G.2 0, 24, .inl (fun _ => 0))), (q17, .inl (G.2 0, 24, .inl (fun _ => 0))), (q18, .inl (G.2 0, 25, .inl (fun _ => 0))), (q19, .inl (G.2 0, 8, .inl (fun _ => 0))), (q20, .inl (G.2 1, 8, .inl (fun _ => 0)))] rfl ?_
  refine n_put pX7_68 rfl rfl rfl dX7_init_163 ?_
  refine n_w [(h0, .inr (7, [.int 0, .int 0, .ref q1, .ref q2, .ref q3, .int 0, .int 0, .int 0, .int 0, .int 0, .int 0, .int 0, .ref q4, .ref q5, .ref q6, .ref q7, .ref q8, .ref q9, .ref q10, .ref q11, .ref q12, .ref q13, .ref q14, .ref q15, .ref q16, .ref q17, .int 0, .int 0, .ref q18, .ref q19, .ref q20, .int 0, .null, .null, .int 0])), (q1, .inl (G.2 0, 12, .inl (fun _ => 0))), (q2, .inl (G.2 0, 240, .inl (fun _ => 0))), (q3, .inl (G.2 0, 240, .inl (fun _ => 0))), (q4, .inl (G.2 0, 24, .inl (fun _ => 0))), (q5, .inl (G.2 0, 24, .inl (fun _ => 0))), (q6, .inl (G.2 0, 24, .inl (fun _ => 0))), (q7, .inl (G.2 0, 24, .inl (fun _ => 0))), (q8, .inl (G.2 0, 24, .inl (fun _ => 0))), (q9, .inl (G.2 0, 96, .inl (fun _ => 0))), (q10, .inl (G.2 1, 24, .inl (fun _ => 0))), (q11, .inl (G.2 0, 24, .inl (fun _ => 0))), (q12, .inl (G.2 0, 96, .inl (fun _ => 0))), (q13, .inl (G.2 0, 24, .inl (fun _ => 0))), (q14, .inl (G.2 0, 24, .inl (fun _ => 0))), (q15, .inl (G.2 0, 24, .inl (fun _ => 0))), (q16, .inl (G.2 0, 24, .inl (fun _ => 0))), (q17, .inl (G.2 0, 24, .inl (fun _ => 0))), (q18, .inl (G.2 0, 25, .inl (fun _ => 0))), (q19, .inl (G.2 0, 8, .inl (fun _ => 0))), (q20, .inl (G.2 1, 8, .inl (fun _ => 0)))] rfl ?_
  refine n_aload 0 dX7_init_166 rfl ?_
  refine n_bipush 100 dX7_init_167 (by decide) ?_
  refine n_newI dX7_init_169 (N := 100) (by decide) (by decide) (by decide) (by decide) (fun q21 => ?_)
  refine n_w [(h0, .inr (7, [.int 0, .int 0, .ref q1, .ref q2, .ref q3, .int 0, .int 0, .int 0, .int 0, .int 0, .int 0, .int 0, .ref q4, .ref q5, .ref q6, .ref q7, .ref q8, .ref q9, .ref q10, .ref q11, .ref q12, .ref q13, .ref q14, .ref q15, .ref q16, .ref q17, .int 0, .int 0, .ref q18, .ref q19, .ref q20, .int 0, .null, .null, .int 0])), (q1, .inl (G.2 0, 12, .inl (fun _ => 0))), (q2, .inl (G.2 0, 240, .inl (fun _ => 0))), (q3, .inl (G.2 0, 240, .inl (fun _ => 0))), (q4, .inl (G.2 0, 24, .inl (fun _ => 0))), (q5, .inl (G.2 0, 24, .inl (fun _ => 0))), (q6, .inl (G.2 0, 24, .inl (fun _ => 0))), (q7, .inl (G.2 0, 24, .inl (fun _ => 0))), (q8, .inl (G.2 0, 24, .inl (fun _ => 0))), (q9, .inl (G.2 0, 96, .inl (fun _ => 0))), (q10, .inl (G.2 1, 24, .inl (fun _ => 0))), (q11, .inl (G.2 0, 24, .inl (fun _ => 0))), (q12, .inl (G.2 0, 96, .inl (fun _ => 0))), (q13, .inl (G.2 0, 24, .inl (fun _ => 0))), (q14, .inl (G.2 0, 24, .inl (fun _ => 0))), (q15, .inl (G.2 0, 24, .inl (fun _ => 0))), (q16, .inl (G.2 0, 24, .inl (fun _ => 0))), (q17, .inl (G.2 0, 24, .inl (fun _ => 0))), (q18, .inl (G.2 0, 25, .inl (fun _ => 0))), (q19, .inl (G.2 0, 8, .inl (fun _ => 0))), (q20, .inl (G.2 1, 8, .inl (fun _ => 0))), (q21, .inl (G.2 0, 100, .inl (fun _ => 0)))] rfl ?_
  refine n_put pX7_71 rfl rfl rfl dX7_init_171 ?_
  refine n_w [(h0, .inr (7, [.int 0, .int 0, .ref q1, .ref q2, .ref q3, .int 0, .int 0, .int 0, .int 0, .int 0, .int 0, .int 0, .ref q4, .ref q5, .ref q6, .ref q7, .ref q8, .ref q9, .ref q10, .ref q11, .ref q12, .ref q13, .ref q14, .ref q15, .ref q16, .ref q17, .int 0, .int 0, .ref q18, .ref q19, .ref q20, .int 0, .ref q21, .null, .int 0])), (q1, .inl (G.2 0, 12, .inl (fun _ => 0))), (q2, .inl (G.2 0, 240, .inl (fun _ => 0))), (q3, .inl (G.2 0, 240, .inl (fun _ => 0))), (q4, .inl (G.2 0, 24, .inl (fun _ => 0))), (q5, .inl (G.2 0, 24, .inl (fun _ => 0))), (q6, .inl (G.2 0, 24, .inl (fun _ => 0))), (q7, .inl (G.2 0, 24, .inl (fun _ => 0))), (q8, .inl (G.2 0, 24, .inl (fun _ => 0))), (q9, .inl (G.2 0, 96, .inl (fun _ => 0))), (q10, .inl (G.2 1, 24, .inl (fun _ => 0))), (q11, .inl (G.2 0, 24, .inl (fun _ => 0))), (q12, .inl (G.2 0, 96, .inl (fun _ => 0))), (q13, .inl (G.2 0, 24, .inl (fun _ => 0))), (q14, .inl (G.2 0, 24, .inl (fun _ => 0))), (q15, .inl (G.2 0, 24, .inl (fun _ => 0))), (q16, .inl (G.2 0, 24, .inl (fun _ => 0))), (q17, .inl (G.2 0, 24, .inl (fun _ => 0))), (q18, .inl (G.2 0, 25, .inl (fun _ => 0))), (q19, .inl (G.2 0, 8, .inl (fun _ => 0))), (q20, .inl (G.2 1, 8, .inl (fun _ => 0))), (q21, .inl (G.2 0, 100, .inl (fun _ => 0)))] rfl ?_
  refine n_aload 0 dX7_init_174 rfl ?_
  refine n_bipush 100 dX7_init_175 (by decide) ?_
  refine n_newI dX7_init_177 (N := 100) (by decide) (by decide) (by decide) (by decide) (fun q22 => ?_)
  refine n_w [(h0, .inr (7, [.int 0, .int 0, .ref q1, .ref q2, .ref q3, .int 0, .int 0, .int 0, .int 0, .int 0, .int 0, .int 0, .ref q4, .ref q5, .ref q6, .ref q7, .ref q8, .ref q9, .ref q10, .ref q11, .ref q12, .ref q13, .ref q14, .ref q15, .ref q16, .ref q17, .int 0, .int 0, .ref q18, .ref q19, .ref q20, .int 0, .ref q21, .null, .int 0])), (q1, .inl (G.2 0, 12, .inl (fun _ => 0))), (q2, .inl (G.2 0, 240, .inl (fun _ => 0))), (q3, .inl (G.2 0, 240, .inl (fun _ => 0))), (q4, .inl (G.2 0, 24, .inl (fun _ => 0))), (q5, .inl (G.2 0, 24, .inl (fun _ => 0))), (q6, .inl (G.2 0, 24, .inl (fun _ => 0))), (q7, .inl (G.2 0, 24, .inl (fun _ => 0))), (q8, .inl (G.2 0, 24, .inl (fun _ => 0))), (q9, .inl (G.2 0, 96, .inl (fun _ => 0))), (q10, .inl (G.2 1, 24, .inl (fun _ => 0))), (q11, .inl (G.2 0, 24, .inl (fun _ => 0))), (q12, .inl (G.2 0, 96, .inl (fun _ => 0))), (q13, .inl (G.2 0, 24, .inl (fun _ => 0))), (q14, .inl (G.2 0, 24, .inl (fun _ => 0))), (q15, .inl (G.2 0, 24, .inl (fun _ => 0))), (q16, .inl (G.2 0, 24, .inl (fun _ => 0))), (q17, .inl (G.2 0, 24, .inl (fun _ => 0))), (q18, .inl (G.2 0, 25, .inl (fun _ => 0))), (q19, .inl (G.2 0, 8, .inl (fun _ => 0))), (q20, .inl (G.2 1, 8, .inl (fun _ => 0))), (q21, .inl (G.2 0, 100, .inl (fun _ => 0))), (q22, .inl (G.2 0, 100, .inl (fun _ => 0)))] rfl ?_
  refine n_put pX7_74 rfl rfl rfl dX7_init_179 ?_
  refine n_w [(h0, .inr (7, [.int 0, .int 0, .ref q1, .ref q2, .ref q3, .int 0, .int 0, .int 0, .int 0, .int 0, .int 0, .int 0, .ref q4, .ref q5, .ref q6, .ref q7, .ref q8, .ref q9, .ref q10, .ref q11, .ref q12, .ref q13, .ref q14, .ref q15, .ref q16, .ref q17, .int 0, .int 0, .ref q18, .ref q19, .ref q20, .int 0, .ref q21, .ref q22, .int 0])), (q1, .inl (G.2 0, 12, .inl (fun _ => 0))), (q2, .inl (G.2 0, 240, .inl (fun _ => 0))), (q3, .inl (G.2 0, 240, .inl (fun _ => 0))), (q4, .inl (G.2 0, 24, .inl (fun _ => 0))), (q5, .inl (G.2 0, 24, .inl (fun _ => 0))), (q6, .inl (G.2 0, 24, .inl (fun _ => 0))), (q7, .inl (G.2 0, 24, .inl (fun _ => 0))), (q8, .inl (G.2 0, 24, .inl (fun _ => 0))), (q9, .inl (G.2 0, 96, .inl (fun _ => 0))), (q10, .inl (G.2 1, 24, .inl (fun _ => 0))), (q11, .inl (G.2 0, 24, .inl (fun _ => 0))), (q12, .inl (G.2 0, 96, .inl (fun _ => 0))), (q13, .inl (G.2 0, 24, .inl (fun _ => 0))), (q14, .inl (G.2 0, 24, .inl (fun _ => 0))), (q15, .inl (G.2 0, 24, .inl (fun _ => 0))), (q16, .inl (G.2 0, 24, .inl (fun _ => 0))), (q17, .inl (G.2 0, 24, .inl (fun _ => 0))), (q18, .inl (G.2 0, 25, .inl (fun _ => 0))), (q19, .inl (G.2 0, 8, .inl (fun _ => 0))), (q20, .inl (G.2 1, 8, .inl (fun _ => 0))), (q21, .inl (G.2 0, 100, .inl (fun _ => 0))), (q22, .inl (G.2 0, 100, .inl (fun _ => 0)))] rfl ?_
  exact n_ret dX7_init_182 (by decide) (by decide) ⟨q1, q2, q3, q4, q5, q6, q7, q8, q9, q10, q11, q12, q13, q14, q15, q16, q17, q18, q19, q20, q21, q22, rfl⟩
/-! worlds by their members -/
theorem va_P_mem {D : va_G} {cl : List vw_C} {w : va_W} {H : Heap} : va_P D cl w H ↔ ∀ q ∈ w, va_at D cl q H :=
  ⟨fun h q hq => by
    obtain ⟨k, hk⟩ := List.getElem?_of_mem hq
    exact h k q hk, fun h k q hk => h q (List.mem_of_getElem? hk)⟩
theorem va_D_adr {A : Nat → Prop} {w w' : va_W} (h : va_D A w) (e : w'.map (fun q => q.1) = w.map (fun q => q.1)) : va_D A w' := by
  have key : ∀ (k : Nat) (q : Nat × va_E), w'[k]? = some q → ∃ q', w[k]? = some q' ∧ q'.1 = q.1 := by
    intro k q hk
    have h1 : (w'.map (fun q => q.1))[k]? = some q.1 := by rw [List.getElem?_map, hk]; rfl
    rw [e, List.getElem?_map] at h1
    cases e2 : w[k]? with
    | none => rw [e2] at h1; cases h1
    | some q' => rw [e2] at h1; exact ⟨q', rfl, Option.some.inj h1⟩
  refine ⟨fun i j x y hi hj hxy => ?_, fun k q hk => ?_⟩
  · obtain ⟨x', a1, a2⟩ := key i x hi
    obtain ⟨y', b1, b2⟩ := key j y hj
    exact h.1 i j x' y' a1 b1 (by rw [a2, b2]; exact hxy)
  · obtain ⟨q', a1, a2⟩ := key k q hk
    rw [← a2]
    exact h.2 k q' a1
theorem arr_cg {c : ClassId} {n : Nat} {f g : Nat → Option Nat} (h : ∀ j, j < n → f j = g j) : vp_cell c (n, .inr (.inr (.inr (.inr f)))) = vp_cell c (n, .inr (.inr (.inr (.inr g)))) := by
  rw [vp_cell_q, vp_cell_q]
  unfold arrV
  congr 2
  funext j
  exact congrArg va_rf (h j.val j.isLt)
theorem at_cg {D : va_G} {cl : List vw_C} {H : Heap} {q n : Nat} {c : ClassId} {f g : Nat → Option Nat} (h : ∀ j, j < n → f j = g j) (k : va_at D cl (q, .inl (c, n, .inr (.inr (.inr (.inr f))))) H) : va_at D cl (q, .inl (c, n, .inr (.inr (.inr (.inr g))))) H := by
  show H[q]? = some (vp_cell c (n, .inr (.inr (.inr (.inr g)))))
  rw [← arr_cg h]
  exact k
section VnMore
variable {G : tG} {own : String} {cc : ByteArray} {nL d mc ms : Nat} {Q : va_W → Prop} {pc : Nat} {lv : List (Nat × Value)} {st : List Value} {w : va_W} {cells slots : Nat}
theorem n_refs {X Y : va_W} {q n : Nat} {c : ClassId} {f : Nat → Option Nat} (g : Nat → Option Nat) (h : ∀ j, j < n → f j = g j) (k : Vn G own cc nL d mc ms Q pc lv st (X ++ (q, .inl (c, n, .inr (.inr (.inr (.inr g))))) :: Y) cells slots) : Vn G own cc nL d mc ms Q pc lv st (X ++ (q, .inl (c, n, .inr (.inr (.inr (.inr f))))) :: Y) cells slots := by
  intro p l e s m args below meth c' A H locs ls C hP hD hS hl
  refine k p l e s m args below meth c' A H locs ls C (va_P_mem.mpr (fun x hx => ?_)) (va_D_adr hD (by simp)) hS hl
  have hP := va_P_mem.mp hP
  rcases List.mem_append.mp hx with hx | hx
  · exact hP x (List.mem_append_left _ hx)
  · rcases List.mem_cons.mp hx with hx | hx
    · subst hx
      exact at_cg h (hP _ (List.mem_append_right _ List.mem_cons_self))
    · exact hP x (List.mem_append_right _ (List.mem_cons_of_mem _ hx))
theorem n_cs (c' s' : Nat) (h1 : c' = cells) (h2 : s' = slots) (k : Vn G own cc nL d mc ms Q pc lv st w c' s') : Vn G own cc nL d mc ms Q pc lv st w cells slots := by subst h1; subst h2; exact k
theorem n_mna {idx : Nat} (hdg : decode cc pc = .ok (.multianewarray idx 2, 4)) (hlk : Cond.classLink own idx ("[" ++ (FieldType.array .int).toString) ∈ lw_tbl) (hc : cells + (1 + 12) ≤ mc) (hs : slots + (12 + 12 * 20) ≤ ms) (kk : ∀ (q : Nat) (r : Nat → Nat), Vn G own cc nL d mc ms Q (pc + 4) lv (.ref q :: st) (w ++ ((q, .inl (G.2 3, 12, .inr (.inr (.inr (.inr (fun i => some (r i))))))) :: (List.range 12).map (fun i => (r i, .inl (G.2 0, 20, .inl (fun _ => 0)))))) (cells + 1 + 12) (slots + 12 + 12 * 20)) : Vn G own cc nL d mc ms Q pc lv (.int 20 :: .int 12 :: st) w cells slots := by
  intro p l e s m args below meth c A H locs ls C hP hD hS hl
  have hT := C.2.2.2.2.2.2.1
  have hK := C.2.2.2.2.2.2.2.1
  have hP' : va_P G.1 vwCl (w ++ va_pl [] (fun _ => (.inr (99, []) : va_E))) H := by simpa [va_pl] using hP
  have hD' : va_D A (w ++ va_pl [] (fun _ => (.inr (99, []) : va_E))) := by simpa [va_pl] using hD
  refine va_mna (R := rmc d mc ms) (cells := cells) (slots := slots) (N' := 12) (K' := 20) (z := (20, .inl (fun _ => 0))) C.1 C.2.1 C.2.2.2.2.1 (hT.use hlk rfl) C.2.2.2.2.2.2.2.2.2.2.2.2 (show (Cond.arrayClass .int).before args s = true from C.2.2.2.2.2.2.2.2.2.1) (cy := G.2 0) (hK.2 0 _ rfl).2 hK hP' hD' hS.1 hS.2 (by decide) (by decide) (by decide) (by decide) (by decide) (by decide) (by decide) (by decide) (by decide) hc hs (fun c => arrV_new c 20 (.int 0)) hdg (fun q r cA H1 hinj hno hK1 hP1 hD1 hS1 => ?_)
  have := ktA hK hK1
  subst this
  refine kk q r p l e s m args below meth c A H1 locs ls C (va_P_mem.mpr (fun x hx => ?_)) (va_D_adr hD1 (by simp [va_pl])) ⟨hS1, hS.2⟩ hl
  have hP1 := va_P_mem.mp hP1
  rcases List.mem_append.mp hx with hx | hx
  · exact hP1 x (List.mem_append_left _ (List.mem_append_left _ hx))
  · rcases List.mem_cons.mp hx with hx | hx
    · subst hx
      exact at_cg (fun j hj => if_pos hj) (hP1 _ (List.mem_append_left _ (List.mem_append_right _ List.mem_cons_self)))
    · obtain ⟨i, hi, rfl⟩ := List.mem_map.mp hx
      have hm : r i ∈ (List.range 12).map r := List.mem_map.mpr ⟨i, hi, rfl⟩
      have h2 := hP1 (r i, vr_up (fun _ => (.inr (99, []) : va_E)) ((List.range 12).map r) (.inl (G.2 0, (20, .inl (fun _ => 0)))) (r i)) (List.mem_append_right _ (List.mem_map.mpr ⟨r i, by simpa using hm, rfl⟩))
      rw [vr_up_in hm] at h2
      exact h2
end VnMore
def rowsW (G : tG) (r : Nat → Nat) : va_W := (List.range 12).map (fun i => (r i, .inl (G.2 0, 20, .inl (fun _ => 0))))
def aoW (G : tG) (q : Nat) (r : Nat → Nat) : Nat × va_E := (q, .inl (G.2 3, 12, .inr (.inr (.inr (.inr (fun i => some (r i)))))))
def prW (G : tG) (h0 q1 qk qo : Nat) (rk ro : Nat → Nat) : va_W := (h0, .inr (3, [.ref q1, .ref qk, .ref qo, .int 0])) :: (q1, .inl (G.2 0, 12, .inl (fun _ => 0))) :: aoW G qk rk :: (rowsW G rk ++ aoW G qo ro :: rowsW G ro)
set_option maxHeartbeats 4000000 in
set_option maxRecDepth 100000 in
theorem i_X3 (G : tG) (h0 : Nat) : Kt yX3_init cX3_init 1 1 27 516 G [.ref h0] [(h0, .inr (3, [.null, .null, .null, .int 0]))] (fun w => ∃ q1 qk qo rk ro, w = prW G h0 q1 qk qo rk ro) := by
  refine Kt.of (by decide) rfl (Nat.le_of_ble_eq_true rfl) ?_
  refine n_aload 0 dX3_init_0 rfl ?_
  refine n_obj (by decide +kernel) dX3_init_1 (by decide) ?_
  refine n_aload 0 dX3_init_4 rfl ?_
  refine n_bipush 12 dX3_init_5 (by decide) ?_
  refine n_newI dX3_init_7 (N := 12) (by decide) (by decide) (by decide) (by decide) (fun q1 => ?_)
  refine n_w [(h0, .inr (3, [.null, .null, .null, .int 0])), (q1, .inl (G.2 0, 12, .inl (fun _ => 0)))] rfl ?_
  refine n_put pX3_9 rfl rfl rfl dX3_init_9 ?_
  refine n_w [(h0, .inr (3, [.ref q1, .null, .null, .int 0])), (q1, .inl (G.2 0, 12, .inl (fun _ => 0)))] rfl ?_
  refine n_aload 0 dX3_init_12 rfl ?_
  refine n_bipush 12 dX3_init_13 (by decide) ?_
  refine n_bipush 20 dX3_init_15 (by decide) ?_
  refine n_mna dX3_init_17 (by decide +kernel) (by decide) (by decide) (fun qk rk => ?_)
  refine n_w ((h0, .inr (3, [.ref q1, .null, .null, .int 0])) :: (q1, .inl (G.2 0, 12, .inl (fun _ => 0))) :: aoW G qk rk :: rowsW G rk) rfl ?_
  refine n_put pX3_17 rfl rfl rfl dX3_init_21 ?_
  refine n_w ((h0, .inr (3, [.ref q1, .ref qk, .null, .int 0])) :: (q1, .inl (G.2 0, 12, .inl (fun _ => 0))) :: aoW G qk rk :: rowsW G rk) rfl ?_
  refine n_aload 0 dX3_init_24 rfl ?_
  refine n_bipush 12 dX3_init_25 (by decide) ?_
  refine n_bipush 20 dX3_init_27 (by decide) ?_
  refine n_mna dX3_init_29 (by decide +kernel) (by decide) (by decide) (fun qo ro => ?_)
  refine n_w ((h0, .inr (3, [.ref q1, .ref qk, .null, .int 0])) :: (q1, .inl (G.2 0, 12, .inl (fun _ => 0))) :: aoW G qk rk :: (rowsW G rk ++ aoW G qo ro :: rowsW G ro)) rfl ?_
  refine n_put pX3_20 rfl rfl rfl dX3_init_33 ?_
  refine n_w ((h0, .inr (3, [.ref q1, .ref qk, .ref qo, .int 0])) :: (q1, .inl (G.2 0, 12, .inl (fun _ => 0))) :: aoW G qk rk :: (rowsW G rk ++ aoW G qo ro :: rowsW G ro)) rfl ?_
  refine n_aload 0 dX3_init_36 rfl ?_
  refine n_iconst 0 dX3_init_37 (by decide) ?_
  refine n_put pX3_23 rfl rfl rfl dX3_init_38 ?_
  exact n_ret dX3_init_41 (by decide) (by decide) ⟨q1, qk, qo, rk, ro, rfl⟩
/-! the fibers -/
def FBc (G : tG) (r0 r1 r2 : Nat → Nat) (i : Nat) : va_W := [(r0 i, .inr (1, fibF i (r1 i) (r2 i))), (r1 i, .inl (G.2 0, 4, .inl (fun _ => 0))), (r2 i, .inl (G.2 0, 4, .inl (fun _ => 0)))]
def FB (G : tG) (r0 r1 r2 : Nat → Nat) (k : Nat) : va_W := (List.range k).flatMap (FBc G r0 r1 r2)
def upn (r : Nat → Nat) (k q : Nat) : Nat → Nat := fun j => if j = k then q else r j
theorem FB_len {G : tG} {r0 r1 r2 : Nat → Nat} : ∀ k : Nat, (FB G r0 r1 r2 k).length = 3 * k
  | 0 => rfl
  | k + 1 => by
    have ih := FB_len (G := G) (r0 := r0) (r1 := r1) (r2 := r2) k
    unfold FB at ih ⊢
    rw [List.range_succ, List.flatMap_append, List.length_append, ih]
    simp [FBc]
    omega
theorem FB_succ {G : tG} {r0 r1 r2 : Nat → Nat} {k q p1 p2 : Nat} : FB G (upn r0 k q) (upn r1 k p1) (upn r2 k p2) (k + 1) = FB G r0 r1 r2 k ++ [(q, .inr (1, fibF k p1 p2)), (p1, .inl (G.2 0, 4, .inl (fun _ => 0))), (p2, .inl (G.2 0, 4, .inl (fun _ => 0)))] := by
  unfold FB
  rw [List.range_succ, List.flatMap_append]
  congr 1
  · have key : ∀ (l : List Nat), (∀ i ∈ l, i ≠ k) → l.flatMap (FBc G (upn r0 k q) (upn r1 k p1) (upn r2 k p2)) = l.flatMap (FBc G r0 r1 r2) := by
      intro l
      induction l with
      | nil => intro _; rfl
      | cons a l ih =>
        intro h
        have ha : a ≠ k := h a List.mem_cons_self
        rw [List.flatMap_cons, List.flatMap_cons, ih (fun i hi => h i (List.mem_cons_of_mem _ hi))]
        congr 1
        simp [FBc, upn, ha]
    exact key _ (fun i hi => by have := List.mem_range.mp hi; omega)
  · simp [FBc, upn]
theorem at_mid {α : Type} {x y c : α} {L M N : List α} : (x :: y :: (L ++ (M ++ (c :: N))))[2 + (L.length + M.length)]? = some c := by
  rw [show 2 + (L.length + M.length) = (L.length + M.length) + 1 + 1 by omega, List.getElem?_cons_succ, List.getElem?_cons_succ, ← List.append_assoc, List.getElem?_append_right (by simp)]
  simp
def runF (qP qf ql qb qr : Nat) : List Value := [.ref qP, .ref qf, .ref ql, .ref qb, .ref qr, .int 0, .int 0, .int 0, .int 1, .int 0, .int 0, .int 0, .int 0]
def lineW (G : tG) (ql q1 : Nat) : va_W := [(ql, .inr (2, [.ref q1, .int 0])), (q1, .inl (G.2 2, 24, .inr (.inr (.inr (.inr (fun _ => none))))))]
def boxW (G : tG) (qb q1 q2 : Nat) : va_W := [(qb, .inr (0, [.ref q1, .ref q2])), (q1, .inl (G.2 1, 8, .inl (fun _ => 0))), (q2, .inl (G.2 0, 8, .inl (fun _ => 0)))]
def rowW (G : tG) (qr q1 q2 : Nat) : va_W := [(qr, .inr (4, [.ref q1, .ref q2, .int 0])), (q1, .inl (G.2 0, 100, .inl (fun _ => 0))), (q2, .inl (G.2 0, 100, .inl (fun _ => 0)))]
def frW (G : tG) (qf : Nat) (f : Nat → Option Nat) : Nat × va_E := (qf, .inl (G.2 2, 24, .inr (.inr (.inr (.inr f)))))
def partW (G : tG) (ql l1 qb b1 b2 qr w1 w2 : Nat) : va_W := lineW G ql l1 ++ (boxW G qb b1 b2 ++ rowW G qr w1 w2)
def runW (G : tG) (h0 qP qf ql l1 qb b1 b2 qr w1 w2 : Nat) (r0 r1 r2 : Nat → Nat) : va_W := (h0, .inr (5, runF qP qf ql qb qr)) :: frW G qf (fun j => some (r0 j)) :: (partW G ql l1 qb b1 b2 qr w1 w2 ++ FB G r0 r1 r2 24)
theorem qX5_9 : NQ RX5 9 1 15 RX1 [.int 0, .null, .null, .int 0, .int 0, .int 0, .int 0, .int 0, .int 0, .int 0, .int 0, .int 0, .int 0, .int 0, .int 0] := ⟨TX1, tyX1, rfl, inX1, tyX1_ok, by decide +kernel, by decide +kernel, by decide +kernel, by decide⟩
theorem qX5_17 : NQ RX5 17 2 2 RX2 [.null, .int 0] := ⟨TX2, tyX2, rfl, inX2, tyX2_ok, by decide +kernel, by decide +kernel, by decide +kernel, by decide⟩
theorem qX5_24 : NQ RX5 24 0 2 RX0 [.null, .null] := ⟨TX0, tyX0, rfl, inX0, tyX0_ok, by decide +kernel, by decide +kernel, by decide +kernel, by decide⟩
theorem qX5_31 : NQ RX5 31 4 3 RX4 [.null, .null, .int 0] := ⟨TX4, tyX4, rfl, inX4, tyX4_ok, by decide +kernel, by decide +kernel, by decide +kernel, by decide⟩
theorem qX6_7 : NQ RX6 7 3 4 RX3 [.null, .null, .null, .int 0] := ⟨TX3, tyX3, rfl, inX3, tyX3_ok, by decide +kernel, by decide +kernel, by decide +kernel, by decide⟩
theorem qX6_16 : NQ RX6 16 5 13 RX5 [.null, .null, .null, .null, .null, .int 0, .int 0, .int 0, .int 0, .int 0, .int 0, .int 0, .int 0] := ⟨TX5, tyX5, rfl, inX5, tyX5_ok, by decide +kernel, by decide +kernel, by decide +kernel, by decide⟩
theorem sX5_68 : IQn RX5 68 yX1_init 1 := ⟨Or.inl (by decide +kernel), by decide +kernel, by decide +kernel, rfl, by decide, by decide, by decide +kernel⟩
theorem sX5_19 : IQn RX5 19 yX2_init 0 := ⟨Or.inr ⟨"TurnThreads", by decide +kernel⟩, by decide +kernel, by decide +kernel, rfl, by decide, by decide, by decide +kernel⟩
theorem sX5_26 : IQn RX5 26 yX0_init 0 := ⟨Or.inr ⟨"TurnThreads", by decide +kernel⟩, by decide +kernel, by decide +kernel, rfl, by decide, by decide, by decide +kernel⟩
theorem sX5_33 : IQn RX5 33 yX4_init 0 := ⟨Or.inr ⟨"TurnThreads", by decide +kernel⟩, by decide +kernel, by decide +kernel, rfl, by decide, by decide, by decide +kernel⟩
theorem sX6_9 : IQn RX6 9 yX3_init 0 := ⟨Or.inr ⟨"TurnThreads", by decide +kernel⟩, by decide +kernel, by decide +kernel, rfl, by decide, by decide, by decide +kernel⟩
theorem sX6_18 : IQn RX6 18 yX5_init 1 := ⟨Or.inl (by decide +kernel), by decide +kernel, by decide +kernel, rfl, by decide, by decide, by decide +kernel⟩
def runQ (G : tG) (h0 qP : Nat) (w : va_W) : Prop := ∃ qf ql l1 qb b1 b2 qr w1 w2 r0 r1 r2, w = runW G h0 qP qf ql l1 qb b1 b2 qr w1 w2 r0 r1 r2
set_option maxHeartbeats 4000000 in
set_option maxRecDepth 100000 in
theorem l_X5_init (G : tG) (h0 qP qf ql l1 qb b1 b2 qr w1 w2 : Nat) : ∀ (m k : Nat) (r0 r1 r2 : Nat → Nat) (f : Nat → Option Nat), 24 = k + m → (∀ j, j < k → f j = some (r0 j)) → Vn G RX5 cX5_init 3 2 81 823 (runQ G h0 qP) 93 [(2, .int (nI k)), (0, .ref h0), (1, .ref qP)] [] ((h0, .inr (5, runF qP qf ql qb qr)) :: frW G qf f :: (partW G ql l1 qb b1 b2 qr w1 w2 ++ FB G r0 r1 r2 k)) (9 + 3 * k) (271 + 23 * k) := by
  intro m
  induction m with
  | zero =>
    intro k r0 r1 r2 f hk hf
    have e : k = 24 := by omega
    subst e
    refine n_iload 0 dX5_init_93 rfl ?_
    refine n_bipush 24 dX5_init_94 (by decide) ?_
    refine n_icmp_ge 119 dX5_init_96 (by decide) (fun _ => ?_) (fun z => absurd (Int32.le_refl _) z)
    refine n_refs (X := [(h0, .inr (5, runF qP qf ql qb qr))]) (fun j => some (r0 j)) hf ?_
    exact n_ret dX5_init_119 (by decide) (by decide) ⟨qf, ql, l1, qb, b1, b2, qr, w1, w2, r0, r1, r2, rfl⟩
  | succ m ih =>
    intro k r0 r1 r2 f hk hf
    refine n_iload 0 dX5_init_93 rfl ?_
    refine n_bipush 24 dX5_init_94 (by decide) ?_
    refine n_icmp_ge 119 dX5_init_96 (by decide) (fun z => absurd z (nI_ge (b := 24) (by omega) (by omega))) (fun _ => ?_)
    refine n_aload 1 dX5_init_99 rfl ?_
    refine n_get pX5_11 rfl dX5_init_100 ?_
    refine n_iload 0 dX5_init_103 rfl ?_
    refine n_new qX5_9 dX5_init_104 (by omega) (by omega) (fun q => ?_)
    refine n_dup dX5_init_107 rfl ?_
    refine n_iload 0 dX5_init_108 rfl ?_
    refine n_call (As := [.int (nI k)]) sX5_68 kX1_init (i_X1 G q (nI k)) dX5_init_109 rfl (by decide) (by decide) (Nat.le_of_ble_eq_true rfl) (by omega) (by omega) (fun w1' hw => ?_)
    obtain ⟨p1, p2, rfl⟩ := hw
    refine n_w ((h0, .inr (5, runF qP qf ql qb qr)) :: frW G qf f :: (partW G ql l1 qb b1 b2 qr w1 w2 ++ (FB G r0 r1 r2 k ++ [(q, .inr (1, fibF k p1 p2)), (p1, .inl (G.2 0, 4, .inl (fun _ => 0))), (p2, .inl (G.2 0, 4, .inl (fun _ => 0)))]))) (by simp [fibF, List.append_assoc]) ?_
    refine n_ast (n := 0) _ at_mid dX5_init_112 (by omega) (by decide) ?_
    refine n_iinc (i := 0) [(2, .int (nI (k + 1))), (0, .ref h0), (1, .ref qP)] dX5_init_113 rfl (inc1 k) (by decide) rfl ?_
    refine n_goto 93 dX5_init_116 (by decide) ?_
    rw [← FB_succ]
    refine n_cs (9 + 3 * (k + 1)) (271 + 23 * (k + 1)) (by omega) (by omega) ?_
    refine ih (k + 1) _ _ _ _ (by omega) (fun j hj => ?_)
    by_cases e : j = k
    · subst e; simp [va_up, upn]
    · simp [va_up, upn, e]
      exact hf j (by omega)
set_option maxHeartbeats 4000000 in
set_option maxRecDepth 100000 in
theorem i_X5 (G : tG) (h0 qP : Nat) : Kt yX5_init cX5_init 3 2 81 823 G [.ref h0, .ref qP] [(h0, .inr (5, [.null, .null, .null, .null, .null, .int 0, .int 0, .int 0, .int 0, .int 0, .int 0, .int 0, .int 0]))] (runQ G h0 qP) := by
  refine Kt.of (by decide) rfl (Nat.le_of_ble_eq_true rfl) ?_
  refine n_aload 0 dX5_init_0 rfl ?_
  refine n_obj (by decide +kernel) dX5_init_1 (by decide) ?_
  refine n_aload 0 dX5_init_4 rfl ?_
  refine n_bipush 24 dX5_init_5 (by decide) ?_
  refine n_newF dX5_init_7 (N := 24) (by decide +kernel) (by decide) (by decide) (by decide) (by decide) (fun qf => ?_)
  refine n_w [(h0, .inr (5, [.null, .null, .null, .null, .null, .int 0, .int 0, .int 0, .int 0, .int 0, .int 0, .int 0, .int 0])), frW G qf (fun _ => none)] rfl ?_
  refine n_put pX5_11 rfl rfl rfl dX5_init_10 ?_
  refine n_w [(h0, .inr (5, [.null, .ref qf, .null, .null, .null, .int 0, .int 0, .int 0, .int 0, .int 0, .int 0, .int 0, .int 0])), frW G qf (fun _ => none)] rfl ?_
  refine n_aload 0 dX5_init_13 rfl ?_
  refine n_new qX5_17 dX5_init_14 (by decide) (by decide) (fun ql => ?_)
  refine n_dup dX5_init_17 rfl ?_
  refine n_call (As := []) sX5_19 kX2_init (i_X2 G ql) dX5_init_18 rfl (by decide) (by decide) (Nat.le_of_ble_eq_true rfl) (by decide) (by decide) (fun w1' hw => ?_)
  obtain ⟨l1, rfl⟩ := hw
  refine n_w ((h0, .inr (5, [.null, .ref qf, .null, .null, .null, .int 0, .int 0, .int 0, .int 0, .int 0, .int 0, .int 0, .int 0])) :: frW G qf (fun _ => none) :: lineW G ql l1) rfl ?_
  refine n_put pX5_20 rfl rfl rfl dX5_init_21 ?_
  refine n_w ((h0, .inr (5, [.null, .ref qf, .ref ql, .null, .null, .int 0, .int 0, .int 0, .int 0, .int 0, .int 0, .int 0, .int 0])) :: frW G qf (fun _ => none) :: lineW G ql l1) rfl ?_
  refine n_aload 0 dX5_init_24 rfl ?_
  refine n_new qX5_24 dX5_init_25 (by decide) (by decide) (fun qb => ?_)
  refine n_dup dX5_init_28 rfl ?_
  refine n_call (As := []) sX5_26 kX0_init (i_X0 G qb) dX5_init_29 rfl (by decide) (by decide) (Nat.le_of_ble_eq_true rfl) (by decide) (by decide) (fun w1' hw => ?_)
  obtain ⟨b1, b2, rfl⟩ := hw
  refine n_w ((h0, .inr (5, [.null, .ref qf, .ref ql, .null, .null, .int 0, .int 0, .int 0, .int 0, .int 0, .int 0, .int 0, .int 0])) :: frW G qf (fun _ => none) :: (lineW G ql l1 ++ boxW G qb b1 b2)) rfl ?_
  refine n_put pX5_27 rfl rfl rfl dX5_init_32 ?_
  refine n_w ((h0, .inr (5, [.null, .ref qf, .ref ql, .ref qb, .null, .int 0, .int 0, .int 0, .int 0, .int 0, .int 0, .int 0, .int 0])) :: frW G qf (fun _ => none) :: (lineW G ql l1 ++ boxW G qb b1 b2)) rfl ?_
  refine n_aload 0 dX5_init_35 rfl ?_
  refine n_new qX5_31 dX5_init_36 (by decide) (by decide) (fun qr => ?_)
  refine n_dup dX5_init_39 rfl ?_
  refine n_call (As := []) sX5_33 kX4_init (i_X4 G qr) dX5_init_40 rfl (by decide) (by decide) (Nat.le_of_ble_eq_true rfl) (by decide) (by decide) (fun w1' hw => ?_)
  obtain ⟨w1, w2, rfl⟩ := hw
  refine n_w ((h0, .inr (5, [.null, .ref qf, .ref ql, .ref qb, .null, .int 0, .int 0, .int 0, .int 0, .int 0, .int 0, .int 0, .int 0])) :: frW G qf (fun _ => none) :: partW G ql l1 qb b1 b2 qr w1 w2) rfl ?_
  refine n_put pX5_34 rfl rfl rfl dX5_init_43 ?_
  refine n_w ((h0, .inr (5, [.null, .ref qf, .ref ql, .ref qb, .ref qr, .int 0, .int 0, .int 0, .int 0, .int 0, .int 0, .int 0, .int 0])) :: frW G qf (fun _ => none) :: partW G ql l1 qb b1 b2 qr w1 w2) rfl ?_
  refine n_aload 0 dX5_init_46 rfl ?_
  refine n_iconst 0 dX5_init_47 (by decide) ?_
  refine n_put pX5_38 rfl rfl rfl dX5_init_48 ?_
  refine n_w ((h0, .inr (5, [.null, .ref qf, .ref ql, .ref qb, .ref qr, .int 0, .int 0, .int 0, .int 0, .int 0, .int 0, .int 0, .int 0])) :: frW G qf (fun _ => none) :: partW G ql l1 qb b1 b2 qr w1 w2) rfl ?_
  refine n_aload 0 dX5_init_51 rfl ?_
  refine n_iconst 0 dX5_init_52 (by decide) ?_
  refine n_put pX5_42 rfl (nar_z (Or.inl rfl)).1 (nar_z (Or.inl rfl)).2.1 dX5_init_53 ?_
  refine n_w ((h0, .inr (5, [.null, .ref qf, .ref ql, .ref qb, .ref qr, .int 0, .int 0, .int 0, .int 0, .int 0, .int 0, .int 0, .int 0])) :: frW G qf (fun _ => none) :: partW G ql l1 qb b1 b2 qr w1 w2) rfl ?_
  refine n_aload 0 dX5_init_56 rfl ?_
  refine n_iconst 0 dX5_init_57 (by decide) ?_
  refine n_put pX5_46 rfl (nar_z (Or.inl rfl)).1 (nar_z (Or.inl rfl)).2.1 dX5_init_58 ?_
  refine n_w ((h0, .inr (5, [.null, .ref qf, .ref ql, .ref qb, .ref qr, .int 0, .int 0, .int 0, .int 0, .int 0, .int 0, .int 0, .int 0])) :: frW G qf (fun _ => none) :: partW G ql l1 qb b1 b2 qr w1 w2) rfl ?_
  refine n_aload 0 dX5_init_61 rfl ?_
  refine n_iconst 1 dX5_init_62 (by decide) ?_
  refine n_put pX5_49 rfl rfl rfl dX5_init_63 ?_
  refine n_w ((h0, .inr (5, [.null, .ref qf, .ref ql, .ref qb, .ref qr, .int 0, .int 0, .int 0, .int 1, .int 0, .int 0, .int 0, .int 0])) :: frW G qf (fun _ => none) :: partW G ql l1 qb b1 b2 qr w1 w2) rfl ?_
  refine n_aload 0 dX5_init_66 rfl ?_
  refine n_iconst 0 dX5_init_67 (by decide) ?_
  refine n_put pX5_52 rfl rfl rfl dX5_init_68 ?_
  refine n_w ((h0, .inr (5, [.null, .ref qf, .ref ql, .ref qb, .ref qr, .int 0, .int 0, .int 0, .int 1, .int 0, .int 0, .int 0, .int 0])) :: frW G qf (fun _ => none) :: partW G ql l1 qb b1 b2 qr w1 w2) rfl ?_
  refine n_aload 0 dX5_init_71 rfl ?_
  refine n_iconst 0 dX5_init_72 (by decide) ?_
  refine n_put pX5_55 rfl rfl rfl dX5_init_73 ?_
  refine n_w ((h0, .inr (5, [.null, .ref qf, .ref ql, .ref qb, .ref qr, .int 0, .int 0, .int 0, .int 1, .int 0, .int 0, .int 0, .int 0])) :: frW G qf (fun _ => none) :: partW G ql l1 qb b1 b2 qr w1 w2) rfl ?_
  refine n_aload 0 dX5_init_76 rfl ?_
  refine n_iconst 0 dX5_init_77 (by decide) ?_
  refine n_put pX5_58 rfl rfl rfl dX5_init_78 ?_
  refine n_w ((h0, .inr (5, [.null, .ref qf, .ref ql, .ref qb, .ref qr, .int 0, .int 0, .int 0, .int 1, .int 0, .int 0, .int 0, .int 0])) :: frW G qf (fun _ => none) :: partW G ql l1 qb b1 b2 qr w1 w2) rfl ?_
  refine n_aload 0 dX5_init_81 rfl ?_
  refine n_iconst 0 dX5_init_82 (by decide) ?_
  refine n_put pX5_61 rfl rfl rfl dX5_init_83 ?_
  refine n_w ((h0, .inr (5, [.null, .ref qf, .ref ql, .ref qb, .ref qr, .int 0, .int 0, .int 0, .int 1, .int 0, .int 0, .int 0, .int 0])) :: frW G qf (fun _ => none) :: partW G ql l1 qb b1 b2 qr w1 w2) rfl ?_
  refine n_aload 0 dX5_init_86 rfl ?_
  refine n_aload 1 dX5_init_87 rfl ?_
  refine n_put pX5_64 rfl rfl rfl dX5_init_88 ?_
  refine n_w ((h0, .inr (5, runF qP qf ql qb qr)) :: frW G qf (fun _ => none) :: (partW G ql l1 qb b1 b2 qr w1 w2 ++ FB G (fun _ => 0) (fun _ => 0) (fun _ => 0) 0)) rfl ?_
  refine n_iconst 0 dX5_init_91 (by decide) ?_
  refine n_istore [(2, .int (nI 0)), (0, .ref h0), (1, .ref qP)] dX5_init_92 (by decide) rfl ?_
  exact n_cs (9 + 3 * 0) (271 + 23 * 0) rfl rfl (l_X5_init G h0 qP qf ql l1 qb b1 b2 qr w1 w2 24 0 _ _ _ _ rfl (fun j hj => absurd hj (Nat.not_lt_zero j)))
def ttW (G : tG) (h0 qR qP q1 qk qo : Nat) (rk ro : Nat → Nat) (w : va_W) : va_W := (h0, .inr (6, [.ref qP, .ref qR])) :: (prW G qP q1 qk qo rk ro ++ w)
set_option maxHeartbeats 4000000 in
set_option maxRecDepth 100000 in
theorem i_X6 (G : tG) (h0 : Nat) : Kt yX6_init cX6_init 1 3 110 1356 G [.ref h0] [(h0, .inr (6, [.null, .null]))] (fun w => ∃ qR qP q1 qk qo rk ro w', runQ G qR qP w' ∧ w = ttW G h0 qR qP q1 qk qo rk ro w') := by
  refine Kt.of (by decide) rfl (Nat.le_of_ble_eq_true rfl) ?_
  refine n_aload 0 dX6_init_0 rfl ?_
  refine n_obj (by decide +kernel) dX6_init_1 (by decide) ?_
  refine n_aload 0 dX6_init_4 rfl ?_
  refine n_new qX6_7 dX6_init_5 (by decide) (by decide) (fun qP => ?_)
  refine n_dup dX6_init_8 rfl ?_
  refine n_call (As := []) sX6_9 kX3_init (i_X3 G qP) dX6_init_9 rfl (by decide) (by decide) (Nat.le_of_ble_eq_true rfl) (by decide) (by decide) (fun w1' hw => ?_)
  obtain ⟨q1, qk, qo, rk, ro, rfl⟩ := hw
  refine n_w ((h0, .inr (6, [.null, .null])) :: prW G qP q1 qk qo rk ro) rfl ?_
  refine n_put pX6_10 rfl rfl rfl dX6_init_12 ?_
  refine n_w ((h0, .inr (6, [.ref qP, .null])) :: prW G qP q1 qk qo rk ro) rfl ?_
  refine n_aload 0 dX6_init_15 rfl ?_
  refine n_new qX6_16 dX6_init_16 (by decide) (by decide) (fun qR => ?_)
  refine n_dup dX6_init_19 rfl ?_
  refine n_aload 0 dX6_init_20 rfl ?_
  refine n_get pX6_10 rfl dX6_init_21 ?_
  refine n_call (As := [.ref qP]) (w := (h0, .inr (6, [.ref qP, .null])) :: prW G qP q1 qk qo rk ro) sX6_18 kX5_init (i_X5 G qR qP) dX6_init_24 rfl (by decide) (by decide) (Nat.le_of_ble_eq_true rfl) (by decide) (by decide) (fun w1' hw => ?_)
  refine n_w ((h0, .inr (6, [.ref qP, .null])) :: (prW G qP q1 qk qo rk ro ++ w1')) rfl ?_
  refine n_put pX6_21 rfl rfl rfl dX6_init_27 ?_
  exact n_ret dX6_init_30 (by decide) (by decide) ⟨qR, qP, q1, qk, qo, rk, ro, w1', hw, rfl⟩

