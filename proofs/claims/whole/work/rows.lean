section
-- ===== PART A: goes FIRST, ahead of the names: the tables' words, and 'selects' of the private methods out of them =====
/-- a private method of a class that the tables say can be made, by its rows of tables_1 -/
def lw_okq (q : MethodName × Nat) : Prop := (q.1.cls ≠ "java/lang/invoke/MethodHandle" ∧ q.1.cls ≠ "java/lang/invoke/VarHandle") ∧ Cond.instantiable q.1.cls q.2 ∈ tables_1 ∧ Cond.privateMethod q.1 ∈ tables_1 ∧ Cond.instanceMethod q.1 ∈ tables_1
theorem lw_p0 : lw_okq (⟨"TurnThreads$Run", "startFiber", "(II)I"⟩, 13) := ⟨⟨by decide +kernel, by decide +kernel⟩, List.mem_of_getElem? (i := 44) (by decide +kernel), List.mem_of_getElem? (i := 269) (by decide +kernel), List.mem_of_getElem? (i := 270) (by decide +kernel)⟩
theorem lw_p1 : lw_okq (⟨"TurnThreads$Run", "firstWaiting", "(II)LTurnThreads$Fiber;"⟩, 13) := ⟨⟨by decide +kernel, by decide +kernel⟩, List.mem_of_getElem? (i := 44) (by decide +kernel), List.mem_of_getElem? (i := 295) (by decide +kernel), List.mem_of_getElem? (i := 296) (by decide +kernel)⟩
theorem lw_p2 : lw_okq (⟨"TurnThreads$Run", "makeReady", "(LTurnThreads$Fiber;)V"⟩, 13) := ⟨⟨by decide +kernel, by decide +kernel⟩, List.mem_of_getElem? (i := 44) (by decide +kernel), List.mem_of_getElem? (i := 303) (by decide +kernel), List.mem_of_getElem? (i := 304) (by decide +kernel)⟩
theorem lw_p3 : lw_okq (⟨"TurnThreads$Run", "nextToRun", "()LTurnThreads$Fiber;"⟩, 13) := ⟨⟨by decide +kernel, by decide +kernel⟩, List.mem_of_getElem? (i := 44) (by decide +kernel), List.mem_of_getElem? (i := 319) (by decide +kernel), List.mem_of_getElem? (i := 320) (by decide +kernel)⟩
theorem lw_p4 : lw_okq (⟨"TurnThreads$Run", "wakeDelayed", "()V"⟩, 13) := ⟨⟨by decide +kernel, by decide +kernel⟩, List.mem_of_getElem? (i := 44) (by decide +kernel), List.mem_of_getElem? (i := 323) (by decide +kernel), List.mem_of_getElem? (i := 324) (by decide +kernel)⟩
theorem lw_p5 : lw_okq (⟨"TurnThreads$Run", "firstDelayed", "()LTurnThreads$Fiber;"⟩, 13) := ⟨⟨by decide +kernel, by decide +kernel⟩, List.mem_of_getElem? (i := 44) (by decide +kernel), List.mem_of_getElem? (i := 327) (by decide +kernel), List.mem_of_getElem? (i := 328) (by decide +kernel)⟩
theorem lw_p6 : lw_okq (⟨"TurnThreads$Run", "endIdleness", "()V"⟩, 13) := ⟨⟨by decide +kernel, by decide +kernel⟩, List.mem_of_getElem? (i := 44) (by decide +kernel), List.mem_of_getElem? (i := 335) (by decide +kernel), List.mem_of_getElem? (i := 336) (by decide +kernel)⟩
theorem lw_p7 : lw_okq (⟨"TurnThreads$Run", "rescueWaiting", "()V"⟩, 13) := ⟨⟨by decide +kernel, by decide +kernel⟩, List.mem_of_getElem? (i := 44) (by decide +kernel), List.mem_of_getElem? (i := 339) (by decide +kernel), List.mem_of_getElem? (i := 340) (by decide +kernel)⟩
theorem lw_p8 : lw_okq (⟨"TurnThreads$Run", "raise", "(LTurnThreads$Fiber;I)V"⟩, 13) := ⟨⟨by decide +kernel, by decide +kernel⟩, List.mem_of_getElem? (i := 44) (by decide +kernel), List.mem_of_getElem? (i := 347) (by decide +kernel), List.mem_of_getElem? (i := 348) (by decide +kernel)⟩
theorem lw_p9 : lw_okq (⟨"TurnThreads$Run", "closeIfOver", "()V"⟩, 13) := ⟨⟨by decide +kernel, by decide +kernel⟩, List.mem_of_getElem? (i := 44) (by decide +kernel), List.mem_of_getElem? (i := 363) (by decide +kernel), List.mem_of_getElem? (i := 364) (by decide +kernel)⟩
theorem lw_p10 : lw_okq (⟨"TurnThreads$Programs", "hasAct", "(II)Z"⟩, 4) := ⟨⟨by decide +kernel, by decide +kernel⟩, List.mem_of_getElem? (i := 22) (by decide +kernel), List.mem_of_getElem? (i := 384) (by decide +kernel), List.mem_of_getElem? (i := 385) (by decide +kernel)⟩
theorem lw_p11 : lw_okq (⟨"TurnThreads$Run", "doAct", "(LTurnThreads$Fiber;II)V"⟩, 13) := ⟨⟨by decide +kernel, by decide +kernel⟩, List.mem_of_getElem? (i := 44) (by decide +kernel), List.mem_of_getElem? (i := 392) (by decide +kernel), List.mem_of_getElem? (i := 393) (by decide +kernel)⟩
theorem lw_p12 : lw_okq (⟨"TurnThreads$Run", "stateAfter", "(II)I"⟩, 13) := ⟨⟨by decide +kernel, by decide +kernel⟩, List.mem_of_getElem? (i := 44) (by decide +kernel), List.mem_of_getElem? (i := 396) (by decide +kernel), List.mem_of_getElem? (i := 397) (by decide +kernel)⟩
theorem lw_p13 : lw_okq (⟨"TurnThreads$Run", "perform", "(LTurnThreads$Fiber;II)V"⟩, 13) := ⟨⟨by decide +kernel, by decide +kernel⟩, List.mem_of_getElem? (i := 44) (by decide +kernel), List.mem_of_getElem? (i := 401) (by decide +kernel), List.mem_of_getElem? (i := 402) (by decide +kernel)⟩
theorem lw_p14 : lw_okq (⟨"TurnThreads$Run", "takeFrom", "(ILTurnThreads$Fiber;)V"⟩, 13) := ⟨⟨by decide +kernel, by decide +kernel⟩, List.mem_of_getElem? (i := 44) (by decide +kernel), List.mem_of_getElem? (i := 406) (by decide +kernel), List.mem_of_getElem? (i := 407) (by decide +kernel)⟩
theorem lw_p15 : lw_okq (⟨"TurnThreads$Run", "throwTo", "(LTurnThreads$Fiber;LTurnThreads$Fiber;I)V"⟩, 13) := ⟨⟨by decide +kernel, by decide +kernel⟩, List.mem_of_getElem? (i := 44) (by decide +kernel), List.mem_of_getElem? (i := 422) (by decide +kernel), List.mem_of_getElem? (i := 423) (by decide +kernel)⟩
def lw_privs_1 : List (MethodName × Nat) := [(⟨"TurnThreads$Run", "startFiber", "(II)I"⟩, 13), (⟨"TurnThreads$Run", "firstWaiting", "(II)LTurnThreads$Fiber;"⟩, 13), (⟨"TurnThreads$Run", "makeReady", "(LTurnThreads$Fiber;)V"⟩, 13), (⟨"TurnThreads$Run", "nextToRun", "()LTurnThreads$Fiber;"⟩, 13), (⟨"TurnThreads$Run", "wakeDelayed", "()V"⟩, 13), (⟨"TurnThreads$Run", "firstDelayed", "()LTurnThreads$Fiber;"⟩, 13), (⟨"TurnThreads$Run", "endIdleness", "()V"⟩, 13), (⟨"TurnThreads$Run", "rescueWaiting", "()V"⟩, 13), (⟨"TurnThreads$Run", "raise", "(LTurnThreads$Fiber;I)V"⟩, 13), (⟨"TurnThreads$Run", "closeIfOver", "()V"⟩, 13), (⟨"TurnThreads$Programs", "hasAct", "(II)Z"⟩, 4), (⟨"TurnThreads$Run", "doAct", "(LTurnThreads$Fiber;II)V"⟩, 13), (⟨"TurnThreads$Run", "stateAfter", "(II)I"⟩, 13), (⟨"TurnThreads$Run", "perform", "(LTurnThreads$Fiber;II)V"⟩, 13), (⟨"TurnThreads$Run", "takeFrom", "(ILTurnThreads$Fiber;)V"⟩, 13), (⟨"TurnThreads$Run", "throwTo", "(LTurnThreads$Fiber;LTurnThreads$Fiber;I)V"⟩, 13)]
theorem lw_r1 : ∀ q ∈ lw_privs_1, lw_okq q := List.forall_mem_cons.mpr ⟨lw_p0, List.forall_mem_cons.mpr ⟨lw_p1, List.forall_mem_cons.mpr ⟨lw_p2, List.forall_mem_cons.mpr ⟨lw_p3, List.forall_mem_cons.mpr ⟨lw_p4, List.forall_mem_cons.mpr ⟨lw_p5, List.forall_mem_cons.mpr ⟨lw_p6, List.forall_mem_cons.mpr ⟨lw_p7, List.forall_mem_cons.mpr ⟨lw_p8, List.forall_mem_cons.mpr ⟨lw_p9, List.forall_mem_cons.mpr ⟨lw_p10, List.forall_mem_cons.mpr ⟨lw_p11, List.forall_mem_cons.mpr ⟨lw_p12, List.forall_mem_cons.mpr ⟨lw_p13, List.forall_mem_cons.mpr ⟨lw_p14, List.forall_mem_cons.mpr ⟨lw_p15, fun _ h => absurd h List.not_mem_nil⟩⟩⟩⟩⟩⟩⟩⟩⟩⟩⟩⟩⟩⟩⟩⟩
theorem lw_p16 : lw_okq (⟨"TurnThreads$Run", "mask", "(LTurnThreads$Fiber;Z)V"⟩, 13) := ⟨⟨by decide +kernel, by decide +kernel⟩, List.mem_of_getElem? (i := 44) (by decide +kernel), List.mem_of_getElem? (i := 438) (by decide +kernel), List.mem_of_getElem? (i := 439) (by decide +kernel)⟩
theorem lw_p17 : lw_okq (⟨"TurnThreads$Run", "pause", "(LTurnThreads$Fiber;II)V"⟩, 13) := ⟨⟨by decide +kernel, by decide +kernel⟩, List.mem_of_getElem? (i := 44) (by decide +kernel), List.mem_of_getElem? (i := 446) (by decide +kernel), List.mem_of_getElem? (i := 447) (by decide +kernel)⟩
theorem lw_p18 : lw_okq (⟨"TurnThreads$Fiber", "actToCome", "()I"⟩, 15) := ⟨⟨by decide +kernel, by decide +kernel⟩, List.mem_of_getElem? (i := 95) (by decide +kernel), List.mem_of_getElem? (i := 464) (by decide +kernel), List.mem_of_getElem? (i := 465) (by decide +kernel)⟩
theorem lw_p19 : lw_okq (⟨"java/lang/Throwable", "fillInStackTrace", "(I)Ljava/lang/Throwable;"⟩, 6) := ⟨⟨by decide +kernel, by decide +kernel⟩, List.mem_of_getElem? (i := 544) (by decide +kernel), List.mem_of_getElem? (i := 542) (by decide +kernel), List.mem_of_getElem? (i := 543) (by decide +kernel)⟩
theorem lw_p20 : lw_okq (⟨"TurnThreadsModel", "newThread", "(II)I"⟩, 35) := ⟨⟨by decide +kernel, by decide +kernel⟩, List.mem_of_getElem? (i := 574) (by decide +kernel), List.mem_of_getElem? (i := 708) (by decide +kernel), List.mem_of_getElem? (i := 709) (by decide +kernel)⟩
theorem lw_p21 : lw_okq (⟨"TurnThreadsModel", "enqueue", "(I)V"⟩, 35) := ⟨⟨by decide +kernel, by decide +kernel⟩, List.mem_of_getElem? (i := 574) (by decide +kernel), List.mem_of_getElem? (i := 712) (by decide +kernel), List.mem_of_getElem? (i := 713) (by decide +kernel)⟩
theorem lw_p22 : lw_okq (⟨"TurnThreadsModel", "comesIn", "(II)V"⟩, 35) := ⟨⟨by decide +kernel, by decide +kernel⟩, List.mem_of_getElem? (i := 574) (by decide +kernel), List.mem_of_getElem? (i := 720) (by decide +kernel), List.mem_of_getElem? (i := 721) (by decide +kernel)⟩
theorem lw_p23 : lw_okq (⟨"TurnThreadsModel", "firstAt", "(II)I"⟩, 35) := ⟨⟨by decide +kernel, by decide +kernel⟩, List.mem_of_getElem? (i := 574) (by decide +kernel), List.mem_of_getElem? (i := 724) (by decide +kernel), List.mem_of_getElem? (i := 725) (by decide +kernel)⟩
theorem lw_p24 : lw_okq (⟨"TurnThreadsModel", "goesOn", "(I)V"⟩, 35) := ⟨⟨by decide +kernel, by decide +kernel⟩, List.mem_of_getElem? (i := 574) (by decide +kernel), List.mem_of_getElem? (i := 728) (by decide +kernel), List.mem_of_getElem? (i := 729) (by decide +kernel)⟩
theorem lw_p25 : lw_okq (⟨"TurnThreadsModel", "isTurn", "()Z"⟩, 35) := ⟨⟨by decide +kernel, by decide +kernel⟩, List.mem_of_getElem? (i := 574) (by decide +kernel), List.mem_of_getElem? (i := 736) (by decide +kernel), List.mem_of_getElem? (i := 737) (by decide +kernel)⟩
theorem lw_p26 : lw_okq (⟨"TurnThreadsModel", "findReady", "()V"⟩, 35) := ⟨⟨by decide +kernel, by decide +kernel⟩, List.mem_of_getElem? (i := 574) (by decide +kernel), List.mem_of_getElem? (i := 740) (by decide +kernel), List.mem_of_getElem? (i := 741) (by decide +kernel)⟩
theorem lw_p27 : lw_okq (⟨"TurnThreadsModel", "wake", "()V"⟩, 35) := ⟨⟨by decide +kernel, by decide +kernel⟩, List.mem_of_getElem? (i := 574) (by decide +kernel), List.mem_of_getElem? (i := 744) (by decide +kernel), List.mem_of_getElem? (i := 745) (by decide +kernel)⟩
theorem lw_p28 : lw_okq (⟨"TurnThreadsModel", "except", "(II)V"⟩, 35) := ⟨⟨by decide +kernel, by decide +kernel⟩, List.mem_of_getElem? (i := 574) (by decide +kernel), List.mem_of_getElem? (i := 748) (by decide +kernel), List.mem_of_getElem? (i := 749) (by decide +kernel)⟩
theorem lw_p29 : lw_okq (⟨"TurnThreadsModel", "finish", "(II)V"⟩, 35) := ⟨⟨by decide +kernel, by decide +kernel⟩, List.mem_of_getElem? (i := 574) (by decide +kernel), List.mem_of_getElem? (i := 752) (by decide +kernel), List.mem_of_getElem? (i := 753) (by decide +kernel)⟩
theorem lw_p30 : lw_okq (⟨"TurnThreadsModel", "leaveQueue", "(I)V"⟩, 35) := ⟨⟨by decide +kernel, by decide +kernel⟩, List.mem_of_getElem? (i := 574) (by decide +kernel), List.mem_of_getElem? (i := 756) (by decide +kernel), List.mem_of_getElem? (i := 757) (by decide +kernel)⟩
theorem lw_p31 : lw_okq (⟨"TurnThreadsModel", "doAct", "(I)V"⟩, 35) := ⟨⟨by decide +kernel, by decide +kernel⟩, List.mem_of_getElem? (i := 574) (by decide +kernel), List.mem_of_getElem? (i := 760) (by decide +kernel), List.mem_of_getElem? (i := 761) (by decide +kernel)⟩
def lw_privs_2 : List (MethodName × Nat) := [(⟨"TurnThreads$Run", "mask", "(LTurnThreads$Fiber;Z)V"⟩, 13), (⟨"TurnThreads$Run", "pause", "(LTurnThreads$Fiber;II)V"⟩, 13), (⟨"TurnThreads$Fiber", "actToCome", "()I"⟩, 15), (⟨"java/lang/Throwable", "fillInStackTrace", "(I)Ljava/lang/Throwable;"⟩, 6), (⟨"TurnThreadsModel", "newThread", "(II)I"⟩, 35), (⟨"TurnThreadsModel", "enqueue", "(I)V"⟩, 35), (⟨"TurnThreadsModel", "comesIn", "(II)V"⟩, 35), (⟨"TurnThreadsModel", "firstAt", "(II)I"⟩, 35), (⟨"TurnThreadsModel", "goesOn", "(I)V"⟩, 35), (⟨"TurnThreadsModel", "isTurn", "()Z"⟩, 35), (⟨"TurnThreadsModel", "findReady", "()V"⟩, 35), (⟨"TurnThreadsModel", "wake", "()V"⟩, 35), (⟨"TurnThreadsModel", "except", "(II)V"⟩, 35), (⟨"TurnThreadsModel", "finish", "(II)V"⟩, 35), (⟨"TurnThreadsModel", "leaveQueue", "(I)V"⟩, 35), (⟨"TurnThreadsModel", "doAct", "(I)V"⟩, 35)]
theorem lw_r2 : ∀ q ∈ lw_privs_2, lw_okq q := List.forall_mem_cons.mpr ⟨lw_p16, List.forall_mem_cons.mpr ⟨lw_p17, List.forall_mem_cons.mpr ⟨lw_p18, List.forall_mem_cons.mpr ⟨lw_p19, List.forall_mem_cons.mpr ⟨lw_p20, List.forall_mem_cons.mpr ⟨lw_p21, List.forall_mem_cons.mpr ⟨lw_p22, List.forall_mem_cons.mpr ⟨lw_p23, List.forall_mem_cons.mpr ⟨lw_p24, List.forall_mem_cons.mpr ⟨lw_p25, List.forall_mem_cons.mpr ⟨lw_p26, List.forall_mem_cons.mpr ⟨lw_p27, List.forall_mem_cons.mpr ⟨lw_p28, List.forall_mem_cons.mpr ⟨lw_p29, List.forall_mem_cons.mpr ⟨lw_p30, List.forall_mem_cons.mpr ⟨lw_p31, fun _ h => absurd h List.not_mem_nil⟩⟩⟩⟩⟩⟩⟩⟩⟩⟩⟩⟩⟩⟩⟩⟩
theorem lw_p32 : lw_okq (⟨"TurnThreadsModel", "waitAt", "(III)V"⟩, 35) := ⟨⟨by decide +kernel, by decide +kernel⟩, List.mem_of_getElem? (i := 574) (by decide +kernel), List.mem_of_getElem? (i := 764) (by decide +kernel), List.mem_of_getElem? (i := 765) (by decide +kernel)⟩
theorem lw_p33 : lw_okq (⟨"TurnThreadsModel", "popPending", "(I)V"⟩, 35) := ⟨⟨by decide +kernel, by decide +kernel⟩, List.mem_of_getElem? (i := 574) (by decide +kernel), List.mem_of_getElem? (i := 768) (by decide +kernel), List.mem_of_getElem? (i := 769) (by decide +kernel)⟩
theorem lw_p34 : lw_okq (⟨"TurnThreadsModel", "taken", "(I)V"⟩, 35) := ⟨⟨by decide +kernel, by decide +kernel⟩, List.mem_of_getElem? (i := 574) (by decide +kernel), List.mem_of_getElem? (i := 772) (by decide +kernel), List.mem_of_getElem? (i := 773) (by decide +kernel)⟩
theorem lw_p35 : lw_okq (⟨"TurnThreadsModel", "doOther", "(III)V"⟩, 35) := ⟨⟨by decide +kernel, by decide +kernel⟩, List.mem_of_getElem? (i := 574) (by decide +kernel), List.mem_of_getElem? (i := 776) (by decide +kernel), List.mem_of_getElem? (i := 777) (by decide +kernel)⟩
theorem lw_p36 : lw_okq (⟨"TurnThreadsModel", "throwTo", "(II)V"⟩, 35) := ⟨⟨by decide +kernel, by decide +kernel⟩, List.mem_of_getElem? (i := 574) (by decide +kernel), List.mem_of_getElem? (i := 780) (by decide +kernel), List.mem_of_getElem? (i := 781) (by decide +kernel)⟩
def lw_privs_3 : List (MethodName × Nat) := [(⟨"TurnThreadsModel", "waitAt", "(III)V"⟩, 35), (⟨"TurnThreadsModel", "popPending", "(I)V"⟩, 35), (⟨"TurnThreadsModel", "taken", "(I)V"⟩, 35), (⟨"TurnThreadsModel", "doOther", "(III)V"⟩, 35), (⟨"TurnThreadsModel", "throwTo", "(II)V"⟩, 35)]
theorem lw_r3 : ∀ q ∈ lw_privs_3, lw_okq q := List.forall_mem_cons.mpr ⟨lw_p32, List.forall_mem_cons.mpr ⟨lw_p33, List.forall_mem_cons.mpr ⟨lw_p34, List.forall_mem_cons.mpr ⟨lw_p35, List.forall_mem_cons.mpr ⟨lw_p36, fun _ h => absurd h List.not_mem_nil⟩⟩⟩⟩⟩
def lw_privs : List (MethodName × Nat) := lw_privs_1 ++ (lw_privs_2 ++ (lw_privs_3))
def lw_tbl : List Cond := k2_sels lw_privs ++ tables_1
theorem lw_privs_ok : ∀ q ∈ lw_privs, lw_okq q := by
  show ∀ q ∈ lw_privs_1 ++ (lw_privs_2 ++ (lw_privs_3)), lw_okq q
  exact List.forall_mem_append.mpr ⟨lw_r1, List.forall_mem_append.mpr ⟨lw_r2, lw_r3⟩⟩
end
section
def va_AOA (ty : FieldType) (U : State) : Prop := (Cond.arrayOver (.array ty)).before #[] U = true
theorem va_AOA.of {ty : FieldType} {A : Array Value} {U : State} (h : (Cond.arrayOver (.array ty)).before A U = true) : va_AOA ty U := h
theorem va_AOA.use {ty : FieldType} {A : Array Value} {U : State} (h : va_AOA ty U) : (Cond.arrayOver (.array ty)).before A U = true := h
/-! ===== BEGIN words of one list among another's, by their places ===== -/
theorem goodIn_r {big : List Cond} (ws : List Cond) (ps : List Nat) (hp : ws = ps.filterMap (fun i => big[i]?)) (h : ws.all goodWord = true) : GoodIn big ws := by
  intro w hw
  have h1 := List.all_eq_true.mp h w hw
  rw [hp] at hw
  obtain ⟨i, -, hi⟩ := List.mem_filterMap.mp hw
  have hm : w ∈ big := by first | exact List.mem_of_getElem? hi | exact List.getElem?_mem hi
  exact ⟨hm, good_of_word h1⟩
theorem goodIn_app {big a b : List Cond} (ha : GoodIn big a) (hb : GoodIn big b) : GoodIn big (a ++ b) := fun w h => (List.mem_append.mp h).elim (ha w) (hb w)
theorem goodIn_ca {big a b : List Cond} {c : Cond} (ha : GoodIn big (c :: a)) (hb : GoodIn big b) : GoodIn big (c :: (a ++ b)) := fun w h => (List.mem_cons.mp h).elim (fun e => ha w (List.mem_cons.mpr (Or.inl e))) (fun h => (List.mem_append.mp h).elim (fun h => ha w (List.mem_cons.mpr (Or.inr h))) (hb w))
theorem goodIn_sub {big ws : List Cond} (hm : ∀ w ∈ ws, w ∈ big) (h : ws.all goodWord = true) : GoodIn big ws := fun w hw => ⟨hm w hw, good_of_word (List.all_eq_true.mp h w hw)⟩
/-! ===== END ===== -/

/-! ===== BEGIN new T[n][m]: the outer array a place, the inner ones among the pooled ===== -/
/-- f, but v at every address of l -/
def vr_up {α : Type} (f : Nat → α) (l : List Nat) (v : α) : Nat → α := fun a => if a ∈ l then v else f a
theorem vr_up_in {α : Type} {f : Nat → α} {l : List Nat} {v : α} {a : Nat} (h : a ∈ l) : vr_up f l v a = v := if_pos h
theorem vr_up_ne {α : Type} {f : Nat → α} {l : List Nat} {v : α} {a : Nat} (h : a ∉ l) : vr_up f l v a = f a := if_neg h
theorem vr_rows {L l : List Nat} {f : Nat → va_E} {e : va_E} (h : ∀ a, a ∈ l → a ∉ L) : va_pl L f ++ l.map (fun a => (a, e)) = va_pl (L ++ l) (vr_up f l e) := by
  unfold va_pl
  rw [List.map_append]
  congr 1
  · apply List.map_congr_left
    intro a ha
    rw [vr_up_ne (fun q => h a q ha)]
  · apply List.map_congr_left
    intro a ha
    rw [vr_up_in ha]
theorem vr_lay {X rows : va_W} {x : Nat × va_E} {pl : va_W} {D : va_G} {cl : List vw_C} {H : Heap} (hP : va_P D cl (((X ++ pl) ++ [x]) ++ rows) H) : va_P D cl ((X ++ [x]) ++ (pl ++ rows)) H := by
  rw [List.append_assoc (X ++ pl)] at hP
  have h := va_P.swap hP
  rw [← List.append_assoc X] at h
  have h2 := va_P.swap h
  rw [List.append_assoc (X ++ [x])] at h2
  exact h2
theorem vr_layD {X rows : va_W} {x : Nat × va_E} {pl : va_W} {A : Nat → Prop} (hD : va_D A (((X ++ pl) ++ [x]) ++ rows)) : va_D A ((X ++ [x]) ++ (pl ++ rows)) := by
  rw [List.append_assoc (X ++ pl)] at hD
  have h := va_D.swap hD
  rw [← List.append_assoc X] at h
  have h2 := va_D.swap h
  rw [List.append_assoc (X ++ [x])] at h2
  exact h2
theorem vr_outer (c : ClassId) (N h0 : Nat) : ∀ i : Nat, Jvm.Free.Multi.outerC c N h0 i = arrV c N (fun j => va_rf (if j < i then some (h0 + 1 + j) else none))
  | 0 => by
    show ({ cls := c, slots := Array.replicate N .null, vm := .none } : Cell) = _
    rw [arrV_new]
    refine congrArg (arrV c N) (funext fun j => ?_)
    simp [va_rf]
  | i + 1 => by
    show (Jvm.Free.Multi.outerC c N h0 i).setSlot i (.ref (h0 + 1 + i)) = _
    rw [vr_outer c N h0 i, arrV_store]
    refine congrArg (arrV c N) (funext fun j => ?_)
    by_cases e : j = i
    · subst e
      simp [updV, va_rf]
    · by_cases h : j < i
      · simp [updV, e, h, Nat.lt_succ_of_lt h]
      · simp [updV, e, h, show ¬ j < i + 1 by omega]
section VGM
variable {p : Program} {l : Launch} {e : Env} {R : Room} {s : State} {m : MethodId} {args : Array Value} {below : List Frame} {meth : Method} {c : Code} {H : Heap} {locs : List Loc} {cells slots : Nat} {Q : State → Prop}
variable {cc : ByteArray} {pc : Nat} {ls : Array Slot} {rest : List Value} {D : va_G} {cl : List vw_C} {A : Nat → Prop} {a : Nat} {tys : List (ClassId × FieldType)} {ws : va_W} {H0 : Heap}
theorem va_mna {X : va_W} {L : List Nat} {f : Nat → va_E} {cc : ByteArray} (hexec : p.tables.exec = Jvm.exec) (hb : c.code = cc) {own : String} {index : Nat} {ty : FieldType} {cy : ClassId} (hown : s.vm.findClass own = some m.cls) (hclink : (Cond.classLink own index ("[" ++ (FieldType.array ty).toString)).before args s = true) (hover : va_AOA ty s) (harr : (Cond.arrayClass ty).before args s = true) (hcy : s.vm.findClass (FieldType.array ty).toString = some cy)
    (hK : va_K D cl tys s) (hP : va_P D cl (X ++ va_pl L f) H) (hD : va_D A (X ++ va_pl L f)) (hS : va_S A H0 H locs) (hA : ∀ q, H0.size ≤ q → A q) {n k : Int32} {N' K' : Nat} {z : vp_A} (hn : ¬ n < 0) (hk : ¬ k < 0) (hN : n.toNatClampNeg = N') (hM : k.toNatClampNeg = K')
    (hb1 : N' * 4 ≤ 536870912) (hb2 : K' * componentBytes ty ≤ 536870912) (hb3 : K' ≤ 536870912) (hdf : fits ty (defaultValue ty) = true) (hdd : (defaultValue ty).isDefault = true) (hcells : cells + (1 + N') ≤ R.cells) (hslots : slots + (N' + N' * K') ≤ R.slots) (hz : ∀ c : ClassId, Jvm.Free.Multi.innerC c K' (defaultValue ty) = vp_cell c z) (hdg : decode cc pc = .ok (.multianewarray index 2, 4))
    (kk : ∀ (q : Nat) (r : Nat → Nat) (cA : ClassId) (H1 : Heap), (∀ i j : Nat, i < N' → j < N' → r i = r j → i = j) → (∀ i : Nat, i < N' → r i ∉ L) → va_K D cl (tys ++ [(cA, .array ty)]) s →
      va_P D cl ((X ++ [(q, .inl (cA, N', .inr (.inr (.inr (.inr (fun i => if i < N' then some (r i) else none))))))]) ++ va_pl (L ++ (List.range N').map r) (vr_up f ((List.range N').map r) (.inl (cy, z)))) H1 → va_D A ((X ++ [(q, .inl (cA, N', .inr (.inr (.inr (.inr (fun i => if i < N' then some (r i) else none))))))]) ++ va_pl (L ++ (List.range N').map r) (vr_up f ((List.range N').map r) (.inl (cy, z)))) → va_S A H0 H1 locs →
      W p l e R s m args below meth c H1 locs (cells + 1 + N') (slots + N' + N' * K') Q (F0 m (pc + 4) ls (.ref q :: rest))) : W p l e R s m args below meth c H locs cells slots Q (F0 m pc ls (.int k :: .int n :: rest)) := by
  subst hN
  subst hM
  intro T hT Xs
  obtain ⟨vm₁, cA, comp, -, fA, fC, hO, -, X', step⟩ := Xs.multianewarray2F hexec hown hclink (va_AOA.use hover) harr (g := F0 m pc ls (.int k :: .int n :: rest)) rfl (by rw [hb]; exact hdg) rfl hn hk hb1 hb2 hb3 hdf hdd hcells hslots
  have ec : some cy = some comp := hcy.symm.trans fC
  cases ec
  generalize hF : Jvm.Free.Multi.fill (T.setVm vm₁) cA cy n.toNatClampNeg k.toNatClampNeg (defaultValue ty) n.toNatClampNeg = F at X' step
  have hTh : (T.setVm vm₁).heap = H := hT
  obtain ⟨f1, f2, -, -⟩ := Jvm.Free.Multi.fill_facts (T.setVm vm₁) cA cy n.toNatClampNeg k.toNatClampNeg (defaultValue ty) n.toNatClampNeg
  rw [hF, hTh] at f1 f2
  have hold : ∀ x : Nat, x < H.size → F.heap[x]? = H[x]? := fun x hx => by
    have := Jvm.Free.Multi.fill_old (T.setVm vm₁) cA cy n.toNatClampNeg k.toNatClampNeg (defaultValue ty) (a := x) (by rw [hTh]; exact hx) n.toNatClampNeg
    rw [hF, hTh] at this
    exact this
  have hrow : ∀ j : Nat, j < n.toNatClampNeg → F.heap[H.size + 1 + j]? = some (vp_cell cy z) := fun j hj => by
    have := Jvm.Free.Multi.fill_inner (T.setVm vm₁) cA cy n.toNatClampNeg k.toNatClampNeg (defaultValue ty) n.toNatClampNeg j hj
    rw [hF, hTh, hz] at this
    exact this
  have hout : Jvm.Free.Multi.outerC cA n.toNatClampNeg H.size n.toNatClampNeg = vp_cell cA (n.toNatClampNeg, .inr (.inr (.inr (.inr (fun i => if i < n.toNatClampNeg then some (H.size + 1 + i) else none))))) := by
    rw [vp_cell_q]
    exact vr_outer cA n.toNatClampNeg H.size n.toNatClampNeg
  rw [hout] at f2
  have hlt : ∀ a, a ∈ L → a < H.size := fun a ha => by
    obtain ⟨k9, hk9⟩ := va_pl_get (X := X) (f := f) ha
    exact (hP k9 _ hk9).lt
  have hnl : ∀ i : Nat, i < n.toNatClampNeg → H.size + 1 + i ∉ L := fun i _ h => by
    have := hlt _ h
    omega
  have hnm : ∀ a, a ∈ (List.range n.toNatClampNeg).map (fun i => H.size + 1 + i) → a ∉ L := fun a ha h => by
    obtain ⟨i, -, rfl⟩ := List.mem_map.mp ha
    have := hlt _ h
    omega
  have hP0 : va_P D cl (X ++ va_pl L f) F.heap := hP.kept (fun k9 x hx => hold x.1 ((hP k9 x hx).lt))
  have hP1 : va_P D cl ((X ++ va_pl L f) ++ [(H.size, .inl (cA, n.toNatClampNeg, .inr (.inr (.inr (.inr (fun i => if i < n.toNatClampNeg then some (H.size + 1 + i) else none))))))]) F.heap := hP0.app (fun k9 x hx => by
    have h0 : k9 < 1 := (List.getElem?_eq_some_iff.mp hx).1
    rw [show k9 = 0 by omega] at hx
    cases hx
    exact f2)
  have hP2 : va_P D cl (((X ++ va_pl L f) ++ [(H.size, .inl (cA, n.toNatClampNeg, .inr (.inr (.inr (.inr (fun i => if i < n.toNatClampNeg then some (H.size + 1 + i) else none))))))]) ++ ((List.range n.toNatClampNeg).map (fun i => H.size + 1 + i)).map (fun a => (a, .inl (cy, z)))) F.heap := hP1.app (fun k9 x hx => by
    obtain ⟨a, ha, rfl⟩ := List.mem_map.mp (List.mem_of_getElem? hx)
    obtain ⟨i, hi, rfl⟩ := List.mem_map.mp ha
    exact hrow i (List.mem_range.mp hi))
  have hD2 : va_D A (((X ++ va_pl L f) ++ [(H.size, .inl (cA, n.toNatClampNeg, .inr (.inr (.inr (.inr (fun i => if i < n.toNatClampNeg then some (H.size + 1 + i) else none))))))]) ++ ((List.range n.toNatClampNeg).map (fun i => H.size + 1 + i)).map (fun a => (a, .inl (cy, z)))) := by
    have hD1 := hD.push (e := .inl (cA, n.toNatClampNeg, .inr (.inr (.inr (.inr (fun i => if i < n.toNatClampNeg then some (H.size + 1 + i) else none)))))) hP rfl (hA _ hS.1)
    generalize hW1 : (X ++ va_pl L f) ++ [(H.size, .inl (cA, n.toNatClampNeg, .inr (.inr (.inr (.inr (fun i => if i < n.toNatClampNeg then some (H.size + 1 + i) else none))))))] = W1 at hD1 hP1 ⊢
    have hle : ∀ (k9 : Nat) (x : Nat × va_E), W1[k9]? = some x → x.1 ≤ H.size := fun k9 x hx => by
      rw [← hW1] at hx
      by_cases hl : k9 < (X ++ va_pl L f).length
      · rw [List.getElem?_append_left hl] at hx
        exact Nat.le_of_lt ((hP k9 x hx).lt)
      · rw [List.getElem?_append_right (by omega)] at hx
        have h0 : k9 - (X ++ va_pl L f).length < 1 := (List.getElem?_eq_some_iff.mp hx).1
        rw [show k9 - (X ++ va_pl L f).length = 0 by omega] at hx
        cases hx
        exact Nat.le_refl _
    have hr : ∀ (k9 : Nat) (x : Nat × va_E), (((List.range n.toNatClampNeg).map (fun i => H.size + 1 + i)).map (fun a => ((a, .inl (cy, z)) : Nat × va_E)))[k9]? = some x → x.1 = H.size + 1 + k9 := fun k9 x hx => by
      rw [List.getElem?_map, List.getElem?_map] at hx
      by_cases h9 : k9 < n.toNatClampNeg
      · rw [List.getElem?_range h9] at hx
        cases hx
        rfl
      · have hn0 : (List.range n.toNatClampNeg)[k9]? = none := List.getElem?_eq_none (by rw [List.length_range]; omega)
        rw [hn0] at hx
        cases hx
    refine ⟨fun i j x y hi hj hxy => ?_, fun k9 x hx => ?_⟩
    · by_cases h1 : i < W1.length <;> by_cases h2 : j < W1.length
      · rw [List.getElem?_append_left h1] at hi
        rw [List.getElem?_append_left h2] at hj
        exact hD1.1 i j x y hi hj hxy
      · rw [List.getElem?_append_left h1] at hi
        rw [List.getElem?_append_right (by omega)] at hj
        have := hle _ _ hi
        have := hr _ _ hj
        omega
      · rw [List.getElem?_append_right (by omega)] at hi
        rw [List.getElem?_append_left h2] at hj
        have := hle _ _ hj
        have := hr _ _ hi
        omega
      · rw [List.getElem?_append_right (by omega)] at hi hj
        have := hr _ _ hi
        have := hr _ _ hj
        omega
    · by_cases h1 : k9 < W1.length
      · rw [List.getElem?_append_left h1] at hx
        exact hD1.2 k9 x hx
      · rw [List.getElem?_append_right (by omega)] at hx
        have := hr _ _ hx
        exact hA _ (by have := hS.1; omega)
  have hAr : ArrOfT s cA (.array ty) := fun N9 z9 => by
    obtain ⟨-, k9, hk9, cm9, hkk9⟩ := (hO 0 0 0).1
    exact ⟨(fun q hq => by cases hq), k9, hk9, cm9, hkk9⟩
  have hK2 : va_K D cl (tys ++ [(cA, .array ty)]) s := ⟨hK.1, fun k9 x hx => by
    by_cases hl : k9 < tys.length
    · rw [List.getElem?_append_left hl] at hx
      exact hK.2 k9 x hx
    · rw [List.getElem?_append_right (by omega)] at hx
      have h0 : k9 - tys.length < 1 := (List.getElem?_eq_some_iff.mp hx).1
      rw [show k9 - tys.length = 0 by omega] at hx
      cases hx
      exact ⟨hAr, fA⟩⟩
  obtain ⟨t, a1, b1⟩ := kk H.size (fun i => H.size + 1 + i) cA F.heap (fun i j _ _ h => by have h9 : H.size + 1 + i = H.size + 1 + j := h; omega) hnl hK2 (by rw [← vr_rows hnm]; exact vr_lay hP2) (by rw [← vr_rows hnm]; exact vr_layD hD2) ⟨by rw [f1]; have := hS.1; omega, fun x h1 h2 => (hold x (Nat.lt_of_lt_of_le h1 hS.1)).trans (hS.2.1 x h1 h2), hS.2.2⟩ F rfl X'
  refine ⟨t, step t ?_, b1⟩
  have e : T.heap.size = H.size := by rw [hT]
  rw [e]
  exact a1
end VGM
/-! ===== END ===== -/

/-! ===== BEGIN exceptions that leave a method, and their catching by the caller (launches without stack traces) ===== -/
section VXA
/-! The laws vx_back, vx_callV, vx_callS, vx_callSW, vx_throw0, vx_throwS follow proofs of the library, with one case more: JvmDerived/Free/Laws.lean (Back.of_free), Shelf42/LK1.lean (callV, callS), Shelf/KitTraced.lean (throwNew0V, throwNewS). -/
/-- where a method has thrown q: the class by its name, the cell, what was written, the world -/
def vx_T (XC : String → State → State → Prop) (st : State) (q : Addr) (t : State) (mc ms : Nat) (free : Addr → Prop) : Prop :=
  ∃ (E : String) (ce : Cell) (L : List Loc), XC E st t ∧ t.heap[q]? = some ce ∧ ce.vm = .none ∧ st.vm.findClass E = some ce.cls ∧ st.WarmedH t.vm ∧ st.sameButNew ({ t with vm := st.vm } : State) L mc ms ∧ ∀ z ∈ L, free z.base
def vx_Q (Qc : Array Value → State → Outcome → State → Prop) (XC : String → State → State → Prop) (mc ms : Nat) (free : Addr → Prop) : Array Value → State → Outcome → State → Prop := fun a st o t =>
  (Qc a st o t ∧ ∃ L, FrameEnd st o t L mc ms ∧ ∀ q ∈ L, free q.base) ∨ ∃ q, o = .threw q ∧ vx_T XC st q t mc ms free
/-- a callee that returns or throws -/
def vx_Met (l : Launch) (y : MethodName) (ws : List Cond) (rm : Room) (Pc : Array Value → State → Prop) (Qc : Array Value → State → Outcome → State → Prop) (XC : String → State → State → Prop) (mc ms : Nat) (free : Addr → Prop) : Prop :=
  MetFree l y (headSpec ws rm) Pc (fun _ _ _ _ _ => True) (vx_Q Qc XC mc ms free)
def vx_Post (XC : String → State → State → Prop) (mc ms : Nat) (free : Addr → Prop) : Pt → Array Value → Addr → Pt → Prop := fun A a q B =>
  ∃ (g : JFrame) (mk : MethodId) (t : State) (L : List Loc) (E : String) (ce : Cell), B.U.heap = t.heap ∧ B.U.vm = t.vm ∧ XC E (A.U.calling g mk a) t ∧ t.heap[q]? = some ce ∧ ce.vm = .none ∧ A.U.vm.findClass E = some ce.cls ∧ B.locs = A.locs ++ L ∧ (∀ z ∈ L, free z.base) ∧ B.cells = A.cells + mc ∧ B.slots = A.slots + ms
def vx_Back (l : Launch) (R : Room) (p : Program) (e : Env) (below : List Frame) (s : State) (sargs : Array Value) (y : MethodName) (len W9 : Nat)
    (Pre : Pt → Array Value → Prop) (Post : Pt → Array Value → Option Value → Pt → Prop) (PostX : Pt → Array Value → Addr → Pt → Prop) : Prop :=
  ∀ (m : MethodId) (meth : Method) (c : Code) (A : Pt) (g : JFrame) (ig : Instr) (mk : MethodId) (a : Array Value),
    Stand p l e R s m sargs below meth c A.U A.locs A.cells A.slots → g.method = m → g.locals.size = c.maxLocals → decode c.code g.pc = .ok (ig, len) →
    2 * g.monitorRoom + (g.stack.map fun v => v.category).sum ≤ W9 → A.U.methodNamed? y = some mk → Pre A a →
    (∃ (v : Option Value) (B : Pt), Stand p l e R s m sargs below meth c B.U B.locs B.cells B.slots ∧ Post A a v B ∧
      Steps p.tables e below (doInvoke e (A.U.setTop g) [] mk a).1 (B.U.setTop { g with pc := g.pc + len, stack := v.toList ++ g.stack })) ∨
    (∃ (q : Addr) (B : Pt), Stand p l e R s m sargs below meth c B.U B.locs B.cells B.slots ∧ PostX A a q B ∧
      Steps p.tables e below (doInvoke e (A.U.setTop g) [] mk a).1 ((B.U.setTop g).pushFrame (.throwing q)))
section Payer
variable {l : Launch} {R : Room} {p : Program} {e : Env} {below : List Frame} {s : State} {sargs : Array Value} {y : MethodName} {len W9 : Nat}
theorem vx_back {ws : List Cond} {rm : Room} {Pc : Array Value → State → Prop} {Qc : Array Value → State → Outcome → State → Prop} {XC : String → State → State → Prop} {mc ms : Nat} {free : Addr → Prop} {bytes : ByteArray} {maxL : Nat} {ret : Option FieldType}
    (hM : vx_Met l y ws rm Pc Qc XC mc ms free) (hblind : FrameBlind Pc) (hrc : rm.cells = mc) (hrs : rm.slots = ms)
    (hframes : rm.frames + 1 ≤ R.frames) (hlocals : W9 + (maxL + 11) + rm.locals ≤ R.locals)
    (hws : ∀ w ∈ ws, ∀ a' U, s.WarmedH U.vm → w.before a' U = true) (hcode : Cond.code y bytes maxL ret ∈ ws) (hinit : ∀ a' U, s.WarmedH U.vm → (Cond.initialized y.cls).before a' U = true) :
    vx_Back l R p e below s sargs y len W9 (PreOf R mc ms Pc) (PostOf Qc mc ms free) (vx_Post XC mc ms free) := by
  intro m meth c A g ig mk a X hg hsize hdg hW hn hp
  have h1 : (headSpec ws rm).pre.before a A.U = true := atoms_intro fun w hw => hws w hw _ _ X.warmed
  have h2 : (Cond.code y bytes maxL ret).before a A.U = true := hws _ hcode _ _ X.warmed
  have h3 : (Cond.initialized y.cls).before a A.U = true := hinit _ _ X.warmed
  have h4 : A.cells + (headSpec ws rm).room.cells ≤ R.cells := by rw [show (headSpec ws rm).room.cells = mc from hrc]; exact hp.1
  have h5 : A.slots + (headSpec ws rm).room.slots ≤ R.slots := by rw [show (headSpec ws rm).room.slots = ms from hrs]; exact hp.2.1
  have hPc : Pc a (A.U.calling g mk a) := hblind _ _ _ _ hp.2.2
  obtain ⟨U, Ls, c0, s0⟩ := A
  dsimp only [Pt.U, Pt.locs, Pt.cells, Pt.slots] at h1 h2 h3 h4 h5 X hn hPc ⊢
  obtain ⟨methY, cY, hmY, hcY, -, hlY, -, -, -, -⟩ := Cond.code_spec hn h2
  obtain ⟨kY, hkY, -⟩ := className_of_methodNamed hn
  have hinitY : kY.init = .initialized := Cond.initialized_spec (findClass_of_methodNamed hn) hkY h3
  have h : At U g.method c below := by rw [hg]; exact X.here
  have hlocals9 : W9 + (maxL + 11) + (headSpec ws rm).room.locals ≤ R.locals := hlocals
  have happ : (headSpec ws rm).appliesLoose y e.platform (U.calling g mk a) = true :=
    Spec.appliesLoose_calling (g := g) h hdg hn hkY hinitY
      (X.room_calling (g := g) (R' := (headSpec ws rm).room) hsize hmY hcY hframes (by rw [hlY]; omega) h4 h5) h1
  obtain ⟨mid, hmid⟩ := h.above
  have hfr : (U.setTop g).frames = (.java g :: mid) ++ below := by rw [State.frames_setTop' g h.top, hmid]; rfl
  obtain ⟨o, s₂, hsteps, -, hend, hq⟩ := Steps.callFree hM p X.admits X.cas X.clock (acts := []) hfr happ hPc trivial
  have hq' : vx_Q Qc XC mc ms free a (U.calling g mk a) o s₂ := hq
  rw [State.frames_setTop' g h.top] at hend
  obtain ⟨g₀, hg0⟩ := Option.isSome_iff_exists.mp h.top
  obtain ⟨r, hr⟩ := State.topJava?_eq_some.mp hg0
  have hr' : (({ U with heap := s₂.heap, slotsUsed := s₂.slotsUsed } : State).setVm s₂.vm).frames = .java g₀ :: r := hr
  rcases hq' with ⟨hqc, L, hfe, hL⟩ | ⟨q, rfl, E, ce, L, hx, hce, hcv, hcl, hW₂, hsm, hL⟩
  · obtain ⟨⟨v, rfl⟩, hW₂, e2, q2, q3, q4, q5, q6⟩ := id hfe
    have e3 : s₂ = ({ (U.calling g mk a).setFrames s₂.frames with heap := s₂.heap, slotsUsed := s₂.slotsUsed } : State).setVm s₂.vm := by
      have : s₂ = ({ s₂ with vm := (U.calling g mk a).vm } : State).setVm s₂.vm := rfl
      rw [e2] at this
      exact this
    obtain ⟨c₂, i₂, len₂, hc₂, hd₂, hf₂⟩ := hend
    have hW' : U.WarmedH s₂.vm := hW₂
    have hcc : c₂ = c := by
      have h1 : s₂.code? g.method = U.code? g.method := by
        rw [State.code?_eq, State.code?_eq, hW'.alike.method?]
      exact Option.some.inj (hc₂.symm.trans (h1.trans h.code))
    subst hcc
    have hlen : len₂ = len := by rw [hdg] at hd₂; cases hd₂; rfl
    subst hlen
    have hs₂ : s₂ = (({ U with heap := s₂.heap, slotsUsed := s₂.slotsUsed } : State).setVm s₂.vm).setTop { g with pc := g.pc + len₂, stack := v.toList ++ g.stack } := by
      refine e3.trans ?_
      rw [hf₂, State.calling_eq h.top, State.setFrames_setFrames, State.setTop_of_frames _ hr', hr]
      rfl
    have hsame : U.sameButNew ({ U with heap := s₂.heap, slotsUsed := s₂.slotsUsed } : State) L mc ms := by
      refine ⟨?_, q2, q3, q4, q5, q6⟩
      obtain ⟨t, ht, -⟩ := State.frames_cons hr
      show ({ U with heap := s₂.heap, slotsUsed := s₂.slotsUsed } : State) = { U.setFrames U.frames with heap := s₂.heap, slotsUsed := s₂.slotsUsed }
      rw [State.setFrames_self ht]
    subst hg
    refine Or.inl ⟨v, ⟨(({ U with heap := s₂.heap, slotsUsed := s₂.slotsUsed } : State).setVm s₂.vm), Ls ++ L, c0 + mc, s0 + ms⟩,
      ⟨X.admits, X.cas, X.clock, X.frames, X.room, X.hears, X.method, X.code, (X.here.setHeapUsed s₂.heap s₂.slotsUsed).setVm hW'.alike, X.tail, State.WarmedH.trans X.warmed hW', X.limits, X.bytes, X.same.trans (hsame.setVm s.vm)⟩,
      ⟨g, mk, s₂, L, rfl, rfl, hqc, rfl, hL, rfl, rfl⟩, ?_⟩
    show Steps p.tables e below _ ((({ U with heap := s₂.heap, slotsUsed := s₂.slotsUsed } : State).setVm s₂.vm).setTop { g with pc := g.pc + len₂, stack := v.toList ++ g.stack })
    rw [← hs₂]
    exact hsteps
  · obtain ⟨e2, q2, q3, q4, q5, q6⟩ := id hsm
    have e3 : s₂ = ({ (U.calling g mk a).setFrames s₂.frames with heap := s₂.heap, slotsUsed := s₂.slotsUsed } : State).setVm s₂.vm := by
      have : s₂ = ({ s₂ with vm := (U.calling g mk a).vm } : State).setVm s₂.vm := rfl
      rw [e2] at this
      exact this
    have hf₂ : s₂.frames = .throwing q :: .java g :: U.frames.tail := hend
    have hW' : U.WarmedH s₂.vm := hW₂
    have hs₂ : s₂ = ((({ U with heap := s₂.heap, slotsUsed := s₂.slotsUsed } : State).setVm s₂.vm).setTop g).pushFrame (.throwing q) := by
      refine e3.trans ?_
      rw [hf₂, State.calling_eq h.top, State.setFrames_setFrames, State.pushFrame, State.frames_setTop _ hr', State.setTop_of_frames _ hr', State.setFrames_setFrames, hr]
      rfl
    have hsame : U.sameButNew ({ U with heap := s₂.heap, slotsUsed := s₂.slotsUsed } : State) L mc ms := by
      refine ⟨?_, q2, q3, q4, q5, q6⟩
      obtain ⟨t, ht, -⟩ := State.frames_cons hr
      show ({ U with heap := s₂.heap, slotsUsed := s₂.slotsUsed } : State) = { U.setFrames U.frames with heap := s₂.heap, slotsUsed := s₂.slotsUsed }
      rw [State.setFrames_self ht]
    subst hg
    refine Or.inr ⟨q, ⟨(({ U with heap := s₂.heap, slotsUsed := s₂.slotsUsed } : State).setVm s₂.vm), Ls ++ L, c0 + mc, s0 + ms⟩,
      ⟨X.admits, X.cas, X.clock, X.frames, X.room, X.hears, X.method, X.code, (X.here.setHeapUsed s₂.heap s₂.slotsUsed).setVm hW'.alike, X.tail, State.WarmedH.trans X.warmed hW', X.limits, X.bytes, X.same.trans (hsame.setVm s.vm)⟩,
      ⟨g, mk, s₂, L, E, ce, rfl, rfl, hx, hce, hcv, hcl, rfl, hL, rfl, rfl⟩, ?_⟩
    show Steps p.tables e below _ (((({ U with heap := s₂.heap, slotsUsed := s₂.slotsUsed } : State).setVm s₂.vm).setTop g).pushFrame (.throwing q))
    rw [← hs₂]
    exact hsteps
end Payer
section Calls
variable {p : Program} {l : Launch} {e : Env} {R : Room} {s : State} {m : MethodId} {args : Array Value} {below : List Frame} {meth : Method} {c : Code} {T : State} {locs : List Loc} {cells slots : Nat}
theorem vx_callV (X : Stand p l e R s m args below meth c T locs cells slots) (hexec : p.tables.exec = Jvm.exec) {own C : String} {index : Nat} {y : MethodName} {bytes : ByteArray} {maxL : Nat} {ret : Option FieldType}
    (hown : s.vm.findClass own = some m.cls) (hlink : (Cond.methodLink own index y).before args s = true) (hinst : (Cond.instanceMethod y).before args s = true) (hsel : (Cond.selects C y y).before args s = true)
    (hcode : (Cond.code y bytes maxL ret).before args s = true) (hy : y.cls ≠ "java/lang/invoke/MethodHandle" ∧ y.cls ≠ "java/lang/invoke/VarHandle")
    {W9 : Nat} {Pre : Pt → Array Value → Prop} {Post : Pt → Array Value → Option Value → Pt → Prop} {PostX : Pt → Array Value → Addr → Pt → Prop} (hK : vx_Back l R p e below s args y 3 W9 Pre Post PostX)
    {b : Addr} {cellB : Cell} (hcell : T.heap[b]? = some cellB) (hobj : cellB.vm.isStatics = false) (hcls : s.vm.findClass C = some cellB.cls)
    {g : JFrame} (hg : g.method = m) (hsize : g.locals.size = c.maxLocals) {argsL rest : List Value} (hlen : ∀ sig, parseMethodDescriptor y.desc = some sig → argsL.length = sig.parameters.length)
    (hstack : g.stack = argsL.reverse ++ .ref b :: rest) (hW : 2 * g.monitorRoom + (rest.map fun v => v.category).sum ≤ W9) (hdg : decode c.code g.pc = .ok (.invokevirtual index, 3))
    (hpre : ∀ vm₁, s.WarmedH vm₁ → Pre ⟨T.setVm vm₁, locs, cells, slots⟩ (Value.ref b :: argsL).toArray) :
    (∃ (v : Option Value) (vm₁ : Vm) (B : Pt), s.WarmedH vm₁ ∧ Stand p l e R s m args below meth c B.U B.locs B.cells B.slots ∧ Post ⟨T.setVm vm₁, locs, cells, slots⟩ (Value.ref b :: argsL).toArray v B ∧
      ∀ target, Steps p.tables e below (B.U.setTop { g with pc := g.pc + 3, stack := v.toList ++ rest }) target → Steps p.tables e below (T.setTop g) target) ∨
    (∃ (q : Addr) (vm₁ : Vm) (B : Pt), s.WarmedH vm₁ ∧ Stand p l e R s m args below meth c B.U B.locs B.cells B.slots ∧ PostX ⟨T.setVm vm₁, locs, cells, slots⟩ (Value.ref b :: argsL).toArray q B ∧
      Steps p.tables e below (T.setTop g) ((B.U.setTop { g with stack := rest }).pushFrame (.throwing q))) := by
  obtain ⟨mk, methM, hnamed, hmethM, hstM, habM⟩ := Cond.instanceMethod_spec hinst
  obtain ⟨methM', cM, hmethM', -, -, -, -, -, -, hsigM⟩ := Cond.code_spec hnamed hcode
  cases hmethM.symm.trans hmethM'
  obtain ⟨c2, r2, m2, q1, q2, q3, q4, kP, hkP, hkPi⟩ := Cond.selects_spec hsel
  cases hcls.symm.trans q1
  cases (State.methodFound?_of_named hnamed hy).symm.trans q2
  cases hnamed.symm.trans q3
  have hselP : selectMethod e.platform s.vm cellB.cls mk = .method mk := by rw [Launch.admits_selectMethod X.admits]; exact q4
  obtain ⟨vm₁, X₁, hstep₁⟩ := X.invokevirtual hexec hown hlink hnamed hmethM hstM hkP hkPi hy (a := b) (cell := cellB) hcell
    (fun z h => by rw [h] at hobj; cases hobj) hselP hmethM habM hkP hkPi (g := g) hg (argsL := argsL) (rest := rest) (hlen _ hsigM) hstack hdg
  rcases hK m meth c ⟨T.setVm vm₁, locs, cells, slots⟩ { g with stack := rest } (.invokevirtual index) mk (Value.ref b :: argsL).toArray X₁ hg hsize hdg hW (X₁.named hnamed) (hpre vm₁ X₁.warmed) with ⟨v, B, X', hpost, hsteps⟩ | ⟨q, B, X', hpost, hsteps⟩
  · exact Or.inl ⟨v, vm₁, B, X₁.warmed, X', hpost, fun target h => hstep₁ _ fun acts => by rw [doInvoke_state]; exact hsteps.trans h⟩
  · exact Or.inr ⟨q, vm₁, B, X₁.warmed, X', hpost, hstep₁ _ fun acts => by rw [doInvoke_state]; exact hsteps⟩
theorem vx_callS (X : Stand p l e R s m args below meth c T locs cells slots) (hexec : p.tables.exec = Jvm.exec) {own : String} {index : Nat} {y : MethodName} {bytes : ByteArray} {maxL : Nat} {ret : Option FieldType}
    (hown : s.vm.findClass own = some m.cls) (hlink : (Cond.methodLink own index y).before args s = true) (hstat : (Cond.static y).before args s = true) (hinit : (Cond.initialized y.cls).before args s = true)
    (hcode : (Cond.code y bytes maxL ret).before args s = true) (hy : y.cls ≠ "java/lang/invoke/MethodHandle" ∧ y.cls ≠ "java/lang/invoke/VarHandle")
    {W9 : Nat} {Pre : Pt → Array Value → Prop} {Post : Pt → Array Value → Option Value → Pt → Prop} {PostX : Pt → Array Value → Addr → Pt → Prop} (hK : vx_Back l R p e below s args y 3 W9 Pre Post PostX)
    {g : JFrame} (hg : g.method = m) (hsize : g.locals.size = c.maxLocals) {argsL rest : List Value} (hlen : ∀ sig, parseMethodDescriptor y.desc = some sig → argsL.length = sig.parameters.length)
    (hstack : g.stack = argsL.reverse ++ rest) (hW : 2 * g.monitorRoom + (rest.map fun v => v.category).sum ≤ W9) (hdg : decode c.code g.pc = .ok (.invokestatic index, 3))
    (hpre : ∀ vm₁, s.WarmedH vm₁ → Pre ⟨T.setVm vm₁, locs, cells, slots⟩ argsL.toArray) :
    (∃ (v : Option Value) (vm₁ : Vm) (B : Pt), s.WarmedH vm₁ ∧ Stand p l e R s m args below meth c B.U B.locs B.cells B.slots ∧ Post ⟨T.setVm vm₁, locs, cells, slots⟩ argsL.toArray v B ∧
      ∀ target, Steps p.tables e below (B.U.setTop { g with pc := g.pc + 3, stack := v.toList ++ rest }) target → Steps p.tables e below (T.setTop g) target) ∨
    (∃ (q : Addr) (vm₁ : Vm) (B : Pt), s.WarmedH vm₁ ∧ Stand p l e R s m args below meth c B.U B.locs B.cells B.slots ∧ PostX ⟨T.setVm vm₁, locs, cells, slots⟩ argsL.toArray q B ∧
      Steps p.tables e below (T.setTop g) ((B.U.setTop { g with stack := rest }).pushFrame (.throwing q))) := by
  obtain ⟨mk, hnamed⟩ := Cond.code_named hcode
  obtain ⟨methM, cM, hmethM, -, -, -, -, -, -, hsigM⟩ := Cond.code_spec hnamed hcode
  have hstatic : methM.isStatic = true := Cond.static_spec hnamed hmethM hstat
  obtain ⟨kP, hkP, -⟩ := className_of_methodNamed hnamed
  have hinitP : kP.init = .initialized := Cond.initialized_spec (findClass_of_methodNamed hnamed) hkP hinit
  obtain ⟨vm₁, X₁, hstep₁⟩ := X.invokestatic hexec hown hlink hnamed hmethM hstatic hkP hinitP hy (g := g) hg (argsL := argsL) (rest := rest) (hlen _ hsigM) hstack hdg
  rcases hK m meth c ⟨T.setVm vm₁, locs, cells, slots⟩ { g with stack := rest } (.invokestatic index) mk argsL.toArray X₁ hg hsize hdg hW (X₁.named hnamed) (hpre vm₁ X₁.warmed) with ⟨v, B, X', hpost, hsteps⟩ | ⟨q, B, X', hpost, hsteps⟩
  · exact Or.inl ⟨v, vm₁, B, X₁.warmed, X', hpost, fun target h => hstep₁ _ fun acts => by rw [doInvoke_state]; exact hsteps.trans h⟩
  · exact Or.inr ⟨q, vm₁, B, X₁.warmed, X', hpost, hstep₁ _ fun acts => by rw [doInvoke_state]; exact hsteps⟩
end Calls
theorem vx_cls {s : State} {T : State} {vm₁ : Vm} {E : String} {k : ClassId} (hW : s.WarmedH vm₁) (h : (T.setVm vm₁).vm.findClass E = some k) : s.vm.findClass E = some k := by
  have h1 : vm₁.findClass E = some k := h
  rw [hW.alike.findClass] at h1
  exact h1
/-- the method's frame g, with q thrown over it -/
def vx_W (p : Program) (l : Launch) (e : Env) (R : Room) (s : State) (m : MethodId) (args : Array Value) (below : List Frame) (meth : Method) (c : Code) (H : Heap) (locs : List Loc) (cells slots : Nat) (Q : State → Prop) (g : JFrame) (q : Addr) : Prop :=
  ∀ T : State, T.heap = H → Stand p l e R s m args below meth c T locs cells slots → ∃ t, Steps p.tables e below ((T.setTop g).pushFrame (.throwing q)) t ∧ Q t
def vx_Run (p : Program) (l : Launch) (e : Env) (R : Room) (s : State) (m : MethodId) (args : Array Value) (below : List Frame) (meth : Method) (c : Code) (H : Heap) (locs : List Loc) (cells slots mc ms : Nat) (g : JFrame) (rest : List Value) (Qa : State → Outcome → State → Prop) (XC : String → State → State → Prop) (free : Addr → Prop) : Prop :=
  ∀ T : State, T.heap = H → Stand p l e R s m args below meth c T locs cells slots →
    (∃ (v : Option Value) (st₀ t T' : State) (L : List Loc), st₀.heap = H ∧ Stand p l e R s m args below meth c T' (locs ++ L) (cells + mc) (slots + ms) ∧ (∀ q ∈ L, free q.base) ∧ T'.heap = t.heap ∧ T'.vm = t.vm ∧ Qa st₀ (.returned v) t ∧
      Goes p e below T g T' { g with pc := g.pc + 3, stack := v.toList ++ rest }) ∨
    (∃ (q : Addr) (st₀ t T' : State) (L : List Loc) (E : String) (ce : Cell), st₀.heap = H ∧ Stand p l e R s m args below meth c T' (locs ++ L) (cells + mc) (slots + ms) ∧ (∀ z ∈ L, free z.base) ∧ T'.heap = t.heap ∧ T'.vm = t.vm ∧ XC E st₀ t ∧ t.heap[q]? = some ce ∧ ce.vm = .none ∧ s.vm.findClass E = some ce.cls ∧
      Steps p.tables e below (T.setTop g) ((T'.setTop { g with stack := rest }).pushFrame (.throwing q)))
def vx_X {S : Type} (px : S → Prop) (B : String → S → State → Prop) (A : Nat → Prop) : String → State → State → Prop := fun E st t => ∃ u : S, px u ∧ B E u t ∧ va_F A st t
section Runs
variable {p : Program} {l : Launch} {e : Env} {R : Room} {s : State} {m : MethodId} {args : Array Value} {below : List Frame} {meth : Method} {c : Code} {H : Heap} {locs : List Loc} {cells slots : Nat}
variable {y : MethodName} {bytes cc : ByteArray} {maxL nL mc ms n index : Nat} {ret : Option FieldType} {ws : List Cond} {rm : Room} {Pc : Array Value → State → Prop} {Qc : Array Value → State → Outcome → State → Prop} {XC : String → State → State → Prop} {free : Addr → Prop} {Ts : List Cond} {own C : String} {b : Addr} {As rest : List Value} {g : JFrame}
theorem vx_callBack (cb : CallB R s args own index y bytes maxL ret ws rm mc ms n) (hM : vx_Met l y ws rm Pc Qc XC mc ms free) (hbl : FrameBlind Pc) : vx_Back l R p e below s args y 3 8 (PreOf R mc ms Pc) (PostOf Qc mc ms free) (vx_Post XC mc ms free) := by
  obtain ⟨hrc, hrs, hfr, hlo, hws, hcw, -, hini, -⟩ := cb
  exact vx_back (bytes := bytes) (maxL := maxL) (ret := ret) hM hbl hrc hrs hfr hlo hws hcw (fun a' U hW => word_at hW (Or.inl (by first | rfl | simp [Cond.onTables, Cond.keeps, Cond.steady])) hini)
theorem vx_runV (S : CallFix p m c cc nL s args Ts own) (hM : vx_Met l y ws rm Pc Qc XC mc ms free) (cw : CallW R s args own C index y bytes maxL ret ws rm mc ms n) (hp : PreV s H C b Pc As)
    (hg : g.method = m) (hn : As.length = n) (hsize : g.locals.size = nL) (hstack : g.stack = As.reverse ++ .ref b :: rest) (hW : 2 * g.monitorRoom + (rest.map fun v => v.category).sum ≤ 8) (hdg : decode cc g.pc = .ok (.invokevirtual index, 3)) (hf : cells + mc ≤ R.cells ∧ slots + ms ≤ R.slots) :
    vx_Run p l e R s m args below meth c H locs cells slots mc ms g rest (Qc (Value.ref b :: As).toArray) XC free := by
  have hK : vx_Back l R p e below s args y 3 8 (PreOf R mc ms Pc) (PostOf Qc mc ms free) (vx_Post XC mc ms free) := vx_callBack cw.1 hM hp.1
  obtain ⟨⟨-, -, -, -, -, -, hcode, -, hy, hlen, hl⟩, hin, hse⟩ := cw
  obtain ⟨hx, hb, hml, ho, -⟩ := S
  obtain ⟨-, ⟨cellB, hcB, hoB, hclB⟩, hPc⟩ := hp
  intro T hT X
  rcases vx_callV X hx (C := C) (bytes := bytes) (maxL := maxL) (ret := ret) ho hl hin hse hcode hy hK (by rw [hT]; exact hcB) hoB hclB hg (hsize.trans hml.symm) (argsL := As) (rest := rest) (fun sig h => hn.trans (hlen sig h)) hstack hW (by rw [hb]; exact hdg)
    (fun vm₁ hW₁ => ⟨hf.1, hf.2, hPc (T.setVm vm₁) hT hW₁⟩) with ⟨v, vm₁, ⟨U', l2, c2, s2⟩, hW₁, X', ⟨g', mk, t, L, e1, e2, hq, h1, hL, h2, h3⟩, st⟩ | ⟨q, vm₁, ⟨U', l2, c2, s2⟩, hW₁, X', ⟨g', mk, t, L, E, ce, e1, e2, hq, hce, hcv, hcl, h1, hL, h2, h3⟩, st⟩
  · dsimp only [Pt.U, Pt.locs, Pt.cells, Pt.slots] at X' e1 e2 h1 h2 h3 st
    subst h1; subst h2; subst h3
    exact Or.inl ⟨v, (T.setVm vm₁).calling g' mk (Value.ref b :: As).toArray, t, U', L, hT, X', hL, e1, e2, hq, st⟩
  · dsimp only [Pt.U, Pt.locs, Pt.cells, Pt.slots] at X' e1 e2 h1 h2 h3 st hcl
    subst h1; subst h2; subst h3
    exact Or.inr ⟨q, (T.setVm vm₁).calling g' mk (Value.ref b :: As).toArray, t, U', L, E, ce, hT, X', hL, e1, e2, hq, hce, hcv, vx_cls hW₁ hcl, st⟩
theorem vx_runS (S : CallFix p m c cc nL s args Ts own) (hM : vx_Met l y ws rm Pc Qc XC mc ms free) (cw : CallB R s args own index y bytes maxL ret ws rm mc ms n ∧ (Cond.static y).before args s = true) (hp : PreS s H Pc As)
    (hg : g.method = m) (hn : As.length = n) (hsize : g.locals.size = nL) (hstack : g.stack = As.reverse ++ rest) (hW : 2 * g.monitorRoom + (rest.map fun v => v.category).sum ≤ 8) (hdg : decode cc g.pc = .ok (.invokestatic index, 3)) (hf : cells + mc ≤ R.cells ∧ slots + ms ≤ R.slots) :
    vx_Run p l e R s m args below meth c H locs cells slots mc ms g rest (Qc As.toArray) XC free := by
  have hK : vx_Back l R p e below s args y 3 8 (PreOf R mc ms Pc) (PostOf Qc mc ms free) (vx_Post XC mc ms free) := vx_callBack cw.1 hM hp.1
  obtain ⟨⟨-, -, -, -, -, -, hcode, hini, hy, hlen, hl⟩, hstt⟩ := cw
  obtain ⟨hx, hb, hml, ho, -⟩ := S
  intro T hT X
  rcases vx_callS X hx (bytes := bytes) (maxL := maxL) (ret := ret) ho hl hstt hini hcode hy hK hg (hsize.trans hml.symm) (argsL := As) (rest := rest) (fun sig h => hn.trans (hlen sig h)) hstack hW (by rw [hb]; exact hdg)
    (fun vm₁ hW₁ => ⟨hf.1, hf.2, hp.2 (T.setVm vm₁) hT hW₁⟩) with ⟨v, vm₁, ⟨U', l2, c2, s2⟩, hW₁, X', ⟨g', mk, t, L, e1, e2, hq, h1, hL, h2, h3⟩, st⟩ | ⟨q, vm₁, ⟨U', l2, c2, s2⟩, hW₁, X', ⟨g', mk, t, L, E, ce, e1, e2, hq, hce, hcv, hcl, h1, hL, h2, h3⟩, st⟩
  · dsimp only [Pt.U, Pt.locs, Pt.cells, Pt.slots] at X' e1 e2 h1 h2 h3 st
    subst h1; subst h2; subst h3
    exact Or.inl ⟨v, (T.setVm vm₁).calling g' mk As.toArray, t, U', L, hT, X', hL, e1, e2, hq, st⟩
  · dsimp only [Pt.U, Pt.locs, Pt.cells, Pt.slots] at X' e1 e2 h1 h2 h3 st hcl
    subst h1; subst h2; subst h3
    exact Or.inr ⟨q, (T.setVm vm₁).calling g' mk As.toArray, t, U', L, E, ce, hT, X', hL, e1, e2, hq, hce, hcv, vx_cls hW₁ hcl, st⟩
end Runs
section Rows
variable {p : Program} {l : Launch} {e : Env} {R : Room} {s : State} {m : MethodId} {args : Array Value} {below : List Frame} {meth : Method} {c : Code} {H : Heap} {locs : List Loc} {cells slots : Nat} {Q : State → Prop}
variable {mc ms : Nat} {free : Addr → Prop} {A0 A1 : Nat → Prop} {H0 : Heap} {a : Array Value} {pc : Nat} {ls : Array Slot} {st0 rest : List Value}
theorem vx_keep {st₀ t T' : State} {L : List Loc} (h0 : st₀.heap = H) (e1 : T'.heap = t.heap) (hS : va_S A0 H0 H locs) (hA : ∀ q, q < H.size → A1 q → A0 q) (hf : ∀ q, free q → A0 q) (hL : ∀ q ∈ L, free q.base) (hF : va_F A1 st₀ t) :
    H.size ≤ T'.heap.size ∧ (∀ q : Nat, q < H.size → ¬ A1 q → T'.heap[q]? = H[q]?) ∧ va_S A0 H0 T'.heap (locs ++ L) := by
  obtain ⟨hz, hk⟩ := hF
  rw [h0] at hz hk
  exact ⟨by rw [e1]; exact hz, fun q h1 h2 => by rw [e1]; exact hk q h1 h2,
    ⟨Nat.le_trans hS.1 (by rw [e1]; exact hz), fun q h1 h2 => by rw [e1, hk q (Nat.lt_of_lt_of_le h1 hS.1) (fun z => h2 (hA q (Nat.lt_of_lt_of_le h1 hS.1) z))]; exact hS.2.1 q h1 h2, fun q hq => by
      rcases List.mem_append.mp hq with h | h
      · exact hS.2.2 q h
      · exact hf _ (hL q h)⟩⟩
theorem vx_calli {S SX : Type} {post : Int32 → S → Prop} {px : SX → Prop} {B : S → State → Prop} {BX : String → SX → State → Prop} {AX : Nat → Prop} (hr : vx_Run p l e R s m args below meth c H locs cells slots mc ms (F0 m pc ls st0) rest (va_Qi post B A1 a) (vx_X px BX AX) free) (hS : va_S A0 H0 H locs) (hA : ∀ q, q < H.size → A1 q → A0 q) (hf : ∀ q, free q → A0 q) (hAX : ∀ q, q < H.size → AX q → A0 q)
    (kx : ∀ (E : String) (ce : Cell) (q9 : Addr) (u : SX) (t : State) (H1 : Heap) (locs1 : List Loc), t.heap = H1 → s.vm.Alike t.vm → px u → BX E u t → H.size ≤ H1.size → (∀ q : Nat, q < H.size → ¬ AX q → H1[q]? = H[q]?) → va_S A0 H0 H1 locs1 → H1[q9]? = some ce → ce.vm = .none → s.vm.findClass E = some ce.cls → vx_W p l e R s m args below meth c H1 locs1 (cells + mc) (slots + ms) Q (F0 m pc ls rest) q9)
    (kk : ∀ (r : Int32) (u : S) (t : State) (H1 : Heap) (locs1 : List Loc), t.heap = H1 → s.vm.Alike t.vm → post r u → B u t → H.size ≤ H1.size → (∀ q : Nat, q < H.size → ¬ A1 q → H1[q]? = H[q]?) → va_S A0 H0 H1 locs1 → W p l e R s m args below meth c H1 locs1 (cells + mc) (slots + ms) Q (F0 m (pc + 3) ls (.int r :: rest))) : W p l e R s m args below meth c H locs cells slots Q (F0 m pc ls st0) := by
  intro T hT X
  rcases hr T hT X with ⟨v, st₀, t, T', L, h0, X', hL, e1, e2, ⟨⟨r, u, hv, hp, hb⟩, hF⟩, st⟩ | ⟨q, st₀, t, T', L, E, ce, h0, X', hL, e1, e2, ⟨u, hp, hb, hF⟩, hce, hcv, hcl, st⟩
  · cases hv
    obtain ⟨k1, k2, k3⟩ := vx_keep h0 e1 hS hA hf hL hF
    obtain ⟨t2, a1, b1⟩ := kk r u t T'.heap (locs ++ L) e1.symm (by rw [← e2]; exact X'.warmed.alike) hp hb k1 k2 k3 T' rfl X'
    exact ⟨t2, st t2 a1, b1⟩
  · obtain ⟨k1, k2, k3⟩ := vx_keep h0 e1 hS hAX hf hL hF
    obtain ⟨t2, a1, b1⟩ := kx E ce q u t T'.heap (locs ++ L) e1.symm (by rw [← e2]; exact X'.warmed.alike) hp hb k1 k2 k3 (by rw [e1]; exact hce) hcv hcl T' rfl X'
    exact ⟨t2, st.trans a1, b1⟩
theorem vx_calll {S SX : Type} {post : Int64 → S → Prop} {px : SX → Prop} {B : S → State → Prop} {BX : String → SX → State → Prop} {AX : Nat → Prop} (hr : vx_Run p l e R s m args below meth c H locs cells slots mc ms (F0 m pc ls st0) rest (va_Ql post B A1 a) (vx_X px BX AX) free) (hS : va_S A0 H0 H locs) (hA : ∀ q, q < H.size → A1 q → A0 q) (hf : ∀ q, free q → A0 q) (hAX : ∀ q, q < H.size → AX q → A0 q)
    (kx : ∀ (E : String) (ce : Cell) (q9 : Addr) (u : SX) (t : State) (H1 : Heap) (locs1 : List Loc), t.heap = H1 → s.vm.Alike t.vm → px u → BX E u t → H.size ≤ H1.size → (∀ q : Nat, q < H.size → ¬ AX q → H1[q]? = H[q]?) → va_S A0 H0 H1 locs1 → H1[q9]? = some ce → ce.vm = .none → s.vm.findClass E = some ce.cls → vx_W p l e R s m args below meth c H1 locs1 (cells + mc) (slots + ms) Q (F0 m pc ls rest) q9)
    (kk : ∀ (r : Int64) (u : S) (t : State) (H1 : Heap) (locs1 : List Loc), t.heap = H1 → s.vm.Alike t.vm → post r u → B u t → H.size ≤ H1.size → (∀ q : Nat, q < H.size → ¬ A1 q → H1[q]? = H[q]?) → va_S A0 H0 H1 locs1 → W p l e R s m args below meth c H1 locs1 (cells + mc) (slots + ms) Q (F0 m (pc + 3) ls (.long r :: rest))) : W p l e R s m args below meth c H locs cells slots Q (F0 m pc ls st0) := by
  intro T hT X
  rcases hr T hT X with ⟨v, st₀, t, T', L, h0, X', hL, e1, e2, ⟨⟨r, u, hv, hp, hb⟩, hF⟩, st⟩ | ⟨q, st₀, t, T', L, E, ce, h0, X', hL, e1, e2, ⟨u, hp, hb, hF⟩, hce, hcv, hcl, st⟩
  · cases hv
    obtain ⟨k1, k2, k3⟩ := vx_keep h0 e1 hS hA hf hL hF
    obtain ⟨t2, a1, b1⟩ := kk r u t T'.heap (locs ++ L) e1.symm (by rw [← e2]; exact X'.warmed.alike) hp hb k1 k2 k3 T' rfl X'
    exact ⟨t2, st t2 a1, b1⟩
  · obtain ⟨k1, k2, k3⟩ := vx_keep h0 e1 hS hAX hf hL hF
    obtain ⟨t2, a1, b1⟩ := kx E ce q u t T'.heap (locs ++ L) e1.symm (by rw [← e2]; exact X'.warmed.alike) hp hb k1 k2 k3 (by rw [e1]; exact hce) hcv hcl T' rfl X'
    exact ⟨t2, st.trans a1, b1⟩
theorem vx_callf {S SX : Type} {post : UInt32 → S → Prop} {px : SX → Prop} {B : S → State → Prop} {BX : String → SX → State → Prop} {AX : Nat → Prop} (hr : vx_Run p l e R s m args below meth c H locs cells slots mc ms (F0 m pc ls st0) rest (va_Qf post B A1 a) (vx_X px BX AX) free) (hS : va_S A0 H0 H locs) (hA : ∀ q, q < H.size → A1 q → A0 q) (hf : ∀ q, free q → A0 q) (hAX : ∀ q, q < H.size → AX q → A0 q)
    (kx : ∀ (E : String) (ce : Cell) (q9 : Addr) (u : SX) (t : State) (H1 : Heap) (locs1 : List Loc), t.heap = H1 → s.vm.Alike t.vm → px u → BX E u t → H.size ≤ H1.size → (∀ q : Nat, q < H.size → ¬ AX q → H1[q]? = H[q]?) → va_S A0 H0 H1 locs1 → H1[q9]? = some ce → ce.vm = .none → s.vm.findClass E = some ce.cls → vx_W p l e R s m args below meth c H1 locs1 (cells + mc) (slots + ms) Q (F0 m pc ls rest) q9)
    (kk : ∀ (r : UInt32) (u : S) (t : State) (H1 : Heap) (locs1 : List Loc), t.heap = H1 → s.vm.Alike t.vm → post r u → B u t → H.size ≤ H1.size → (∀ q : Nat, q < H.size → ¬ A1 q → H1[q]? = H[q]?) → va_S A0 H0 H1 locs1 → W p l e R s m args below meth c H1 locs1 (cells + mc) (slots + ms) Q (F0 m (pc + 3) ls (.float r :: rest))) : W p l e R s m args below meth c H locs cells slots Q (F0 m pc ls st0) := by
  intro T hT X
  rcases hr T hT X with ⟨v, st₀, t, T', L, h0, X', hL, e1, e2, ⟨⟨r, u, hv, hp, hb⟩, hF⟩, st⟩ | ⟨q, st₀, t, T', L, E, ce, h0, X', hL, e1, e2, ⟨u, hp, hb, hF⟩, hce, hcv, hcl, st⟩
  · cases hv
    obtain ⟨k1, k2, k3⟩ := vx_keep h0 e1 hS hA hf hL hF
    obtain ⟨t2, a1, b1⟩ := kk r u t T'.heap (locs ++ L) e1.symm (by rw [← e2]; exact X'.warmed.alike) hp hb k1 k2 k3 T' rfl X'
    exact ⟨t2, st t2 a1, b1⟩
  · obtain ⟨k1, k2, k3⟩ := vx_keep h0 e1 hS hAX hf hL hF
    obtain ⟨t2, a1, b1⟩ := kx E ce q u t T'.heap (locs ++ L) e1.symm (by rw [← e2]; exact X'.warmed.alike) hp hb k1 k2 k3 (by rw [e1]; exact hce) hcv hcl T' rfl X'
    exact ⟨t2, st.trans a1, b1⟩
theorem vx_calld {S SX : Type} {post : UInt64 → S → Prop} {px : SX → Prop} {B : S → State → Prop} {BX : String → SX → State → Prop} {AX : Nat → Prop} (hr : vx_Run p l e R s m args below meth c H locs cells slots mc ms (F0 m pc ls st0) rest (va_Qd post B A1 a) (vx_X px BX AX) free) (hS : va_S A0 H0 H locs) (hA : ∀ q, q < H.size → A1 q → A0 q) (hf : ∀ q, free q → A0 q) (hAX : ∀ q, q < H.size → AX q → A0 q)
    (kx : ∀ (E : String) (ce : Cell) (q9 : Addr) (u : SX) (t : State) (H1 : Heap) (locs1 : List Loc), t.heap = H1 → s.vm.Alike t.vm → px u → BX E u t → H.size ≤ H1.size → (∀ q : Nat, q < H.size → ¬ AX q → H1[q]? = H[q]?) → va_S A0 H0 H1 locs1 → H1[q9]? = some ce → ce.vm = .none → s.vm.findClass E = some ce.cls → vx_W p l e R s m args below meth c H1 locs1 (cells + mc) (slots + ms) Q (F0 m pc ls rest) q9)
    (kk : ∀ (r : UInt64) (u : S) (t : State) (H1 : Heap) (locs1 : List Loc), t.heap = H1 → s.vm.Alike t.vm → post r u → B u t → H.size ≤ H1.size → (∀ q : Nat, q < H.size → ¬ A1 q → H1[q]? = H[q]?) → va_S A0 H0 H1 locs1 → W p l e R s m args below meth c H1 locs1 (cells + mc) (slots + ms) Q (F0 m (pc + 3) ls (.double r :: rest))) : W p l e R s m args below meth c H locs cells slots Q (F0 m pc ls st0) := by
  intro T hT X
  rcases hr T hT X with ⟨v, st₀, t, T', L, h0, X', hL, e1, e2, ⟨⟨r, u, hv, hp, hb⟩, hF⟩, st⟩ | ⟨q, st₀, t, T', L, E, ce, h0, X', hL, e1, e2, ⟨u, hp, hb, hF⟩, hce, hcv, hcl, st⟩
  · cases hv
    obtain ⟨k1, k2, k3⟩ := vx_keep h0 e1 hS hA hf hL hF
    obtain ⟨t2, a1, b1⟩ := kk r u t T'.heap (locs ++ L) e1.symm (by rw [← e2]; exact X'.warmed.alike) hp hb k1 k2 k3 T' rfl X'
    exact ⟨t2, st t2 a1, b1⟩
  · obtain ⟨k1, k2, k3⟩ := vx_keep h0 e1 hS hAX hf hL hF
    obtain ⟨t2, a1, b1⟩ := kx E ce q u t T'.heap (locs ++ L) e1.symm (by rw [← e2]; exact X'.warmed.alike) hp hb k1 k2 k3 (by rw [e1]; exact hce) hcv hcl T' rfl X'
    exact ⟨t2, st.trans a1, b1⟩
theorem vx_callv {S SX : Type} {post : S → Prop} {px : SX → Prop} {B : S → State → Prop} {BX : String → SX → State → Prop} {AX : Nat → Prop} (hr : vx_Run p l e R s m args below meth c H locs cells slots mc ms (F0 m pc ls st0) rest (va_Qv post B A1 a) (vx_X px BX AX) free) (hS : va_S A0 H0 H locs) (hA : ∀ q, q < H.size → A1 q → A0 q) (hf : ∀ q, free q → A0 q) (hAX : ∀ q, q < H.size → AX q → A0 q)
    (kx : ∀ (E : String) (ce : Cell) (q9 : Addr) (u : SX) (t : State) (H1 : Heap) (locs1 : List Loc), t.heap = H1 → s.vm.Alike t.vm → px u → BX E u t → H.size ≤ H1.size → (∀ q : Nat, q < H.size → ¬ AX q → H1[q]? = H[q]?) → va_S A0 H0 H1 locs1 → H1[q9]? = some ce → ce.vm = .none → s.vm.findClass E = some ce.cls → vx_W p l e R s m args below meth c H1 locs1 (cells + mc) (slots + ms) Q (F0 m pc ls rest) q9)
    (kk : ∀ (u : S) (t : State) (H1 : Heap) (locs1 : List Loc), t.heap = H1 → s.vm.Alike t.vm → post u → B u t → H.size ≤ H1.size → (∀ q : Nat, q < H.size → ¬ A1 q → H1[q]? = H[q]?) → va_S A0 H0 H1 locs1 → W p l e R s m args below meth c H1 locs1 (cells + mc) (slots + ms) Q (F0 m (pc + 3) ls (rest))) : W p l e R s m args below meth c H locs cells slots Q (F0 m pc ls st0) := by
  intro T hT X
  rcases hr T hT X with ⟨v, st₀, t, T', L, h0, X', hL, e1, e2, ⟨⟨u, hv, hp, hb⟩, hF⟩, st⟩ | ⟨q, st₀, t, T', L, E, ce, h0, X', hL, e1, e2, ⟨u, hp, hb, hF⟩, hce, hcv, hcl, st⟩
  · cases hv
    obtain ⟨k1, k2, k3⟩ := vx_keep h0 e1 hS hA hf hL hF
    obtain ⟨t2, a1, b1⟩ := kk u t T'.heap (locs ++ L) e1.symm (by rw [← e2]; exact X'.warmed.alike) hp hb k1 k2 k3 T' rfl X'
    exact ⟨t2, st t2 a1, b1⟩
  · obtain ⟨k1, k2, k3⟩ := vx_keep h0 e1 hS hAX hf hL hF
    obtain ⟨t2, a1, b1⟩ := kx E ce q u t T'.heap (locs ++ L) e1.symm (by rw [← e2]; exact X'.warmed.alike) hp hb k1 k2 k3 (by rw [e1]; exact hce) hcv hcl T' rfl X'
    exact ⟨t2, st.trans a1, b1⟩
/-- caught by the row x of this method's table; the rows ahead don't take it -/
theorem vx_catch {own name : String} {E : String} {ce : Cell} {q : Addr} (hown : s.vm.findClass own = some m.cls) (pre : List ExceptionTableEntry) (x : ExceptionTableEntry) (suf : List ExceptionTableEntry) (hsplit : c.exceptionTable.toList = pre ++ x :: suf)
    (hpass : ∀ z ∈ pre, covers z pc = false ∨ (z.catchType ≠ 0 ∧ ∃ nm : String, (Cond.classLink own z.catchType nm).before args s = true ∧ va_Nc E nm s)) (hx : covers x pc = true) (h0 : x.catchType ≠ 0)
    (hlink : (Cond.classLink own x.catchType name).before args s = true) (hcast : (Cond.castable E name).before args s = true) (hcell : H[q]? = some ce) (hv : ce.vm = .none) (hcl : s.vm.findClass E = some ce.cls)
    (kk : W p l e R s m args below meth c H locs cells slots Q (F0 m x.handlerPc ls [.ref q])) : vx_W p l e R s m args below meth c H locs cells slots Q (F0 m pc ls rest) q := by
  intro T hT X
  have hpl : e.platform.magicAccessors = ({} : Platform).magicAccessors := by rw [X.admits.platform]
  obtain ⟨c3, c4, hc3, hc4, hasg⟩ := Cond.castable_spec hcast
  cases Option.some.inj (hc3.symm.trans hcl)
  obtain ⟨c5, hc5, hcl5⟩ := Cond.classLink_spec hown hlink e.platform hpl
  cases Option.some.inj (hc4.symm.trans hc5)
  obtain ⟨vm', X', st⟩ := X.thenCaughtThrough q (g := F0 m pc ls rest) rfl (Steps.refl _) (by rw [hT]; exact hcell) (by rw [hv]; rfl) (by obtain ⟨k9, h9, -⟩ := Vm.findClass_spec hcl; exact ⟨k9, h9⟩) pre x suf hsplit
    (fun z hz => by
      rcases hpass z hz with h | ⟨hz0, nm, hl1, hn1⟩
      · exact Or.inl h
      · obtain ⟨c6, hc6, hcl6⟩ := Cond.classLink_spec hown hl1 e.platform hpl
        obtain ⟨a8, b8, h1, h2, h3⟩ := hn1
        cases Option.some.inj (h1.symm.trans hcl)
        cases Option.some.inj (h2.symm.trans hc6)
        exact Or.inr ⟨hz0, _, hcl6, h3⟩) hx (Or.inr ⟨h0, c4, hcl5, hasg⟩)
  obtain ⟨t, a1, b1⟩ := kk (T.setVm vm') hT X'
  exact ⟨t, st.trans a1, b1⟩
end Rows
section Ends
variable {p : Program} {l : Launch} {e : Env} {R : Room} {s : State} {m : MethodId} {args : Array Value} {below : List Frame} {meth : Method} {c : Code} {H : Heap} {locs : List Loc} {cells slots : Nat} {Q : State → Prop}
variable {mc ms : Nat} {free : Addr → Prop} {A0 A1 : Nat → Prop} {H0 : Heap} {a : Array Value} {ls : Array Slot} {st0 rest : List Value}
variable {Qc : Array Value → State → Outcome → State → Prop} {XC : String → State → State → Prop}
/-- what a body that may throw owes at its end -/
def vx_MQ (below : List Frame) (Qc : Array Value → State → Outcome → State → Prop) (XC : String → State → State → Prop) (a : Array Value) (s : State) (mc ms : Nat) (free : Addr → Prop) : State → Prop := fun t =>
  ∃ o, t.status = .running ∧ Ended t below o ∧ vx_Q Qc XC mc ms free a s o t
theorem vx_ret {g : JFrame} {mc ms : Nat} (k : W p l e R s m args below meth c H locs cells slots (MQ below Qc args s mc ms free) g) : W p l e R s m args below meth c H locs cells slots (vx_MQ below Qc XC args s mc ms free) g := by
  intro T hT X
  obtain ⟨t, a1, o, b1, b2, b3, b4⟩ := k T hT X
  exact ⟨t, a1, o, b1, b2, Or.inl ⟨b3, b4⟩⟩
/-- not caught here: it goes on to the caller -/
theorem vx_widen {g : JFrame} {q : Addr} {k n : Nat} (h1 : cells ≤ k) (h2 : slots ≤ n) (kk : vx_W p l e R s m args below meth c H locs k n Q g q) : vx_W p l e R s m args below meth c H locs cells slots Q g q := fun T hT X => kk T hT (stand_widen X h1 h2)
theorem vx_out {pc : Nat} {E : String} {ce : Cell} {q : Addr} {mc ms : Nat} (hout : ∀ x ∈ c.exceptionTable.toList, covers x pc = false) (hlocks : meth.locks = false) (hcell : H[q]? = some ce) (hv : ce.vm = .none) (hcl : s.vm.findClass E = some ce.cls)
    (hx : ∀ t : State, t.heap = H → s.vm.Alike t.vm → XC E s t) (hf : ∀ z ∈ locs, free z.base) (hc : cells ≤ mc) (hs : slots ≤ ms) :
    vx_W p l e R s m args below meth c H locs cells slots (vx_MQ below Qc XC args s mc ms free) (F0 m pc ls rest) q := by
  intro T hT X
  obtain ⟨st1, hrun, hend, hW, hsm⟩ := X.leaveThrown q (g := F0 m pc ls rest) rfl rfl rfl hout hlocks
  have hcell9 : (T.setFrames (.throwing q :: below)).heap[q]? = some ce := by
    show T.heap[q]? = some ce
    rw [hT]; exact hcell
  exact ⟨_, st1, .threw q, hrun, hend, Or.inr ⟨q, rfl, E, ce, locs, hx _ hT hW.alike, hcell9, hv, hcl, hW, hsm.mono hc hs, hf⟩⟩
theorem vx_frame {U : State} {k n : Nat} (h : s.sameButNew ({ U with vm := s.vm } : State) locs k n) : s.heap.size ≤ U.heap.size ∧ ∀ q : Nat, q < s.heap.size → (∀ z ∈ locs, z.base ≠ q) → U.heap[q]? = s.heap[q]? := by
  obtain ⟨-, h2, -, -, -, h6⟩ := h
  refine ⟨h2, fun q hq hz => ?_⟩
  obtain ⟨c9, e1, e2, e3, e4⟩ := h6 q _ (Array.getElem?_eq_getElem hq)
  have hs : c9.slots = (s.heap[q]).slots := Array.ext_getElem? fun i => e4 i fun hm => hz _ hm rfl
  have h9 : c9 = s.heap[q] := by
    rw [hs] at e2
    exact e2
  have e5 : U.heap[q]? = some c9 := e1
  rw [e5, h9, Array.getElem?_eq_getElem hq]
/-- the words of a throw but the four that speak of the heap -/
def vx_no (w : Cond) : Bool := decide (w ≠ .isRef (.static Bundle.tN "UNASSIGNED_STACK" Bundle.steD)) && decide (w ≠ .isRef (.static Bundle.tN "SUPPRESSED_SENTINEL" Bundle.listD)) && decide (w ≠ .laysStatic Bundle.tN "UNASSIGNED_STACK" Bundle.steD) && decide (w ≠ .laysStatic Bundle.tN "SUPPRESSED_SENTINEL" Bundle.listD)
def vx_at0 (own : String) (ic : Nat) (X : String) (names : List String) : List Cond := (Bundle.ownAtoms0 own ic X names).filter vx_no
def vx_atS (own : String) (ic : Nat) (X : String) (names : List String) : List Cond := (Bundle.ownAtoms own ic X names).filter vx_no
/-- a word that the tables alone decide, or a good one -/
def vx_ot (w : Cond) : Bool := w.onTables || goodWord w
theorem vx_ot_at {args a' : Array Value} {s U : State} {w : Cond} (hW : s.WarmedH U.vm) (hvm : s.vm = U.vm) (hg : vx_ot w = true) (h : w.before args s = true) : w.before a' U = true := by
  simp only [vx_ot, Bool.or_eq_true] at hg
  rcases hg with hg | hg
  · exact va_tabs hg hvm h
  · exact word_at hW (good_of_word hg) h
/-- a list's words: the good ones out of the method's own list, the others by premises of their own -/
theorem vx_hat {args : Array Value} {s : State} {L B : List Cond} (h1 : ∀ w ∈ L.filter goodWord, w.before args s = true) (h2 : ∀ w ∈ L.filter (fun w => !goodWord w), w ∈ B) (h3 : ∀ w ∈ B, w.before args s = true) : ∀ w ∈ L, w.before args s = true := by
  intro w hw
  by_cases g : goodWord w = true
  · exact h1 w (List.mem_filter.mpr ⟨hw, g⟩)
  · refine h3 w (h2 w (List.mem_filter.mpr ⟨hw, ?_⟩))
    show (!goodWord w) = true
    cases hgw : goodWord w
    · rfl
    · exact absurd hgw g
theorem vx_c {args : Array Value} {s : State} {w : Cond} {B : List Cond} (h : w.before args s = true) (t : ∀ w ∈ B, w.before args s = true) : ∀ w' ∈ w :: B, w'.before args s = true := fun w' h' => (List.mem_cons.mp h').elim (fun e => by rw [e]; exact h) (t w')
theorem vx_n {args : Array Value} {s : State} : ∀ w ∈ ([] : List Cond), w.before args s = true := fun _ h => nomatch h
theorem vx_own {args : Array Value} {s : State} {L : List Cond} (h1 : ∀ w ∈ L.filter vx_no, w.before args s = true)
    (hU : (Cond.isRef (.static Bundle.tN "UNASSIGNED_STACK" Bundle.steD)).before args s = true) (hN : (Cond.isRef (.static Bundle.tN "SUPPRESSED_SENTINEL" Bundle.listD)).before args s = true)
    (lU : (Cond.laysStatic Bundle.tN "UNASSIGNED_STACK" Bundle.steD).before args s = true) (lN : (Cond.laysStatic Bundle.tN "SUPPRESSED_SENTINEL" Bundle.listD).before args s = true) : ∀ w ∈ L, w.before args s = true := by
  intro w hw
  by_cases e1 : w = .isRef (.static Bundle.tN "UNASSIGNED_STACK" Bundle.steD)
  · rw [e1]; exact hU
  · by_cases e2 : w = .isRef (.static Bundle.tN "SUPPRESSED_SENTINEL" Bundle.listD)
    · rw [e2]; exact hN
    · by_cases e3 : w = .laysStatic Bundle.tN "UNASSIGNED_STACK" Bundle.steD
      · rw [e3]; exact lU
      · by_cases e4 : w = .laysStatic Bundle.tN "SUPPRESSED_SENTINEL" Bundle.listD
        · rw [e4]; exact lN
        · exact h1 w (List.mem_filter.mpr ⟨hw, by unfold vx_no; rw [decide_eq_true e1, decide_eq_true e2, decide_eq_true e3, decide_eq_true e4]; rfl⟩)
/-- where a static field lies, its class's statics cell in H -/
def vx_L (C n d : String) (A : Nat → Prop) (U : State) (H : Heap) : Prop := ∃ (c : ClassId) (k : Class) (i : Nat) (f : Field) (a : Nat) (cell : Cell), U.vm.findClass C = some c ∧ U.fieldFound? C n d = some (c, k, i, f) ∧ f.isStatic = true ∧ k.statics = some a ∧ H[a]? = some cell ∧ cell.vm.isStatics = true ∧ cell.cls = c ∧ f.slot < cell.slots.size ∧ k.staticTypes[f.slot]? = some f.type ∧ ¬ A a
theorem vx_L.moved {C n d : String} {A : Nat → Prop} {u U : State} {H : Heap} (hvm : u.vm.Alike U.vm) (h : vx_L C n d A u H) : vx_L C n d A U H := by
  obtain ⟨c, k, i, f, a, cell, h1, h2, h3, h4, h5, h6, h7, h8, h9, h10⟩ := h
  obtain ⟨k', hi', he⟩ := State.fieldFound?_setVm hvm h2
  exact ⟨c, k', i, f, a, cell, by rw [hvm.findClass]; exact h1, hi', h3, by rw [he]; exact h4, h5, h6, h7, h8, by rw [he]; exact h9, h10⟩
theorem vx_L.kept {C n d : String} {A : Nat → Prop} {U : State} {H H1 : Heap} (h : vx_L C n d A U H) (hq : ∀ a : Nat, a < H.size → ¬ A a → H1[a]? = H[a]?) : vx_L C n d A U H1 := by
  obtain ⟨c, k, i, f, a, cell, h1, h2, h3, h4, h5, h6, h7, h8, h9, h10⟩ := h
  exact ⟨c, k, i, f, a, cell, h1, h2, h3, h4, by rw [hq a (Array.getElem?_eq_some_iff.mp h5).1 h10]; exact h5, h6, h7, h8, h9, h10⟩
theorem vx_L.narrow {C n d : String} {A B : Nat → Prop} {U : State} {H : Heap} (h : vx_L C n d A U H) (hAB : ∀ q, B q → A q) : vx_L C n d B U H := by
  obtain ⟨c, k, i, f, a, cell, h1, h2, h3, h4, h5, h6, h7, h8, h9, h10⟩ := h
  exact ⟨c, k, i, f, a, cell, h1, h2, h3, h4, h5, h6, h7, h8, h9, fun z => h10 (hAB _ z)⟩
theorem vx_L.word {C n d : String} {A : Nat → Prop} {s : State} {args : Array Value} (h : vx_L C n d A s s.heap) : (Cond.laysStatic C n d).before args s = true := by
  obtain ⟨c, k, i, f, a, cell, h1, h2, h3, h4, h5, h6, h7, h8, h9, -⟩ := h
  show (Cond.laysStatic C n d).holds args s none s [] = true
  exact Cond.laysStatic_of h1 h2 h3 h4 h5 h6 h7 h8 h9
/-- .. and what it holds: null or some reference -/
def vx_Zq (C n d : String) (A : Nat → Prop) (U : State) (H : Heap) : Prop := va_Zq C n d A U H ∧ vx_L C n d A U H
theorem vx_Zq.moved {C n d : String} {A : Nat → Prop} {u U : State} {H : Heap} (hvm : u.vm.Alike U.vm) (h : vx_Zq C n d A u H) : vx_Zq C n d A U H := ⟨va_Zq.moved hvm h.1, vx_L.moved hvm h.2⟩
theorem vx_Zq.kept {C n d : String} {A : Nat → Prop} {U : State} {H H1 : Heap} (h : vx_Zq C n d A U H) (hq : ∀ a : Nat, a < H.size → ¬ A a → H1[a]? = H[a]?) : vx_Zq C n d A U H1 := ⟨va_Zq.kept h.1 hq, vx_L.kept h.2 hq⟩
theorem vx_Zq.narrow {C n d : String} {A B : Nat → Prop} {U : State} {H : Heap} (h : vx_Zq C n d A U H) (hAB : ∀ q, B q → A q) : vx_Zq C n d B U H := ⟨va_Zq.narrow h.1 hAB, vx_L.narrow h.2 hAB⟩
theorem vx_Zqof {args : Array Value} {s : State} {C n d : String} {A : Nat → Prop} (hl : (Cond.laysStatic C n d).before args s = true) (hini : (Cond.initialized C).before args s = true) (h : (Cond.isRef (.static C n d)).before args s = true) (hA : ∀ a : Nat, a < s.heap.size → ¬ A a) : vx_Zq C n d A s s.heap := by
  refine ⟨va_Zqof hl hini h hA, ?_⟩
  obtain ⟨c, k, i, f, a, cell, h1, h2, h3, h4, h5, h6, h7, h8, h9⟩ := Cond.laysStatic_spec hl
  exact ⟨c, k, i, f, a, cell, h1, h2, h3, h4, h5, h6, h7, h8, h9, hA a (Array.getElem?_eq_some_iff.mp h5).1⟩
theorem vx_isRef {C n d : String} {v : Value} {A : Nat → Prop} {s : State} {args : Array Value} (h : va_Z C n d v A s s.heap) (hv : v.isRef = true) : (Cond.isRef (.static C n d)).before args s = true := by
  obtain ⟨cf, kf, fi, f, a, cell, h1, h2, h3, h4, h5, h6, h7, -⟩ := h
  have he : (Term.static C n d).eval args s none [] s = some v := by
    simp [Term.eval, State.fieldNamed?, h1, h2, h4, h5, h6, h7]
  simp only [Cond.before, Cond.holds, Cond.value, he]
  cases v <;> simp_all [Value.isRef]
theorem vx_isRefq {C n d : String} {A : Nat → Prop} {s : State} {args : Array Value} (h : va_Zq C n d A s s.heap) : (Cond.isRef (.static C n d)).before args s = true := by
  rcases h with h | ⟨t, h⟩
  · exact vx_isRef h rfl
  · exact vx_isRef h rfl
/-- the same frame, seen from here: as if the method were called anew in this heap -/
theorem vx_rebase {T : State} (X : Stand p l e R s m args below meth c T locs cells slots) {R' : Room} (hf : R'.frames ≤ R.frames) (hl : R'.locals ≤ R.locals) (hc : cells + R'.cells ≤ R.cells) (hs : slots + R'.slots ≤ R.slots) :
    Stand p l e R' ((T.setVm s.vm).setFrames (.invoking m args :: below)) m args below meth c T [] 0 0 := by
  have htop : (T.setVm s.vm).topJava?.isSome := X.here.top
  have hF : ((T.setVm s.vm).setFrames (.invoking m args :: below)).frames = .invoking m args :: below := State.frames_setFrames _ (State.cur_lt_of_top htop)
  obtain ⟨g₀, hg0⟩ := Option.isSome_iff_exists.mp htop
  obtain ⟨r, hr⟩ := State.topJava?_eq_some.mp hg0
  have hl9 : e.platform.stackLimits (T.setVm s.vm).me = e.platform.stackLimits s.me := X.limits
  have hb9 : (T.setVm s.vm).me.stackBytes = s.me.stackBytes := X.bytes
  refine ⟨X.admits, X.cas, X.clock, hF, ?_, X.hears, X.method, X.code, X.here, X.tail, X.warmed, ?_, ?_, ?_⟩
  · have h := X.room
    have hU : ((T.setVm s.vm).setFrames (.invoking m args :: below)).localsInUse = s.localsInUse := by
      rw [State.localsInUse_invoking hF (meth := meth) (c := c) X.method X.code, State.localsInUse_invoking X.frames X.method X.code]
    simp only [State.hasRoom, Bool.and_eq_true, decide_eq_true_eq] at h ⊢
    obtain ⟨⟨⟨⟨h1, h2, h3, h4, h5, h6⟩, h7⟩, h8⟩, h9⟩ := h
    rw [X.frames, List.length_cons] at h2 h3
    have q1 := X.heapSize
    have q2 := X.used
    simp only [hF, hU, List.length_cons, State.stackLimits_setFrames, State.stackBytes_setFrames, hl9, hb9]
    refine ⟨⟨⟨⟨by omega, by omega, by omega, by omega, by omega, h6⟩, ?_⟩, ?_⟩, X.book⟩
    · show T.heap.size + R'.cells ≤ e.platform.maxCells
      omega
    · show T.slotsUsed + R'.slots ≤ e.platform.maxSlots
      omega
  · rw [State.stackLimits_setFrames]; rfl
  · rw [State.stackBytes_setFrames]; rfl
  · refine ⟨?_, Nat.le_refl _, Nat.le_refl _, ?_, ?_, fun a c9 h9 => ⟨c9, h9, rfl, rfl, fun _ _ => rfl⟩⟩
    · obtain ⟨t, ht, -⟩ := State.frames_cons hr
      show T.setVm s.vm = { ((T.setVm s.vm).setFrames (.invoking m args :: below)).setFrames (T.setVm s.vm).frames with heap := T.heap, slotsUsed := T.slotsUsed }
      rw [State.setFrames_setFrames, State.setFrames_self ht]
      rfl
    · show T.slotsUsed = T.slotsUsed + ((T.heap.toList.drop T.heap.size).map (·.slots.size)).sum
      rw [List.drop_eq_nil_of_le (Nat.le_of_eq Array.length_toList)]
      rfl
    · show ((T.heap.toList.drop T.heap.size).map (·.slots.size)).sum ≤ 0
      rw [List.drop_eq_nil_of_le (Nat.le_of_eq Array.length_toList)]
      exact Nat.le_refl _
/-- 'throw new E()': new; dup; invokespecial; athrow -/
theorem vx_throw0 {cc : ByteArray} {pc : Nat} (hexec : p.tables.exec = Jvm.exec) (hb : c.code = cc) (hl : l.stackTraces = false) {own cls : String} {names : List String} {ik ic mc ms : Nat} {A : Nat → Prop}
    (hown : s.vm.findClass own = some m.cls) (hcls : Bundle.fit cls = true) (hnames : ∀ n ∈ names, Bundle.fit n = true)
    (hk : (Cond.classLink own ik cls).before args s = true) (hini : (Cond.initialized cls).before args s = true) (hat : ∀ w ∈ vx_at0 own ic cls names, w.before args s = true)
    (hgood : ∀ w ∈ Cond.classLink own ik cls :: Cond.initialized cls :: vx_at0 own ic cls names, vx_ot w = true)
    (hU : vx_Zq Bundle.tN "UNASSIGNED_STACK" Bundle.steD A s s.heap) (hN : vx_Zq Bundle.tN "SUPPRESSED_SENTINEL" Bundle.listD A s s.heap) (hS : va_S A s.heap H locs) (hsize : ls.size = c.maxLocals)
    (d0 : decode cc pc = .ok (.new ik, 3)) (d3 : decode cc (pc + 3) = .ok (.dup, 1)) (d4 : decode cc (pc + 4) = .ok (.invokespecial ic, 3)) (d7 : decode cc (pc + 7) = .ok (.athrow, 1))
    (hout : ∀ x ∈ c.exceptionTable.toList, covers x (pc + 7) = false)
    (hRframes : names.length + 3 < R.frames) (hRlocals : (rest.map fun v => v.category).sum + (13 * (names.length + 1) + 42) ≤ R.locals) (hRcells : cells + 1 ≤ R.cells) (hRslots : slots + 6 ≤ R.slots) (hlocks : meth.locks = false)
    (hx : ∀ t : State, s.vm.Alike t.vm → H.size ≤ t.heap.size → (∀ q : Nat, q < H.size → t.heap[q]? = H[q]?) → XC cls s t)
    (hf : ∀ z ∈ locs, free z.base) (hc : cells + 1 ≤ mc) (hs : slots + 6 ≤ ms) :
    W p l e R s m args below meth c H locs cells slots (vx_MQ below Qc XC args s mc ms free) (F0 m pc ls rest) := by
  intro T hT X
  have htr : e.platform.stackTraces = false := (show e.platform.stackTraces = l.stackTraces by rw [X.admits.platform]).trans hl
  have Y := vx_rebase X (R' := { frames := R.frames, locals := R.locals, cells := 1, slots := 6 }) (Nat.le_refl _) (Nat.le_refl _) hRcells hRslots
  obtain ⟨s', hA⟩ : ∃ z, z = (T.setVm s.vm).setFrames (.invoking m args :: below) := ⟨_, rfl⟩
  rw [← hA] at Y
  have hvm : s'.vm = s.vm := by rw [hA]; rfl
  have hhp : s'.heap = H := by rw [hA]; exact hT
  have hW0 : s.WarmedH s'.vm := by rw [hvm]; exact State.WarmedH.refl s
  have hat' : ∀ w ∈ vx_at0 own ic cls names, w.before args s' = true := fun w hw => vx_ot_at hW0 hvm.symm (hgood w (List.mem_cons_of_mem _ (List.mem_cons_of_mem _ hw))) (hat w hw)
  have hk' : (Cond.classLink own ik cls).before args s' = true := vx_ot_at hW0 hvm.symm (hgood _ List.mem_cons_self) hk
  have hini' : (Cond.initialized cls).before args s' = true := vx_ot_at hW0 hvm.symm (hgood _ (List.mem_cons_of_mem _ List.mem_cons_self)) hini
  have hU' : vx_Zq Bundle.tN "UNASSIGNED_STACK" Bundle.steD A s' s'.heap := by rw [hhp]; exact vx_Zq.moved hW0.alike (hU.kept hS.2.1)
  have hN' : vx_Zq Bundle.tN "SUPPRESSED_SENTINEL" Bundle.listD A s' s'.heap := by rw [hhp]; exact vx_Zq.moved hW0.alike (hN.kept hS.2.1)
  have h : ∀ w ∈ Bundle.ownAtoms0 own ic cls names, w.before args s' = true := vx_own hat' (vx_isRefq hU'.1) (vx_isRefq hN'.1) hU'.2.word hN'.2.word
  have hown' : s'.vm.findClass own = some m.cls := by rw [hvm]; exact hown
  have hins : (Cond.instantiable cls 6).before args s' = true := h _ (by simp [Bundle.ownAtoms0])
  obtain ⟨vm₁, cX, kX, hfX, hkX, -, -, X₁, st1⟩ := Y.newCold hexec (own := own) (C := cls) (index := ik) (n := 6) hown' hk' hins hini'
    (g := F0 m pc ls rest) rfl (by rw [hb]; exact d0) (Nat.le_refl _) (Nat.le_refl _)
  generalize hT1 : (T.setVm vm₁).pushCell { cls := cX, slots := kX.instanceTypes.map defaultValue, vm := .none } = T1 at X₁ st1
  have hcat : (Value.ref T.heap.size).category = 1 := rfl
  have hcellA : T1.heap[T.heap.size]? = some (freshCell cX kX) := by rw [← hT1]; exact State.heap_pushCell_size _ _
  have d3' : decode c.code (pc + 3) = .ok (.dup, 1) := by rw [hb]; exact d3
  obtain ⟨U, hsteps, hrun, hend, hW, hsame, ce, hce, hO⟩ := X₁.ctorThrow0 hexec htr (own := own) (cls := cls) (names := names) (ic := ic) hown' hcls hnames h (fun x hx => nomatch hx) hfX hkX hcellA (by rw [hhp, hT]; exact Nat.le_refl _)
    (g := { method := m, pc := pc + 4, locals := ls, stack := .ref T.heap.size :: .ref T.heap.size :: rest, locked := none }) rfl hsize rfl rfl (rest := rest) rfl
    (by rw [hb]; exact d4) (by rw [hb]; exact d7) hout hRframes (by simp only [List.map_cons, List.sum_cons, hcat]; omega) hlocks
  obtain ⟨f1, f2⟩ := vx_frame hsame
  rw [hhp] at f1 f2
  have hWs : s.WarmedH U.vm := State.WarmedH.trans hW0 hW
  have hcl : s.vm.findClass cls = some ce.cls := by
    have h9 := hO.cls
    rw [hvm] at h9
    exact h9
  have hall : s.sameButNew ({ U with vm := s.vm } : State) locs mc ms := by
    subst hA
    obtain ⟨e1, e2⟩ := hsame
    rw [State.setFrames_setFrames] at e1
    have h2 : (T.setVm s.vm).sameButNew ({ U with vm := s.vm } : State) [] (0 + 1) (0 + 6) := ⟨e1, e2⟩
    have h3 := X.same.trans h2
    rw [List.append_nil] at h3
    exact h3.mono hc hs
  refine ⟨U, ?_, .threw T.heap.size, hrun, hend, Or.inr ⟨T.heap.size, rfl, cls, ce, locs, hx U hWs.alike f1 (fun q hq => f2 q hq (fun z hz => nomatch hz)), hce, hO.vm, hcl, hWs, hall, hf⟩⟩
  refine st1 _ ?_
  show Steps p.tables e below (T1.setTop { method := m, pc := pc + 3, locals := ls, stack := .ref T.heap.size :: rest, locked := none }) _
  jvm_step X₁.here [X₁.here.top, hexec, d3', Value.category]
  exact hsteps
/-- 'throw new E("text")': new; dup; ldc; invokespecial; athrow -/
theorem vx_throwS {cc : ByteArray} {pc : Nat} (hexec : p.tables.exec = Jvm.exec) (hb : c.code = cc) (hl : l.stackTraces = false) {own cls text : String} {names : List String} {ik is ic mc ms sa : Nat} {A : Nat → Prop}
    (hown : s.vm.findClass own = some m.cls) (hcls : Bundle.fit cls = true) (hnames : ∀ n ∈ names, Bundle.fit n = true)
    (hk : (Cond.classLink own ik cls).before args s = true) (hini : (Cond.initialized cls).before args s = true) (hstr : vk_R own is text sa s) (hat : ∀ w ∈ vx_atS own ic cls names, w.before args s = true)
    (hgood : ∀ w ∈ Cond.classLink own ik cls :: Cond.initialized cls :: vx_atS own ic cls names, vx_ot w = true)
    (hU : vx_Zq Bundle.tN "UNASSIGNED_STACK" Bundle.steD A s s.heap) (hN : vx_Zq Bundle.tN "SUPPRESSED_SENTINEL" Bundle.listD A s s.heap) (hS : va_S A s.heap H locs) (hsize : ls.size = c.maxLocals)
    (d0 : decode cc pc = .ok (.new ik, 3)) (d3 : decode cc (pc + 3) = .ok (.dup, 1)) (d4 : decode cc (pc + 4) = .ok (.ldc is, 2)) (d6 : decode cc (pc + 6) = .ok (.invokespecial ic, 3)) (d9 : decode cc (pc + 9) = .ok (.athrow, 1))
    (hout : ∀ x ∈ c.exceptionTable.toList, covers x (pc + 9) = false)
    (hRframes : names.length + 3 < R.frames) (hRlocals : (rest.map fun v => v.category).sum + (13 * (names.length + 1) + 43) ≤ R.locals) (hRcells : cells + 1 ≤ R.cells) (hRslots : slots + 6 ≤ R.slots) (hlocks : meth.locks = false)
    (hx : ∀ t : State, s.vm.Alike t.vm → H.size ≤ t.heap.size → (∀ q : Nat, q < H.size → t.heap[q]? = H[q]?) → XC cls s t)
    (hf : ∀ z ∈ locs, free z.base) (hc : cells + 1 ≤ mc) (hs : slots + 6 ≤ ms) :
    W p l e R s m args below meth c H locs cells slots (vx_MQ below Qc XC args s mc ms free) (F0 m pc ls rest) := by
  intro T hT X
  have htr : e.platform.stackTraces = false := (show e.platform.stackTraces = l.stackTraces by rw [X.admits.platform]).trans hl
  have Y := vx_rebase X (R' := { frames := R.frames, locals := R.locals, cells := 1, slots := 6 }) (Nat.le_refl _) (Nat.le_refl _) hRcells hRslots
  obtain ⟨s', hA⟩ : ∃ z, z = (T.setVm s.vm).setFrames (.invoking m args :: below) := ⟨_, rfl⟩
  rw [← hA] at Y
  have hvm : s'.vm = s.vm := by rw [hA]; rfl
  have hhp : s'.heap = H := by rw [hA]; exact hT
  have hW0 : s.WarmedH s'.vm := by rw [hvm]; exact State.WarmedH.refl s
  have hat' : ∀ w ∈ vx_atS own ic cls names, w.before args s' = true := fun w hw => vx_ot_at hW0 hvm.symm (hgood w (List.mem_cons_of_mem _ (List.mem_cons_of_mem _ hw))) (hat w hw)
  have hk' : (Cond.classLink own ik cls).before args s' = true := vx_ot_at hW0 hvm.symm (hgood _ List.mem_cons_self) hk
  have hini' : (Cond.initialized cls).before args s' = true := vx_ot_at hW0 hvm.symm (hgood _ (List.mem_cons_of_mem _ List.mem_cons_self)) hini
  have hU' : vx_Zq Bundle.tN "UNASSIGNED_STACK" Bundle.steD A s' s'.heap := by rw [hhp]; exact vx_Zq.moved hW0.alike (hU.kept hS.2.1)
  have hN' : vx_Zq Bundle.tN "SUPPRESSED_SENTINEL" Bundle.listD A s' s'.heap := by rw [hhp]; exact vx_Zq.moved hW0.alike (hN.kept hS.2.1)
  have h : ∀ w ∈ Bundle.ownAtoms own ic cls names, w.before args s' = true := vx_own hat' (vx_isRefq hU'.1) (vx_isRefq hN'.1) hU'.2.word hN'.2.word
  have hown' : s'.vm.findClass own = some m.cls := by rw [hvm]; exact hown
  have hins : (Cond.instantiable cls 6).before args s' = true := h _ (by simp [Bundle.ownAtoms])
  obtain ⟨vm₁, cX, kX, hfX, hkX, -, -, X₁, st1⟩ := Y.newCold hexec (own := own) (C := cls) (index := ik) (n := 6) hown' hk' hins hini'
    (g := F0 m pc ls rest) rfl (by rw [hb]; exact d0) (Nat.le_refl _) (Nat.le_refl _)
  generalize hT1 : (T.setVm vm₁).pushCell { cls := cX, slots := kX.instanceTypes.map defaultValue, vm := .none } = T1 at X₁ st1
  have hcat : (Value.ref T.heap.size).category = 1 := rfl
  have hcellA : T1.heap[T.heap.size]? = some (freshCell cX kX) := by rw [← hT1]; exact State.heap_pushCell_size _ _
  have d3' : decode c.code (pc + 3) = .ok (.dup, 1) := by rw [hb]; exact d3
  have d4' : decode c.code (pc + 4) = .ok (.ldc is, 2) := by rw [hb]; exact d4
  have hstr' : vk_R own is text sa s' := vk_R.warm hW0 hstr
  obtain ⟨U, hsteps, hrun, hend, hW, hsame, ce, hce, hO⟩ := X₁.ctorThrowS hexec htr (own := own) (cls := cls) (names := names) (ic := ic) hown' hcls hnames h (fun x hx => nomatch hx) hfX hkX hcellA (by rw [hhp, hT]; exact Nat.le_refl _) (msg := .ref sa) rfl
    (g := { method := m, pc := pc + 6, locals := ls, stack := .ref sa :: .ref T.heap.size :: .ref T.heap.size :: rest, locked := none }) rfl hsize rfl rfl (rest := rest) rfl
    (by rw [hb]; exact d6) (by rw [hb]; exact d9) hout hRframes (by simp only [List.map_cons, List.sum_cons, hcat]; omega) hlocks
  obtain ⟨f1, f2⟩ := vx_frame hsame
  rw [hhp] at f1 f2
  have hWs : s.WarmedH U.vm := State.WarmedH.trans hW0 hW
  have hcl : s.vm.findClass cls = some ce.cls := by
    have h9 := hO.cls
    rw [hvm] at h9
    exact h9
  have hall : s.sameButNew ({ U with vm := s.vm } : State) locs mc ms := by
    subst hA
    obtain ⟨e1, e2⟩ := hsame
    rw [State.setFrames_setFrames] at e1
    have h2 : (T.setVm s.vm).sameButNew ({ U with vm := s.vm } : State) [] (0 + 1) (0 + 6) := ⟨e1, e2⟩
    have h3 := X.same.trans h2
    rw [List.append_nil] at h3
    exact h3.mono hc hs
  refine ⟨U, ?_, .threw T.heap.size, hrun, hend, Or.inr ⟨T.heap.size, rfl, cls, ce, locs, hx U hWs.alike f1 (fun q hq => f2 q hq (fun z hz => nomatch hz)), hce, hO.vm, hcl, hWs, hall, hf⟩⟩
  refine st1 _ ?_
  show Steps p.tables e below (T1.setTop { method := m, pc := pc + 3, locals := ls, stack := .ref T.heap.size :: rest, locked := none }) _
  jvm_step X₁.here [X₁.here.top, hexec, d3', Value.category]
  exact X₁.ldcString hexec (own := own) (text := text) (index := is) (a := sa) hown' hstr'.1 hstr'.2
    (g := { method := m, pc := pc + 4, locals := ls, stack := .ref T.heap.size :: .ref T.heap.size :: rest, locked := none }) rfl d4' _ hsteps
/-- 'throw new E("text")', the text by a wide index -/
theorem vx_throwSW {cc : ByteArray} {pc : Nat} (hexec : p.tables.exec = Jvm.exec) (hb : c.code = cc) (hl : l.stackTraces = false) {own cls text : String} {names : List String} {ik is ic mc ms sa : Nat} {A : Nat → Prop}
    (hown : s.vm.findClass own = some m.cls) (hcls : Bundle.fit cls = true) (hnames : ∀ n ∈ names, Bundle.fit n = true)
    (hk : (Cond.classLink own ik cls).before args s = true) (hini : (Cond.initialized cls).before args s = true) (hstr : vk_R own is text sa s) (hat : ∀ w ∈ vx_atS own ic cls names, w.before args s = true)
    (hgood : ∀ w ∈ Cond.classLink own ik cls :: Cond.initialized cls :: vx_atS own ic cls names, vx_ot w = true)
    (hU : vx_Zq Bundle.tN "UNASSIGNED_STACK" Bundle.steD A s s.heap) (hN : vx_Zq Bundle.tN "SUPPRESSED_SENTINEL" Bundle.listD A s s.heap) (hS : va_S A s.heap H locs) (hsize : ls.size = c.maxLocals)
    (d0 : decode cc pc = .ok (.new ik, 3)) (d3 : decode cc (pc + 3) = .ok (.dup, 1)) (d4 : decode cc (pc + 4) = .ok (.ldc_w is, 3)) (d7 : decode cc (pc + 7) = .ok (.invokespecial ic, 3)) (d10 : decode cc (pc + 10) = .ok (.athrow, 1))
    (hout : ∀ x ∈ c.exceptionTable.toList, covers x (pc + 10) = false)
    (hRframes : names.length + 3 < R.frames) (hRlocals : (rest.map fun v => v.category).sum + (13 * (names.length + 1) + 43) ≤ R.locals) (hRcells : cells + 1 ≤ R.cells) (hRslots : slots + 6 ≤ R.slots) (hlocks : meth.locks = false)
    (hx : ∀ t : State, s.vm.Alike t.vm → H.size ≤ t.heap.size → (∀ q : Nat, q < H.size → t.heap[q]? = H[q]?) → XC cls s t)
    (hf : ∀ z ∈ locs, free z.base) (hc : cells + 1 ≤ mc) (hs : slots + 6 ≤ ms) :
    W p l e R s m args below meth c H locs cells slots (vx_MQ below Qc XC args s mc ms free) (F0 m pc ls rest) := by
  intro T hT X
  have htr : e.platform.stackTraces = false := (show e.platform.stackTraces = l.stackTraces by rw [X.admits.platform]).trans hl
  have Y := vx_rebase X (R' := { frames := R.frames, locals := R.locals, cells := 1, slots := 6 }) (Nat.le_refl _) (Nat.le_refl _) hRcells hRslots
  obtain ⟨s', hA⟩ : ∃ z, z = (T.setVm s.vm).setFrames (.invoking m args :: below) := ⟨_, rfl⟩
  rw [← hA] at Y
  have hvm : s'.vm = s.vm := by rw [hA]; rfl
  have hhp : s'.heap = H := by rw [hA]; exact hT
  have hW0 : s.WarmedH s'.vm := by rw [hvm]; exact State.WarmedH.refl s
  have hat' : ∀ w ∈ vx_atS own ic cls names, w.before args s' = true := fun w hw => vx_ot_at hW0 hvm.symm (hgood w (List.mem_cons_of_mem _ (List.mem_cons_of_mem _ hw))) (hat w hw)
  have hk' : (Cond.classLink own ik cls).before args s' = true := vx_ot_at hW0 hvm.symm (hgood _ List.mem_cons_self) hk
  have hini' : (Cond.initialized cls).before args s' = true := vx_ot_at hW0 hvm.symm (hgood _ (List.mem_cons_of_mem _ List.mem_cons_self)) hini
  have hU' : vx_Zq Bundle.tN "UNASSIGNED_STACK" Bundle.steD A s' s'.heap := by rw [hhp]; exact vx_Zq.moved hW0.alike (hU.kept hS.2.1)
  have hN' : vx_Zq Bundle.tN "SUPPRESSED_SENTINEL" Bundle.listD A s' s'.heap := by rw [hhp]; exact vx_Zq.moved hW0.alike (hN.kept hS.2.1)
  have h : ∀ w ∈ Bundle.ownAtoms own ic cls names, w.before args s' = true := vx_own hat' (vx_isRefq hU'.1) (vx_isRefq hN'.1) hU'.2.word hN'.2.word
  have hown' : s'.vm.findClass own = some m.cls := by rw [hvm]; exact hown
  have hins : (Cond.instantiable cls 6).before args s' = true := h _ (by simp [Bundle.ownAtoms])
  obtain ⟨vm₁, cX, kX, hfX, hkX, -, -, X₁, st1⟩ := Y.newCold hexec (own := own) (C := cls) (index := ik) (n := 6) hown' hk' hins hini'
    (g := F0 m pc ls rest) rfl (by rw [hb]; exact d0) (Nat.le_refl _) (Nat.le_refl _)
  generalize hT1 : (T.setVm vm₁).pushCell { cls := cX, slots := kX.instanceTypes.map defaultValue, vm := .none } = T1 at X₁ st1
  have hcat : (Value.ref T.heap.size).category = 1 := rfl
  have hcellA : T1.heap[T.heap.size]? = some (freshCell cX kX) := by rw [← hT1]; exact State.heap_pushCell_size _ _
  have d3' : decode c.code (pc + 3) = .ok (.dup, 1) := by rw [hb]; exact d3
  have d4' : decode c.code (pc + 4) = .ok (.ldc_w is, 3) := by rw [hb]; exact d4
  have hstr' : vk_R own is text sa s' := vk_R.warm hW0 hstr
  obtain ⟨U, hsteps, hrun, hend, hW, hsame, ce, hce, hO⟩ := X₁.ctorThrowS hexec htr (own := own) (cls := cls) (names := names) (ic := ic) hown' hcls hnames h (fun x hx => nomatch hx) hfX hkX hcellA (by rw [hhp, hT]; exact Nat.le_refl _) (msg := .ref sa) rfl
    (g := { method := m, pc := pc + 7, locals := ls, stack := .ref sa :: .ref T.heap.size :: .ref T.heap.size :: rest, locked := none }) rfl hsize rfl rfl (rest := rest) rfl
    (by rw [hb]; exact d7) (by rw [hb]; exact d10) hout hRframes (by simp only [List.map_cons, List.sum_cons, hcat]; omega) hlocks
  obtain ⟨f1, f2⟩ := vx_frame hsame
  rw [hhp] at f1 f2
  have hWs : s.WarmedH U.vm := State.WarmedH.trans hW0 hW
  have hcl : s.vm.findClass cls = some ce.cls := by
    have h9 := hO.cls
    rw [hvm] at h9
    exact h9
  have hall : s.sameButNew ({ U with vm := s.vm } : State) locs mc ms := by
    subst hA
    obtain ⟨e1, e2⟩ := hsame
    rw [State.setFrames_setFrames] at e1
    have h2 : (T.setVm s.vm).sameButNew ({ U with vm := s.vm } : State) [] (0 + 1) (0 + 6) := ⟨e1, e2⟩
    have h3 := X.same.trans h2
    rw [List.append_nil] at h3
    exact h3.mono hc hs
  refine ⟨U, ?_, .threw T.heap.size, hrun, hend, Or.inr ⟨T.heap.size, rfl, cls, ce, locs, hx U hWs.alike f1 (fun q hq => f2 q hq (fun z hz => nomatch hz)), hce, hO.vm, hcl, hWs, hall, hf⟩⟩
  refine st1 _ ?_
  show Steps p.tables e below (T1.setTop { method := m, pc := pc + 3, locals := ls, stack := .ref T.heap.size :: rest, locked := none }) _
  jvm_step X₁.here [X₁.here.top, hexec, d3', Value.category]
  exact X₁.ldcStringW hexec (own := own) (text := text) (index := is) (a := sa) hown' hstr'.1 hstr'.2
    (g := { method := m, pc := pc + 4, locals := ls, stack := .ref T.heap.size :: .ref T.heap.size :: rest, locked := none }) rfl d4' _ hsteps
end Ends
section Bodies
variable {l : Launch}
theorem vx_ofW {y : MethodName} {ws ws' : List Cond} {rm : Room} {Pc : Array Value → State → Prop} {Qc : Array Value → State → Outcome → State → Prop} {XC : String → State → State → Prop} {mc ms : Nat} {free : Addr → Prop} {cc : ByteArray} {maxL : Nat} {ret : Option FieldType}
    (hy : plainName y.cls = true) (hw : ws = Cond.code y cc maxL ret :: ws')
    (body : ∀ p e s m args below meth c s₁, BodyLoose p l y (headSpec ws rm) cc maxL ret e s m args below meth c s₁ → c.maxLocals = maxL → (∀ x ∈ c.exceptionTable.toList, False) → Pc args s →
      W p l e (headSpec ws rm).room s m args below meth c s.heap [] 0 0 (vx_MQ below Qc XC args s mc ms free) (entryFrame m args maxL)) : vx_Met l y ws rm Pc Qc XC mc ms free := by
  refine MetFree.of_bodyS (code := cc) (maxLocals := maxL) (ret := ret) hy ?_ ?_
  · intro args s m h hn
    obtain ⟨meth, c, h1, h2, h3, h4, h5, h6, -, -⟩ := Cond.code_spec hn (atoms_spec (ws := ws) h _ (by rw [hw]; exact List.mem_cons_self))
    exact ⟨meth, c, h1, h2, h3, h4, h5, h6⟩
  · intro p e s m args below meth c s₁ B hml hP _
    have hh0 : s₁.heap = s.heap := by rw [B.state]; rfl
    have ht : ∀ x ∈ c.exceptionTable.toList, False := by
      obtain ⟨meth9, c9, h1, h2, -, -, -, -, h7, -⟩ := Cond.code_spec B.named (atoms_spec (ws := ws) B.pre _ (by rw [hw]; exact List.mem_cons_self))
      cases Option.some.inj (h1.symm.trans B.method)
      cases Option.some.inj (h2.symm.trans (Stand.of_body B).code)
      intro x hx
      rw [Array.isEmpty_iff.mp h7] at hx
      cases hx
    obtain ⟨t, a1, o, b1, b2, b3⟩ := body p e s m args below meth c s₁ B hml ht hP s₁ hh0 (Stand.of_body B)
    exact ⟨t, o, a1, b1, b2, b3⟩
/-- the table of a body with handlers -/
theorem vx_table {p : Program} {x y : MethodName} {S : Spec} {cc bytes : ByteArray} {maxL maxL' : Nat} {ret ret' : Option FieldType} {e : Env} {s s₁ : State} {m : MethodId} {args : Array Value} {below : List Frame} {meth : Method} {c : Code} {hh : List (Nat × Nat × Nat × Nat)}
    (B : BodyLoose p l y S cc maxL ret e s m args below meth c s₁) (h : (Cond.codeWith y bytes maxL' ret' hh).before args s = true) : c.exceptionTable.toList = tableOf hh := by
  obtain ⟨m9, meth9, c9, hn9, h1, h2, -, -, h6, -⟩ := Cond.codeWith_spec h
  cases Option.some.inj (hn9.symm.trans B.named)
  cases Option.some.inj (h1.symm.trans B.method)
  cases Option.some.inj (h2.symm.trans (Stand.of_body B).code)
  rw [← h6, table_eq]
end Bodies
end VXA
/-! ===== END ===== -/
/-! ===== BEGIN a static call of a method with an exception table ===== -/
section VXS
variable {p : Program} {l : Launch} {e : Env} {R : Room} {s : State} {m : MethodId} {args : Array Value} {below : List Frame} {meth : Method} {c : Code} {T : State} {H : Heap} {locs : List Loc} {cells slots : Nat}
abbrev vx_CSW (R : Room) (s : State) (args : Array Value) (own : String) (index : Nat) (y : MethodName) (bytes : ByteArray) (maxL : Nat) (ret : Option FieldType) (hh : List (Nat × Nat × Nat × Nat)) (ws : List Cond) (rm : Room) (mc ms n : Nat) : Prop :=
  (rm.cells = mc ∧ rm.slots = ms ∧ rm.frames + 1 ≤ R.frames ∧ 8 + (maxL + 11) + rm.locals ≤ R.locals ∧ (∀ w ∈ ws, ∀ (a' : Array Value) (U : State), s.WarmedH U.vm → w.before a' U = true) ∧ Cond.codeWith y bytes maxL ret hh ∈ ws) ∧
  (Cond.codeWith y bytes maxL ret hh).before args s = true ∧ (Cond.initialized y.cls).before args s = true ∧ (y.cls ≠ "java/lang/invoke/MethodHandle" ∧ y.cls ≠ "java/lang/invoke/VarHandle") ∧
  (∀ sig, parseMethodDescriptor y.desc = some sig → n = sig.parameters.length) ∧ (Cond.methodLink own index y).before args s = true ∧ (Cond.static y).before args s = true
theorem vx_cwSW {own : String} {index maxL mc ms : Nat} {y : MethodName} {bytes : ByteArray} {ret : Option FieldType} {hh : List (Nat × Nat × Nat × Nat)} {Ts ws ws' : List Cond} {rm : Room} (n : Nat) (ht : ∀ w ∈ Ts, w.before args s = true) (hT : GoodIn Ts (va_wsS own index y ws)) (hw : ws = Cond.codeWith y bytes maxL ret hh :: ws') (hrc : rm.cells = mc) (hrs : rm.slots = ms)
    (hd : y.cls ≠ "java/lang/invoke/MethodHandle" ∧ y.cls ≠ "java/lang/invoke/VarHandle" ∧ (parseMethodDescriptor y.desc).map (fun d => d.parameters.length) = some n) (hR : rm.frames + 1 ≤ R.frames ∧ 8 + (maxL + 11) + rm.locals ≤ R.locals) :
    vx_CSW R s args own index y bytes maxL ret hh ws rm mc ms n := by
  have ok : ∀ w ∈ va_wsS own index y ws, w.before args s = true := fun w h => ht w (hT w h).1
  have hG : GoodIn Ts ws := fun w h => hT w (by unfold va_wsS; exact List.mem_append_right _ h)
  have hc : Cond.codeWith y bytes maxL ret hh ∈ ws := by rw [hw]; exact List.mem_cons_self
  refine ⟨⟨hrc, hrs, hR.1, hR.2, pay_in ht hG, hc⟩, ht _ (hG _ hc).1, ok _ (by simp [va_wsS]), ⟨hd.1, hd.2.1⟩, fun sig h => ?_, ok _ (by simp [va_wsS]), ok _ (by simp [va_wsS])⟩
  have h2 := hd.2.2
  rw [h] at h2
  exact (Option.some.inj h2).symm
theorem vx_callSW (X : Stand p l e R s m args below meth c T locs cells slots) (hexec : p.tables.exec = Jvm.exec) {own : String} {index : Nat} {y : MethodName} {bytes : ByteArray} {maxL : Nat} {ret : Option FieldType} {hh : List (Nat × Nat × Nat × Nat)}
    (hown : s.vm.findClass own = some m.cls) (hlink : (Cond.methodLink own index y).before args s = true) (hstat : (Cond.static y).before args s = true) (hinit : (Cond.initialized y.cls).before args s = true)
    (hcode : (Cond.codeWith y bytes maxL ret hh).before args s = true) (hy : y.cls ≠ "java/lang/invoke/MethodHandle" ∧ y.cls ≠ "java/lang/invoke/VarHandle")
    {W9 : Nat} {Pre : Pt → Array Value → Prop} {Post : Pt → Array Value → Option Value → Pt → Prop} (hK : Back l R p e below s args y 3 W9 Pre Post)
    {g : JFrame} (hg : g.method = m) (hsize : g.locals.size = c.maxLocals) {argsL rest : List Value} (hlen : ∀ sig, parseMethodDescriptor y.desc = some sig → argsL.length = sig.parameters.length)
    (hstack : g.stack = argsL.reverse ++ rest) (hW : 2 * g.monitorRoom + (rest.map fun v => v.category).sum ≤ W9) (hdg : decode c.code g.pc = .ok (.invokestatic index, 3))
    (hpre : ∀ vm₁, s.WarmedH vm₁ → Pre ⟨T.setVm vm₁, locs, cells, slots⟩ argsL.toArray) :
    ∃ (v : Option Value) (vm₁ : Vm) (B : Pt), s.WarmedH vm₁ ∧ Stand p l e R s m args below meth c B.U B.locs B.cells B.slots ∧ Post ⟨T.setVm vm₁, locs, cells, slots⟩ argsL.toArray v B ∧
      ∀ target, Steps p.tables e below (B.U.setTop { g with pc := g.pc + 3, stack := v.toList ++ rest }) target → Steps p.tables e below (T.setTop g) target := by
  obtain ⟨mk, methM, cM, hnamed, hmethM, -, -, -, -, -, -, hsigM⟩ := Cond.codeWith_spec hcode
  have hstatic : methM.isStatic = true := Cond.static_spec hnamed hmethM hstat
  obtain ⟨kP, hkP, -⟩ := className_of_methodNamed hnamed
  have hinitP : kP.init = .initialized := Cond.initialized_spec (findClass_of_methodNamed hnamed) hkP hinit
  obtain ⟨vm₁, X₁, hstep₁⟩ := X.invokestatic hexec hown hlink hnamed hmethM hstatic hkP hinitP hy (g := g) hg (argsL := argsL) (rest := rest) (hlen _ hsigM) hstack hdg
  obtain ⟨v, B, X', hpost, hsteps⟩ := hK m meth c ⟨T.setVm vm₁, locs, cells, slots⟩ { g with stack := rest } (.invokestatic index) mk argsL.toArray X₁ hg hsize hdg hW (X₁.named hnamed) (hpre vm₁ X₁.warmed)
  exact ⟨v, vm₁, B, X₁.warmed, X', hpost, fun target h => hstep₁ _ fun acts => by rw [doInvoke_state]; exact hsteps.trans h⟩
theorem vx_runSW {y : MethodName} {bytes cc : ByteArray} {maxL nL mc ms n index : Nat} {ret : Option FieldType} {hh : List (Nat × Nat × Nat × Nat)} {ws : List Cond} {rm : Room} {Pc : Array Value → State → Prop} {Qc : Array Value → State → Outcome → State → Prop} {free : Addr → Prop} {Ts : List Cond} {own : String} {As rest : List Value} {g : JFrame}
    (S : CallFix p m c cc nL s args Ts own) (hM : Met l y ws rm Pc Qc mc ms free) (cw : vx_CSW R s args own index y bytes maxL ret hh ws rm mc ms n) (hp : PreS s H Pc As)
    (hg : g.method = m) (hn : As.length = n) (hsize : g.locals.size = nL) (hstack : g.stack = As.reverse ++ rest) (hW : 2 * g.monitorRoom + (rest.map fun v => v.category).sum ≤ 8) (hdg : decode cc g.pc = .ok (.invokestatic index, 3)) (hf : cells + mc ≤ R.cells ∧ slots + ms ≤ R.slots) :
    va_Run p l e R s m args below meth c H locs cells slots mc ms g rest (Qc As.toArray) (free) := by
  obtain ⟨⟨hrc, hrs, hfr, hlo, hws, hcw⟩, hcode, hini, hy, hlen, hl, hstt⟩ := cw
  have hK : Back l R p e below s args y 3 8 (PreOf R mc ms Pc) (PostOf Qc mc ms free) := va_backW (hh := hh) (bytes := bytes) (maxL := maxL) (ret := ret) hM hp.1 hrc hrs hfr hlo hws hcw (fun a' U hW => word_at hW (Or.inl (by first | rfl | simp [Cond.onTables, Cond.keeps, Cond.steady])) hini)
  obtain ⟨hx, hb, hml, ho, -⟩ := S
  intro T hT X
  obtain ⟨v, vm₁, ⟨U', l2, c2, s2⟩, hW₁, X', ⟨g', mk, t, L, e1, e2, hq, h1, hL, h2, h3⟩, st⟩ := vx_callSW X hx (hh := hh) (bytes := bytes) (maxL := maxL) (ret := ret) ho hl hstt hini hcode hy hK hg (hsize.trans hml.symm) (argsL := As) (rest := rest) (fun sig h => hn.trans (hlen sig h)) hstack hW (by rw [hb]; exact hdg)
    (fun vm₁ hW₁ => ⟨hf.1, hf.2, hp.2 (T.setVm vm₁) hT hW₁⟩)
  dsimp only [Pt.U, Pt.locs, Pt.cells, Pt.slots] at X' e1 e2 h1 h2 h3 st
  subst h1; subst h2; subst h3
  exact ⟨v, (T.setVm vm₁).calling g' mk As.toArray, t, U', L, hT, X', hL, e1, e2, hq, st⟩
/-- not caught here, past rows that name other classes: it goes on to the caller -/
theorem vx_outP {p : Program} {l : Launch} {e : Env} {R : Room} {s : State} {m : MethodId} {args : Array Value} {below : List Frame} {meth : Method} {c : Code} {H : Heap} {locs : List Loc} {cells slots : Nat} {free : Addr → Prop} {ls : Array Slot} {rest : List Value} {Qc : Array Value → State → Outcome → State → Prop} {XC : String → State → State → Prop}
    {pc : Nat} {own E : String} {ce : Cell} {q : Addr} {mc ms : Nat} (hown : s.vm.findClass own = some m.cls) (hlocks : meth.locks = false)
    (hpass : ∀ z ∈ c.exceptionTable.toList, covers z pc = false ∨ (z.catchType ≠ 0 ∧ ∃ nm : String, (Cond.classLink own z.catchType nm).before args s = true ∧ va_Nc E nm s)) (hcell : H[q]? = some ce) (hv : ce.vm = .none) (hcl : s.vm.findClass E = some ce.cls)
    (hx : ∀ t : State, t.heap = H → s.vm.Alike t.vm → XC E s t) (hf : ∀ z ∈ locs, free z.base) (hc : cells ≤ mc) (hs : slots ≤ ms) :
    vx_W p l e R s m args below meth c H locs cells slots (vx_MQ below Qc XC args s mc ms free) (F0 m pc ls rest) q := by
  intro T hT X
  have hpl : e.platform.magicAccessors = ({} : Platform).magicAccessors := by rw [X.admits.platform]
  obtain ⟨vm', hW', X', st⟩ := X.outThrough hlocks q (g := F0 m pc ls rest) rfl rfl rfl (cell := ce) (by rw [hT]; exact hcell) (by rw [hv]; rfl)
    (by obtain ⟨k9, h9, -⟩ := Vm.findClass_spec hcl; exact ⟨k9, h9⟩) (fun z hz => by
      rcases hpass z hz with h | ⟨hz0, nm, hl1, hn1⟩
      · exact Or.inl h
      · obtain ⟨c6, hc6, hcl6⟩ := Cond.classLink_spec hown hl1 e.platform hpl
        obtain ⟨a8, b8, h1, h2, h3⟩ := hn1
        cases Option.some.inj (h1.symm.trans hcl)
        cases Option.some.inj (h2.symm.trans hc6)
        exact Or.inr ⟨hz0, _, hcl6, h3⟩)
  obtain ⟨g₀, hfr⟩ := X'.frames_eq
  have hcell9 : ((T.setVm vm').setFrames (.throwing q :: below)).heap[q]? = some ce := by
    show T.heap[q]? = some ce
    rw [hT]; exact hcell
  have hend : Ended ((T.setVm vm').setFrames (.throwing q :: below)) below (.threw q) := State.frames_setFrames _ (State.cur_lt_of_frames hfr)
  refine ⟨(T.setVm vm').setFrames (.throwing q :: below), ?_, .threw q, X'.here.running, hend, Or.inr ⟨q, rfl, E, ce, locs, hx _ hT (X'.ends _).1.alike, hcell9, hv, hcl, (X'.ends _).1, (X'.ends _).2.mono hc hs, hf⟩⟩
  rw [X.pushThrowing_eq]
  exact st
/-- a thing of a world lies in the heap -/
theorem vx_lt {D : va_G} {cl : List vw_C} {ws : va_W} {H1 : Heap} (h : va_P D cl ws H1) {k : Nat} {q : Nat × va_E} (hk : ws[k]? = some q) : q.1 < H1.size := (h k q hk).lt
end VXS
/-! ===== END ===== -/
/-! ===== BEGIN methods with a table of their own: called by a name, returning or throwing ===== -/
section VXH
/-! vx_backW, vx_callVX, vx_callSX, vx_callVW, vx_runVW, vx_runVX, vx_runSX, vx_ofWH follow the same proofs as their sisters above (Free/Laws.lean, Shelf42/LK1.lean); vx_outP calls Shelf42/NT130.lean (outThrough). -/
section
variable {l : Launch} {R : Room} {p : Program} {e : Env} {below : List Frame} {s : State} {sargs : Array Value} {y : MethodName} {len W9 : Nat}
theorem vx_backW {ws : List Cond} {rm : Room} {Pc : Array Value → State → Prop} {Qc : Array Value → State → Outcome → State → Prop} {XC : String → State → State → Prop} {mc ms : Nat} {free : Addr → Prop} {bytes : ByteArray} {maxL : Nat} {ret : Option FieldType} {hh : List (Nat × Nat × Nat × Nat)}
    (hM : vx_Met l y ws rm Pc Qc XC mc ms free) (hblind : FrameBlind Pc) (hrc : rm.cells = mc) (hrs : rm.slots = ms)
    (hframes : rm.frames + 1 ≤ R.frames) (hlocals : W9 + (maxL + 11) + rm.locals ≤ R.locals)
    (hws : ∀ w ∈ ws, ∀ a' U, s.WarmedH U.vm → w.before a' U = true) (hcode : Cond.codeWith y bytes maxL ret hh ∈ ws) (hinit : ∀ a' U, s.WarmedH U.vm → (Cond.initialized y.cls).before a' U = true) :
    vx_Back l R p e below s sargs y len W9 (PreOf R mc ms Pc) (PostOf Qc mc ms free) (vx_Post XC mc ms free) := by
  intro m meth c A g ig mk a X hg hsize hdg hW hn hp
  have h1 : (headSpec ws rm).pre.before a A.U = true := atoms_intro fun w hw => hws w hw _ _ X.warmed
  have h2 : (Cond.codeWith y bytes maxL ret hh).before a A.U = true := hws _ hcode _ _ X.warmed
  have h3 : (Cond.initialized y.cls).before a A.U = true := hinit _ _ X.warmed
  have h4 : A.cells + (headSpec ws rm).room.cells ≤ R.cells := by rw [show (headSpec ws rm).room.cells = mc from hrc]; exact hp.1
  have h5 : A.slots + (headSpec ws rm).room.slots ≤ R.slots := by rw [show (headSpec ws rm).room.slots = ms from hrs]; exact hp.2.1
  have hPc : Pc a (A.U.calling g mk a) := hblind _ _ _ _ hp.2.2
  obtain ⟨U, Ls, c0, s0⟩ := A
  dsimp only [Pt.U, Pt.locs, Pt.cells, Pt.slots] at h1 h2 h3 h4 h5 X hn hPc ⊢
  obtain ⟨m9, methY, cY, hn9, hmY, hcY, -, hlY, -⟩ := Cond.codeWith_spec h2
  cases Option.some.inj (hn9.symm.trans hn)
  obtain ⟨kY, hkY, -⟩ := className_of_methodNamed hn
  have hinitY : kY.init = .initialized := Cond.initialized_spec (findClass_of_methodNamed hn) hkY h3
  have h : At U g.method c below := by rw [hg]; exact X.here
  have hlocals9 : W9 + (maxL + 11) + (headSpec ws rm).room.locals ≤ R.locals := hlocals
  have happ : (headSpec ws rm).appliesLoose y e.platform (U.calling g mk a) = true :=
    Spec.appliesLoose_calling (g := g) h hdg hn hkY hinitY
      (X.room_calling (g := g) (R' := (headSpec ws rm).room) hsize hmY hcY hframes (by rw [hlY]; omega) h4 h5) h1
  obtain ⟨mid, hmid⟩ := h.above
  have hfr : (U.setTop g).frames = (.java g :: mid) ++ below := by rw [State.frames_setTop' g h.top, hmid]; rfl
  obtain ⟨o, s₂, hsteps, -, hend, hq⟩ := Steps.callFree hM p X.admits X.cas X.clock (acts := []) hfr happ hPc trivial
  have hq' : vx_Q Qc XC mc ms free a (U.calling g mk a) o s₂ := hq
  rw [State.frames_setTop' g h.top] at hend
  obtain ⟨g₀, hg0⟩ := Option.isSome_iff_exists.mp h.top
  obtain ⟨r, hr⟩ := State.topJava?_eq_some.mp hg0
  have hr' : (({ U with heap := s₂.heap, slotsUsed := s₂.slotsUsed } : State).setVm s₂.vm).frames = .java g₀ :: r := hr
  rcases hq' with ⟨hqc, L, hfe, hL⟩ | ⟨q, rfl, E, ce, L, hx, hce, hcv, hcl, hW₂, hsm, hL⟩
  · obtain ⟨⟨v, rfl⟩, hW₂, e2, q2, q3, q4, q5, q6⟩ := id hfe
    have e3 : s₂ = ({ (U.calling g mk a).setFrames s₂.frames with heap := s₂.heap, slotsUsed := s₂.slotsUsed } : State).setVm s₂.vm := by
      have : s₂ = ({ s₂ with vm := (U.calling g mk a).vm } : State).setVm s₂.vm := rfl
      rw [e2] at this
      exact this
    obtain ⟨c₂, i₂, len₂, hc₂, hd₂, hf₂⟩ := hend
    have hW' : U.WarmedH s₂.vm := hW₂
    have hcc : c₂ = c := by
      have h1 : s₂.code? g.method = U.code? g.method := by
        rw [State.code?_eq, State.code?_eq, hW'.alike.method?]
      exact Option.some.inj (hc₂.symm.trans (h1.trans h.code))
    subst hcc
    have hlen : len₂ = len := by rw [hdg] at hd₂; cases hd₂; rfl
    subst hlen
    have hs₂ : s₂ = (({ U with heap := s₂.heap, slotsUsed := s₂.slotsUsed } : State).setVm s₂.vm).setTop { g with pc := g.pc + len₂, stack := v.toList ++ g.stack } := by
      refine e3.trans ?_
      rw [hf₂, State.calling_eq h.top, State.setFrames_setFrames, State.setTop_of_frames _ hr', hr]
      rfl
    have hsame : U.sameButNew ({ U with heap := s₂.heap, slotsUsed := s₂.slotsUsed } : State) L mc ms := by
      refine ⟨?_, q2, q3, q4, q5, q6⟩
      obtain ⟨t, ht, -⟩ := State.frames_cons hr
      show ({ U with heap := s₂.heap, slotsUsed := s₂.slotsUsed } : State) = { U.setFrames U.frames with heap := s₂.heap, slotsUsed := s₂.slotsUsed }
      rw [State.setFrames_self ht]
    subst hg
    refine Or.inl ⟨v, ⟨(({ U with heap := s₂.heap, slotsUsed := s₂.slotsUsed } : State).setVm s₂.vm), Ls ++ L, c0 + mc, s0 + ms⟩,
      ⟨X.admits, X.cas, X.clock, X.frames, X.room, X.hears, X.method, X.code, (X.here.setHeapUsed s₂.heap s₂.slotsUsed).setVm hW'.alike, X.tail, State.WarmedH.trans X.warmed hW', X.limits, X.bytes, X.same.trans (hsame.setVm s.vm)⟩,
      ⟨g, mk, s₂, L, rfl, rfl, hqc, rfl, hL, rfl, rfl⟩, ?_⟩
    show Steps p.tables e below _ ((({ U with heap := s₂.heap, slotsUsed := s₂.slotsUsed } : State).setVm s₂.vm).setTop { g with pc := g.pc + len₂, stack := v.toList ++ g.stack })
    rw [← hs₂]
    exact hsteps
  · obtain ⟨e2, q2, q3, q4, q5, q6⟩ := id hsm
    have e3 : s₂ = ({ (U.calling g mk a).setFrames s₂.frames with heap := s₂.heap, slotsUsed := s₂.slotsUsed } : State).setVm s₂.vm := by
      have : s₂ = ({ s₂ with vm := (U.calling g mk a).vm } : State).setVm s₂.vm := rfl
      rw [e2] at this
      exact this
    have hf₂ : s₂.frames = .throwing q :: .java g :: U.frames.tail := hend
    have hW' : U.WarmedH s₂.vm := hW₂
    have hs₂ : s₂ = ((({ U with heap := s₂.heap, slotsUsed := s₂.slotsUsed } : State).setVm s₂.vm).setTop g).pushFrame (.throwing q) := by
      refine e3.trans ?_
      rw [hf₂, State.calling_eq h.top, State.setFrames_setFrames, State.pushFrame, State.frames_setTop _ hr', State.setTop_of_frames _ hr', State.setFrames_setFrames, hr]
      rfl
    have hsame : U.sameButNew ({ U with heap := s₂.heap, slotsUsed := s₂.slotsUsed } : State) L mc ms := by
      refine ⟨?_, q2, q3, q4, q5, q6⟩
      obtain ⟨t, ht, -⟩ := State.frames_cons hr
      show ({ U with heap := s₂.heap, slotsUsed := s₂.slotsUsed } : State) = { U.setFrames U.frames with heap := s₂.heap, slotsUsed := s₂.slotsUsed }
      rw [State.setFrames_self ht]
    subst hg
    refine Or.inr ⟨q, ⟨(({ U with heap := s₂.heap, slotsUsed := s₂.slotsUsed } : State).setVm s₂.vm), Ls ++ L, c0 + mc, s0 + ms⟩,
      ⟨X.admits, X.cas, X.clock, X.frames, X.room, X.hears, X.method, X.code, (X.here.setHeapUsed s₂.heap s₂.slotsUsed).setVm hW'.alike, X.tail, State.WarmedH.trans X.warmed hW', X.limits, X.bytes, X.same.trans (hsame.setVm s.vm)⟩,
      ⟨g, mk, s₂, L, E, ce, rfl, rfl, hx, hce, hcv, hcl, rfl, hL, rfl, rfl⟩, ?_⟩
    show Steps p.tables e below _ (((({ U with heap := s₂.heap, slotsUsed := s₂.slotsUsed } : State).setVm s₂.vm).setTop g).pushFrame (.throwing q))
    rw [← hs₂]
    exact hsteps
end
variable {p : Program} {l : Launch} {e : Env} {R : Room} {s : State} {m : MethodId} {args : Array Value} {below : List Frame} {meth : Method} {c : Code} {T : State} {H : Heap} {locs : List Loc} {cells slots : Nat}
theorem vx_callVX (X : Stand p l e R s m args below meth c T locs cells slots) (hexec : p.tables.exec = Jvm.exec) {own C : String} {index : Nat} {y : MethodName} {bytes : ByteArray} {maxL : Nat} {ret : Option FieldType} {hh : List (Nat × Nat × Nat × Nat)}
    (hown : s.vm.findClass own = some m.cls) (hlink : (Cond.methodLink own index y).before args s = true) (hinst : (Cond.instanceMethod y).before args s = true) (hsel : (Cond.selects C y y).before args s = true)
    (hcode : (Cond.codeWith y bytes maxL ret hh).before args s = true) (hy : y.cls ≠ "java/lang/invoke/MethodHandle" ∧ y.cls ≠ "java/lang/invoke/VarHandle")
    {W9 : Nat} {Pre : Pt → Array Value → Prop} {Post : Pt → Array Value → Option Value → Pt → Prop} {PostX : Pt → Array Value → Addr → Pt → Prop} (hK : vx_Back l R p e below s args y 3 W9 Pre Post PostX)
    {b : Addr} {cellB : Cell} (hcell : T.heap[b]? = some cellB) (hobj : cellB.vm.isStatics = false) (hcls : s.vm.findClass C = some cellB.cls)
    {g : JFrame} (hg : g.method = m) (hsize : g.locals.size = c.maxLocals) {argsL rest : List Value} (hlen : ∀ sig, parseMethodDescriptor y.desc = some sig → argsL.length = sig.parameters.length)
    (hstack : g.stack = argsL.reverse ++ .ref b :: rest) (hW : 2 * g.monitorRoom + (rest.map fun v => v.category).sum ≤ W9) (hdg : decode c.code g.pc = .ok (.invokevirtual index, 3))
    (hpre : ∀ vm₁, s.WarmedH vm₁ → Pre ⟨T.setVm vm₁, locs, cells, slots⟩ (Value.ref b :: argsL).toArray) :
    (∃ (v : Option Value) (vm₁ : Vm) (B : Pt), s.WarmedH vm₁ ∧ Stand p l e R s m args below meth c B.U B.locs B.cells B.slots ∧ Post ⟨T.setVm vm₁, locs, cells, slots⟩ (Value.ref b :: argsL).toArray v B ∧
      ∀ target, Steps p.tables e below (B.U.setTop { g with pc := g.pc + 3, stack := v.toList ++ rest }) target → Steps p.tables e below (T.setTop g) target) ∨
    (∃ (q : Addr) (vm₁ : Vm) (B : Pt), s.WarmedH vm₁ ∧ Stand p l e R s m args below meth c B.U B.locs B.cells B.slots ∧ PostX ⟨T.setVm vm₁, locs, cells, slots⟩ (Value.ref b :: argsL).toArray q B ∧
      Steps p.tables e below (T.setTop g) ((B.U.setTop { g with stack := rest }).pushFrame (.throwing q))) := by
  obtain ⟨mk, methM, hnamed, hmethM, hstM, habM⟩ := Cond.instanceMethod_spec hinst
  obtain ⟨m8, methM', cM, hn8, hmethM', -, -, -, -, -, -, hsigM⟩ := Cond.codeWith_spec hcode
  cases Option.some.inj (hn8.symm.trans hnamed)
  cases hmethM.symm.trans hmethM'
  obtain ⟨c2, r2, m2, q1, q2, q3, q4, kP, hkP, hkPi⟩ := Cond.selects_spec hsel
  cases hcls.symm.trans q1
  cases (State.methodFound?_of_named hnamed hy).symm.trans q2
  cases hnamed.symm.trans q3
  have hselP : selectMethod e.platform s.vm cellB.cls mk = .method mk := by rw [Launch.admits_selectMethod X.admits]; exact q4
  obtain ⟨vm₁, X₁, hstep₁⟩ := X.invokevirtual hexec hown hlink hnamed hmethM hstM hkP hkPi hy (a := b) (cell := cellB) hcell
    (fun z h => by rw [h] at hobj; cases hobj) hselP hmethM habM hkP hkPi (g := g) hg (argsL := argsL) (rest := rest) (hlen _ hsigM) hstack hdg
  rcases hK m meth c ⟨T.setVm vm₁, locs, cells, slots⟩ { g with stack := rest } (.invokevirtual index) mk (Value.ref b :: argsL).toArray X₁ hg hsize hdg hW (X₁.named hnamed) (hpre vm₁ X₁.warmed) with ⟨v, B, X', hpost, hsteps⟩ | ⟨q, B, X', hpost, hsteps⟩
  · exact Or.inl ⟨v, vm₁, B, X₁.warmed, X', hpost, fun target h => hstep₁ _ fun acts => by rw [doInvoke_state]; exact hsteps.trans h⟩
  · exact Or.inr ⟨q, vm₁, B, X₁.warmed, X', hpost, hstep₁ _ fun acts => by rw [doInvoke_state]; exact hsteps⟩
theorem vx_callSX (X : Stand p l e R s m args below meth c T locs cells slots) (hexec : p.tables.exec = Jvm.exec) {own : String} {index : Nat} {y : MethodName} {bytes : ByteArray} {maxL : Nat} {ret : Option FieldType} {hh : List (Nat × Nat × Nat × Nat)}
    (hown : s.vm.findClass own = some m.cls) (hlink : (Cond.methodLink own index y).before args s = true) (hstat : (Cond.static y).before args s = true) (hinit : (Cond.initialized y.cls).before args s = true)
    (hcode : (Cond.codeWith y bytes maxL ret hh).before args s = true) (hy : y.cls ≠ "java/lang/invoke/MethodHandle" ∧ y.cls ≠ "java/lang/invoke/VarHandle")
    {W9 : Nat} {Pre : Pt → Array Value → Prop} {Post : Pt → Array Value → Option Value → Pt → Prop} {PostX : Pt → Array Value → Addr → Pt → Prop} (hK : vx_Back l R p e below s args y 3 W9 Pre Post PostX)
    {g : JFrame} (hg : g.method = m) (hsize : g.locals.size = c.maxLocals) {argsL rest : List Value} (hlen : ∀ sig, parseMethodDescriptor y.desc = some sig → argsL.length = sig.parameters.length)
    (hstack : g.stack = argsL.reverse ++ rest) (hW : 2 * g.monitorRoom + (rest.map fun v => v.category).sum ≤ W9) (hdg : decode c.code g.pc = .ok (.invokestatic index, 3))
    (hpre : ∀ vm₁, s.WarmedH vm₁ → Pre ⟨T.setVm vm₁, locs, cells, slots⟩ argsL.toArray) :
    (∃ (v : Option Value) (vm₁ : Vm) (B : Pt), s.WarmedH vm₁ ∧ Stand p l e R s m args below meth c B.U B.locs B.cells B.slots ∧ Post ⟨T.setVm vm₁, locs, cells, slots⟩ argsL.toArray v B ∧
      ∀ target, Steps p.tables e below (B.U.setTop { g with pc := g.pc + 3, stack := v.toList ++ rest }) target → Steps p.tables e below (T.setTop g) target) ∨
    (∃ (q : Addr) (vm₁ : Vm) (B : Pt), s.WarmedH vm₁ ∧ Stand p l e R s m args below meth c B.U B.locs B.cells B.slots ∧ PostX ⟨T.setVm vm₁, locs, cells, slots⟩ argsL.toArray q B ∧
      Steps p.tables e below (T.setTop g) ((B.U.setTop { g with stack := rest }).pushFrame (.throwing q))) := by
  obtain ⟨mk, methM, cM, hnamed, hmethM, -, -, -, -, -, -, hsigM⟩ := Cond.codeWith_spec hcode
  have hstatic : methM.isStatic = true := Cond.static_spec hnamed hmethM hstat
  obtain ⟨kP, hkP, -⟩ := className_of_methodNamed hnamed
  have hinitP : kP.init = .initialized := Cond.initialized_spec (findClass_of_methodNamed hnamed) hkP hinit
  obtain ⟨vm₁, X₁, hstep₁⟩ := X.invokestatic hexec hown hlink hnamed hmethM hstatic hkP hinitP hy (g := g) hg (argsL := argsL) (rest := rest) (hlen _ hsigM) hstack hdg
  rcases hK m meth c ⟨T.setVm vm₁, locs, cells, slots⟩ { g with stack := rest } (.invokestatic index) mk argsL.toArray X₁ hg hsize hdg hW (X₁.named hnamed) (hpre vm₁ X₁.warmed) with ⟨v, B, X', hpost, hsteps⟩ | ⟨q, B, X', hpost, hsteps⟩
  · exact Or.inl ⟨v, vm₁, B, X₁.warmed, X', hpost, fun target h => hstep₁ _ fun acts => by rw [doInvoke_state]; exact hsteps.trans h⟩
  · exact Or.inr ⟨q, vm₁, B, X₁.warmed, X', hpost, hstep₁ _ fun acts => by rw [doInvoke_state]; exact hsteps⟩
theorem vx_callVW (X : Stand p l e R s m args below meth c T locs cells slots) (hexec : p.tables.exec = Jvm.exec) {own C : String} {index : Nat} {y : MethodName} {bytes : ByteArray} {maxL : Nat} {ret : Option FieldType} {hh : List (Nat × Nat × Nat × Nat)}
    (hown : s.vm.findClass own = some m.cls) (hlink : (Cond.methodLink own index y).before args s = true) (hinst : (Cond.instanceMethod y).before args s = true) (hsel : (Cond.selects C y y).before args s = true)
    (hcode : (Cond.codeWith y bytes maxL ret hh).before args s = true) (hy : y.cls ≠ "java/lang/invoke/MethodHandle" ∧ y.cls ≠ "java/lang/invoke/VarHandle")
    {W9 : Nat} {Pre : Pt → Array Value → Prop} {Post : Pt → Array Value → Option Value → Pt → Prop} (hK : Back l R p e below s args y 3 W9 Pre Post)
    {b : Addr} {cellB : Cell} (hcell : T.heap[b]? = some cellB) (hobj : cellB.vm.isStatics = false) (hcls : s.vm.findClass C = some cellB.cls)
    {g : JFrame} (hg : g.method = m) (hsize : g.locals.size = c.maxLocals) {argsL rest : List Value} (hlen : ∀ sig, parseMethodDescriptor y.desc = some sig → argsL.length = sig.parameters.length)
    (hstack : g.stack = argsL.reverse ++ .ref b :: rest) (hW : 2 * g.monitorRoom + (rest.map fun v => v.category).sum ≤ W9) (hdg : decode c.code g.pc = .ok (.invokevirtual index, 3))
    (hpre : ∀ vm₁, s.WarmedH vm₁ → Pre ⟨T.setVm vm₁, locs, cells, slots⟩ (Value.ref b :: argsL).toArray) :
    ∃ (v : Option Value) (vm₁ : Vm) (B : Pt), s.WarmedH vm₁ ∧ Stand p l e R s m args below meth c B.U B.locs B.cells B.slots ∧ Post ⟨T.setVm vm₁, locs, cells, slots⟩ (Value.ref b :: argsL).toArray v B ∧
      ∀ target, Steps p.tables e below (B.U.setTop { g with pc := g.pc + 3, stack := v.toList ++ rest }) target → Steps p.tables e below (T.setTop g) target := by
  obtain ⟨mk, methM, hnamed, hmethM, hstM, habM⟩ := Cond.instanceMethod_spec hinst
  obtain ⟨m8, methM', cM, hn8, hmethM', -, -, -, -, -, -, hsigM⟩ := Cond.codeWith_spec hcode
  cases Option.some.inj (hn8.symm.trans hnamed)
  cases hmethM.symm.trans hmethM'
  obtain ⟨c2, r2, m2, q1, q2, q3, q4, kP, hkP, hkPi⟩ := Cond.selects_spec hsel
  cases hcls.symm.trans q1
  cases (State.methodFound?_of_named hnamed hy).symm.trans q2
  cases hnamed.symm.trans q3
  have hselP : selectMethod e.platform s.vm cellB.cls mk = .method mk := by rw [Launch.admits_selectMethod X.admits]; exact q4
  obtain ⟨vm₁, X₁, hstep₁⟩ := X.invokevirtual hexec hown hlink hnamed hmethM hstM hkP hkPi hy (a := b) (cell := cellB) hcell
    (fun z h => by rw [h] at hobj; cases hobj) hselP hmethM habM hkP hkPi (g := g) hg (argsL := argsL) (rest := rest) (hlen _ hsigM) hstack hdg
  obtain ⟨v, B, X', hpost, hsteps⟩ := hK m meth c ⟨T.setVm vm₁, locs, cells, slots⟩ { g with stack := rest } (.invokevirtual index) mk (Value.ref b :: argsL).toArray X₁ hg hsize hdg hW (X₁.named hnamed) (hpre vm₁ X₁.warmed)
  exact ⟨v, vm₁, B, X₁.warmed, X', hpost, fun target h => hstep₁ _ fun acts => by rw [doInvoke_state]; exact hsteps.trans h⟩
abbrev vx_CVW (R : Room) (s : State) (args : Array Value) (own C : String) (index : Nat) (y : MethodName) (bytes : ByteArray) (maxL : Nat) (ret : Option FieldType) (hh : List (Nat × Nat × Nat × Nat)) (ws : List Cond) (rm : Room) (mc ms n : Nat) : Prop :=
  (rm.cells = mc ∧ rm.slots = ms ∧ rm.frames + 1 ≤ R.frames ∧ 8 + (maxL + 11) + rm.locals ≤ R.locals ∧ (∀ w ∈ ws, ∀ (a' : Array Value) (U : State), s.WarmedH U.vm → w.before a' U = true) ∧ Cond.codeWith y bytes maxL ret hh ∈ ws) ∧
  (Cond.codeWith y bytes maxL ret hh).before args s = true ∧ (Cond.initialized y.cls).before args s = true ∧ (y.cls ≠ "java/lang/invoke/MethodHandle" ∧ y.cls ≠ "java/lang/invoke/VarHandle") ∧
  (∀ sig, parseMethodDescriptor y.desc = some sig → n = sig.parameters.length) ∧ (Cond.methodLink own index y).before args s = true ∧ (Cond.instanceMethod y).before args s = true ∧ (Cond.selects C y y).before args s = true
theorem vx_cwVW {own C : String} {index maxL mc ms : Nat} {y : MethodName} {bytes : ByteArray} {ret : Option FieldType} {hh : List (Nat × Nat × Nat × Nat)} {Ts ws ws' : List Cond} {rm : Room} (n : Nat) (ht : ∀ w ∈ Ts, w.before args s = true) (hT : GoodIn Ts (wsV own index C y ws)) (hw : ws = Cond.codeWith y bytes maxL ret hh :: ws') (hrc : rm.cells = mc) (hrs : rm.slots = ms)
    (hd : y.cls = C ∧ y.cls ≠ "java/lang/invoke/MethodHandle" ∧ y.cls ≠ "java/lang/invoke/VarHandle" ∧ (parseMethodDescriptor y.desc).map (fun d => d.parameters.length) = some n) (hR : rm.frames + 1 ≤ R.frames ∧ 8 + (maxL + 11) + rm.locals ≤ R.locals) :
    vx_CVW R s args own C index y bytes maxL ret hh ws rm mc ms n := by
  obtain ⟨hC, hd⟩ := hd
  subst hC
  have ok : ∀ w ∈ wsV own index y.cls y ws, w.before args s = true := fun w h => ht w (hT w h).1
  have hG : GoodIn Ts ws := fun w h => hT w (by unfold wsV; exact List.mem_append_right _ h)
  have hc : Cond.codeWith y bytes maxL ret hh ∈ ws := by rw [hw]; exact List.mem_cons_self
  refine ⟨⟨hrc, hrs, hR.1, hR.2, pay_in ht hG, hc⟩, ht _ (hG _ hc).1, ok _ (by simp [wsV]), ⟨hd.1, hd.2.1⟩, fun sig h => ?_, ok _ (by simp [wsV]), ok _ (by simp [wsV]), ok _ (by simp [wsV])⟩
  have h2 := hd.2.2
  rw [h] at h2
  exact (Option.some.inj h2).symm
theorem vx_runVW {y : MethodName} {bytes cc : ByteArray} {maxL nL mc ms n index : Nat} {ret : Option FieldType} {hh : List (Nat × Nat × Nat × Nat)} {ws : List Cond} {rm : Room} {Pc : Array Value → State → Prop} {Qc : Array Value → State → Outcome → State → Prop} {free : Addr → Prop} {Ts : List Cond} {own C : String} {b : Addr} {As rest : List Value} {g : JFrame}
    (S : CallFix p m c cc nL s args Ts own) (hM : Met l y ws rm Pc Qc mc ms free) (cw : vx_CVW R s args own C index y bytes maxL ret hh ws rm mc ms n) (hp : PreV s H C b Pc As)
    (hg : g.method = m) (hn : As.length = n) (hsize : g.locals.size = nL) (hstack : g.stack = As.reverse ++ .ref b :: rest) (hW : 2 * g.monitorRoom + (rest.map fun v => v.category).sum ≤ 8) (hdg : decode cc g.pc = .ok (.invokevirtual index, 3)) (hf : cells + mc ≤ R.cells ∧ slots + ms ≤ R.slots) :
    va_Run p l e R s m args below meth c H locs cells slots mc ms g rest (Qc (Value.ref b :: As).toArray) free := by
  obtain ⟨⟨hrc, hrs, hfr, hlo, hws, hcw⟩, hcode, hini, hy, hlen, hl, hin, hse⟩ := cw
  have hK : Back l R p e below s args y 3 8 (PreOf R mc ms Pc) (PostOf Qc mc ms free) := va_backW (hh := hh) (bytes := bytes) (maxL := maxL) (ret := ret) hM hp.1 hrc hrs hfr hlo hws hcw (fun a' U hW => word_at hW (Or.inl (by first | rfl | simp [Cond.onTables, Cond.keeps, Cond.steady])) hini)
  obtain ⟨hx, hb, hml, ho, -⟩ := S
  obtain ⟨-, ⟨cellB, hcB, hoB, hclB⟩, hPc⟩ := hp
  intro T hT X
  obtain ⟨v, vm₁, ⟨U', l2, c2, s2⟩, hW₁, X', ⟨g', mk, t, L, e1, e2, hq, h1, hL, h2, h3⟩, st⟩ := vx_callVW X hx (C := C) (hh := hh) (bytes := bytes) (maxL := maxL) (ret := ret) ho hl hin hse hcode hy hK (by rw [hT]; exact hcB) hoB hclB hg (hsize.trans hml.symm) (argsL := As) (rest := rest) (fun sig h => hn.trans (hlen sig h)) hstack hW (by rw [hb]; exact hdg)
    (fun vm₁ hW₁ => ⟨hf.1, hf.2, hPc (T.setVm vm₁) hT hW₁⟩)
  dsimp only [Pt.U, Pt.locs, Pt.cells, Pt.slots] at X' e1 e2 h1 h2 h3 st
  subst h1; subst h2; subst h3
  exact ⟨v, (T.setVm vm₁).calling g' mk (Value.ref b :: As).toArray, t, U', L, hT, X', hL, e1, e2, hq, st⟩
section
variable {y : MethodName} {bytes cc : ByteArray} {maxL nL mc ms n index : Nat} {ret : Option FieldType} {ws : List Cond} {rm : Room} {Pc : Array Value → State → Prop} {Qc : Array Value → State → Outcome → State → Prop} {XC : String → State → State → Prop} {free : Addr → Prop} {Ts : List Cond} {own C : String} {b : Addr} {As rest : List Value} {g : JFrame}
theorem vx_runVX {hh : List (Nat × Nat × Nat × Nat)} (S : CallFix p m c cc nL s args Ts own) (hM : vx_Met l y ws rm Pc Qc XC mc ms free) (cw : vx_CVW R s args own C index y bytes maxL ret hh ws rm mc ms n) (hp : PreV s H C b Pc As)
    (hg : g.method = m) (hn : As.length = n) (hsize : g.locals.size = nL) (hstack : g.stack = As.reverse ++ .ref b :: rest) (hW : 2 * g.monitorRoom + (rest.map fun v => v.category).sum ≤ 8) (hdg : decode cc g.pc = .ok (.invokevirtual index, 3)) (hf : cells + mc ≤ R.cells ∧ slots + ms ≤ R.slots) :
    vx_Run p l e R s m args below meth c H locs cells slots mc ms g rest (Qc (Value.ref b :: As).toArray) XC free := by
  obtain ⟨⟨hrc, hrs, hfr, hlo, hws, hcw⟩, hcode, hini, hy, hlen, hl, hin, hse⟩ := cw
  have hK : vx_Back l R p e below s args y 3 8 (PreOf R mc ms Pc) (PostOf Qc mc ms free) (vx_Post XC mc ms free) := vx_backW (hh := hh) (bytes := bytes) (maxL := maxL) (ret := ret) hM hp.1 hrc hrs hfr hlo hws hcw (fun a' U hW => word_at hW (Or.inl (by first | rfl | simp [Cond.onTables, Cond.keeps, Cond.steady])) hini)
  obtain ⟨hx, hb, hml, ho, -⟩ := S
  obtain ⟨-, ⟨cellB, hcB, hoB, hclB⟩, hPc⟩ := hp
  intro T hT X
  rcases vx_callVX X hx (C := C) (hh := hh) (bytes := bytes) (maxL := maxL) (ret := ret) ho hl hin hse hcode hy hK (by rw [hT]; exact hcB) hoB hclB hg (hsize.trans hml.symm) (argsL := As) (rest := rest) (fun sig h => hn.trans (hlen sig h)) hstack hW (by rw [hb]; exact hdg)
    (fun vm₁ hW₁ => ⟨hf.1, hf.2, hPc (T.setVm vm₁) hT hW₁⟩) with ⟨v, vm₁, ⟨U', l2, c2, s2⟩, hW₁, X', ⟨g', mk, t, L, e1, e2, hq, h1, hL, h2, h3⟩, st⟩ | ⟨q, vm₁, ⟨U', l2, c2, s2⟩, hW₁, X', ⟨g', mk, t, L, E, ce, e1, e2, hq, hce, hcv, hcl, h1, hL, h2, h3⟩, st⟩
  · dsimp only [Pt.U, Pt.locs, Pt.cells, Pt.slots] at X' e1 e2 h1 h2 h3 st
    subst h1; subst h2; subst h3
    exact Or.inl ⟨v, (T.setVm vm₁).calling g' mk (Value.ref b :: As).toArray, t, U', L, hT, X', hL, e1, e2, hq, st⟩
  · dsimp only [Pt.U, Pt.locs, Pt.cells, Pt.slots] at X' e1 e2 h1 h2 h3 st hcl
    subst h1; subst h2; subst h3
    exact Or.inr ⟨q, (T.setVm vm₁).calling g' mk (Value.ref b :: As).toArray, t, U', L, E, ce, hT, X', hL, e1, e2, hq, hce, hcv, vx_cls hW₁ hcl, st⟩
theorem vx_runSX {hh : List (Nat × Nat × Nat × Nat)} (S : CallFix p m c cc nL s args Ts own) (hM : vx_Met l y ws rm Pc Qc XC mc ms free) (cw : vx_CSW R s args own index y bytes maxL ret hh ws rm mc ms n) (hp : PreS s H Pc As)
    (hg : g.method = m) (hn : As.length = n) (hsize : g.locals.size = nL) (hstack : g.stack = As.reverse ++ rest) (hW : 2 * g.monitorRoom + (rest.map fun v => v.category).sum ≤ 8) (hdg : decode cc g.pc = .ok (.invokestatic index, 3)) (hf : cells + mc ≤ R.cells ∧ slots + ms ≤ R.slots) :
    vx_Run p l e R s m args below meth c H locs cells slots mc ms g rest (Qc As.toArray) XC free := by
  obtain ⟨⟨hrc, hrs, hfr, hlo, hws, hcw⟩, hcode, hini, hy, hlen, hl, hstt⟩ := cw
  have hK : vx_Back l R p e below s args y 3 8 (PreOf R mc ms Pc) (PostOf Qc mc ms free) (vx_Post XC mc ms free) := vx_backW (hh := hh) (bytes := bytes) (maxL := maxL) (ret := ret) hM hp.1 hrc hrs hfr hlo hws hcw (fun a' U hW => word_at hW (Or.inl (by first | rfl | simp [Cond.onTables, Cond.keeps, Cond.steady])) hini)
  obtain ⟨hx, hb, hml, ho, -⟩ := S
  intro T hT X
  rcases vx_callSX X hx (hh := hh) (bytes := bytes) (maxL := maxL) (ret := ret) ho hl hstt hini hcode hy hK hg (hsize.trans hml.symm) (argsL := As) (rest := rest) (fun sig h => hn.trans (hlen sig h)) hstack hW (by rw [hb]; exact hdg)
    (fun vm₁ hW₁ => ⟨hf.1, hf.2, hp.2 (T.setVm vm₁) hT hW₁⟩) with ⟨v, vm₁, ⟨U', l2, c2, s2⟩, hW₁, X', ⟨g', mk, t, L, e1, e2, hq, h1, hL, h2, h3⟩, st⟩ | ⟨q, vm₁, ⟨U', l2, c2, s2⟩, hW₁, X', ⟨g', mk, t, L, E, ce, e1, e2, hq, hce, hcv, hcl, h1, hL, h2, h3⟩, st⟩
  · dsimp only [Pt.U, Pt.locs, Pt.cells, Pt.slots] at X' e1 e2 h1 h2 h3 st
    subst h1; subst h2; subst h3
    exact Or.inl ⟨v, (T.setVm vm₁).calling g' mk As.toArray, t, U', L, hT, X', hL, e1, e2, hq, st⟩
  · dsimp only [Pt.U, Pt.locs, Pt.cells, Pt.slots] at X' e1 e2 h1 h2 h3 st hcl
    subst h1; subst h2; subst h3
    exact Or.inr ⟨q, (T.setVm vm₁).calling g' mk As.toArray, t, U', L, E, ce, hT, X', hL, e1, e2, hq, hce, hcv, vx_cls hW₁ hcl, st⟩
end
end VXH
theorem vx_ofWH {l : Launch} {y : MethodName} {ws ws' : List Cond} {rm : Room} {Pc : Array Value → State → Prop} {Qc : Array Value → State → Outcome → State → Prop} {XC : String → State → State → Prop} {mc ms : Nat} {free : Addr → Prop} {cc : ByteArray} {maxL : Nat} {ret : Option FieldType} {hh : List (Nat × Nat × Nat × Nat)}
    (hy : plainName y.cls = true) (hw : ws = Cond.codeWith y cc maxL ret hh :: ws')
    (body : ∀ p e s m args below meth c s₁, BodyLoose p l y (headSpec ws rm) cc maxL ret e s m args below meth c s₁ → c.maxLocals = maxL → Pc args s →
      W p l e (headSpec ws rm).room s m args below meth c s.heap [] 0 0 (vx_MQ below Qc XC args s mc ms free) (entryFrame m args maxL)) : vx_Met l y ws rm Pc Qc XC mc ms free := by
  refine MetFree.of_bodyS (code := cc) (maxLocals := maxL) (ret := ret) hy ?_ ?_
  · intro args s m h hn
    obtain ⟨m9, meth, c, hn9, h1, h2, h3, h4, -, h5, h6, -⟩ := Cond.codeWith_spec (atoms_spec (ws := ws) h _ (by rw [hw]; exact List.mem_cons_self))
    cases hn.symm.trans hn9
    exact ⟨meth, c, h1, h2, h3, h4, h5, h6⟩
  · intro p e s m args below meth c s₁ B hml hP _
    have hh0 : s₁.heap = s.heap := by rw [B.state]; rfl
    obtain ⟨t, a1, o, b1, b2, b3⟩ := body p e s m args below meth c s₁ B hml hP s₁ hh0 (Stand.of_body B)
    exact ⟨t, o, a1, b1, b2, b3⟩
/-! ===== END ===== -/
end
section
def RX0 : String := "TurnThreads$Boxes"
def TX0 : u_T := fun k => match k with
  | 0 => ("TurnThreads$Boxes", "full", "[Z", true)
  | _ => ("TurnThreads$Boxes", "values", "[I", true)
def tyX0 : Nat → FieldType := fun k => match k with
  | 0 => .array .boolean
  | _ => .array .int
abbrev wsX00 : List Cond := u_ws RX0 TX0 2
theorem nmX0 : ∀ a, a < 2 → ∀ b, b < 2 → a ≠ b → (TX0 a).2.1 ≠ (TX0 b).2.1 := by decide +kernel
theorem tyX0_ok : ∀ k, k < 2 → parseFieldDescriptor (TX0 k).2.2.1 = some (tyX0 k) := by decide +kernel
abbrev cX0_init : ByteArray := prog_2_method_1_code
def yX0_init : MethodName := ⟨RX0, "<init>", "()V"⟩
abbrev cX0_has : ByteArray := prog_2_method_2_code
def yX0_has : MethodName := ⟨RX0, "has", "(I)Z"⟩
abbrev cX0_isFull : ByteArray := prog_2_method_3_code
def yX0_isFull : MethodName := ⟨RX0, "isFull", "(I)Z"⟩
abbrev cX0_valueOf : ByteArray := prog_2_method_4_code
def yX0_valueOf : MethodName := ⟨RX0, "valueOf", "(I)I"⟩
abbrev cX0_keep : ByteArray := prog_2_method_5_code
def yX0_keep : MethodName := ⟨RX0, "keep", "(II)V"⟩
abbrev cX0_empty : ByteArray := prog_2_method_6_code
def yX0_empty : MethodName := ⟨RX0, "empty", "(I)V"⟩
def RX1 : String := "TurnThreads$Fiber"
def TX1 : u_T := fun k => match k with
  | 0 => ("TurnThreads$Fiber", "number", "I", true)
  | 1 => ("TurnThreads$Fiber", "handlers", "[I", true)
  | 2 => ("TurnThreads$Fiber", "pending", "[I", true)
  | 3 => ("TurnThreads$Fiber", "state", "I", false)
  | 4 => ("TurnThreads$Fiber", "home", "I", false)
  | 5 => ("TurnThreads$Fiber", "next", "I", false)
  | 6 => ("TurnThreads$Fiber", "register", "I", false)
  | 7 => ("TurnThreads$Fiber", "handlerCount", "I", false)
  | 8 => ("TurnThreads$Fiber", "pendingCount", "I", false)
  | 9 => ("TurnThreads$Fiber", "masked", "Z", false)
  | 10 => ("TurnThreads$Fiber", "endedBy", "I", false)
  | 11 => ("TurnThreads$Fiber", "turns", "I", false)
  | 12 => ("TurnThreads$Fiber", "until", "I", false)
  | 13 => ("TurnThreads$Fiber", "box", "I", false)
  | _ => ("TurnThreads$Fiber", "ticket", "I", false)
def tyX1 : Nat → FieldType := fun k => match k with
  | 0 => .int
  | 1 => .array .int
  | 2 => .array .int
  | 3 => .int
  | 4 => .int
  | 5 => .int
  | 6 => .int
  | 7 => .int
  | 8 => .int
  | 9 => .boolean
  | 10 => .int
  | 11 => .int
  | 12 => .int
  | 13 => .int
  | _ => .int
abbrev wsX10 : List Cond := u_ws RX1 TX1 15
theorem nmX1 : ∀ a, a < 15 → ∀ b, b < 15 → a ≠ b → (TX1 a).2.1 ≠ (TX1 b).2.1 := by decide +kernel
theorem tyX1_ok : ∀ k, k < 15 → parseFieldDescriptor (TX1 k).2.2.1 = some (tyX1 k) := by decide +kernel
abbrev cX1_init : ByteArray := prog_3_method_1_code
def yX1_init : MethodName := ⟨RX1, "<init>", "(I)V"⟩
abbrev cX1_reset : ByteArray := prog_3_method_2_code
def yX1_reset : MethodName := ⟨RX1, "reset", "(II)V"⟩
abbrev cX1_waits : ByteArray := prog_3_method_3_code
def yX1_waits : MethodName := ⟨RX1, "waits", "()Z"⟩
abbrev cX1_waitsAt : ByteArray := prog_3_method_4_code
def yX1_waitsAt : MethodName := ⟨RX1, "waitsAt", "(II)Z"⟩
abbrev cX1_isAway : ByteArray := prog_3_method_5_code
def yX1_isAway : MethodName := ⟨RX1, "isAway", "()Z"⟩
abbrev cX1_isDone : ByteArray := prog_3_method_6_code
def yX1_isDone : MethodName := ⟨RX1, "isDone", "()Z"⟩
abbrev cX1_addHandler : ByteArray := prog_3_method_7_code
def yX1_addHandler : MethodName := ⟨RX1, "addHandler", "(I)V"⟩
abbrev cX1_dropHandler : ByteArray := prog_3_method_8_code
def yX1_dropHandler : MethodName := ⟨RX1, "dropHandler", "()V"⟩
abbrev cX1_handles : ByteArray := prog_3_method_9_code
def yX1_handles : MethodName := ⟨RX1, "handles", "(I)Z"⟩
abbrev cX1_addPending : ByteArray := prog_3_method_10_code
def yX1_addPending : MethodName := ⟨RX1, "addPending", "(I)V"⟩
abbrev cX1_takeEldest : ByteArray := prog_3_method_11_code
def yX1_takeEldest : MethodName := ⟨RX1, "takeEldest", "()I"⟩
abbrev cX1_tell : ByteArray := prog_3_method_12_code
def yX1_tell : MethodName := ⟨RX1, "tell", "(I)I"⟩
abbrev cX1_actToCome : ByteArray := prog_3_method_13_code
def yX1_actToCome : MethodName := ⟨RX1, "actToCome", "()I"⟩
def RX2 : String := "TurnThreads$Line"
def TX2 : u_T := fun k => match k with
  | 0 => ("TurnThreads$Line", "places", "[LTurnThreads$Fiber;", true)
  | _ => ("TurnThreads$Line", "count", "I", false)
def tyX2 : Nat → FieldType := fun k => match k with
  | 0 => .array (.object "TurnThreads$Fiber")
  | _ => .int
abbrev wsX20 : List Cond := u_ws RX2 TX2 2
theorem nmX2 : ∀ a, a < 2 → ∀ b, b < 2 → a ≠ b → (TX2 a).2.1 ≠ (TX2 b).2.1 := by decide +kernel
theorem tyX2_ok : ∀ k, k < 2 → parseFieldDescriptor (TX2 k).2.2.1 = some (tyX2 k) := by decide +kernel
abbrev cX2_init : ByteArray := prog_4_method_1_code
def yX2_init : MethodName := ⟨RX2, "<init>", "()V"⟩
abbrev cX2_size : ByteArray := prog_4_method_2_code
def yX2_size : MethodName := ⟨RX2, "size", "()I"⟩
abbrev cX2_clear : ByteArray := prog_4_method_3_code
def yX2_clear : MethodName := ⟨RX2, "clear", "()V"⟩
abbrev cX2_at : ByteArray := prog_4_method_4_code
def yX2_at : MethodName := ⟨RX2, "at", "(I)LTurnThreads$Fiber;"⟩
abbrev cX2_add : ByteArray := prog_4_method_5_code
def yX2_add : MethodName := ⟨RX2, "add", "(LTurnThreads$Fiber;)V"⟩
abbrev cX2_removeFirst : ByteArray := prog_4_method_6_code
def yX2_removeFirst : MethodName := ⟨RX2, "removeFirst", "()LTurnThreads$Fiber;"⟩
abbrev cX2_remove : ByteArray := prog_4_method_7_code
def yX2_remove : MethodName := ⟨RX2, "remove", "(LTurnThreads$Fiber;)V"⟩
def RX3 : String := "TurnThreads$Programs"
def TX3 : u_T := fun k => match k with
  | 0 => ("TurnThreads$Programs", "sizes", "[I", true)
  | 1 => ("TurnThreads$Programs", "kinds", "[[I", true)
  | 2 => ("TurnThreads$Programs", "operands", "[[I", true)
  | _ => ("TurnThreads$Programs", "count", "I", false)
def tyX3 : Nat → FieldType := fun k => match k with
  | 0 => .array .int
  | 1 => .array (.array .int)
  | 2 => .array (.array .int)
  | _ => .int
abbrev wsX30 : List Cond := u_ws RX3 TX3 4
theorem nmX3 : ∀ a, a < 4 → ∀ b, b < 4 → a ≠ b → (TX3 a).2.1 ≠ (TX3 b).2.1 := by decide +kernel
theorem tyX3_ok : ∀ k, k < 4 → parseFieldDescriptor (TX3 k).2.2.1 = some (tyX3 k) := by decide +kernel
abbrev cX3_init : ByteArray := prog_5_method_1_code
def yX3_init : MethodName := ⟨RX3, "<init>", "()V"⟩
abbrev cX3_isEmpty : ByteArray := prog_5_method_2_code
def yX3_isEmpty : MethodName := ⟨RX3, "isEmpty", "()Z"⟩
abbrev cX3_has : ByteArray := prog_5_method_3_code
def yX3_has : MethodName := ⟨RX3, "has", "(I)Z"⟩
abbrev cX3_addProgram : ByteArray := prog_5_method_4_code
def yX3_addProgram : MethodName := ⟨RX3, "addProgram", "()I"⟩
abbrev cX3_addAct : ByteArray := prog_5_method_5_code
def yX3_addAct : MethodName := ⟨RX3, "addAct", "(II)I"⟩
abbrev cX3_hasAct : ByteArray := prog_5_method_6_code
def yX3_hasAct : MethodName := ⟨RX3, "hasAct", "(II)Z"⟩
abbrev cX3_kindAt : ByteArray := prog_5_method_7_code
def yX3_kindAt : MethodName := ⟨RX3, "kindAt", "(II)I"⟩
abbrev cX3_operandAt : ByteArray := prog_5_method_8_code
def yX3_operandAt : MethodName := ⟨RX3, "operandAt", "(II)I"⟩
def RX4 : String := "TurnThreads$Rows"
def TX4 : u_T := fun k => match k with
  | 0 => ("TurnThreads$Rows", "numbers", "[I", true)
  | 1 => ("TurnThreads$Rows", "registers", "[I", true)
  | _ => ("TurnThreads$Rows", "count", "I", false)
def tyX4 : Nat → FieldType := fun k => match k with
  | 0 => .array .int
  | 1 => .array .int
  | _ => .int
abbrev wsX40 : List Cond := u_ws RX4 TX4 3
theorem nmX4 : ∀ a, a < 3 → ∀ b, b < 3 → a ≠ b → (TX4 a).2.1 ≠ (TX4 b).2.1 := by decide +kernel
theorem tyX4_ok : ∀ k, k < 3 → parseFieldDescriptor (TX4 k).2.2.1 = some (tyX4 k) := by decide +kernel
abbrev cX4_init : ByteArray := prog_6_method_1_code
def yX4_init : MethodName := ⟨RX4, "<init>", "()V"⟩
abbrev cX4_size : ByteArray := prog_6_method_2_code
def yX4_size : MethodName := ⟨RX4, "size", "()I"⟩
abbrev cX4_clear : ByteArray := prog_6_method_3_code
def yX4_clear : MethodName := ⟨RX4, "clear", "()V"⟩
abbrev cX4_add : ByteArray := prog_6_method_4_code
def yX4_add : MethodName := ⟨RX4, "add", "(II)V"⟩
abbrev cX4_numberAt : ByteArray := prog_6_method_5_code
def yX4_numberAt : MethodName := ⟨RX4, "numberAt", "(I)I"⟩
abbrev cX4_registerAt : ByteArray := prog_6_method_6_code
def yX4_registerAt : MethodName := ⟨RX4, "registerAt", "(I)I"⟩
def RX5 : String := "TurnThreads$Run"
def TX5 : u_T := fun k => match k with
  | 0 => ("TurnThreads$Run", "programs", "LTurnThreads$Programs;", true)
  | 1 => ("TurnThreads$Run", "fibers", "[LTurnThreads$Fiber;", true)
  | 2 => ("TurnThreads$Run", "line", "LTurnThreads$Line;", true)
  | 3 => ("TurnThreads$Run", "boxes", "LTurnThreads$Boxes;", true)
  | 4 => ("TurnThreads$Run", "rows", "LTurnThreads$Rows;", true)
  | 5 => ("TurnThreads$Run", "fiberCount", "I", false)
  | 6 => ("TurnThreads$Run", "begun", "Z", false)
  | 7 => ("TurnThreads$Run", "over", "Z", false)
  | 8 => ("TurnThreads$Run", "quantum", "I", false)
  | 9 => ("TurnThreads$Run", "clock", "I", false)
  | 10 => ("TurnThreads$Run", "turns", "I", false)
  | 11 => ("TurnThreads$Run", "rescues", "I", false)
  | _ => ("TurnThreads$Run", "tickets", "I", false)
def tyX5 : Nat → FieldType := fun k => match k with
  | 0 => .object "TurnThreads$Programs"
  | 1 => .array (.object "TurnThreads$Fiber")
  | 2 => .object "TurnThreads$Line"
  | 3 => .object "TurnThreads$Boxes"
  | 4 => .object "TurnThreads$Rows"
  | 5 => .int
  | 6 => .boolean
  | 7 => .boolean
  | 8 => .int
  | 9 => .int
  | 10 => .int
  | 11 => .int
  | _ => .int
abbrev wsX50 : List Cond := u_ws RX5 TX5 13
theorem nmX5 : ∀ a, a < 13 → ∀ b, b < 13 → a ≠ b → (TX5 a).2.1 ≠ (TX5 b).2.1 := by decide +kernel
theorem tyX5_ok : ∀ k, k < 13 → parseFieldDescriptor (TX5 k).2.2.1 = some (tyX5 k) := by decide +kernel
abbrev cX5_init : ByteArray := prog_7_method_1_code
def yX5_init : MethodName := ⟨RX5, "<init>", "(LTurnThreads$Programs;)V"⟩
abbrev cX5_start : ByteArray := prog_7_method_2_code
def yX5_start : MethodName := ⟨RX5, "start", "(III)V"⟩
abbrev cX5_fiberAt : ByteArray := prog_7_method_3_code
def yX5_fiberAt : MethodName := ⟨RX5, "fiberAt", "(I)LTurnThreads$Fiber;"⟩
abbrev cX5_countWaiting : ByteArray := prog_7_method_4_code
def yX5_countWaiting : MethodName := ⟨RX5, "countWaiting", "(II)I"⟩
abbrev cX5_takeTurn : ByteArray := prog_7_method_5_code
def yX5_takeTurn : MethodName := ⟨RX5, "takeTurn", "()Z"⟩
abbrev cX5_nextToRun : ByteArray := prog_7_method_6_code
def yX5_nextToRun : MethodName := ⟨RX5, "nextToRun", "()LTurnThreads$Fiber;"⟩
abbrev cX5_wakeDelayed : ByteArray := prog_7_method_7_code
def yX5_wakeDelayed : MethodName := ⟨RX5, "wakeDelayed", "()V"⟩
abbrev cX5_firstDelayed : ByteArray := prog_7_method_8_code
def yX5_firstDelayed : MethodName := ⟨RX5, "firstDelayed", "()LTurnThreads$Fiber;"⟩
abbrev cX5_endIdleness : ByteArray := prog_7_method_9_code
def yX5_endIdleness : MethodName := ⟨RX5, "endIdleness", "()V"⟩
abbrev cX5_rescueWaiting : ByteArray := prog_7_method_10_code
def yX5_rescueWaiting : MethodName := ⟨RX5, "rescueWaiting", "()V"⟩
abbrev cX5_closeIfOver : ByteArray := prog_7_method_11_code
def yX5_closeIfOver : MethodName := ⟨RX5, "closeIfOver", "()V"⟩
abbrev cX5_doAct : ByteArray := prog_7_method_12_code
def yX5_doAct : MethodName := ⟨RX5, "doAct", "(LTurnThreads$Fiber;II)V"⟩
abbrev cX5_stateAfter : ByteArray := prog_7_method_13_code
def yX5_stateAfter : MethodName := ⟨RX5, "stateAfter", "(II)I"⟩
abbrev cX5_pause : ByteArray := prog_7_method_14_code
def yX5_pause : MethodName := ⟨RX5, "pause", "(LTurnThreads$Fiber;II)V"⟩
abbrev cX5_perform : ByteArray := prog_7_method_15_code
def yX5_perform : MethodName := ⟨RX5, "perform", "(LTurnThreads$Fiber;II)V"⟩
abbrev cX5_startFiber : ByteArray := prog_7_method_16_code
def yX5_startFiber : MethodName := ⟨RX5, "startFiber", "(II)I"⟩
abbrev cX5_makeReady : ByteArray := prog_7_method_17_code
def yX5_makeReady : MethodName := ⟨RX5, "makeReady", "(LTurnThreads$Fiber;)V"⟩
abbrev cX5_bring : ByteArray := prog_7_method_18_code
def yX5_bring : MethodName := ⟨RX5, "bring", "(II)V"⟩
abbrev cX5_takeFrom : ByteArray := prog_7_method_19_code
def yX5_takeFrom : MethodName := ⟨RX5, "takeFrom", "(ILTurnThreads$Fiber;)V"⟩
abbrev cX5_firstWaiting : ByteArray := prog_7_method_20_code
def yX5_firstWaiting : MethodName := ⟨RX5, "firstWaiting", "(II)LTurnThreads$Fiber;"⟩
abbrev cX5_raise : ByteArray := prog_7_method_21_code
def yX5_raise : MethodName := ⟨RX5, "raise", "(LTurnThreads$Fiber;I)V"⟩
abbrev cX5_throwTo : ByteArray := prog_7_method_22_code
def yX5_throwTo : MethodName := ⟨RX5, "throwTo", "(LTurnThreads$Fiber;LTurnThreads$Fiber;I)V"⟩
abbrev cX5_mask : ByteArray := prog_7_method_23_code
def yX5_mask : MethodName := ⟨RX5, "mask", "(LTurnThreads$Fiber;Z)V"⟩
def RX6 : String := "TurnThreads"
def TX6 : u_T := fun k => match k with
  | 0 => ("TurnThreads", "programs", "LTurnThreads$Programs;", true)
  | _ => ("TurnThreads", "run", "LTurnThreads$Run;", true)
def tyX6 : Nat → FieldType := fun k => match k with
  | 0 => .object "TurnThreads$Programs"
  | _ => .object "TurnThreads$Run"
abbrev wsX60 : List Cond := u_ws RX6 TX6 2
theorem nmX6 : ∀ a, a < 2 → ∀ b, b < 2 → a ≠ b → (TX6 a).2.1 ≠ (TX6 b).2.1 := by decide +kernel
theorem tyX6_ok : ∀ k, k < 2 → parseFieldDescriptor (TX6 k).2.2.1 = some (tyX6 k) := by decide +kernel
abbrev cX6_init : ByteArray := prog_1_method_1_code
def yX6_init : MethodName := ⟨RX6, "<init>", "()V"⟩
abbrev cX6_program : ByteArray := prog_1_method_2_code
def yX6_program : MethodName := ⟨RX6, "program", "()I"⟩
abbrev cX6_act : ByteArray := prog_1_method_3_code
def yX6_act : MethodName := ⟨RX6, "act", "(II)I"⟩
abbrev cX6_begin : ByteArray := prog_1_method_4_code
def yX6_begin : MethodName := ⟨RX6, "begin", "(III)I"⟩
abbrev cX6_fill : ByteArray := prog_1_method_5_code
def yX6_fill : MethodName := ⟨RX6, "fill", "(II)I"⟩
abbrev cX6_step : ByteArray := prog_1_method_6_code
def yX6_step : MethodName := ⟨RX6, "step", "(I)I"⟩
abbrev cX6_told : ByteArray := prog_1_method_7_code
def yX6_told : MethodName := ⟨RX6, "told", "(I)I"⟩
abbrev cX6_thread : ByteArray := prog_1_method_8_code
def yX6_thread : MethodName := ⟨RX6, "thread", "(II)I"⟩
abbrev cX6_queued : ByteArray := prog_1_method_9_code
def yX6_queued : MethodName := ⟨RX6, "queued", "(I)I"⟩
abbrev cX6_box : ByteArray := prog_1_method_10_code
def yX6_box : MethodName := ⟨RX6, "box", "(II)I"⟩
abbrev cX6_trace : ByteArray := prog_1_method_11_code
def yX6_trace : MethodName := ⟨RX6, "trace", "(II)I"⟩
abbrev cX6_share : ByteArray := prog_1_method_12_code
def yX6_share : MethodName := ⟨RX6, "share", "(I)I"⟩
abbrev cX6_fits : ByteArray := prog_1_method_13_code
def yX6_fits : MethodName := ⟨RX6, "fits", "(II)Z"⟩
def RX7 : String := "TurnThreadsModel"
def TX7 : u_T := fun k => match k with
  | 0 => ("TurnThreadsModel", "thrown", "I", false)
  | 1 => ("TurnThreadsModel", "programs", "I", false)
  | 2 => ("TurnThreadsModel", "size", "[I", true)
  | 3 => ("TurnThreadsModel", "kinds", "[I", true)
  | 4 => ("TurnThreadsModel", "args", "[I", true)
  | 5 => ("TurnThreadsModel", "has", "Z", false)
  | 6 => ("TurnThreadsModel", "over", "Z", false)
  | 7 => ("TurnThreadsModel", "quantum", "I", false)
  | 8 => ("TurnThreadsModel", "clock", "I", false)
  | 9 => ("TurnThreadsModel", "turns", "I", false)
  | 10 => ("TurnThreadsModel", "tens", "I", false)
  | 11 => ("TurnThreadsModel", "threads", "I", false)
  | 12 => ("TurnThreadsModel", "state", "[I", true)
  | 13 => ("TurnThreadsModel", "program", "[I", true)
  | 14 => ("TurnThreadsModel", "next", "[I", true)
  | 15 => ("TurnThreadsModel", "register", "[I", true)
  | 16 => ("TurnThreadsModel", "handlers", "[I", true)
  | 17 => ("TurnThreadsModel", "handler", "[I", true)
  | 18 => ("TurnThreadsModel", "masked", "[Z", true)
  | 19 => ("TurnThreadsModel", "pendings", "[I", true)
  | 20 => ("TurnThreadsModel", "pending", "[I", true)
  | 21 => ("TurnThreadsModel", "by", "[I", true)
  | 22 => ("TurnThreadsModel", "had", "[I", true)
  | 23 => ("TurnThreadsModel", "until", "[I", true)
  | 24 => ("TurnThreadsModel", "waitsAt", "[I", true)
  | 25 => ("TurnThreadsModel", "cameAt", "[I", true)
  | 26 => ("TurnThreadsModel", "came", "I", false)
  | 27 => ("TurnThreadsModel", "queued", "I", false)
  | 28 => ("TurnThreadsModel", "queue", "[I", true)
  | 29 => ("TurnThreadsModel", "value", "[I", true)
  | 30 => ("TurnThreadsModel", "full", "[Z", true)
  | 31 => ("TurnThreadsModel", "rows", "I", false)
  | 32 => ("TurnThreadsModel", "rowThread", "[I", true)
  | 33 => ("TurnThreadsModel", "rowValue", "[I", true)
  | _ => ("TurnThreadsModel", "yields", "Z", false)
def tyX7 : Nat → FieldType := fun k => match k with
  | 0 => .int
  | 1 => .int
  | 2 => .array .int
  | 3 => .array .int
  | 4 => .array .int
  | 5 => .boolean
  | 6 => .boolean
  | 7 => .int
  | 8 => .int
  | 9 => .int
  | 10 => .int
  | 11 => .int
  | 12 => .array .int
  | 13 => .array .int
  | 14 => .array .int
  | 15 => .array .int
  | 16 => .array .int
  | 17 => .array .int
  | 18 => .array .boolean
  | 19 => .array .int
  | 20 => .array .int
  | 21 => .array .int
  | 22 => .array .int
  | 23 => .array .int
  | 24 => .array .int
  | 25 => .array .int
  | 26 => .int
  | 27 => .int
  | 28 => .array .int
  | 29 => .array .int
  | 30 => .array .boolean
  | 31 => .int
  | 32 => .array .int
  | 33 => .array .int
  | _ => .boolean
abbrev wsX70 : List Cond := u_ws RX7 TX7 35
theorem nmX7 : ∀ a, a < 35 → ∀ b, b < 35 → a ≠ b → (TX7 a).2.1 ≠ (TX7 b).2.1 := by decide +kernel
theorem tyX7_ok : ∀ k, k < 35 → parseFieldDescriptor (TX7 k).2.2.1 = some (tyX7 k) := by decide +kernel
abbrev cX7_init : ByteArray := prog_9_method_1_code
def yX7_init : MethodName := ⟨RX7, "<init>", "()V"⟩
abbrev cX7_thrown : ByteArray := prog_9_method_2_code
def yX7_thrown : MethodName := ⟨RX7, "thrown", "()I"⟩
abbrev cX7_in : ByteArray := prog_9_method_3_code
def yX7_in : MethodName := ⟨RX7, "in", "(III)Z"⟩
abbrev cX7_program : ByteArray := prog_9_method_4_code
def yX7_program : MethodName := ⟨RX7, "program", "()I"⟩
abbrev cX7_isGood : ByteArray := prog_9_method_5_code
def yX7_isGood : MethodName := ⟨RX7, "isGood", "(II)Z"⟩
abbrev cX7_act : ByteArray := prog_9_method_6_code
def yX7_act : MethodName := ⟨RX7, "act", "(II)I"⟩
abbrev cX7_newThread : ByteArray := prog_9_method_7_code
def yX7_newThread : MethodName := ⟨RX7, "newThread", "(II)I"⟩
abbrev cX7_enqueue : ByteArray := prog_9_method_8_code
def yX7_enqueue : MethodName := ⟨RX7, "enqueue", "(I)V"⟩
abbrev cX7_leaveQueue : ByteArray := prog_9_method_9_code
def yX7_leaveQueue : MethodName := ⟨RX7, "leaveQueue", "(I)V"⟩
abbrev cX7_begin : ByteArray := prog_9_method_10_code
def yX7_begin : MethodName := ⟨RX7, "begin", "(III)I"⟩
abbrev cX7_firstAt : ByteArray := prog_9_method_11_code
def yX7_firstAt : MethodName := ⟨RX7, "firstAt", "(II)I"⟩
abbrev cX7_goesOn : ByteArray := prog_9_method_12_code
def yX7_goesOn : MethodName := ⟨RX7, "goesOn", "(I)V"⟩
abbrev cX7_comesIn : ByteArray := prog_9_method_13_code
def yX7_comesIn : MethodName := ⟨RX7, "comesIn", "(II)V"⟩
abbrev cX7_taken : ByteArray := prog_9_method_14_code
def yX7_taken : MethodName := ⟨RX7, "taken", "(I)V"⟩
abbrev cX7_fill : ByteArray := prog_9_method_15_code
def yX7_fill : MethodName := ⟨RX7, "fill", "(II)I"⟩
abbrev cX7_except : ByteArray := prog_9_method_16_code
def yX7_except : MethodName := ⟨RX7, "except", "(II)V"⟩
abbrev cX7_finish : ByteArray := prog_9_method_17_code
def yX7_finish : MethodName := ⟨RX7, "finish", "(II)V"⟩
abbrev cX7_popPending : ByteArray := prog_9_method_18_code
def yX7_popPending : MethodName := ⟨RX7, "popPending", "(I)V"⟩
abbrev cX7_waitAt : ByteArray := prog_9_method_19_code
def yX7_waitAt : MethodName := ⟨RX7, "waitAt", "(III)V"⟩
abbrev cX7_throwTo : ByteArray := prog_9_method_20_code
def yX7_throwTo : MethodName := ⟨RX7, "throwTo", "(II)V"⟩
abbrev cX7_doAct : ByteArray := prog_9_method_21_code
def yX7_doAct : MethodName := ⟨RX7, "doAct", "(I)V"⟩
abbrev cX7_doOther : ByteArray := prog_9_method_22_code
def yX7_doOther : MethodName := ⟨RX7, "doOther", "(III)V"⟩
abbrev cX7_wake : ByteArray := prog_9_method_23_code
def yX7_wake : MethodName := ⟨RX7, "wake", "()V"⟩
abbrev cX7_findReady : ByteArray := prog_9_method_24_code
def yX7_findReady : MethodName := ⟨RX7, "findReady", "()V"⟩
abbrev cX7_isTurn : ByteArray := prog_9_method_25_code
def yX7_isTurn : MethodName := ⟨RX7, "isTurn", "()Z"⟩
abbrev cX7_step : ByteArray := prog_9_method_26_code
def yX7_step : MethodName := ⟨RX7, "step", "(I)I"⟩
abbrev cX7_told : ByteArray := prog_9_method_27_code
def yX7_told : MethodName := ⟨RX7, "told", "(I)I"⟩
abbrev cX7_thread : ByteArray := prog_9_method_28_code
def yX7_thread : MethodName := ⟨RX7, "thread", "(II)I"⟩
abbrev cX7_queued : ByteArray := prog_9_method_29_code
def yX7_queued : MethodName := ⟨RX7, "queued", "(I)I"⟩
abbrev cX7_box : ByteArray := prog_9_method_30_code
def yX7_box : MethodName := ⟨RX7, "box", "(II)I"⟩
abbrev cX7_trace : ByteArray := prog_9_method_31_code
def yX7_trace : MethodName := ⟨RX7, "trace", "(II)I"⟩
abbrev cX7_share : ByteArray := prog_9_method_32_code
def yX7_share : MethodName := ⟨RX7, "share", "(I)I"⟩
def RJ0 : String := "java/lang/String"
def RL : String := "TurnThreadsLaw"
abbrev cL_share : ByteArray := method_3_code
def yL_share : MethodName := ⟨RL, "share", "(LTurnThreads;I[J)I"⟩
abbrev cL_law : ByteArray := code
def yL_law : MethodName := ⟨RL, "law", "([I)Z"⟩
abbrev vwCl : List vw_C := [(RX0, TX0, 2), (RX1, TX1, 15), (RX2, TX2, 2), (RX3, TX3, 4), (RX4, TX4, 3), (RX5, TX5, 13), (RX6, TX6, 2), (RX7, TX7, 35)]
end
section
theorem dL_share_0 : decode cL_share 0 = .ok (.aload_n 2, 1) := by decide +kernel
theorem dL_share_1 : decode cL_share 1 = .ok (.iconst 0, 1) := by decide +kernel
theorem dL_share_2 : decode cL_share 2 = .ok (.aload_n 0, 1) := by decide +kernel
theorem dL_share_3 : decode cL_share 3 = .ok (.iload_n 1, 1) := by decide +kernel
theorem dL_share_4 : decode cL_share 4 = .ok (.invokevirtual 7, 3) := by decide +kernel
theorem dL_share_7 : decode cL_share 7 = .ok (.i2l, 1) := by decide +kernel
theorem dL_share_8 : decode cL_share 8 = .ok (.lastore, 1) := by decide +kernel
theorem dL_share_9 : decode cL_share 9 = .ok (.goto 6, 3) := by decide +kernel
theorem dL_share_12 : decode cL_share 12 = .ok (.astore_n 3, 1) := by decide +kernel
theorem dL_share_13 : decode cL_share 13 = .ok (.iconst 1, 1) := by decide +kernel
theorem dL_share_14 : decode cL_share 14 = .ok (.ireturn, 1) := by decide +kernel
theorem dL_share_15 : decode cL_share 15 = .ok (.iconst 0, 1) := by decide +kernel
theorem dL_share_16 : decode cL_share 16 = .ok (.ireturn, 1) := by decide +kernel
theorem dL_law_0 : decode cL_law 0 = .ok (.new 8, 3) := by decide +kernel
theorem dL_law_3 : decode cL_law 3 = .ok (.dup, 1) := by decide +kernel
theorem dL_law_4 : decode cL_law 4 = .ok (.invokespecial 15, 3) := by decide +kernel
theorem dL_law_7 : decode cL_law 7 = .ok (.astore_n 1, 1) := by decide +kernel
theorem dL_law_8 : decode cL_law 8 = .ok (.new 16, 3) := by decide +kernel
theorem dL_law_11 : decode cL_law 11 = .ok (.dup, 1) := by decide +kernel
theorem dL_law_12 : decode cL_law 12 = .ok (.invokespecial 18, 3) := by decide +kernel
theorem dL_law_15 : decode cL_law 15 = .ok (.astore_n 2, 1) := by decide +kernel
theorem dL_law_16 : decode cL_law 16 = .ok (.iconst 1, 1) := by decide +kernel
theorem dL_law_17 : decode cL_law 17 = .ok (.newarray .long, 2) := by decide +kernel
theorem dL_law_19 : decode cL_law 19 = .ok (.astore_n 3, 1) := by decide +kernel
theorem dL_law_20 : decode cL_law 20 = .ok (.iconst 0, 1) := by decide +kernel
theorem dL_law_21 : decode cL_law 21 = .ok (.istore 4, 2) := by decide +kernel
theorem dL_law_23 : decode cL_law 23 = .ok (.iload 4, 2) := by decide +kernel
theorem dL_law_25 : decode cL_law 25 = .ok (.aload_n 0, 1) := by decide +kernel
theorem dL_law_26 : decode cL_law 26 = .ok (.arraylength, 1) := by decide +kernel
theorem dL_law_27 : decode cL_law 27 = .ok (.iconst 4, 1) := by decide +kernel
theorem dL_law_28 : decode cL_law 28 = .ok (.isub, 1) := by decide +kernel
theorem dL_law_29 : decode cL_law 29 = .ok (.if_icmp .gt 451, 3) := by decide +kernel
theorem dL_law_32 : decode cL_law 32 = .ok (.aload_n 0, 1) := by decide +kernel
theorem dL_law_33 : decode cL_law 33 = .ok (.iload 4, 2) := by decide +kernel
theorem dL_law_35 : decode cL_law 35 = .ok (.iaload, 1) := by decide +kernel
theorem dL_law_36 : decode cL_law 36 = .ok (.bipush 15, 2) := by decide +kernel
theorem dL_law_38 : decode cL_law 38 = .ok (.iand, 1) := by decide +kernel
theorem dL_law_39 : decode cL_law 39 = .ok (.tableswitch 435 0 10 #[57, 70, 107, 156, 193, 218, 243, 280, 305, 342, 379], 57) := by decide +kernel
theorem dL_law_96 : decode cL_law 96 = .ok (.aload_n 1, 1) := by decide +kernel
theorem dL_law_97 : decode cL_law 97 = .ok (.invokevirtual 19, 3) := by decide +kernel
theorem dL_law_100 : decode cL_law 100 = .ok (.aload_n 2, 1) := by decide +kernel
theorem dL_law_101 : decode cL_law 101 = .ok (.invokevirtual 23, 3) := by decide +kernel
theorem dL_law_104 : decode cL_law 104 = .ok (.if_icmp .eq 370, 3) := by decide +kernel
theorem dL_law_107 : decode cL_law 107 = .ok (.iconst 0, 1) := by decide +kernel
theorem dL_law_108 : decode cL_law 108 = .ok (.ireturn, 1) := by decide +kernel
theorem dL_law_109 : decode cL_law 109 = .ok (.aload_n 1, 1) := by decide +kernel
theorem dL_law_110 : decode cL_law 110 = .ok (.aload_n 0, 1) := by decide +kernel
theorem dL_law_111 : decode cL_law 111 = .ok (.iload 4, 2) := by decide +kernel
theorem dL_law_113 : decode cL_law 113 = .ok (.iconst 1, 1) := by decide +kernel
theorem dL_law_114 : decode cL_law 114 = .ok (.iadd, 1) := by decide +kernel
theorem dL_law_115 : decode cL_law 115 = .ok (.iaload, 1) := by decide +kernel
theorem dL_law_116 : decode cL_law 116 = .ok (.aload_n 0, 1) := by decide +kernel
theorem dL_law_117 : decode cL_law 117 = .ok (.iload 4, 2) := by decide +kernel
theorem dL_law_119 : decode cL_law 119 = .ok (.iconst 2, 1) := by decide +kernel
theorem dL_law_120 : decode cL_law 120 = .ok (.iadd, 1) := by decide +kernel
theorem dL_law_121 : decode cL_law 121 = .ok (.iaload, 1) := by decide +kernel
theorem dL_law_122 : decode cL_law 122 = .ok (.invokevirtual 24, 3) := by decide +kernel
theorem dL_law_125 : decode cL_law 125 = .ok (.aload_n 2, 1) := by decide +kernel
theorem dL_law_126 : decode cL_law 126 = .ok (.aload_n 0, 1) := by decide +kernel
theorem dL_law_127 : decode cL_law 127 = .ok (.iload 4, 2) := by decide +kernel
theorem dL_law_129 : decode cL_law 129 = .ok (.iconst 1, 1) := by decide +kernel
theorem dL_law_130 : decode cL_law 130 = .ok (.iadd, 1) := by decide +kernel
theorem dL_law_131 : decode cL_law 131 = .ok (.iaload, 1) := by decide +kernel
theorem dL_law_132 : decode cL_law 132 = .ok (.aload_n 0, 1) := by decide +kernel
theorem dL_law_133 : decode cL_law 133 = .ok (.iload 4, 2) := by decide +kernel
theorem dL_law_135 : decode cL_law 135 = .ok (.iconst 2, 1) := by decide +kernel
theorem dL_law_136 : decode cL_law 136 = .ok (.iadd, 1) := by decide +kernel
theorem dL_law_137 : decode cL_law 137 = .ok (.iaload, 1) := by decide +kernel
theorem dL_law_138 : decode cL_law 138 = .ok (.invokevirtual 28, 3) := by decide +kernel
theorem dL_law_141 : decode cL_law 141 = .ok (.if_icmp .eq 333, 3) := by decide +kernel
theorem dL_law_144 : decode cL_law 144 = .ok (.iconst 0, 1) := by decide +kernel
theorem dL_law_145 : decode cL_law 145 = .ok (.ireturn, 1) := by decide +kernel
theorem dL_law_146 : decode cL_law 146 = .ok (.aload_n 1, 1) := by decide +kernel
theorem dL_law_147 : decode cL_law 147 = .ok (.aload_n 0, 1) := by decide +kernel
theorem dL_law_148 : decode cL_law 148 = .ok (.iload 4, 2) := by decide +kernel
theorem dL_law_150 : decode cL_law 150 = .ok (.iconst 1, 1) := by decide +kernel
theorem dL_law_151 : decode cL_law 151 = .ok (.iadd, 1) := by decide +kernel
theorem dL_law_152 : decode cL_law 152 = .ok (.iaload, 1) := by decide +kernel
theorem dL_law_153 : decode cL_law 153 = .ok (.aload_n 0, 1) := by decide +kernel
theorem dL_law_154 : decode cL_law 154 = .ok (.iload 4, 2) := by decide +kernel
theorem dL_law_156 : decode cL_law 156 = .ok (.iconst 2, 1) := by decide +kernel
theorem dL_law_157 : decode cL_law 157 = .ok (.iadd, 1) := by decide +kernel
theorem dL_law_158 : decode cL_law 158 = .ok (.iaload, 1) := by decide +kernel
theorem dL_law_159 : decode cL_law 159 = .ok (.aload_n 0, 1) := by decide +kernel
theorem dL_law_160 : decode cL_law 160 = .ok (.iload 4, 2) := by decide +kernel
theorem dL_law_162 : decode cL_law 162 = .ok (.iconst 3, 1) := by decide +kernel
theorem dL_law_163 : decode cL_law 163 = .ok (.iadd, 1) := by decide +kernel
theorem dL_law_164 : decode cL_law 164 = .ok (.iaload, 1) := by decide +kernel
theorem dL_law_165 : decode cL_law 165 = .ok (.invokevirtual 29, 3) := by decide +kernel
theorem dL_law_168 : decode cL_law 168 = .ok (.aload_n 2, 1) := by decide +kernel
theorem dL_law_169 : decode cL_law 169 = .ok (.aload_n 0, 1) := by decide +kernel
theorem dL_law_170 : decode cL_law 170 = .ok (.iload 4, 2) := by decide +kernel
theorem dL_law_172 : decode cL_law 172 = .ok (.iconst 1, 1) := by decide +kernel
theorem dL_law_173 : decode cL_law 173 = .ok (.iadd, 1) := by decide +kernel
theorem dL_law_174 : decode cL_law 174 = .ok (.iaload, 1) := by decide +kernel
theorem dL_law_175 : decode cL_law 175 = .ok (.aload_n 0, 1) := by decide +kernel
theorem dL_law_176 : decode cL_law 176 = .ok (.iload 4, 2) := by decide +kernel
theorem dL_law_178 : decode cL_law 178 = .ok (.iconst 2, 1) := by decide +kernel
theorem dL_law_179 : decode cL_law 179 = .ok (.iadd, 1) := by decide +kernel
theorem dL_law_180 : decode cL_law 180 = .ok (.iaload, 1) := by decide +kernel
theorem dL_law_181 : decode cL_law 181 = .ok (.aload_n 0, 1) := by decide +kernel
theorem dL_law_182 : decode cL_law 182 = .ok (.iload 4, 2) := by decide +kernel
theorem dL_law_184 : decode cL_law 184 = .ok (.iconst 3, 1) := by decide +kernel
theorem dL_law_185 : decode cL_law 185 = .ok (.iadd, 1) := by decide +kernel
theorem dL_law_186 : decode cL_law 186 = .ok (.iaload, 1) := by decide +kernel
theorem dL_law_187 : decode cL_law 187 = .ok (.invokevirtual 33, 3) := by decide +kernel
theorem dL_law_190 : decode cL_law 190 = .ok (.if_icmp .eq 284, 3) := by decide +kernel
theorem dL_law_193 : decode cL_law 193 = .ok (.iconst 0, 1) := by decide +kernel
theorem dL_law_194 : decode cL_law 194 = .ok (.ireturn, 1) := by decide +kernel
theorem dL_law_195 : decode cL_law 195 = .ok (.aload_n 1, 1) := by decide +kernel
theorem dL_law_196 : decode cL_law 196 = .ok (.aload_n 0, 1) := by decide +kernel
theorem dL_law_197 : decode cL_law 197 = .ok (.iload 4, 2) := by decide +kernel
theorem dL_law_199 : decode cL_law 199 = .ok (.iconst 1, 1) := by decide +kernel
theorem dL_law_200 : decode cL_law 200 = .ok (.iadd, 1) := by decide +kernel
theorem dL_law_201 : decode cL_law 201 = .ok (.iaload, 1) := by decide +kernel
theorem dL_law_202 : decode cL_law 202 = .ok (.aload_n 0, 1) := by decide +kernel
theorem dL_law_203 : decode cL_law 203 = .ok (.iload 4, 2) := by decide +kernel
theorem dL_law_205 : decode cL_law 205 = .ok (.iconst 2, 1) := by decide +kernel
theorem dL_law_206 : decode cL_law 206 = .ok (.iadd, 1) := by decide +kernel
theorem dL_law_207 : decode cL_law 207 = .ok (.iaload, 1) := by decide +kernel
theorem dL_law_208 : decode cL_law 208 = .ok (.invokevirtual 34, 3) := by decide +kernel
theorem dL_law_211 : decode cL_law 211 = .ok (.aload_n 2, 1) := by decide +kernel
theorem dL_law_212 : decode cL_law 212 = .ok (.aload_n 0, 1) := by decide +kernel
theorem dL_law_213 : decode cL_law 213 = .ok (.iload 4, 2) := by decide +kernel
theorem dL_law_215 : decode cL_law 215 = .ok (.iconst 1, 1) := by decide +kernel
theorem dL_law_216 : decode cL_law 216 = .ok (.iadd, 1) := by decide +kernel
theorem dL_law_217 : decode cL_law 217 = .ok (.iaload, 1) := by decide +kernel
theorem dL_law_218 : decode cL_law 218 = .ok (.aload_n 0, 1) := by decide +kernel
theorem dL_law_219 : decode cL_law 219 = .ok (.iload 4, 2) := by decide +kernel
theorem dL_law_221 : decode cL_law 221 = .ok (.iconst 2, 1) := by decide +kernel
theorem dL_law_222 : decode cL_law 222 = .ok (.iadd, 1) := by decide +kernel
theorem dL_law_223 : decode cL_law 223 = .ok (.iaload, 1) := by decide +kernel
theorem dL_law_224 : decode cL_law 224 = .ok (.invokevirtual 37, 3) := by decide +kernel
theorem dL_law_227 : decode cL_law 227 = .ok (.if_icmp .eq 247, 3) := by decide +kernel
theorem dL_law_230 : decode cL_law 230 = .ok (.iconst 0, 1) := by decide +kernel
theorem dL_law_231 : decode cL_law 231 = .ok (.ireturn, 1) := by decide +kernel
theorem dL_law_232 : decode cL_law 232 = .ok (.aload_n 1, 1) := by decide +kernel
theorem dL_law_233 : decode cL_law 233 = .ok (.aload_n 0, 1) := by decide +kernel
theorem dL_law_234 : decode cL_law 234 = .ok (.iload 4, 2) := by decide +kernel
theorem dL_law_236 : decode cL_law 236 = .ok (.iconst 1, 1) := by decide +kernel
theorem dL_law_237 : decode cL_law 237 = .ok (.iadd, 1) := by decide +kernel
theorem dL_law_238 : decode cL_law 238 = .ok (.iaload, 1) := by decide +kernel
theorem dL_law_239 : decode cL_law 239 = .ok (.invokevirtual 38, 3) := by decide +kernel
theorem dL_law_242 : decode cL_law 242 = .ok (.aload_n 2, 1) := by decide +kernel
theorem dL_law_243 : decode cL_law 243 = .ok (.aload_n 0, 1) := by decide +kernel
theorem dL_law_244 : decode cL_law 244 = .ok (.iload 4, 2) := by decide +kernel
theorem dL_law_246 : decode cL_law 246 = .ok (.iconst 1, 1) := by decide +kernel
theorem dL_law_247 : decode cL_law 247 = .ok (.iadd, 1) := by decide +kernel
theorem dL_law_248 : decode cL_law 248 = .ok (.iaload, 1) := by decide +kernel
theorem dL_law_249 : decode cL_law 249 = .ok (.invokevirtual 41, 3) := by decide +kernel
theorem dL_law_252 : decode cL_law 252 = .ok (.if_icmp .eq 222, 3) := by decide +kernel
theorem dL_law_255 : decode cL_law 255 = .ok (.iconst 0, 1) := by decide +kernel
theorem dL_law_256 : decode cL_law 256 = .ok (.ireturn, 1) := by decide +kernel
theorem dL_law_257 : decode cL_law 257 = .ok (.aload_n 1, 1) := by decide +kernel
theorem dL_law_258 : decode cL_law 258 = .ok (.aload_n 0, 1) := by decide +kernel
theorem dL_law_259 : decode cL_law 259 = .ok (.iload 4, 2) := by decide +kernel
theorem dL_law_261 : decode cL_law 261 = .ok (.iconst 1, 1) := by decide +kernel
theorem dL_law_262 : decode cL_law 262 = .ok (.iadd, 1) := by decide +kernel
theorem dL_law_263 : decode cL_law 263 = .ok (.iaload, 1) := by decide +kernel
theorem dL_law_264 : decode cL_law 264 = .ok (.invokevirtual 42, 3) := by decide +kernel
theorem dL_law_267 : decode cL_law 267 = .ok (.aload_n 2, 1) := by decide +kernel
theorem dL_law_268 : decode cL_law 268 = .ok (.aload_n 0, 1) := by decide +kernel
theorem dL_law_269 : decode cL_law 269 = .ok (.iload 4, 2) := by decide +kernel
theorem dL_law_271 : decode cL_law 271 = .ok (.iconst 1, 1) := by decide +kernel
theorem dL_law_272 : decode cL_law 272 = .ok (.iadd, 1) := by decide +kernel
theorem dL_law_273 : decode cL_law 273 = .ok (.iaload, 1) := by decide +kernel
theorem dL_law_274 : decode cL_law 274 = .ok (.invokevirtual 45, 3) := by decide +kernel
theorem dL_law_277 : decode cL_law 277 = .ok (.if_icmp .eq 197, 3) := by decide +kernel
theorem dL_law_280 : decode cL_law 280 = .ok (.iconst 0, 1) := by decide +kernel
theorem dL_law_281 : decode cL_law 281 = .ok (.ireturn, 1) := by decide +kernel
theorem dL_law_282 : decode cL_law 282 = .ok (.aload_n 1, 1) := by decide +kernel
theorem dL_law_283 : decode cL_law 283 = .ok (.aload_n 0, 1) := by decide +kernel
theorem dL_law_284 : decode cL_law 284 = .ok (.iload 4, 2) := by decide +kernel
theorem dL_law_286 : decode cL_law 286 = .ok (.iconst 1, 1) := by decide +kernel
theorem dL_law_287 : decode cL_law 287 = .ok (.iadd, 1) := by decide +kernel
theorem dL_law_288 : decode cL_law 288 = .ok (.iaload, 1) := by decide +kernel
theorem dL_law_289 : decode cL_law 289 = .ok (.aload_n 0, 1) := by decide +kernel
theorem dL_law_290 : decode cL_law 290 = .ok (.iload 4, 2) := by decide +kernel
theorem dL_law_292 : decode cL_law 292 = .ok (.iconst 2, 1) := by decide +kernel
theorem dL_law_293 : decode cL_law 293 = .ok (.iadd, 1) := by decide +kernel
theorem dL_law_294 : decode cL_law 294 = .ok (.iaload, 1) := by decide +kernel
theorem dL_law_295 : decode cL_law 295 = .ok (.invokevirtual 46, 3) := by decide +kernel
theorem dL_law_298 : decode cL_law 298 = .ok (.aload_n 2, 1) := by decide +kernel
theorem dL_law_299 : decode cL_law 299 = .ok (.aload_n 0, 1) := by decide +kernel
theorem dL_law_300 : decode cL_law 300 = .ok (.iload 4, 2) := by decide +kernel
theorem dL_law_302 : decode cL_law 302 = .ok (.iconst 1, 1) := by decide +kernel
theorem dL_law_303 : decode cL_law 303 = .ok (.iadd, 1) := by decide +kernel
theorem dL_law_304 : decode cL_law 304 = .ok (.iaload, 1) := by decide +kernel
theorem dL_law_305 : decode cL_law 305 = .ok (.aload_n 0, 1) := by decide +kernel
theorem dL_law_306 : decode cL_law 306 = .ok (.iload 4, 2) := by decide +kernel
theorem dL_law_308 : decode cL_law 308 = .ok (.iconst 2, 1) := by decide +kernel
theorem dL_law_309 : decode cL_law 309 = .ok (.iadd, 1) := by decide +kernel
theorem dL_law_310 : decode cL_law 310 = .ok (.iaload, 1) := by decide +kernel
theorem dL_law_311 : decode cL_law 311 = .ok (.invokevirtual 49, 3) := by decide +kernel
theorem dL_law_314 : decode cL_law 314 = .ok (.if_icmp .eq 160, 3) := by decide +kernel
theorem dL_law_317 : decode cL_law 317 = .ok (.iconst 0, 1) := by decide +kernel
theorem dL_law_318 : decode cL_law 318 = .ok (.ireturn, 1) := by decide +kernel
theorem dL_law_319 : decode cL_law 319 = .ok (.aload_n 1, 1) := by decide +kernel
theorem dL_law_320 : decode cL_law 320 = .ok (.aload_n 0, 1) := by decide +kernel
theorem dL_law_321 : decode cL_law 321 = .ok (.iload 4, 2) := by decide +kernel
theorem dL_law_323 : decode cL_law 323 = .ok (.iconst 1, 1) := by decide +kernel
theorem dL_law_324 : decode cL_law 324 = .ok (.iadd, 1) := by decide +kernel
theorem dL_law_325 : decode cL_law 325 = .ok (.iaload, 1) := by decide +kernel
theorem dL_law_326 : decode cL_law 326 = .ok (.invokevirtual 50, 3) := by decide +kernel
theorem dL_law_329 : decode cL_law 329 = .ok (.aload_n 2, 1) := by decide +kernel
theorem dL_law_330 : decode cL_law 330 = .ok (.aload_n 0, 1) := by decide +kernel
theorem dL_law_331 : decode cL_law 331 = .ok (.iload 4, 2) := by decide +kernel
theorem dL_law_333 : decode cL_law 333 = .ok (.iconst 1, 1) := by decide +kernel
theorem dL_law_334 : decode cL_law 334 = .ok (.iadd, 1) := by decide +kernel
theorem dL_law_335 : decode cL_law 335 = .ok (.iaload, 1) := by decide +kernel
theorem dL_law_336 : decode cL_law 336 = .ok (.invokevirtual 53, 3) := by decide +kernel
theorem dL_law_339 : decode cL_law 339 = .ok (.if_icmp .eq 135, 3) := by decide +kernel
theorem dL_law_342 : decode cL_law 342 = .ok (.iconst 0, 1) := by decide +kernel
theorem dL_law_343 : decode cL_law 343 = .ok (.ireturn, 1) := by decide +kernel
theorem dL_law_344 : decode cL_law 344 = .ok (.aload_n 1, 1) := by decide +kernel
theorem dL_law_345 : decode cL_law 345 = .ok (.aload_n 0, 1) := by decide +kernel
theorem dL_law_346 : decode cL_law 346 = .ok (.iload 4, 2) := by decide +kernel
theorem dL_law_348 : decode cL_law 348 = .ok (.iconst 1, 1) := by decide +kernel
theorem dL_law_349 : decode cL_law 349 = .ok (.iadd, 1) := by decide +kernel
theorem dL_law_350 : decode cL_law 350 = .ok (.iaload, 1) := by decide +kernel
theorem dL_law_351 : decode cL_law 351 = .ok (.aload_n 0, 1) := by decide +kernel
theorem dL_law_352 : decode cL_law 352 = .ok (.iload 4, 2) := by decide +kernel
theorem dL_law_354 : decode cL_law 354 = .ok (.iconst 2, 1) := by decide +kernel
theorem dL_law_355 : decode cL_law 355 = .ok (.iadd, 1) := by decide +kernel
theorem dL_law_356 : decode cL_law 356 = .ok (.iaload, 1) := by decide +kernel
theorem dL_law_357 : decode cL_law 357 = .ok (.invokevirtual 54, 3) := by decide +kernel
theorem dL_law_360 : decode cL_law 360 = .ok (.aload_n 2, 1) := by decide +kernel
theorem dL_law_361 : decode cL_law 361 = .ok (.aload_n 0, 1) := by decide +kernel
theorem dL_law_362 : decode cL_law 362 = .ok (.iload 4, 2) := by decide +kernel
theorem dL_law_364 : decode cL_law 364 = .ok (.iconst 1, 1) := by decide +kernel
theorem dL_law_365 : decode cL_law 365 = .ok (.iadd, 1) := by decide +kernel
theorem dL_law_366 : decode cL_law 366 = .ok (.iaload, 1) := by decide +kernel
theorem dL_law_367 : decode cL_law 367 = .ok (.aload_n 0, 1) := by decide +kernel
theorem dL_law_368 : decode cL_law 368 = .ok (.iload 4, 2) := by decide +kernel
theorem dL_law_370 : decode cL_law 370 = .ok (.iconst 2, 1) := by decide +kernel
theorem dL_law_371 : decode cL_law 371 = .ok (.iadd, 1) := by decide +kernel
theorem dL_law_372 : decode cL_law 372 = .ok (.iaload, 1) := by decide +kernel
theorem dL_law_373 : decode cL_law 373 = .ok (.invokevirtual 57, 3) := by decide +kernel
theorem dL_law_376 : decode cL_law 376 = .ok (.if_icmp .eq 98, 3) := by decide +kernel
theorem dL_law_379 : decode cL_law 379 = .ok (.iconst 0, 1) := by decide +kernel
theorem dL_law_380 : decode cL_law 380 = .ok (.ireturn, 1) := by decide +kernel
theorem dL_law_381 : decode cL_law 381 = .ok (.aload_n 1, 1) := by decide +kernel
theorem dL_law_382 : decode cL_law 382 = .ok (.aload_n 0, 1) := by decide +kernel
theorem dL_law_383 : decode cL_law 383 = .ok (.iload 4, 2) := by decide +kernel
theorem dL_law_385 : decode cL_law 385 = .ok (.iconst 1, 1) := by decide +kernel
theorem dL_law_386 : decode cL_law 386 = .ok (.iadd, 1) := by decide +kernel
theorem dL_law_387 : decode cL_law 387 = .ok (.iaload, 1) := by decide +kernel
theorem dL_law_388 : decode cL_law 388 = .ok (.aload_n 0, 1) := by decide +kernel
theorem dL_law_389 : decode cL_law 389 = .ok (.iload 4, 2) := by decide +kernel
theorem dL_law_391 : decode cL_law 391 = .ok (.iconst 2, 1) := by decide +kernel
theorem dL_law_392 : decode cL_law 392 = .ok (.iadd, 1) := by decide +kernel
theorem dL_law_393 : decode cL_law 393 = .ok (.iaload, 1) := by decide +kernel
theorem dL_law_394 : decode cL_law 394 = .ok (.invokevirtual 58, 3) := by decide +kernel
theorem dL_law_397 : decode cL_law 397 = .ok (.aload_n 2, 1) := by decide +kernel
theorem dL_law_398 : decode cL_law 398 = .ok (.aload_n 0, 1) := by decide +kernel
theorem dL_law_399 : decode cL_law 399 = .ok (.iload 4, 2) := by decide +kernel
theorem dL_law_401 : decode cL_law 401 = .ok (.iconst 1, 1) := by decide +kernel
theorem dL_law_402 : decode cL_law 402 = .ok (.iadd, 1) := by decide +kernel
theorem dL_law_403 : decode cL_law 403 = .ok (.iaload, 1) := by decide +kernel
theorem dL_law_404 : decode cL_law 404 = .ok (.aload_n 0, 1) := by decide +kernel
theorem dL_law_405 : decode cL_law 405 = .ok (.iload 4, 2) := by decide +kernel
theorem dL_law_407 : decode cL_law 407 = .ok (.iconst 2, 1) := by decide +kernel
theorem dL_law_408 : decode cL_law 408 = .ok (.iadd, 1) := by decide +kernel
theorem dL_law_409 : decode cL_law 409 = .ok (.iaload, 1) := by decide +kernel
theorem dL_law_410 : decode cL_law 410 = .ok (.invokevirtual 61, 3) := by decide +kernel
theorem dL_law_413 : decode cL_law 413 = .ok (.if_icmp .eq 61, 3) := by decide +kernel
theorem dL_law_416 : decode cL_law 416 = .ok (.iconst 0, 1) := by decide +kernel
theorem dL_law_417 : decode cL_law 417 = .ok (.ireturn, 1) := by decide +kernel
theorem dL_law_418 : decode cL_law 418 = .ok (.aload_n 1, 1) := by decide +kernel
theorem dL_law_419 : decode cL_law 419 = .ok (.aload_n 0, 1) := by decide +kernel
theorem dL_law_420 : decode cL_law 420 = .ok (.iload 4, 2) := by decide +kernel
theorem dL_law_422 : decode cL_law 422 = .ok (.iconst 1, 1) := by decide +kernel
theorem dL_law_423 : decode cL_law 423 = .ok (.iadd, 1) := by decide +kernel
theorem dL_law_424 : decode cL_law 424 = .ok (.iaload, 1) := by decide +kernel
theorem dL_law_425 : decode cL_law 425 = .ok (.aload_n 3, 1) := by decide +kernel
theorem dL_law_426 : decode cL_law 426 = .ok (.invokestatic 62, 3) := by decide +kernel
theorem dL_law_429 : decode cL_law 429 = .ok (.istore 5, 2) := by decide +kernel
theorem dL_law_431 : decode cL_law 431 = .ok (.aload_n 2, 1) := by decide +kernel
theorem dL_law_432 : decode cL_law 432 = .ok (.aload_n 0, 1) := by decide +kernel
theorem dL_law_433 : decode cL_law 433 = .ok (.iload 4, 2) := by decide +kernel
theorem dL_law_435 : decode cL_law 435 = .ok (.iconst 1, 1) := by decide +kernel
theorem dL_law_436 : decode cL_law 436 = .ok (.iadd, 1) := by decide +kernel
theorem dL_law_437 : decode cL_law 437 = .ok (.iaload, 1) := by decide +kernel
theorem dL_law_438 : decode cL_law 438 = .ok (.invokevirtual 67, 3) := by decide +kernel
theorem dL_law_441 : decode cL_law 441 = .ok (.istore 6, 2) := by decide +kernel
theorem dL_law_443 : decode cL_law 443 = .ok (.aload_n 2, 1) := by decide +kernel
theorem dL_law_444 : decode cL_law 444 = .ok (.invokevirtual 68, 3) := by decide +kernel
theorem dL_law_447 : decode cL_law 447 = .ok (.iload 5, 2) := by decide +kernel
theorem dL_law_449 : decode cL_law 449 = .ok (.if_icmp .eq 5, 3) := by decide +kernel
theorem dL_law_452 : decode cL_law 452 = .ok (.iconst 0, 1) := by decide +kernel
theorem dL_law_453 : decode cL_law 453 = .ok (.ireturn, 1) := by decide +kernel
theorem dL_law_454 : decode cL_law 454 = .ok (.iload 5, 2) := by decide +kernel
theorem dL_law_456 : decode cL_law 456 = .ok (.ifCond .ne 15, 3) := by decide +kernel
theorem dL_law_459 : decode cL_law 459 = .ok (.aload_n 3, 1) := by decide +kernel
theorem dL_law_460 : decode cL_law 460 = .ok (.iconst 0, 1) := by decide +kernel
theorem dL_law_461 : decode cL_law 461 = .ok (.laload, 1) := by decide +kernel
theorem dL_law_462 : decode cL_law 462 = .ok (.iload 6, 2) := by decide +kernel
theorem dL_law_464 : decode cL_law 464 = .ok (.i2l, 1) := by decide +kernel
theorem dL_law_465 : decode cL_law 465 = .ok (.lcmp, 1) := by decide +kernel
theorem dL_law_466 : decode cL_law 466 = .ok (.ifCond .eq 5, 3) := by decide +kernel
theorem dL_law_469 : decode cL_law 469 = .ok (.iconst 0, 1) := by decide +kernel
theorem dL_law_470 : decode cL_law 470 = .ok (.ireturn, 1) := by decide +kernel
theorem dL_law_471 : decode cL_law 471 = .ok (.goto 3, 3) := by decide +kernel
theorem dL_law_474 : decode cL_law 474 = .ok (.iinc 4 4, 3) := by decide +kernel
theorem dL_law_477 : decode cL_law 477 = .ok (.goto (-454), 3) := by decide +kernel
theorem dL_law_480 : decode cL_law 480 = .ok (.iconst 1, 1) := by decide +kernel
theorem dL_law_481 : decode cL_law 481 = .ok (.ireturn, 1) := by decide +kernel
theorem dX0_init_0 : decode cX0_init 0 = .ok (.aload_n 0, 1) := by decide +kernel
theorem dX0_init_1 : decode cX0_init 1 = .ok (.invokespecial 3, 3) := by decide +kernel
theorem dX0_init_4 : decode cX0_init 4 = .ok (.aload_n 0, 1) := by decide +kernel
theorem dX0_init_5 : decode cX0_init 5 = .ok (.bipush 8, 2) := by decide +kernel
theorem dX0_init_7 : decode cX0_init 7 = .ok (.newarray .boolean, 2) := by decide +kernel
theorem dX0_init_9 : decode cX0_init 9 = .ok (.putfield 9, 3) := by decide +kernel
theorem dX0_init_12 : decode cX0_init 12 = .ok (.aload_n 0, 1) := by decide +kernel
theorem dX0_init_13 : decode cX0_init 13 = .ok (.bipush 8, 2) := by decide +kernel
theorem dX0_init_15 : decode cX0_init 15 = .ok (.newarray .int, 2) := by decide +kernel
theorem dX0_init_17 : decode cX0_init 17 = .ok (.putfield 15, 3) := by decide +kernel
theorem dX0_init_20 : decode cX0_init 20 = .ok (.return_, 1) := by decide +kernel
theorem dX0_has_0 : decode cX0_has 0 = .ok (.iload_n 1, 1) := by decide +kernel
theorem dX0_has_1 : decode cX0_has 1 = .ok (.ifCond .lt 13, 3) := by decide +kernel
theorem dX0_has_4 : decode cX0_has 4 = .ok (.iload_n 1, 1) := by decide +kernel
theorem dX0_has_5 : decode cX0_has 5 = .ok (.bipush 8, 2) := by decide +kernel
theorem dX0_has_7 : decode cX0_has 7 = .ok (.if_icmp .ge 7, 3) := by decide +kernel
theorem dX0_has_10 : decode cX0_has 10 = .ok (.iconst 1, 1) := by decide +kernel
theorem dX0_has_11 : decode cX0_has 11 = .ok (.goto 4, 3) := by decide +kernel
theorem dX0_has_14 : decode cX0_has 14 = .ok (.iconst 0, 1) := by decide +kernel
theorem dX0_has_15 : decode cX0_has 15 = .ok (.ireturn, 1) := by decide +kernel
theorem dX0_isFull_0 : decode cX0_isFull 0 = .ok (.aload_n 0, 1) := by decide +kernel
theorem dX0_isFull_1 : decode cX0_isFull 1 = .ok (.iload_n 1, 1) := by decide +kernel
theorem dX0_isFull_2 : decode cX0_isFull 2 = .ok (.invokevirtual 19, 3) := by decide +kernel
theorem dX0_isFull_5 : decode cX0_isFull 5 = .ok (.ifCond .eq 16, 3) := by decide +kernel
theorem dX0_isFull_8 : decode cX0_isFull 8 = .ok (.aload_n 0, 1) := by decide +kernel
theorem dX0_isFull_9 : decode cX0_isFull 9 = .ok (.getfield 9, 3) := by decide +kernel
theorem dX0_isFull_12 : decode cX0_isFull 12 = .ok (.iload_n 1, 1) := by decide +kernel
theorem dX0_isFull_13 : decode cX0_isFull 13 = .ok (.baload, 1) := by decide +kernel
theorem dX0_isFull_14 : decode cX0_isFull 14 = .ok (.ifCond .eq 7, 3) := by decide +kernel
theorem dX0_isFull_17 : decode cX0_isFull 17 = .ok (.iconst 1, 1) := by decide +kernel
theorem dX0_isFull_18 : decode cX0_isFull 18 = .ok (.goto 4, 3) := by decide +kernel
theorem dX0_isFull_21 : decode cX0_isFull 21 = .ok (.iconst 0, 1) := by decide +kernel
theorem dX0_isFull_22 : decode cX0_isFull 22 = .ok (.ireturn, 1) := by decide +kernel
theorem dX0_valueOf_0 : decode cX0_valueOf 0 = .ok (.aload_n 0, 1) := by decide +kernel
theorem dX0_valueOf_1 : decode cX0_valueOf 1 = .ok (.iload_n 1, 1) := by decide +kernel
theorem dX0_valueOf_2 : decode cX0_valueOf 2 = .ok (.invokevirtual 19, 3) := by decide +kernel
theorem dX0_valueOf_5 : decode cX0_valueOf 5 = .ok (.ifCond .eq 12, 3) := by decide +kernel
theorem dX0_valueOf_8 : decode cX0_valueOf 8 = .ok (.aload_n 0, 1) := by decide +kernel
theorem dX0_valueOf_9 : decode cX0_valueOf 9 = .ok (.getfield 15, 3) := by decide +kernel
theorem dX0_valueOf_12 : decode cX0_valueOf 12 = .ok (.iload_n 1, 1) := by decide +kernel
theorem dX0_valueOf_13 : decode cX0_valueOf 13 = .ok (.iaload, 1) := by decide +kernel
theorem dX0_valueOf_14 : decode cX0_valueOf 14 = .ok (.goto 4, 3) := by decide +kernel
theorem dX0_valueOf_17 : decode cX0_valueOf 17 = .ok (.iconst 0, 1) := by decide +kernel
theorem dX0_valueOf_18 : decode cX0_valueOf 18 = .ok (.ireturn, 1) := by decide +kernel
theorem dX0_keep_0 : decode cX0_keep 0 = .ok (.aload_n 0, 1) := by decide +kernel
theorem dX0_keep_1 : decode cX0_keep 1 = .ok (.iload_n 1, 1) := by decide +kernel
theorem dX0_keep_2 : decode cX0_keep 2 = .ok (.invokevirtual 19, 3) := by decide +kernel
theorem dX0_keep_5 : decode cX0_keep 5 = .ok (.ifCond .eq 17, 3) := by decide +kernel
theorem dX0_keep_8 : decode cX0_keep 8 = .ok (.aload_n 0, 1) := by decide +kernel
theorem dX0_keep_9 : decode cX0_keep 9 = .ok (.getfield 9, 3) := by decide +kernel
theorem dX0_keep_12 : decode cX0_keep 12 = .ok (.iload_n 1, 1) := by decide +kernel
theorem dX0_keep_13 : decode cX0_keep 13 = .ok (.iconst 1, 1) := by decide +kernel
theorem dX0_keep_14 : decode cX0_keep 14 = .ok (.bastore, 1) := by decide +kernel
theorem dX0_keep_15 : decode cX0_keep 15 = .ok (.aload_n 0, 1) := by decide +kernel
theorem dX0_keep_16 : decode cX0_keep 16 = .ok (.getfield 15, 3) := by decide +kernel
theorem dX0_keep_19 : decode cX0_keep 19 = .ok (.iload_n 1, 1) := by decide +kernel
theorem dX0_keep_20 : decode cX0_keep 20 = .ok (.iload_n 2, 1) := by decide +kernel
theorem dX0_keep_21 : decode cX0_keep 21 = .ok (.iastore, 1) := by decide +kernel
theorem dX0_keep_22 : decode cX0_keep 22 = .ok (.return_, 1) := by decide +kernel
theorem dX0_empty_0 : decode cX0_empty 0 = .ok (.aload_n 0, 1) := by decide +kernel
theorem dX0_empty_1 : decode cX0_empty 1 = .ok (.iload_n 1, 1) := by decide +kernel
theorem dX0_empty_2 : decode cX0_empty 2 = .ok (.invokevirtual 19, 3) := by decide +kernel
theorem dX0_empty_5 : decode cX0_empty 5 = .ok (.ifCond .eq 10, 3) := by decide +kernel
theorem dX0_empty_8 : decode cX0_empty 8 = .ok (.aload_n 0, 1) := by decide +kernel
theorem dX0_empty_9 : decode cX0_empty 9 = .ok (.getfield 9, 3) := by decide +kernel
theorem dX0_empty_12 : decode cX0_empty 12 = .ok (.iload_n 1, 1) := by decide +kernel
theorem dX0_empty_13 : decode cX0_empty 13 = .ok (.iconst 0, 1) := by decide +kernel
theorem dX0_empty_14 : decode cX0_empty 14 = .ok (.bastore, 1) := by decide +kernel
theorem dX0_empty_15 : decode cX0_empty 15 = .ok (.return_, 1) := by decide +kernel
theorem dX1_init_0 : decode cX1_init 0 = .ok (.aload_n 0, 1) := by decide +kernel
theorem dX1_init_1 : decode cX1_init 1 = .ok (.invokespecial 3, 3) := by decide +kernel
theorem dX1_init_4 : decode cX1_init 4 = .ok (.aload_n 0, 1) := by decide +kernel
theorem dX1_init_5 : decode cX1_init 5 = .ok (.iconst 4, 1) := by decide +kernel
theorem dX1_init_6 : decode cX1_init 6 = .ok (.newarray .int, 2) := by decide +kernel
theorem dX1_init_8 : decode cX1_init 8 = .ok (.putfield 9, 3) := by decide +kernel
theorem dX1_init_11 : decode cX1_init 11 = .ok (.aload_n 0, 1) := by decide +kernel
theorem dX1_init_12 : decode cX1_init 12 = .ok (.iconst 4, 1) := by decide +kernel
theorem dX1_init_13 : decode cX1_init 13 = .ok (.newarray .int, 2) := by decide +kernel
theorem dX1_init_15 : decode cX1_init 15 = .ok (.putfield 15, 3) := by decide +kernel
theorem dX1_init_18 : decode cX1_init 18 = .ok (.aload_n 0, 1) := by decide +kernel
theorem dX1_init_19 : decode cX1_init 19 = .ok (.iconst 0, 1) := by decide +kernel
theorem dX1_init_20 : decode cX1_init 20 = .ok (.putfield 18, 3) := by decide +kernel
theorem dX1_init_23 : decode cX1_init 23 = .ok (.aload_n 0, 1) := by decide +kernel
theorem dX1_init_24 : decode cX1_init 24 = .ok (.iconst 0, 1) := by decide +kernel
theorem dX1_init_25 : decode cX1_init 25 = .ok (.putfield 22, 3) := by decide +kernel
theorem dX1_init_28 : decode cX1_init 28 = .ok (.aload_n 0, 1) := by decide +kernel
theorem dX1_init_29 : decode cX1_init 29 = .ok (.iconst 0, 1) := by decide +kernel
theorem dX1_init_30 : decode cX1_init 30 = .ok (.putfield 25, 3) := by decide +kernel
theorem dX1_init_33 : decode cX1_init 33 = .ok (.aload_n 0, 1) := by decide +kernel
theorem dX1_init_34 : decode cX1_init 34 = .ok (.iconst 0, 1) := by decide +kernel
theorem dX1_init_35 : decode cX1_init 35 = .ok (.putfield 28, 3) := by decide +kernel
theorem dX1_init_38 : decode cX1_init 38 = .ok (.aload_n 0, 1) := by decide +kernel
theorem dX1_init_39 : decode cX1_init 39 = .ok (.iconst 0, 1) := by decide +kernel
theorem dX1_init_40 : decode cX1_init 40 = .ok (.putfield 31, 3) := by decide +kernel
theorem dX1_init_43 : decode cX1_init 43 = .ok (.aload_n 0, 1) := by decide +kernel
theorem dX1_init_44 : decode cX1_init 44 = .ok (.iconst 0, 1) := by decide +kernel
theorem dX1_init_45 : decode cX1_init 45 = .ok (.putfield 34, 3) := by decide +kernel
theorem dX1_init_48 : decode cX1_init 48 = .ok (.aload_n 0, 1) := by decide +kernel
theorem dX1_init_49 : decode cX1_init 49 = .ok (.iconst 0, 1) := by decide +kernel
theorem dX1_init_50 : decode cX1_init 50 = .ok (.putfield 37, 3) := by decide +kernel
theorem dX1_init_53 : decode cX1_init 53 = .ok (.aload_n 0, 1) := by decide +kernel
theorem dX1_init_54 : decode cX1_init 54 = .ok (.iconst 0, 1) := by decide +kernel
theorem dX1_init_55 : decode cX1_init 55 = .ok (.putfield 41, 3) := by decide +kernel
theorem dX1_init_58 : decode cX1_init 58 = .ok (.aload_n 0, 1) := by decide +kernel
theorem dX1_init_59 : decode cX1_init 59 = .ok (.iconst 0, 1) := by decide +kernel
theorem dX1_init_60 : decode cX1_init 60 = .ok (.putfield 44, 3) := by decide +kernel
theorem dX1_init_63 : decode cX1_init 63 = .ok (.aload_n 0, 1) := by decide +kernel
theorem dX1_init_64 : decode cX1_init 64 = .ok (.iconst 0, 1) := by decide +kernel
theorem dX1_init_65 : decode cX1_init 65 = .ok (.putfield 47, 3) := by decide +kernel
theorem dX1_init_68 : decode cX1_init 68 = .ok (.aload_n 0, 1) := by decide +kernel
theorem dX1_init_69 : decode cX1_init 69 = .ok (.iconst 0, 1) := by decide +kernel
theorem dX1_init_70 : decode cX1_init 70 = .ok (.putfield 50, 3) := by decide +kernel
theorem dX1_init_73 : decode cX1_init 73 = .ok (.aload_n 0, 1) := by decide +kernel
theorem dX1_init_74 : decode cX1_init 74 = .ok (.iconst 0, 1) := by decide +kernel
theorem dX1_init_75 : decode cX1_init 75 = .ok (.putfield 53, 3) := by decide +kernel
theorem dX1_init_78 : decode cX1_init 78 = .ok (.aload_n 0, 1) := by decide +kernel
theorem dX1_init_79 : decode cX1_init 79 = .ok (.iload_n 1, 1) := by decide +kernel
theorem dX1_init_80 : decode cX1_init 80 = .ok (.putfield 56, 3) := by decide +kernel
theorem dX1_init_83 : decode cX1_init 83 = .ok (.return_, 1) := by decide +kernel
theorem dX1_reset_0 : decode cX1_reset 0 = .ok (.aload_n 0, 1) := by decide +kernel
theorem dX1_reset_1 : decode cX1_reset 1 = .ok (.iconst 0, 1) := by decide +kernel
theorem dX1_reset_2 : decode cX1_reset 2 = .ok (.putfield 18, 3) := by decide +kernel
theorem dX1_reset_5 : decode cX1_reset 5 = .ok (.aload_n 0, 1) := by decide +kernel
theorem dX1_reset_6 : decode cX1_reset 6 = .ok (.iload_n 1, 1) := by decide +kernel
theorem dX1_reset_7 : decode cX1_reset 7 = .ok (.putfield 22, 3) := by decide +kernel
theorem dX1_reset_10 : decode cX1_reset 10 = .ok (.aload_n 0, 1) := by decide +kernel
theorem dX1_reset_11 : decode cX1_reset 11 = .ok (.iconst 0, 1) := by decide +kernel
theorem dX1_reset_12 : decode cX1_reset 12 = .ok (.putfield 25, 3) := by decide +kernel
theorem dX1_reset_15 : decode cX1_reset 15 = .ok (.aload_n 0, 1) := by decide +kernel
theorem dX1_reset_16 : decode cX1_reset 16 = .ok (.iload_n 2, 1) := by decide +kernel
theorem dX1_reset_17 : decode cX1_reset 17 = .ok (.putfield 28, 3) := by decide +kernel
theorem dX1_reset_20 : decode cX1_reset 20 = .ok (.aload_n 0, 1) := by decide +kernel
theorem dX1_reset_21 : decode cX1_reset 21 = .ok (.iconst 0, 1) := by decide +kernel
theorem dX1_reset_22 : decode cX1_reset 22 = .ok (.putfield 31, 3) := by decide +kernel
theorem dX1_reset_25 : decode cX1_reset 25 = .ok (.aload_n 0, 1) := by decide +kernel
theorem dX1_reset_26 : decode cX1_reset 26 = .ok (.iconst 0, 1) := by decide +kernel
theorem dX1_reset_27 : decode cX1_reset 27 = .ok (.putfield 34, 3) := by decide +kernel
theorem dX1_reset_30 : decode cX1_reset 30 = .ok (.aload_n 0, 1) := by decide +kernel
theorem dX1_reset_31 : decode cX1_reset 31 = .ok (.iconst 0, 1) := by decide +kernel
theorem dX1_reset_32 : decode cX1_reset 32 = .ok (.putfield 37, 3) := by decide +kernel
theorem dX1_reset_35 : decode cX1_reset 35 = .ok (.aload_n 0, 1) := by decide +kernel
theorem dX1_reset_36 : decode cX1_reset 36 = .ok (.iconst 0, 1) := by decide +kernel
theorem dX1_reset_37 : decode cX1_reset 37 = .ok (.putfield 41, 3) := by decide +kernel
theorem dX1_reset_40 : decode cX1_reset 40 = .ok (.aload_n 0, 1) := by decide +kernel
theorem dX1_reset_41 : decode cX1_reset 41 = .ok (.iconst 0, 1) := by decide +kernel
theorem dX1_reset_42 : decode cX1_reset 42 = .ok (.putfield 44, 3) := by decide +kernel
theorem dX1_reset_45 : decode cX1_reset 45 = .ok (.return_, 1) := by decide +kernel
theorem dX1_waits_0 : decode cX1_waits 0 = .ok (.aload_n 0, 1) := by decide +kernel
theorem dX1_waits_1 : decode cX1_waits 1 = .ok (.getfield 18, 3) := by decide +kernel
theorem dX1_waits_4 : decode cX1_waits 4 = .ok (.iconst 1, 1) := by decide +kernel
theorem dX1_waits_5 : decode cX1_waits 5 = .ok (.if_icmp .lt 15, 3) := by decide +kernel
theorem dX1_waits_8 : decode cX1_waits 8 = .ok (.aload_n 0, 1) := by decide +kernel
theorem dX1_waits_9 : decode cX1_waits 9 = .ok (.getfield 18, 3) := by decide +kernel
theorem dX1_waits_12 : decode cX1_waits 12 = .ok (.iconst 3, 1) := by decide +kernel
theorem dX1_waits_13 : decode cX1_waits 13 = .ok (.if_icmp .gt 7, 3) := by decide +kernel
theorem dX1_waits_16 : decode cX1_waits 16 = .ok (.iconst 1, 1) := by decide +kernel
theorem dX1_waits_17 : decode cX1_waits 17 = .ok (.goto 4, 3) := by decide +kernel
theorem dX1_waits_20 : decode cX1_waits 20 = .ok (.iconst 0, 1) := by decide +kernel
theorem dX1_waits_21 : decode cX1_waits 21 = .ok (.ireturn, 1) := by decide +kernel
theorem dX1_waitsAt_0 : decode cX1_waitsAt 0 = .ok (.aload_n 0, 1) := by decide +kernel
theorem dX1_waitsAt_1 : decode cX1_waitsAt 1 = .ok (.getfield 18, 3) := by decide +kernel
theorem dX1_waitsAt_4 : decode cX1_waitsAt 4 = .ok (.iload_n 2, 1) := by decide +kernel
theorem dX1_waitsAt_5 : decode cX1_waitsAt 5 = .ok (.if_icmp .ne 15, 3) := by decide +kernel
theorem dX1_waitsAt_8 : decode cX1_waitsAt 8 = .ok (.aload_n 0, 1) := by decide +kernel
theorem dX1_waitsAt_9 : decode cX1_waitsAt 9 = .ok (.getfield 50, 3) := by decide +kernel
theorem dX1_waitsAt_12 : decode cX1_waitsAt 12 = .ok (.iload_n 1, 1) := by decide +kernel
theorem dX1_waitsAt_13 : decode cX1_waitsAt 13 = .ok (.if_icmp .ne 7, 3) := by decide +kernel
theorem dX1_waitsAt_16 : decode cX1_waitsAt 16 = .ok (.iconst 1, 1) := by decide +kernel
theorem dX1_waitsAt_17 : decode cX1_waitsAt 17 = .ok (.goto 4, 3) := by decide +kernel
theorem dX1_waitsAt_20 : decode cX1_waitsAt 20 = .ok (.iconst 0, 1) := by decide +kernel
theorem dX1_waitsAt_21 : decode cX1_waitsAt 21 = .ok (.ireturn, 1) := by decide +kernel
theorem dX1_isAway_0 : decode cX1_isAway 0 = .ok (.aload_n 0, 1) := by decide +kernel
theorem dX1_isAway_1 : decode cX1_isAway 1 = .ok (.getfield 18, 3) := by decide +kernel
theorem dX1_isAway_4 : decode cX1_isAway 4 = .ok (.iconst 1, 1) := by decide +kernel
theorem dX1_isAway_5 : decode cX1_isAway 5 = .ok (.if_icmp .lt 15, 3) := by decide +kernel
theorem dX1_isAway_8 : decode cX1_isAway 8 = .ok (.aload_n 0, 1) := by decide +kernel
theorem dX1_isAway_9 : decode cX1_isAway 9 = .ok (.getfield 18, 3) := by decide +kernel
theorem dX1_isAway_12 : decode cX1_isAway 12 = .ok (.iconst 4, 1) := by decide +kernel
theorem dX1_isAway_13 : decode cX1_isAway 13 = .ok (.if_icmp .gt 7, 3) := by decide +kernel
theorem dX1_isAway_16 : decode cX1_isAway 16 = .ok (.iconst 1, 1) := by decide +kernel
theorem dX1_isAway_17 : decode cX1_isAway 17 = .ok (.goto 4, 3) := by decide +kernel
theorem dX1_isAway_20 : decode cX1_isAway 20 = .ok (.iconst 0, 1) := by decide +kernel
theorem dX1_isAway_21 : decode cX1_isAway 21 = .ok (.ireturn, 1) := by decide +kernel
theorem dX1_isDone_0 : decode cX1_isDone 0 = .ok (.aload_n 0, 1) := by decide +kernel
theorem dX1_isDone_1 : decode cX1_isDone 1 = .ok (.getfield 18, 3) := by decide +kernel
theorem dX1_isDone_4 : decode cX1_isDone 4 = .ok (.iconst 5, 1) := by decide +kernel
theorem dX1_isDone_5 : decode cX1_isDone 5 = .ok (.if_icmp .lt 7, 3) := by decide +kernel
theorem dX1_isDone_8 : decode cX1_isDone 8 = .ok (.iconst 1, 1) := by decide +kernel
theorem dX1_isDone_9 : decode cX1_isDone 9 = .ok (.goto 4, 3) := by decide +kernel
theorem dX1_isDone_12 : decode cX1_isDone 12 = .ok (.iconst 0, 1) := by decide +kernel
theorem dX1_isDone_13 : decode cX1_isDone 13 = .ok (.ireturn, 1) := by decide +kernel
theorem dX1_addHandler_0 : decode cX1_addHandler 0 = .ok (.aload_n 0, 1) := by decide +kernel
theorem dX1_addHandler_1 : decode cX1_addHandler 1 = .ok (.getfield 31, 3) := by decide +kernel
theorem dX1_addHandler_4 : decode cX1_addHandler 4 = .ok (.iconst 4, 1) := by decide +kernel
theorem dX1_addHandler_5 : decode cX1_addHandler 5 = .ok (.if_icmp .ge 23, 3) := by decide +kernel
theorem dX1_addHandler_8 : decode cX1_addHandler 8 = .ok (.aload_n 0, 1) := by decide +kernel
theorem dX1_addHandler_9 : decode cX1_addHandler 9 = .ok (.getfield 9, 3) := by decide +kernel
theorem dX1_addHandler_12 : decode cX1_addHandler 12 = .ok (.aload_n 0, 1) := by decide +kernel
theorem dX1_addHandler_13 : decode cX1_addHandler 13 = .ok (.getfield 31, 3) := by decide +kernel
theorem dX1_addHandler_16 : decode cX1_addHandler 16 = .ok (.iload_n 1, 1) := by decide +kernel
theorem dX1_addHandler_17 : decode cX1_addHandler 17 = .ok (.iastore, 1) := by decide +kernel
theorem dX1_addHandler_18 : decode cX1_addHandler 18 = .ok (.aload_n 0, 1) := by decide +kernel
theorem dX1_addHandler_19 : decode cX1_addHandler 19 = .ok (.dup, 1) := by decide +kernel
theorem dX1_addHandler_20 : decode cX1_addHandler 20 = .ok (.getfield 31, 3) := by decide +kernel
theorem dX1_addHandler_23 : decode cX1_addHandler 23 = .ok (.iconst 1, 1) := by decide +kernel
theorem dX1_addHandler_24 : decode cX1_addHandler 24 = .ok (.iadd, 1) := by decide +kernel
theorem dX1_addHandler_25 : decode cX1_addHandler 25 = .ok (.putfield 31, 3) := by decide +kernel
theorem dX1_addHandler_28 : decode cX1_addHandler 28 = .ok (.return_, 1) := by decide +kernel
theorem dX1_dropHandler_0 : decode cX1_dropHandler 0 = .ok (.aload_n 0, 1) := by decide +kernel
theorem dX1_dropHandler_1 : decode cX1_dropHandler 1 = .ok (.getfield 31, 3) := by decide +kernel
theorem dX1_dropHandler_4 : decode cX1_dropHandler 4 = .ok (.ifCond .le 13, 3) := by decide +kernel
theorem dX1_dropHandler_7 : decode cX1_dropHandler 7 = .ok (.aload_n 0, 1) := by decide +kernel
theorem dX1_dropHandler_8 : decode cX1_dropHandler 8 = .ok (.dup, 1) := by decide +kernel
theorem dX1_dropHandler_9 : decode cX1_dropHandler 9 = .ok (.getfield 31, 3) := by decide +kernel
theorem dX1_dropHandler_12 : decode cX1_dropHandler 12 = .ok (.iconst 1, 1) := by decide +kernel
theorem dX1_dropHandler_13 : decode cX1_dropHandler 13 = .ok (.isub, 1) := by decide +kernel
theorem dX1_dropHandler_14 : decode cX1_dropHandler 14 = .ok (.putfield 31, 3) := by decide +kernel
theorem dX1_dropHandler_17 : decode cX1_dropHandler 17 = .ok (.return_, 1) := by decide +kernel
theorem dX1_handles_0 : decode cX1_handles 0 = .ok (.aload_n 0, 1) := by decide +kernel
theorem dX1_handles_1 : decode cX1_handles 1 = .ok (.getfield 31, 3) := by decide +kernel
theorem dX1_handles_4 : decode cX1_handles 4 = .ok (.ifCond .gt 5, 3) := by decide +kernel
theorem dX1_handles_7 : decode cX1_handles 7 = .ok (.iconst 0, 1) := by decide +kernel
theorem dX1_handles_8 : decode cX1_handles 8 = .ok (.ireturn, 1) := by decide +kernel
theorem dX1_handles_9 : decode cX1_handles 9 = .ok (.aload_n 0, 1) := by decide +kernel
theorem dX1_handles_10 : decode cX1_handles 10 = .ok (.dup, 1) := by decide +kernel
theorem dX1_handles_11 : decode cX1_handles 11 = .ok (.getfield 31, 3) := by decide +kernel
theorem dX1_handles_14 : decode cX1_handles 14 = .ok (.iconst 1, 1) := by decide +kernel
theorem dX1_handles_15 : decode cX1_handles 15 = .ok (.isub, 1) := by decide +kernel
theorem dX1_handles_16 : decode cX1_handles 16 = .ok (.putfield 31, 3) := by decide +kernel
theorem dX1_handles_19 : decode cX1_handles 19 = .ok (.aload_n 0, 1) := by decide +kernel
theorem dX1_handles_20 : decode cX1_handles 20 = .ok (.aload_n 0, 1) := by decide +kernel
theorem dX1_handles_21 : decode cX1_handles 21 = .ok (.getfield 9, 3) := by decide +kernel
theorem dX1_handles_24 : decode cX1_handles 24 = .ok (.aload_n 0, 1) := by decide +kernel
theorem dX1_handles_25 : decode cX1_handles 25 = .ok (.getfield 31, 3) := by decide +kernel
theorem dX1_handles_28 : decode cX1_handles 28 = .ok (.iaload, 1) := by decide +kernel
theorem dX1_handles_29 : decode cX1_handles 29 = .ok (.putfield 25, 3) := by decide +kernel
theorem dX1_handles_32 : decode cX1_handles 32 = .ok (.aload_n 0, 1) := by decide +kernel
theorem dX1_handles_33 : decode cX1_handles 33 = .ok (.iload_n 1, 1) := by decide +kernel
theorem dX1_handles_34 : decode cX1_handles 34 = .ok (.putfield 28, 3) := by decide +kernel
theorem dX1_handles_37 : decode cX1_handles 37 = .ok (.iconst 1, 1) := by decide +kernel
theorem dX1_handles_38 : decode cX1_handles 38 = .ok (.ireturn, 1) := by decide +kernel
theorem dX1_addPending_0 : decode cX1_addPending 0 = .ok (.aload_n 0, 1) := by decide +kernel
theorem dX1_addPending_1 : decode cX1_addPending 1 = .ok (.getfield 34, 3) := by decide +kernel
theorem dX1_addPending_4 : decode cX1_addPending 4 = .ok (.iconst 4, 1) := by decide +kernel
theorem dX1_addPending_5 : decode cX1_addPending 5 = .ok (.if_icmp .ge 23, 3) := by decide +kernel
theorem dX1_addPending_8 : decode cX1_addPending 8 = .ok (.aload_n 0, 1) := by decide +kernel
theorem dX1_addPending_9 : decode cX1_addPending 9 = .ok (.getfield 15, 3) := by decide +kernel
theorem dX1_addPending_12 : decode cX1_addPending 12 = .ok (.aload_n 0, 1) := by decide +kernel
theorem dX1_addPending_13 : decode cX1_addPending 13 = .ok (.getfield 34, 3) := by decide +kernel
theorem dX1_addPending_16 : decode cX1_addPending 16 = .ok (.iload_n 1, 1) := by decide +kernel
theorem dX1_addPending_17 : decode cX1_addPending 17 = .ok (.iastore, 1) := by decide +kernel
theorem dX1_addPending_18 : decode cX1_addPending 18 = .ok (.aload_n 0, 1) := by decide +kernel
theorem dX1_addPending_19 : decode cX1_addPending 19 = .ok (.dup, 1) := by decide +kernel
theorem dX1_addPending_20 : decode cX1_addPending 20 = .ok (.getfield 34, 3) := by decide +kernel
theorem dX1_addPending_23 : decode cX1_addPending 23 = .ok (.iconst 1, 1) := by decide +kernel
theorem dX1_addPending_24 : decode cX1_addPending 24 = .ok (.iadd, 1) := by decide +kernel
theorem dX1_addPending_25 : decode cX1_addPending 25 = .ok (.putfield 34, 3) := by decide +kernel
theorem dX1_addPending_28 : decode cX1_addPending 28 = .ok (.return_, 1) := by decide +kernel
theorem dX1_takeEldest_0 : decode cX1_takeEldest 0 = .ok (.aload_n 0, 1) := by decide +kernel
theorem dX1_takeEldest_1 : decode cX1_takeEldest 1 = .ok (.getfield 15, 3) := by decide +kernel
theorem dX1_takeEldest_4 : decode cX1_takeEldest 4 = .ok (.iconst 0, 1) := by decide +kernel
theorem dX1_takeEldest_5 : decode cX1_takeEldest 5 = .ok (.iaload, 1) := by decide +kernel
theorem dX1_takeEldest_6 : decode cX1_takeEldest 6 = .ok (.istore_n 1, 1) := by decide +kernel
theorem dX1_takeEldest_7 : decode cX1_takeEldest 7 = .ok (.iconst 1, 1) := by decide +kernel
theorem dX1_takeEldest_8 : decode cX1_takeEldest 8 = .ok (.istore_n 2, 1) := by decide +kernel
theorem dX1_takeEldest_9 : decode cX1_takeEldest 9 = .ok (.iload_n 2, 1) := by decide +kernel
theorem dX1_takeEldest_10 : decode cX1_takeEldest 10 = .ok (.iconst 4, 1) := by decide +kernel
theorem dX1_takeEldest_11 : decode cX1_takeEldest 11 = .ok (.if_icmp .ge 23, 3) := by decide +kernel
theorem dX1_takeEldest_14 : decode cX1_takeEldest 14 = .ok (.aload_n 0, 1) := by decide +kernel
theorem dX1_takeEldest_15 : decode cX1_takeEldest 15 = .ok (.getfield 15, 3) := by decide +kernel
theorem dX1_takeEldest_18 : decode cX1_takeEldest 18 = .ok (.iload_n 2, 1) := by decide +kernel
theorem dX1_takeEldest_19 : decode cX1_takeEldest 19 = .ok (.iconst 1, 1) := by decide +kernel
theorem dX1_takeEldest_20 : decode cX1_takeEldest 20 = .ok (.isub, 1) := by decide +kernel
theorem dX1_takeEldest_21 : decode cX1_takeEldest 21 = .ok (.aload_n 0, 1) := by decide +kernel
theorem dX1_takeEldest_22 : decode cX1_takeEldest 22 = .ok (.getfield 15, 3) := by decide +kernel
theorem dX1_takeEldest_25 : decode cX1_takeEldest 25 = .ok (.iload_n 2, 1) := by decide +kernel
theorem dX1_takeEldest_26 : decode cX1_takeEldest 26 = .ok (.iaload, 1) := by decide +kernel
theorem dX1_takeEldest_27 : decode cX1_takeEldest 27 = .ok (.iastore, 1) := by decide +kernel
theorem dX1_takeEldest_28 : decode cX1_takeEldest 28 = .ok (.iinc 2 1, 3) := by decide +kernel
theorem dX1_takeEldest_31 : decode cX1_takeEldest 31 = .ok (.goto (-22), 3) := by decide +kernel
theorem dX1_takeEldest_34 : decode cX1_takeEldest 34 = .ok (.aload_n 0, 1) := by decide +kernel
theorem dX1_takeEldest_35 : decode cX1_takeEldest 35 = .ok (.getfield 34, 3) := by decide +kernel
theorem dX1_takeEldest_38 : decode cX1_takeEldest 38 = .ok (.ifCond .le 13, 3) := by decide +kernel
theorem dX1_takeEldest_41 : decode cX1_takeEldest 41 = .ok (.aload_n 0, 1) := by decide +kernel
theorem dX1_takeEldest_42 : decode cX1_takeEldest 42 = .ok (.dup, 1) := by decide +kernel
theorem dX1_takeEldest_43 : decode cX1_takeEldest 43 = .ok (.getfield 34, 3) := by decide +kernel
theorem dX1_takeEldest_46 : decode cX1_takeEldest 46 = .ok (.iconst 1, 1) := by decide +kernel
theorem dX1_takeEldest_47 : decode cX1_takeEldest 47 = .ok (.isub, 1) := by decide +kernel
theorem dX1_takeEldest_48 : decode cX1_takeEldest 48 = .ok (.putfield 34, 3) := by decide +kernel
theorem dX1_takeEldest_51 : decode cX1_takeEldest 51 = .ok (.iload_n 1, 1) := by decide +kernel
theorem dX1_takeEldest_52 : decode cX1_takeEldest 52 = .ok (.ireturn, 1) := by decide +kernel
theorem dX1_tell_0 : decode cX1_tell 0 = .ok (.iload_n 1, 1) := by decide +kernel
theorem dX1_tell_1 : decode cX1_tell 1 = .ok (.tableswitch 104 0 8 #[51, 56, 61, 66, 71, 76, 89, 94, 99], 51) := by decide +kernel
theorem dX1_tell_52 : decode cX1_tell 52 = .ok (.aload_n 0, 1) := by decide +kernel
theorem dX1_tell_53 : decode cX1_tell 53 = .ok (.getfield 18, 3) := by decide +kernel
theorem dX1_tell_56 : decode cX1_tell 56 = .ok (.ireturn, 1) := by decide +kernel
theorem dX1_tell_57 : decode cX1_tell 57 = .ok (.aload_n 0, 1) := by decide +kernel
theorem dX1_tell_58 : decode cX1_tell 58 = .ok (.getfield 22, 3) := by decide +kernel
theorem dX1_tell_61 : decode cX1_tell 61 = .ok (.ireturn, 1) := by decide +kernel
theorem dX1_tell_62 : decode cX1_tell 62 = .ok (.aload_n 0, 1) := by decide +kernel
theorem dX1_tell_63 : decode cX1_tell 63 = .ok (.invokevirtual 59, 3) := by decide +kernel
theorem dX1_tell_66 : decode cX1_tell 66 = .ok (.ireturn, 1) := by decide +kernel
theorem dX1_tell_67 : decode cX1_tell 67 = .ok (.aload_n 0, 1) := by decide +kernel
theorem dX1_tell_68 : decode cX1_tell 68 = .ok (.getfield 28, 3) := by decide +kernel
theorem dX1_tell_71 : decode cX1_tell 71 = .ok (.ireturn, 1) := by decide +kernel
theorem dX1_tell_72 : decode cX1_tell 72 = .ok (.aload_n 0, 1) := by decide +kernel
theorem dX1_tell_73 : decode cX1_tell 73 = .ok (.getfield 31, 3) := by decide +kernel
theorem dX1_tell_76 : decode cX1_tell 76 = .ok (.ireturn, 1) := by decide +kernel
theorem dX1_tell_77 : decode cX1_tell 77 = .ok (.aload_n 0, 1) := by decide +kernel
theorem dX1_tell_78 : decode cX1_tell 78 = .ok (.getfield 37, 3) := by decide +kernel
theorem dX1_tell_81 : decode cX1_tell 81 = .ok (.ifCond .eq 7, 3) := by decide +kernel
theorem dX1_tell_84 : decode cX1_tell 84 = .ok (.iconst 1, 1) := by decide +kernel
theorem dX1_tell_85 : decode cX1_tell 85 = .ok (.goto 4, 3) := by decide +kernel
theorem dX1_tell_88 : decode cX1_tell 88 = .ok (.iconst 0, 1) := by decide +kernel
theorem dX1_tell_89 : decode cX1_tell 89 = .ok (.ireturn, 1) := by decide +kernel
theorem dX1_tell_90 : decode cX1_tell 90 = .ok (.aload_n 0, 1) := by decide +kernel
theorem dX1_tell_91 : decode cX1_tell 91 = .ok (.getfield 34, 3) := by decide +kernel
theorem dX1_tell_94 : decode cX1_tell 94 = .ok (.ireturn, 1) := by decide +kernel
theorem dX1_tell_95 : decode cX1_tell 95 = .ok (.aload_n 0, 1) := by decide +kernel
theorem dX1_tell_96 : decode cX1_tell 96 = .ok (.getfield 41, 3) := by decide +kernel
theorem dX1_tell_99 : decode cX1_tell 99 = .ok (.ireturn, 1) := by decide +kernel
theorem dX1_tell_100 : decode cX1_tell 100 = .ok (.aload_n 0, 1) := by decide +kernel
theorem dX1_tell_101 : decode cX1_tell 101 = .ok (.getfield 44, 3) := by decide +kernel
theorem dX1_tell_104 : decode cX1_tell 104 = .ok (.ireturn, 1) := by decide +kernel
theorem dX1_tell_105 : decode cX1_tell 105 = .ok (.aload_n 0, 1) := by decide +kernel
theorem dX1_tell_106 : decode cX1_tell 106 = .ok (.getfield 18, 3) := by decide +kernel
theorem dX1_tell_109 : decode cX1_tell 109 = .ok (.iconst 4, 1) := by decide +kernel
theorem dX1_tell_110 : decode cX1_tell 110 = .ok (.if_icmp .ne 10, 3) := by decide +kernel
theorem dX1_tell_113 : decode cX1_tell 113 = .ok (.aload_n 0, 1) := by decide +kernel
theorem dX1_tell_114 : decode cX1_tell 114 = .ok (.getfield 47, 3) := by decide +kernel
theorem dX1_tell_117 : decode cX1_tell 117 = .ok (.goto 5, 3) := by decide +kernel
theorem dX1_tell_120 : decode cX1_tell 120 = .ok (.bipush (-3), 2) := by decide +kernel
theorem dX1_tell_122 : decode cX1_tell 122 = .ok (.ireturn, 1) := by decide +kernel
theorem dX1_actToCome_0 : decode cX1_actToCome 0 = .ok (.aload_n 0, 1) := by decide +kernel
theorem dX1_actToCome_1 : decode cX1_actToCome 1 = .ok (.invokevirtual 63, 3) := by decide +kernel
theorem dX1_actToCome_4 : decode cX1_actToCome 4 = .ok (.ifCond .eq 6, 3) := by decide +kernel
theorem dX1_actToCome_7 : decode cX1_actToCome 7 = .ok (.bipush (-3), 2) := by decide +kernel
theorem dX1_actToCome_9 : decode cX1_actToCome 9 = .ok (.ireturn, 1) := by decide +kernel
theorem dX1_actToCome_10 : decode cX1_actToCome 10 = .ok (.aload_n 0, 1) := by decide +kernel
theorem dX1_actToCome_11 : decode cX1_actToCome 11 = .ok (.invokevirtual 67, 3) := by decide +kernel
theorem dX1_actToCome_14 : decode cX1_actToCome 14 = .ok (.ifCond .eq 12, 3) := by decide +kernel
theorem dX1_actToCome_17 : decode cX1_actToCome 17 = .ok (.aload_n 0, 1) := by decide +kernel
theorem dX1_actToCome_18 : decode cX1_actToCome 18 = .ok (.getfield 25, 3) := by decide +kernel
theorem dX1_actToCome_21 : decode cX1_actToCome 21 = .ok (.iconst 1, 1) := by decide +kernel
theorem dX1_actToCome_22 : decode cX1_actToCome 22 = .ok (.isub, 1) := by decide +kernel
theorem dX1_actToCome_23 : decode cX1_actToCome 23 = .ok (.goto 7, 3) := by decide +kernel
theorem dX1_actToCome_26 : decode cX1_actToCome 26 = .ok (.aload_n 0, 1) := by decide +kernel
theorem dX1_actToCome_27 : decode cX1_actToCome 27 = .ok (.getfield 25, 3) := by decide +kernel
theorem dX1_actToCome_30 : decode cX1_actToCome 30 = .ok (.ireturn, 1) := by decide +kernel
theorem dX2_init_0 : decode cX2_init 0 = .ok (.aload_n 0, 1) := by decide +kernel
theorem dX2_init_1 : decode cX2_init 1 = .ok (.invokespecial 3, 3) := by decide +kernel
theorem dX2_init_4 : decode cX2_init 4 = .ok (.aload_n 0, 1) := by decide +kernel
theorem dX2_init_5 : decode cX2_init 5 = .ok (.bipush 24, 2) := by decide +kernel
theorem dX2_init_7 : decode cX2_init 7 = .ok (.anewarray 9, 3) := by decide +kernel
theorem dX2_init_10 : decode cX2_init 10 = .ok (.putfield 11, 3) := by decide +kernel
theorem dX2_init_13 : decode cX2_init 13 = .ok (.aload_n 0, 1) := by decide +kernel
theorem dX2_init_14 : decode cX2_init 14 = .ok (.iconst 0, 1) := by decide +kernel
theorem dX2_init_15 : decode cX2_init 15 = .ok (.putfield 17, 3) := by decide +kernel
theorem dX2_init_18 : decode cX2_init 18 = .ok (.return_, 1) := by decide +kernel
theorem dX2_size_0 : decode cX2_size 0 = .ok (.aload_n 0, 1) := by decide +kernel
theorem dX2_size_1 : decode cX2_size 1 = .ok (.getfield 17, 3) := by decide +kernel
theorem dX2_size_4 : decode cX2_size 4 = .ok (.ireturn, 1) := by decide +kernel
theorem dX2_clear_0 : decode cX2_clear 0 = .ok (.aload_n 0, 1) := by decide +kernel
theorem dX2_clear_1 : decode cX2_clear 1 = .ok (.iconst 0, 1) := by decide +kernel
theorem dX2_clear_2 : decode cX2_clear 2 = .ok (.putfield 17, 3) := by decide +kernel
theorem dX2_clear_5 : decode cX2_clear 5 = .ok (.return_, 1) := by decide +kernel
theorem dX2_at_0 : decode cX2_at 0 = .ok (.iload_n 1, 1) := by decide +kernel
theorem dX2_at_1 : decode cX2_at 1 = .ok (.ifCond .lt 20, 3) := by decide +kernel
theorem dX2_at_4 : decode cX2_at 4 = .ok (.iload_n 1, 1) := by decide +kernel
theorem dX2_at_5 : decode cX2_at 5 = .ok (.aload_n 0, 1) := by decide +kernel
theorem dX2_at_6 : decode cX2_at 6 = .ok (.getfield 17, 3) := by decide +kernel
theorem dX2_at_9 : decode cX2_at 9 = .ok (.if_icmp .ge 12, 3) := by decide +kernel
theorem dX2_at_12 : decode cX2_at 12 = .ok (.aload_n 0, 1) := by decide +kernel
theorem dX2_at_13 : decode cX2_at 13 = .ok (.getfield 11, 3) := by decide +kernel
theorem dX2_at_16 : decode cX2_at 16 = .ok (.iload_n 1, 1) := by decide +kernel
theorem dX2_at_17 : decode cX2_at 17 = .ok (.aaload, 1) := by decide +kernel
theorem dX2_at_18 : decode cX2_at 18 = .ok (.goto 4, 3) := by decide +kernel
theorem dX2_at_21 : decode cX2_at 21 = .ok (.aconst_null, 1) := by decide +kernel
theorem dX2_at_22 : decode cX2_at 22 = .ok (.areturn, 1) := by decide +kernel
theorem dX2_add_0 : decode cX2_add 0 = .ok (.aload_n 0, 1) := by decide +kernel
theorem dX2_add_1 : decode cX2_add 1 = .ok (.getfield 17, 3) := by decide +kernel
theorem dX2_add_4 : decode cX2_add 4 = .ok (.bipush 24, 2) := by decide +kernel
theorem dX2_add_6 : decode cX2_add 6 = .ok (.if_icmp .ge 23, 3) := by decide +kernel
theorem dX2_add_9 : decode cX2_add 9 = .ok (.aload_n 0, 1) := by decide +kernel
theorem dX2_add_10 : decode cX2_add 10 = .ok (.getfield 11, 3) := by decide +kernel
theorem dX2_add_13 : decode cX2_add 13 = .ok (.aload_n 0, 1) := by decide +kernel
theorem dX2_add_14 : decode cX2_add 14 = .ok (.getfield 17, 3) := by decide +kernel
theorem dX2_add_17 : decode cX2_add 17 = .ok (.aload_n 1, 1) := by decide +kernel
theorem dX2_add_18 : decode cX2_add 18 = .ok (.aastore, 1) := by decide +kernel
theorem dX2_add_19 : decode cX2_add 19 = .ok (.aload_n 0, 1) := by decide +kernel
theorem dX2_add_20 : decode cX2_add 20 = .ok (.dup, 1) := by decide +kernel
theorem dX2_add_21 : decode cX2_add 21 = .ok (.getfield 17, 3) := by decide +kernel
theorem dX2_add_24 : decode cX2_add 24 = .ok (.iconst 1, 1) := by decide +kernel
theorem dX2_add_25 : decode cX2_add 25 = .ok (.iadd, 1) := by decide +kernel
theorem dX2_add_26 : decode cX2_add 26 = .ok (.putfield 17, 3) := by decide +kernel
theorem dX2_add_29 : decode cX2_add 29 = .ok (.return_, 1) := by decide +kernel
theorem dX2_removeFirst_0 : decode cX2_removeFirst 0 = .ok (.aload_n 0, 1) := by decide +kernel
theorem dX2_removeFirst_1 : decode cX2_removeFirst 1 = .ok (.iconst 0, 1) := by decide +kernel
theorem dX2_removeFirst_2 : decode cX2_removeFirst 2 = .ok (.invokevirtual 21, 3) := by decide +kernel
theorem dX2_removeFirst_5 : decode cX2_removeFirst 5 = .ok (.astore_n 1, 1) := by decide +kernel
theorem dX2_removeFirst_6 : decode cX2_removeFirst 6 = .ok (.aload_n 0, 1) := by decide +kernel
theorem dX2_removeFirst_7 : decode cX2_removeFirst 7 = .ok (.aload_n 1, 1) := by decide +kernel
theorem dX2_removeFirst_8 : decode cX2_removeFirst 8 = .ok (.invokevirtual 25, 3) := by decide +kernel
theorem dX2_removeFirst_11 : decode cX2_removeFirst 11 = .ok (.aload_n 1, 1) := by decide +kernel
theorem dX2_removeFirst_12 : decode cX2_removeFirst 12 = .ok (.areturn, 1) := by decide +kernel
theorem dX2_remove_0 : decode cX2_remove 0 = .ok (.iconst 0, 1) := by decide +kernel
theorem dX2_remove_1 : decode cX2_remove 1 = .ok (.istore_n 2, 1) := by decide +kernel
theorem dX2_remove_2 : decode cX2_remove 2 = .ok (.iconst 0, 1) := by decide +kernel
theorem dX2_remove_3 : decode cX2_remove 3 = .ok (.istore_n 3, 1) := by decide +kernel
theorem dX2_remove_4 : decode cX2_remove 4 = .ok (.iload_n 3, 1) := by decide +kernel
theorem dX2_remove_5 : decode cX2_remove 5 = .ok (.aload_n 0, 1) := by decide +kernel
theorem dX2_remove_6 : decode cX2_remove 6 = .ok (.getfield 17, 3) := by decide +kernel
theorem dX2_remove_9 : decode cX2_remove 9 = .ok (.if_icmp .ge 34, 3) := by decide +kernel
theorem dX2_remove_12 : decode cX2_remove 12 = .ok (.aload_n 0, 1) := by decide +kernel
theorem dX2_remove_13 : decode cX2_remove 13 = .ok (.getfield 11, 3) := by decide +kernel
theorem dX2_remove_16 : decode cX2_remove 16 = .ok (.iload_n 3, 1) := by decide +kernel
theorem dX2_remove_17 : decode cX2_remove 17 = .ok (.aaload, 1) := by decide +kernel
theorem dX2_remove_18 : decode cX2_remove 18 = .ok (.aload_n 1, 1) := by decide +kernel
theorem dX2_remove_19 : decode cX2_remove 19 = .ok (.if_acmp .eq 18, 3) := by decide +kernel
theorem dX2_remove_22 : decode cX2_remove 22 = .ok (.aload_n 0, 1) := by decide +kernel
theorem dX2_remove_23 : decode cX2_remove 23 = .ok (.getfield 11, 3) := by decide +kernel
theorem dX2_remove_26 : decode cX2_remove 26 = .ok (.iload_n 2, 1) := by decide +kernel
theorem dX2_remove_27 : decode cX2_remove 27 = .ok (.aload_n 0, 1) := by decide +kernel
theorem dX2_remove_28 : decode cX2_remove 28 = .ok (.getfield 11, 3) := by decide +kernel
theorem dX2_remove_31 : decode cX2_remove 31 = .ok (.iload_n 3, 1) := by decide +kernel
theorem dX2_remove_32 : decode cX2_remove 32 = .ok (.aaload, 1) := by decide +kernel
theorem dX2_remove_33 : decode cX2_remove 33 = .ok (.aastore, 1) := by decide +kernel
theorem dX2_remove_34 : decode cX2_remove 34 = .ok (.iinc 2 1, 3) := by decide +kernel
theorem dX2_remove_37 : decode cX2_remove 37 = .ok (.iinc 3 1, 3) := by decide +kernel
theorem dX2_remove_40 : decode cX2_remove 40 = .ok (.goto (-36), 3) := by decide +kernel
theorem dX2_remove_43 : decode cX2_remove 43 = .ok (.aload_n 0, 1) := by decide +kernel
theorem dX2_remove_44 : decode cX2_remove 44 = .ok (.iload_n 2, 1) := by decide +kernel
theorem dX2_remove_45 : decode cX2_remove 45 = .ok (.putfield 17, 3) := by decide +kernel
theorem dX2_remove_48 : decode cX2_remove 48 = .ok (.return_, 1) := by decide +kernel
theorem dX3_init_0 : decode cX3_init 0 = .ok (.aload_n 0, 1) := by decide +kernel
theorem dX3_init_1 : decode cX3_init 1 = .ok (.invokespecial 3, 3) := by decide +kernel
theorem dX3_init_4 : decode cX3_init 4 = .ok (.aload_n 0, 1) := by decide +kernel
theorem dX3_init_5 : decode cX3_init 5 = .ok (.bipush 12, 2) := by decide +kernel
theorem dX3_init_7 : decode cX3_init 7 = .ok (.newarray .int, 2) := by decide +kernel
theorem dX3_init_9 : decode cX3_init 9 = .ok (.putfield 9, 3) := by decide +kernel
theorem dX3_init_12 : decode cX3_init 12 = .ok (.aload_n 0, 1) := by decide +kernel
theorem dX3_init_13 : decode cX3_init 13 = .ok (.bipush 12, 2) := by decide +kernel
theorem dX3_init_15 : decode cX3_init 15 = .ok (.bipush 20, 2) := by decide +kernel
theorem dX3_init_17 : decode cX3_init 17 = .ok (.multianewarray 15 2, 4) := by decide +kernel
theorem dX3_init_21 : decode cX3_init 21 = .ok (.putfield 17, 3) := by decide +kernel
theorem dX3_init_24 : decode cX3_init 24 = .ok (.aload_n 0, 1) := by decide +kernel
theorem dX3_init_25 : decode cX3_init 25 = .ok (.bipush 12, 2) := by decide +kernel
theorem dX3_init_27 : decode cX3_init 27 = .ok (.bipush 20, 2) := by decide +kernel
theorem dX3_init_29 : decode cX3_init 29 = .ok (.multianewarray 15 2, 4) := by decide +kernel
theorem dX3_init_33 : decode cX3_init 33 = .ok (.putfield 20, 3) := by decide +kernel
theorem dX3_init_36 : decode cX3_init 36 = .ok (.aload_n 0, 1) := by decide +kernel
theorem dX3_init_37 : decode cX3_init 37 = .ok (.iconst 0, 1) := by decide +kernel
theorem dX3_init_38 : decode cX3_init 38 = .ok (.putfield 23, 3) := by decide +kernel
theorem dX3_init_41 : decode cX3_init 41 = .ok (.return_, 1) := by decide +kernel
theorem dX3_isEmpty_0 : decode cX3_isEmpty 0 = .ok (.aload_n 0, 1) := by decide +kernel
theorem dX3_isEmpty_1 : decode cX3_isEmpty 1 = .ok (.getfield 23, 3) := by decide +kernel
theorem dX3_isEmpty_4 : decode cX3_isEmpty 4 = .ok (.ifCond .ne 7, 3) := by decide +kernel
theorem dX3_isEmpty_7 : decode cX3_isEmpty 7 = .ok (.iconst 1, 1) := by decide +kernel
theorem dX3_isEmpty_8 : decode cX3_isEmpty 8 = .ok (.goto 4, 3) := by decide +kernel
theorem dX3_isEmpty_11 : decode cX3_isEmpty 11 = .ok (.iconst 0, 1) := by decide +kernel
theorem dX3_isEmpty_12 : decode cX3_isEmpty 12 = .ok (.ireturn, 1) := by decide +kernel
theorem dX3_has_0 : decode cX3_has 0 = .ok (.iload_n 1, 1) := by decide +kernel
theorem dX3_has_1 : decode cX3_has 1 = .ok (.ifCond .lt 15, 3) := by decide +kernel
theorem dX3_has_4 : decode cX3_has 4 = .ok (.iload_n 1, 1) := by decide +kernel
theorem dX3_has_5 : decode cX3_has 5 = .ok (.aload_n 0, 1) := by decide +kernel
theorem dX3_has_6 : decode cX3_has 6 = .ok (.getfield 23, 3) := by decide +kernel
theorem dX3_has_9 : decode cX3_has 9 = .ok (.if_icmp .ge 7, 3) := by decide +kernel
theorem dX3_has_12 : decode cX3_has 12 = .ok (.iconst 1, 1) := by decide +kernel
theorem dX3_has_13 : decode cX3_has 13 = .ok (.goto 4, 3) := by decide +kernel
theorem dX3_has_16 : decode cX3_has 16 = .ok (.iconst 0, 1) := by decide +kernel
theorem dX3_has_17 : decode cX3_has 17 = .ok (.ireturn, 1) := by decide +kernel
theorem dX3_addProgram_0 : decode cX3_addProgram 0 = .ok (.aload_n 0, 1) := by decide +kernel
theorem dX3_addProgram_1 : decode cX3_addProgram 1 = .ok (.getfield 23, 3) := by decide +kernel
theorem dX3_addProgram_4 : decode cX3_addProgram 4 = .ok (.bipush 12, 2) := by decide +kernel
theorem dX3_addProgram_6 : decode cX3_addProgram 6 = .ok (.if_icmp .lt 6, 3) := by decide +kernel
theorem dX3_addProgram_9 : decode cX3_addProgram 9 = .ok (.bipush (-4), 2) := by decide +kernel
theorem dX3_addProgram_11 : decode cX3_addProgram 11 = .ok (.ireturn, 1) := by decide +kernel
theorem dX3_addProgram_12 : decode cX3_addProgram 12 = .ok (.aload_n 0, 1) := by decide +kernel
theorem dX3_addProgram_13 : decode cX3_addProgram 13 = .ok (.dup, 1) := by decide +kernel
theorem dX3_addProgram_14 : decode cX3_addProgram 14 = .ok (.getfield 23, 3) := by decide +kernel
theorem dX3_addProgram_17 : decode cX3_addProgram 17 = .ok (.iconst 1, 1) := by decide +kernel
theorem dX3_addProgram_18 : decode cX3_addProgram 18 = .ok (.iadd, 1) := by decide +kernel
theorem dX3_addProgram_19 : decode cX3_addProgram 19 = .ok (.putfield 23, 3) := by decide +kernel
theorem dX3_addProgram_22 : decode cX3_addProgram 22 = .ok (.aload_n 0, 1) := by decide +kernel
theorem dX3_addProgram_23 : decode cX3_addProgram 23 = .ok (.getfield 23, 3) := by decide +kernel
theorem dX3_addProgram_26 : decode cX3_addProgram 26 = .ok (.iconst 1, 1) := by decide +kernel
theorem dX3_addProgram_27 : decode cX3_addProgram 27 = .ok (.isub, 1) := by decide +kernel
theorem dX3_addProgram_28 : decode cX3_addProgram 28 = .ok (.ireturn, 1) := by decide +kernel
theorem dX3_addAct_0 : decode cX3_addAct 0 = .ok (.aload_n 0, 1) := by decide +kernel
theorem dX3_addAct_1 : decode cX3_addAct 1 = .ok (.getfield 23, 3) := by decide +kernel
theorem dX3_addAct_4 : decode cX3_addAct 4 = .ok (.iconst 1, 1) := by decide +kernel
theorem dX3_addAct_5 : decode cX3_addAct 5 = .ok (.isub, 1) := by decide +kernel
theorem dX3_addAct_6 : decode cX3_addAct 6 = .ok (.istore_n 3, 1) := by decide +kernel
theorem dX3_addAct_7 : decode cX3_addAct 7 = .ok (.aload_n 0, 1) := by decide +kernel
theorem dX3_addAct_8 : decode cX3_addAct 8 = .ok (.iload_n 3, 1) := by decide +kernel
theorem dX3_addAct_9 : decode cX3_addAct 9 = .ok (.invokevirtual 27, 3) := by decide +kernel
theorem dX3_addAct_12 : decode cX3_addAct 12 = .ok (.ifCond .eq 14, 3) := by decide +kernel
theorem dX3_addAct_15 : decode cX3_addAct 15 = .ok (.aload_n 0, 1) := by decide +kernel
theorem dX3_addAct_16 : decode cX3_addAct 16 = .ok (.getfield 9, 3) := by decide +kernel
theorem dX3_addAct_19 : decode cX3_addAct 19 = .ok (.iload_n 3, 1) := by decide +kernel
theorem dX3_addAct_20 : decode cX3_addAct 20 = .ok (.iaload, 1) := by decide +kernel
theorem dX3_addAct_21 : decode cX3_addAct 21 = .ok (.bipush 20, 2) := by decide +kernel
theorem dX3_addAct_23 : decode cX3_addAct 23 = .ok (.if_icmp .lt 6, 3) := by decide +kernel
theorem dX3_addAct_26 : decode cX3_addAct 26 = .ok (.bipush (-4), 2) := by decide +kernel
theorem dX3_addAct_28 : decode cX3_addAct 28 = .ok (.ireturn, 1) := by decide +kernel
theorem dX3_addAct_29 : decode cX3_addAct 29 = .ok (.aload_n 0, 1) := by decide +kernel
theorem dX3_addAct_30 : decode cX3_addAct 30 = .ok (.getfield 9, 3) := by decide +kernel
theorem dX3_addAct_33 : decode cX3_addAct 33 = .ok (.iload_n 3, 1) := by decide +kernel
theorem dX3_addAct_34 : decode cX3_addAct 34 = .ok (.iaload, 1) := by decide +kernel
theorem dX3_addAct_35 : decode cX3_addAct 35 = .ok (.istore 4, 2) := by decide +kernel
theorem dX3_addAct_37 : decode cX3_addAct 37 = .ok (.aload_n 0, 1) := by decide +kernel
theorem dX3_addAct_38 : decode cX3_addAct 38 = .ok (.getfield 17, 3) := by decide +kernel
theorem dX3_addAct_41 : decode cX3_addAct 41 = .ok (.iload_n 3, 1) := by decide +kernel
theorem dX3_addAct_42 : decode cX3_addAct 42 = .ok (.aaload, 1) := by decide +kernel
theorem dX3_addAct_43 : decode cX3_addAct 43 = .ok (.iload 4, 2) := by decide +kernel
theorem dX3_addAct_45 : decode cX3_addAct 45 = .ok (.iload_n 1, 1) := by decide +kernel
theorem dX3_addAct_46 : decode cX3_addAct 46 = .ok (.iastore, 1) := by decide +kernel
theorem dX3_addAct_47 : decode cX3_addAct 47 = .ok (.aload_n 0, 1) := by decide +kernel
theorem dX3_addAct_48 : decode cX3_addAct 48 = .ok (.getfield 20, 3) := by decide +kernel
theorem dX3_addAct_51 : decode cX3_addAct 51 = .ok (.iload_n 3, 1) := by decide +kernel
theorem dX3_addAct_52 : decode cX3_addAct 52 = .ok (.aaload, 1) := by decide +kernel
theorem dX3_addAct_53 : decode cX3_addAct 53 = .ok (.iload 4, 2) := by decide +kernel
theorem dX3_addAct_55 : decode cX3_addAct 55 = .ok (.iload_n 2, 1) := by decide +kernel
theorem dX3_addAct_56 : decode cX3_addAct 56 = .ok (.iastore, 1) := by decide +kernel
theorem dX3_addAct_57 : decode cX3_addAct 57 = .ok (.aload_n 0, 1) := by decide +kernel
theorem dX3_addAct_58 : decode cX3_addAct 58 = .ok (.getfield 9, 3) := by decide +kernel
theorem dX3_addAct_61 : decode cX3_addAct 61 = .ok (.iload_n 3, 1) := by decide +kernel
theorem dX3_addAct_62 : decode cX3_addAct 62 = .ok (.iload 4, 2) := by decide +kernel
theorem dX3_addAct_64 : decode cX3_addAct 64 = .ok (.iconst 1, 1) := by decide +kernel
theorem dX3_addAct_65 : decode cX3_addAct 65 = .ok (.iadd, 1) := by decide +kernel
theorem dX3_addAct_66 : decode cX3_addAct 66 = .ok (.iastore, 1) := by decide +kernel
theorem dX3_addAct_67 : decode cX3_addAct 67 = .ok (.iload 4, 2) := by decide +kernel
theorem dX3_addAct_69 : decode cX3_addAct 69 = .ok (.iconst 1, 1) := by decide +kernel
theorem dX3_addAct_70 : decode cX3_addAct 70 = .ok (.iadd, 1) := by decide +kernel
theorem dX3_addAct_71 : decode cX3_addAct 71 = .ok (.ireturn, 1) := by decide +kernel
theorem dX3_hasAct_0 : decode cX3_hasAct 0 = .ok (.aload_n 0, 1) := by decide +kernel
theorem dX3_hasAct_1 : decode cX3_hasAct 1 = .ok (.iload_n 1, 1) := by decide +kernel
theorem dX3_hasAct_2 : decode cX3_hasAct 2 = .ok (.invokevirtual 27, 3) := by decide +kernel
theorem dX3_hasAct_5 : decode cX3_hasAct 5 = .ok (.ifCond .eq 21, 3) := by decide +kernel
theorem dX3_hasAct_8 : decode cX3_hasAct 8 = .ok (.iload_n 2, 1) := by decide +kernel
theorem dX3_hasAct_9 : decode cX3_hasAct 9 = .ok (.ifCond .lt 17, 3) := by decide +kernel
theorem dX3_hasAct_12 : decode cX3_hasAct 12 = .ok (.iload_n 2, 1) := by decide +kernel
theorem dX3_hasAct_13 : decode cX3_hasAct 13 = .ok (.aload_n 0, 1) := by decide +kernel
theorem dX3_hasAct_14 : decode cX3_hasAct 14 = .ok (.getfield 9, 3) := by decide +kernel
theorem dX3_hasAct_17 : decode cX3_hasAct 17 = .ok (.iload_n 1, 1) := by decide +kernel
theorem dX3_hasAct_18 : decode cX3_hasAct 18 = .ok (.iaload, 1) := by decide +kernel
theorem dX3_hasAct_19 : decode cX3_hasAct 19 = .ok (.if_icmp .ge 7, 3) := by decide +kernel
theorem dX3_hasAct_22 : decode cX3_hasAct 22 = .ok (.iconst 1, 1) := by decide +kernel
theorem dX3_hasAct_23 : decode cX3_hasAct 23 = .ok (.goto 4, 3) := by decide +kernel
theorem dX3_hasAct_26 : decode cX3_hasAct 26 = .ok (.iconst 0, 1) := by decide +kernel
theorem dX3_hasAct_27 : decode cX3_hasAct 27 = .ok (.ireturn, 1) := by decide +kernel
theorem dX3_kindAt_0 : decode cX3_kindAt 0 = .ok (.aload_n 0, 1) := by decide +kernel
theorem dX3_kindAt_1 : decode cX3_kindAt 1 = .ok (.iload_n 1, 1) := by decide +kernel
theorem dX3_kindAt_2 : decode cX3_kindAt 2 = .ok (.iload_n 2, 1) := by decide +kernel
theorem dX3_kindAt_3 : decode cX3_kindAt 3 = .ok (.invokevirtual 31, 3) := by decide +kernel
theorem dX3_kindAt_6 : decode cX3_kindAt 6 = .ok (.ifCond .eq 14, 3) := by decide +kernel
theorem dX3_kindAt_9 : decode cX3_kindAt 9 = .ok (.aload_n 0, 1) := by decide +kernel
theorem dX3_kindAt_10 : decode cX3_kindAt 10 = .ok (.getfield 17, 3) := by decide +kernel
theorem dX3_kindAt_13 : decode cX3_kindAt 13 = .ok (.iload_n 1, 1) := by decide +kernel
theorem dX3_kindAt_14 : decode cX3_kindAt 14 = .ok (.aaload, 1) := by decide +kernel
theorem dX3_kindAt_15 : decode cX3_kindAt 15 = .ok (.iload_n 2, 1) := by decide +kernel
theorem dX3_kindAt_16 : decode cX3_kindAt 16 = .ok (.iaload, 1) := by decide +kernel
theorem dX3_kindAt_17 : decode cX3_kindAt 17 = .ok (.goto 4, 3) := by decide +kernel
theorem dX3_kindAt_20 : decode cX3_kindAt 20 = .ok (.iconst (-1), 1) := by decide +kernel
theorem dX3_kindAt_21 : decode cX3_kindAt 21 = .ok (.ireturn, 1) := by decide +kernel
theorem dX3_operandAt_0 : decode cX3_operandAt 0 = .ok (.aload_n 0, 1) := by decide +kernel
theorem dX3_operandAt_1 : decode cX3_operandAt 1 = .ok (.iload_n 1, 1) := by decide +kernel
theorem dX3_operandAt_2 : decode cX3_operandAt 2 = .ok (.iload_n 2, 1) := by decide +kernel
theorem dX3_operandAt_3 : decode cX3_operandAt 3 = .ok (.invokevirtual 31, 3) := by decide +kernel
theorem dX3_operandAt_6 : decode cX3_operandAt 6 = .ok (.ifCond .eq 14, 3) := by decide +kernel
theorem dX3_operandAt_9 : decode cX3_operandAt 9 = .ok (.aload_n 0, 1) := by decide +kernel
theorem dX3_operandAt_10 : decode cX3_operandAt 10 = .ok (.getfield 20, 3) := by decide +kernel
theorem dX3_operandAt_13 : decode cX3_operandAt 13 = .ok (.iload_n 1, 1) := by decide +kernel
theorem dX3_operandAt_14 : decode cX3_operandAt 14 = .ok (.aaload, 1) := by decide +kernel
theorem dX3_operandAt_15 : decode cX3_operandAt 15 = .ok (.iload_n 2, 1) := by decide +kernel
theorem dX3_operandAt_16 : decode cX3_operandAt 16 = .ok (.iaload, 1) := by decide +kernel
theorem dX3_operandAt_17 : decode cX3_operandAt 17 = .ok (.goto 4, 3) := by decide +kernel
theorem dX3_operandAt_20 : decode cX3_operandAt 20 = .ok (.iconst 0, 1) := by decide +kernel
theorem dX3_operandAt_21 : decode cX3_operandAt 21 = .ok (.ireturn, 1) := by decide +kernel
theorem dX4_init_0 : decode cX4_init 0 = .ok (.aload_n 0, 1) := by decide +kernel
theorem dX4_init_1 : decode cX4_init 1 = .ok (.invokespecial 3, 3) := by decide +kernel
theorem dX4_init_4 : decode cX4_init 4 = .ok (.aload_n 0, 1) := by decide +kernel
theorem dX4_init_5 : decode cX4_init 5 = .ok (.bipush 100, 2) := by decide +kernel
theorem dX4_init_7 : decode cX4_init 7 = .ok (.newarray .int, 2) := by decide +kernel
theorem dX4_init_9 : decode cX4_init 9 = .ok (.putfield 9, 3) := by decide +kernel
theorem dX4_init_12 : decode cX4_init 12 = .ok (.aload_n 0, 1) := by decide +kernel
theorem dX4_init_13 : decode cX4_init 13 = .ok (.bipush 100, 2) := by decide +kernel
theorem dX4_init_15 : decode cX4_init 15 = .ok (.newarray .int, 2) := by decide +kernel
theorem dX4_init_17 : decode cX4_init 17 = .ok (.putfield 15, 3) := by decide +kernel
theorem dX4_init_20 : decode cX4_init 20 = .ok (.aload_n 0, 1) := by decide +kernel
theorem dX4_init_21 : decode cX4_init 21 = .ok (.iconst 0, 1) := by decide +kernel
theorem dX4_init_22 : decode cX4_init 22 = .ok (.putfield 18, 3) := by decide +kernel
theorem dX4_init_25 : decode cX4_init 25 = .ok (.return_, 1) := by decide +kernel
theorem dX4_size_0 : decode cX4_size 0 = .ok (.aload_n 0, 1) := by decide +kernel
theorem dX4_size_1 : decode cX4_size 1 = .ok (.getfield 18, 3) := by decide +kernel
theorem dX4_size_4 : decode cX4_size 4 = .ok (.ireturn, 1) := by decide +kernel
theorem dX4_clear_0 : decode cX4_clear 0 = .ok (.aload_n 0, 1) := by decide +kernel
theorem dX4_clear_1 : decode cX4_clear 1 = .ok (.iconst 0, 1) := by decide +kernel
theorem dX4_clear_2 : decode cX4_clear 2 = .ok (.putfield 18, 3) := by decide +kernel
theorem dX4_clear_5 : decode cX4_clear 5 = .ok (.return_, 1) := by decide +kernel
theorem dX4_add_0 : decode cX4_add 0 = .ok (.aload_n 0, 1) := by decide +kernel
theorem dX4_add_1 : decode cX4_add 1 = .ok (.getfield 18, 3) := by decide +kernel
theorem dX4_add_4 : decode cX4_add 4 = .ok (.bipush 100, 2) := by decide +kernel
theorem dX4_add_6 : decode cX4_add 6 = .ok (.if_icmp .ge 33, 3) := by decide +kernel
theorem dX4_add_9 : decode cX4_add 9 = .ok (.aload_n 0, 1) := by decide +kernel
theorem dX4_add_10 : decode cX4_add 10 = .ok (.getfield 9, 3) := by decide +kernel
theorem dX4_add_13 : decode cX4_add 13 = .ok (.aload_n 0, 1) := by decide +kernel
theorem dX4_add_14 : decode cX4_add 14 = .ok (.getfield 18, 3) := by decide +kernel
theorem dX4_add_17 : decode cX4_add 17 = .ok (.iload_n 1, 1) := by decide +kernel
theorem dX4_add_18 : decode cX4_add 18 = .ok (.iastore, 1) := by decide +kernel
theorem dX4_add_19 : decode cX4_add 19 = .ok (.aload_n 0, 1) := by decide +kernel
theorem dX4_add_20 : decode cX4_add 20 = .ok (.getfield 15, 3) := by decide +kernel
theorem dX4_add_23 : decode cX4_add 23 = .ok (.aload_n 0, 1) := by decide +kernel
theorem dX4_add_24 : decode cX4_add 24 = .ok (.getfield 18, 3) := by decide +kernel
theorem dX4_add_27 : decode cX4_add 27 = .ok (.iload_n 2, 1) := by decide +kernel
theorem dX4_add_28 : decode cX4_add 28 = .ok (.iastore, 1) := by decide +kernel
theorem dX4_add_29 : decode cX4_add 29 = .ok (.aload_n 0, 1) := by decide +kernel
theorem dX4_add_30 : decode cX4_add 30 = .ok (.dup, 1) := by decide +kernel
theorem dX4_add_31 : decode cX4_add 31 = .ok (.getfield 18, 3) := by decide +kernel
theorem dX4_add_34 : decode cX4_add 34 = .ok (.iconst 1, 1) := by decide +kernel
theorem dX4_add_35 : decode cX4_add 35 = .ok (.iadd, 1) := by decide +kernel
theorem dX4_add_36 : decode cX4_add 36 = .ok (.putfield 18, 3) := by decide +kernel
theorem dX4_add_39 : decode cX4_add 39 = .ok (.return_, 1) := by decide +kernel
theorem dX4_numberAt_0 : decode cX4_numberAt 0 = .ok (.iload_n 1, 1) := by decide +kernel
theorem dX4_numberAt_1 : decode cX4_numberAt 1 = .ok (.ifCond .lt 20, 3) := by decide +kernel
theorem dX4_numberAt_4 : decode cX4_numberAt 4 = .ok (.iload_n 1, 1) := by decide +kernel
theorem dX4_numberAt_5 : decode cX4_numberAt 5 = .ok (.aload_n 0, 1) := by decide +kernel
theorem dX4_numberAt_6 : decode cX4_numberAt 6 = .ok (.getfield 18, 3) := by decide +kernel
theorem dX4_numberAt_9 : decode cX4_numberAt 9 = .ok (.if_icmp .ge 12, 3) := by decide +kernel
theorem dX4_numberAt_12 : decode cX4_numberAt 12 = .ok (.aload_n 0, 1) := by decide +kernel
theorem dX4_numberAt_13 : decode cX4_numberAt 13 = .ok (.getfield 9, 3) := by decide +kernel
theorem dX4_numberAt_16 : decode cX4_numberAt 16 = .ok (.iload_n 1, 1) := by decide +kernel
theorem dX4_numberAt_17 : decode cX4_numberAt 17 = .ok (.iaload, 1) := by decide +kernel
theorem dX4_numberAt_18 : decode cX4_numberAt 18 = .ok (.goto 4, 3) := by decide +kernel
theorem dX4_numberAt_21 : decode cX4_numberAt 21 = .ok (.iconst 0, 1) := by decide +kernel
theorem dX4_numberAt_22 : decode cX4_numberAt 22 = .ok (.ireturn, 1) := by decide +kernel
theorem dX4_registerAt_0 : decode cX4_registerAt 0 = .ok (.iload_n 1, 1) := by decide +kernel
theorem dX4_registerAt_1 : decode cX4_registerAt 1 = .ok (.ifCond .lt 20, 3) := by decide +kernel
theorem dX4_registerAt_4 : decode cX4_registerAt 4 = .ok (.iload_n 1, 1) := by decide +kernel
theorem dX4_registerAt_5 : decode cX4_registerAt 5 = .ok (.aload_n 0, 1) := by decide +kernel
theorem dX4_registerAt_6 : decode cX4_registerAt 6 = .ok (.getfield 18, 3) := by decide +kernel
theorem dX4_registerAt_9 : decode cX4_registerAt 9 = .ok (.if_icmp .ge 12, 3) := by decide +kernel
theorem dX4_registerAt_12 : decode cX4_registerAt 12 = .ok (.aload_n 0, 1) := by decide +kernel
theorem dX4_registerAt_13 : decode cX4_registerAt 13 = .ok (.getfield 15, 3) := by decide +kernel
theorem dX4_registerAt_16 : decode cX4_registerAt 16 = .ok (.iload_n 1, 1) := by decide +kernel
theorem dX4_registerAt_17 : decode cX4_registerAt 17 = .ok (.iaload, 1) := by decide +kernel
theorem dX4_registerAt_18 : decode cX4_registerAt 18 = .ok (.goto 4, 3) := by decide +kernel
theorem dX4_registerAt_21 : decode cX4_registerAt 21 = .ok (.iconst 0, 1) := by decide +kernel
theorem dX4_registerAt_22 : decode cX4_registerAt 22 = .ok (.ireturn, 1) := by decide +kernel
theorem dX5_init_0 : decode cX5_init 0 = .ok (.aload_n 0, 1) := by decide +kernel
theorem dX5_init_1 : decode cX5_init 1 = .ok (.invokespecial 3, 3) := by decide +kernel
theorem dX5_init_4 : decode cX5_init 4 = .ok (.aload_n 0, 1) := by decide +kernel
theorem dX5_init_5 : decode cX5_init 5 = .ok (.bipush 24, 2) := by decide +kernel
theorem dX5_init_7 : decode cX5_init 7 = .ok (.anewarray 9, 3) := by decide +kernel
theorem dX5_init_10 : decode cX5_init 10 = .ok (.putfield 11, 3) := by decide +kernel
theorem dX5_init_13 : decode cX5_init 13 = .ok (.aload_n 0, 1) := by decide +kernel
theorem dX5_init_14 : decode cX5_init 14 = .ok (.new 17, 3) := by decide +kernel
theorem dX5_init_17 : decode cX5_init 17 = .ok (.dup, 1) := by decide +kernel
theorem dX5_init_18 : decode cX5_init 18 = .ok (.invokespecial 19, 3) := by decide +kernel
theorem dX5_init_21 : decode cX5_init 21 = .ok (.putfield 20, 3) := by decide +kernel
theorem dX5_init_24 : decode cX5_init 24 = .ok (.aload_n 0, 1) := by decide +kernel
theorem dX5_init_25 : decode cX5_init 25 = .ok (.new 24, 3) := by decide +kernel
theorem dX5_init_28 : decode cX5_init 28 = .ok (.dup, 1) := by decide +kernel
theorem dX5_init_29 : decode cX5_init 29 = .ok (.invokespecial 26, 3) := by decide +kernel
theorem dX5_init_32 : decode cX5_init 32 = .ok (.putfield 27, 3) := by decide +kernel
theorem dX5_init_35 : decode cX5_init 35 = .ok (.aload_n 0, 1) := by decide +kernel
theorem dX5_init_36 : decode cX5_init 36 = .ok (.new 31, 3) := by decide +kernel
theorem dX5_init_39 : decode cX5_init 39 = .ok (.dup, 1) := by decide +kernel
theorem dX5_init_40 : decode cX5_init 40 = .ok (.invokespecial 33, 3) := by decide +kernel
theorem dX5_init_43 : decode cX5_init 43 = .ok (.putfield 34, 3) := by decide +kernel
theorem dX5_init_46 : decode cX5_init 46 = .ok (.aload_n 0, 1) := by decide +kernel
theorem dX5_init_47 : decode cX5_init 47 = .ok (.iconst 0, 1) := by decide +kernel
theorem dX5_init_48 : decode cX5_init 48 = .ok (.putfield 38, 3) := by decide +kernel
theorem dX5_init_51 : decode cX5_init 51 = .ok (.aload_n 0, 1) := by decide +kernel
theorem dX5_init_52 : decode cX5_init 52 = .ok (.iconst 0, 1) := by decide +kernel
theorem dX5_init_53 : decode cX5_init 53 = .ok (.putfield 42, 3) := by decide +kernel
theorem dX5_init_56 : decode cX5_init 56 = .ok (.aload_n 0, 1) := by decide +kernel
theorem dX5_init_57 : decode cX5_init 57 = .ok (.iconst 0, 1) := by decide +kernel
theorem dX5_init_58 : decode cX5_init 58 = .ok (.putfield 46, 3) := by decide +kernel
theorem dX5_init_61 : decode cX5_init 61 = .ok (.aload_n 0, 1) := by decide +kernel
theorem dX5_init_62 : decode cX5_init 62 = .ok (.iconst 1, 1) := by decide +kernel
theorem dX5_init_63 : decode cX5_init 63 = .ok (.putfield 49, 3) := by decide +kernel
theorem dX5_init_66 : decode cX5_init 66 = .ok (.aload_n 0, 1) := by decide +kernel
theorem dX5_init_67 : decode cX5_init 67 = .ok (.iconst 0, 1) := by decide +kernel
theorem dX5_init_68 : decode cX5_init 68 = .ok (.putfield 52, 3) := by decide +kernel
theorem dX5_init_71 : decode cX5_init 71 = .ok (.aload_n 0, 1) := by decide +kernel
theorem dX5_init_72 : decode cX5_init 72 = .ok (.iconst 0, 1) := by decide +kernel
theorem dX5_init_73 : decode cX5_init 73 = .ok (.putfield 55, 3) := by decide +kernel
theorem dX5_init_76 : decode cX5_init 76 = .ok (.aload_n 0, 1) := by decide +kernel
theorem dX5_init_77 : decode cX5_init 77 = .ok (.iconst 0, 1) := by decide +kernel
theorem dX5_init_78 : decode cX5_init 78 = .ok (.putfield 58, 3) := by decide +kernel
theorem dX5_init_81 : decode cX5_init 81 = .ok (.aload_n 0, 1) := by decide +kernel
theorem dX5_init_82 : decode cX5_init 82 = .ok (.iconst 0, 1) := by decide +kernel
theorem dX5_init_83 : decode cX5_init 83 = .ok (.putfield 61, 3) := by decide +kernel
theorem dX5_init_86 : decode cX5_init 86 = .ok (.aload_n 0, 1) := by decide +kernel
theorem dX5_init_87 : decode cX5_init 87 = .ok (.aload_n 1, 1) := by decide +kernel
theorem dX5_init_88 : decode cX5_init 88 = .ok (.putfield 64, 3) := by decide +kernel
theorem dX5_init_91 : decode cX5_init 91 = .ok (.iconst 0, 1) := by decide +kernel
theorem dX5_init_92 : decode cX5_init 92 = .ok (.istore_n 2, 1) := by decide +kernel
theorem dX5_init_93 : decode cX5_init 93 = .ok (.iload_n 2, 1) := by decide +kernel
theorem dX5_init_94 : decode cX5_init 94 = .ok (.bipush 24, 2) := by decide +kernel
theorem dX5_init_96 : decode cX5_init 96 = .ok (.if_icmp .ge 23, 3) := by decide +kernel
theorem dX5_init_99 : decode cX5_init 99 = .ok (.aload_n 0, 1) := by decide +kernel
theorem dX5_init_100 : decode cX5_init 100 = .ok (.getfield 11, 3) := by decide +kernel
theorem dX5_init_103 : decode cX5_init 103 = .ok (.iload_n 2, 1) := by decide +kernel
theorem dX5_init_104 : decode cX5_init 104 = .ok (.new 9, 3) := by decide +kernel
theorem dX5_init_107 : decode cX5_init 107 = .ok (.dup, 1) := by decide +kernel
theorem dX5_init_108 : decode cX5_init 108 = .ok (.iload_n 2, 1) := by decide +kernel
theorem dX5_init_109 : decode cX5_init 109 = .ok (.invokespecial 68, 3) := by decide +kernel
theorem dX5_init_112 : decode cX5_init 112 = .ok (.aastore, 1) := by decide +kernel
theorem dX5_init_113 : decode cX5_init 113 = .ok (.iinc 2 1, 3) := by decide +kernel
theorem dX5_init_116 : decode cX5_init 116 = .ok (.goto (-23), 3) := by decide +kernel
theorem dX5_init_119 : decode cX5_init 119 = .ok (.return_, 1) := by decide +kernel
theorem dX5_start_0 : decode cX5_start 0 = .ok (.aload_n 0, 1) := by decide +kernel
theorem dX5_start_1 : decode cX5_start 1 = .ok (.getfield 20, 3) := by decide +kernel
theorem dX5_start_4 : decode cX5_start 4 = .ok (.invokevirtual 71, 3) := by decide +kernel
theorem dX5_start_7 : decode cX5_start 7 = .ok (.aload_n 0, 1) := by decide +kernel
theorem dX5_start_8 : decode cX5_start 8 = .ok (.getfield 34, 3) := by decide +kernel
theorem dX5_start_11 : decode cX5_start 11 = .ok (.invokevirtual 74, 3) := by decide +kernel
theorem dX5_start_14 : decode cX5_start 14 = .ok (.iconst 0, 1) := by decide +kernel
theorem dX5_start_15 : decode cX5_start 15 = .ok (.istore 4, 2) := by decide +kernel
theorem dX5_start_17 : decode cX5_start 17 = .ok (.iload 4, 2) := by decide +kernel
theorem dX5_start_19 : decode cX5_start 19 = .ok (.bipush 8, 2) := by decide +kernel
theorem dX5_start_21 : decode cX5_start 21 = .ok (.if_icmp .ge 18, 3) := by decide +kernel
theorem dX5_start_24 : decode cX5_start 24 = .ok (.aload_n 0, 1) := by decide +kernel
theorem dX5_start_25 : decode cX5_start 25 = .ok (.getfield 27, 3) := by decide +kernel
theorem dX5_start_28 : decode cX5_start 28 = .ok (.iload 4, 2) := by decide +kernel
theorem dX5_start_30 : decode cX5_start 30 = .ok (.invokevirtual 75, 3) := by decide +kernel
theorem dX5_start_33 : decode cX5_start 33 = .ok (.iinc 4 1, 3) := by decide +kernel
theorem dX5_start_36 : decode cX5_start 36 = .ok (.goto (-19), 3) := by decide +kernel
theorem dX5_start_39 : decode cX5_start 39 = .ok (.aload_n 0, 1) := by decide +kernel
theorem dX5_start_40 : decode cX5_start 40 = .ok (.iconst 0, 1) := by decide +kernel
theorem dX5_start_41 : decode cX5_start 41 = .ok (.putfield 38, 3) := by decide +kernel
theorem dX5_start_44 : decode cX5_start 44 = .ok (.aload_n 0, 1) := by decide +kernel
theorem dX5_start_45 : decode cX5_start 45 = .ok (.iconst 1, 1) := by decide +kernel
theorem dX5_start_46 : decode cX5_start 46 = .ok (.putfield 42, 3) := by decide +kernel
theorem dX5_start_49 : decode cX5_start 49 = .ok (.aload_n 0, 1) := by decide +kernel
theorem dX5_start_50 : decode cX5_start 50 = .ok (.iconst 0, 1) := by decide +kernel
theorem dX5_start_51 : decode cX5_start 51 = .ok (.putfield 46, 3) := by decide +kernel
theorem dX5_start_54 : decode cX5_start 54 = .ok (.aload_n 0, 1) := by decide +kernel
theorem dX5_start_55 : decode cX5_start 55 = .ok (.iload_n 2, 1) := by decide +kernel
theorem dX5_start_56 : decode cX5_start 56 = .ok (.putfield 49, 3) := by decide +kernel
theorem dX5_start_59 : decode cX5_start 59 = .ok (.aload_n 0, 1) := by decide +kernel
theorem dX5_start_60 : decode cX5_start 60 = .ok (.iconst 0, 1) := by decide +kernel
theorem dX5_start_61 : decode cX5_start 61 = .ok (.putfield 52, 3) := by decide +kernel
theorem dX5_start_64 : decode cX5_start 64 = .ok (.aload_n 0, 1) := by decide +kernel
theorem dX5_start_65 : decode cX5_start 65 = .ok (.iconst 0, 1) := by decide +kernel
theorem dX5_start_66 : decode cX5_start 66 = .ok (.putfield 55, 3) := by decide +kernel
theorem dX5_start_69 : decode cX5_start 69 = .ok (.aload_n 0, 1) := by decide +kernel
theorem dX5_start_70 : decode cX5_start 70 = .ok (.iconst 0, 1) := by decide +kernel
theorem dX5_start_71 : decode cX5_start 71 = .ok (.putfield 58, 3) := by decide +kernel
theorem dX5_start_74 : decode cX5_start 74 = .ok (.aload_n 0, 1) := by decide +kernel
theorem dX5_start_75 : decode cX5_start 75 = .ok (.iconst 0, 1) := by decide +kernel
theorem dX5_start_76 : decode cX5_start 76 = .ok (.putfield 61, 3) := by decide +kernel
theorem dX5_start_79 : decode cX5_start 79 = .ok (.aload_n 0, 1) := by decide +kernel
theorem dX5_start_80 : decode cX5_start 80 = .ok (.iload_n 1, 1) := by decide +kernel
theorem dX5_start_81 : decode cX5_start 81 = .ok (.iload_n 3, 1) := by decide +kernel
theorem dX5_start_82 : decode cX5_start 82 = .ok (.invokevirtual 78, 3) := by decide +kernel
theorem dX5_start_85 : decode cX5_start 85 = .ok (.pop, 1) := by decide +kernel
theorem dX5_start_86 : decode cX5_start 86 = .ok (.return_, 1) := by decide +kernel
theorem dX5_fiberAt_0 : decode cX5_fiberAt 0 = .ok (.iload_n 1, 1) := by decide +kernel
theorem dX5_fiberAt_1 : decode cX5_fiberAt 1 = .ok (.ifCond .lt 20, 3) := by decide +kernel
theorem dX5_fiberAt_4 : decode cX5_fiberAt 4 = .ok (.iload_n 1, 1) := by decide +kernel
theorem dX5_fiberAt_5 : decode cX5_fiberAt 5 = .ok (.aload_n 0, 1) := by decide +kernel
theorem dX5_fiberAt_6 : decode cX5_fiberAt 6 = .ok (.getfield 38, 3) := by decide +kernel
theorem dX5_fiberAt_9 : decode cX5_fiberAt 9 = .ok (.if_icmp .ge 12, 3) := by decide +kernel
theorem dX5_fiberAt_12 : decode cX5_fiberAt 12 = .ok (.aload_n 0, 1) := by decide +kernel
theorem dX5_fiberAt_13 : decode cX5_fiberAt 13 = .ok (.getfield 11, 3) := by decide +kernel
theorem dX5_fiberAt_16 : decode cX5_fiberAt 16 = .ok (.iload_n 1, 1) := by decide +kernel
theorem dX5_fiberAt_17 : decode cX5_fiberAt 17 = .ok (.aaload, 1) := by decide +kernel
theorem dX5_fiberAt_18 : decode cX5_fiberAt 18 = .ok (.goto 4, 3) := by decide +kernel
theorem dX5_fiberAt_21 : decode cX5_fiberAt 21 = .ok (.aconst_null, 1) := by decide +kernel
theorem dX5_fiberAt_22 : decode cX5_fiberAt 22 = .ok (.areturn, 1) := by decide +kernel
theorem dX5_countWaiting_0 : decode cX5_countWaiting 0 = .ok (.iconst 0, 1) := by decide +kernel
theorem dX5_countWaiting_1 : decode cX5_countWaiting 1 = .ok (.istore_n 3, 1) := by decide +kernel
theorem dX5_countWaiting_2 : decode cX5_countWaiting 2 = .ok (.iconst 0, 1) := by decide +kernel
theorem dX5_countWaiting_3 : decode cX5_countWaiting 3 = .ok (.istore 4, 2) := by decide +kernel
theorem dX5_countWaiting_5 : decode cX5_countWaiting 5 = .ok (.iload 4, 2) := by decide +kernel
theorem dX5_countWaiting_7 : decode cX5_countWaiting 7 = .ok (.aload_n 0, 1) := by decide +kernel
theorem dX5_countWaiting_8 : decode cX5_countWaiting 8 = .ok (.getfield 38, 3) := by decide +kernel
theorem dX5_countWaiting_11 : decode cX5_countWaiting 11 = .ok (.if_icmp .ge 27, 3) := by decide +kernel
theorem dX5_countWaiting_14 : decode cX5_countWaiting 14 = .ok (.aload_n 0, 1) := by decide +kernel
theorem dX5_countWaiting_15 : decode cX5_countWaiting 15 = .ok (.getfield 11, 3) := by decide +kernel
theorem dX5_countWaiting_18 : decode cX5_countWaiting 18 = .ok (.iload 4, 2) := by decide +kernel
theorem dX5_countWaiting_20 : decode cX5_countWaiting 20 = .ok (.aaload, 1) := by decide +kernel
theorem dX5_countWaiting_21 : decode cX5_countWaiting 21 = .ok (.iload_n 1, 1) := by decide +kernel
theorem dX5_countWaiting_22 : decode cX5_countWaiting 22 = .ok (.iload_n 2, 1) := by decide +kernel
theorem dX5_countWaiting_23 : decode cX5_countWaiting 23 = .ok (.invokevirtual 82, 3) := by decide +kernel
theorem dX5_countWaiting_26 : decode cX5_countWaiting 26 = .ok (.ifCond .eq 6, 3) := by decide +kernel
theorem dX5_countWaiting_29 : decode cX5_countWaiting 29 = .ok (.iinc 3 1, 3) := by decide +kernel
theorem dX5_countWaiting_32 : decode cX5_countWaiting 32 = .ok (.iinc 4 1, 3) := by decide +kernel
theorem dX5_countWaiting_35 : decode cX5_countWaiting 35 = .ok (.goto (-30), 3) := by decide +kernel
theorem dX5_countWaiting_38 : decode cX5_countWaiting 38 = .ok (.iload_n 3, 1) := by decide +kernel
theorem dX5_countWaiting_39 : decode cX5_countWaiting 39 = .ok (.ireturn, 1) := by decide +kernel
theorem dX5_takeTurn_0 : decode cX5_takeTurn 0 = .ok (.aload_n 0, 1) := by decide +kernel
theorem dX5_takeTurn_1 : decode cX5_takeTurn 1 = .ok (.getfield 46, 3) := by decide +kernel
theorem dX5_takeTurn_4 : decode cX5_takeTurn 4 = .ok (.ifCond .eq 7, 3) := by decide +kernel
theorem dX5_takeTurn_7 : decode cX5_takeTurn 7 = .ok (.aconst_null, 1) := by decide +kernel
theorem dX5_takeTurn_8 : decode cX5_takeTurn 8 = .ok (.goto 7, 3) := by decide +kernel
theorem dX5_takeTurn_11 : decode cX5_takeTurn 11 = .ok (.aload_n 0, 1) := by decide +kernel
theorem dX5_takeTurn_12 : decode cX5_takeTurn 12 = .ok (.invokevirtual 86, 3) := by decide +kernel
theorem dX5_takeTurn_15 : decode cX5_takeTurn 15 = .ok (.astore_n 1, 1) := by decide +kernel
theorem dX5_takeTurn_16 : decode cX5_takeTurn 16 = .ok (.aload_n 1, 1) := by decide +kernel
theorem dX5_takeTurn_17 : decode cX5_takeTurn 17 = .ok (.ifnonnull 5, 3) := by decide +kernel
theorem dX5_takeTurn_20 : decode cX5_takeTurn 20 = .ok (.iconst 0, 1) := by decide +kernel
theorem dX5_takeTurn_21 : decode cX5_takeTurn 21 = .ok (.ireturn, 1) := by decide +kernel
theorem dX5_takeTurn_22 : decode cX5_takeTurn 22 = .ok (.aload_n 1, 1) := by decide +kernel
theorem dX5_takeTurn_23 : decode cX5_takeTurn 23 = .ok (.dup, 1) := by decide +kernel
theorem dX5_takeTurn_24 : decode cX5_takeTurn 24 = .ok (.getfield 90, 3) := by decide +kernel
theorem dX5_takeTurn_27 : decode cX5_takeTurn 27 = .ok (.iconst 1, 1) := by decide +kernel
theorem dX5_takeTurn_28 : decode cX5_takeTurn 28 = .ok (.iadd, 1) := by decide +kernel
theorem dX5_takeTurn_29 : decode cX5_takeTurn 29 = .ok (.putfield 90, 3) := by decide +kernel
theorem dX5_takeTurn_32 : decode cX5_takeTurn 32 = .ok (.iconst 0, 1) := by decide +kernel
theorem dX5_takeTurn_33 : decode cX5_takeTurn 33 = .ok (.istore_n 2, 1) := by decide +kernel
theorem dX5_takeTurn_34 : decode cX5_takeTurn 34 = .ok (.iload_n 2, 1) := by decide +kernel
theorem dX5_takeTurn_35 : decode cX5_takeTurn 35 = .ok (.aload_n 0, 1) := by decide +kernel
theorem dX5_takeTurn_36 : decode cX5_takeTurn 36 = .ok (.getfield 49, 3) := by decide +kernel
theorem dX5_takeTurn_39 : decode cX5_takeTurn 39 = .ok (.if_icmp .ge 66, 3) := by decide +kernel
theorem dX5_takeTurn_42 : decode cX5_takeTurn 42 = .ok (.aload_n 1, 1) := by decide +kernel
theorem dX5_takeTurn_43 : decode cX5_takeTurn 43 = .ok (.getfield 91, 3) := by decide +kernel
theorem dX5_takeTurn_46 : decode cX5_takeTurn 46 = .ok (.ifCond .ne 59, 3) := by decide +kernel
theorem dX5_takeTurn_49 : decode cX5_takeTurn 49 = .ok (.aload_n 0, 1) := by decide +kernel
theorem dX5_takeTurn_50 : decode cX5_takeTurn 50 = .ok (.getfield 64, 3) := by decide +kernel
theorem dX5_takeTurn_53 : decode cX5_takeTurn 53 = .ok (.aload_n 1, 1) := by decide +kernel
theorem dX5_takeTurn_54 : decode cX5_takeTurn 54 = .ok (.getfield 94, 3) := by decide +kernel
theorem dX5_takeTurn_57 : decode cX5_takeTurn 57 = .ok (.aload_n 1, 1) := by decide +kernel
theorem dX5_takeTurn_58 : decode cX5_takeTurn 58 = .ok (.getfield 97, 3) := by decide +kernel
theorem dX5_takeTurn_61 : decode cX5_takeTurn 61 = .ok (.invokevirtual 100, 3) := by decide +kernel
theorem dX5_takeTurn_64 : decode cX5_takeTurn 64 = .ok (.istore_n 3, 1) := by decide +kernel
theorem dX5_takeTurn_65 : decode cX5_takeTurn 65 = .ok (.aload_n 0, 1) := by decide +kernel
theorem dX5_takeTurn_66 : decode cX5_takeTurn 66 = .ok (.aload_n 1, 1) := by decide +kernel
theorem dX5_takeTurn_67 : decode cX5_takeTurn 67 = .ok (.iload_n 3, 1) := by decide +kernel
theorem dX5_takeTurn_68 : decode cX5_takeTurn 68 = .ok (.aload_n 0, 1) := by decide +kernel
theorem dX5_takeTurn_69 : decode cX5_takeTurn 69 = .ok (.getfield 64, 3) := by decide +kernel
theorem dX5_takeTurn_72 : decode cX5_takeTurn 72 = .ok (.aload_n 1, 1) := by decide +kernel
theorem dX5_takeTurn_73 : decode cX5_takeTurn 73 = .ok (.getfield 94, 3) := by decide +kernel
theorem dX5_takeTurn_76 : decode cX5_takeTurn 76 = .ok (.aload_n 1, 1) := by decide +kernel
theorem dX5_takeTurn_77 : decode cX5_takeTurn 77 = .ok (.getfield 97, 3) := by decide +kernel
theorem dX5_takeTurn_80 : decode cX5_takeTurn 80 = .ok (.invokevirtual 105, 3) := by decide +kernel
theorem dX5_takeTurn_83 : decode cX5_takeTurn 83 = .ok (.invokevirtual 108, 3) := by decide +kernel
theorem dX5_takeTurn_86 : decode cX5_takeTurn 86 = .ok (.aload_n 0, 1) := by decide +kernel
theorem dX5_takeTurn_87 : decode cX5_takeTurn 87 = .ok (.invokevirtual 112, 3) := by decide +kernel
theorem dX5_takeTurn_90 : decode cX5_takeTurn 90 = .ok (.iload_n 3, 1) := by decide +kernel
theorem dX5_takeTurn_91 : decode cX5_takeTurn 91 = .ok (.bipush 6, 2) := by decide +kernel
theorem dX5_takeTurn_93 : decode cX5_takeTurn 93 = .ok (.if_icmp .ne 6, 3) := by decide +kernel
theorem dX5_takeTurn_96 : decode cX5_takeTurn 96 = .ok (.goto 9, 3) := by decide +kernel
theorem dX5_takeTurn_99 : decode cX5_takeTurn 99 = .ok (.iinc 2 1, 3) := by decide +kernel
theorem dX5_takeTurn_102 : decode cX5_takeTurn 102 = .ok (.goto (-68), 3) := by decide +kernel
theorem dX5_takeTurn_105 : decode cX5_takeTurn 105 = .ok (.aload_n 1, 1) := by decide +kernel
theorem dX5_takeTurn_106 : decode cX5_takeTurn 106 = .ok (.getfield 91, 3) := by decide +kernel
theorem dX5_takeTurn_109 : decode cX5_takeTurn 109 = .ok (.ifCond .ne 11, 3) := by decide +kernel
theorem dX5_takeTurn_112 : decode cX5_takeTurn 112 = .ok (.aload_n 0, 1) := by decide +kernel
theorem dX5_takeTurn_113 : decode cX5_takeTurn 113 = .ok (.getfield 20, 3) := by decide +kernel
theorem dX5_takeTurn_116 : decode cX5_takeTurn 116 = .ok (.aload_n 1, 1) := by decide +kernel
theorem dX5_takeTurn_117 : decode cX5_takeTurn 117 = .ok (.invokevirtual 115, 3) := by decide +kernel
theorem dX5_takeTurn_120 : decode cX5_takeTurn 120 = .ok (.aload_n 0, 1) := by decide +kernel
theorem dX5_takeTurn_121 : decode cX5_takeTurn 121 = .ok (.dup, 1) := by decide +kernel
theorem dX5_takeTurn_122 : decode cX5_takeTurn 122 = .ok (.getfield 52, 3) := by decide +kernel
theorem dX5_takeTurn_125 : decode cX5_takeTurn 125 = .ok (.iconst 1, 1) := by decide +kernel
theorem dX5_takeTurn_126 : decode cX5_takeTurn 126 = .ok (.iadd, 1) := by decide +kernel
theorem dX5_takeTurn_127 : decode cX5_takeTurn 127 = .ok (.putfield 52, 3) := by decide +kernel
theorem dX5_takeTurn_130 : decode cX5_takeTurn 130 = .ok (.aload_n 0, 1) := by decide +kernel
theorem dX5_takeTurn_131 : decode cX5_takeTurn 131 = .ok (.dup, 1) := by decide +kernel
theorem dX5_takeTurn_132 : decode cX5_takeTurn 132 = .ok (.getfield 55, 3) := by decide +kernel
theorem dX5_takeTurn_135 : decode cX5_takeTurn 135 = .ok (.iconst 1, 1) := by decide +kernel
theorem dX5_takeTurn_136 : decode cX5_takeTurn 136 = .ok (.iadd, 1) := by decide +kernel
theorem dX5_takeTurn_137 : decode cX5_takeTurn 137 = .ok (.putfield 55, 3) := by decide +kernel
theorem dX5_takeTurn_140 : decode cX5_takeTurn 140 = .ok (.iconst 1, 1) := by decide +kernel
theorem dX5_takeTurn_141 : decode cX5_takeTurn 141 = .ok (.ireturn, 1) := by decide +kernel
theorem dX5_nextToRun_0 : decode cX5_nextToRun 0 = .ok (.aload_n 0, 1) := by decide +kernel
theorem dX5_nextToRun_1 : decode cX5_nextToRun 1 = .ok (.invokevirtual 119, 3) := by decide +kernel
theorem dX5_nextToRun_4 : decode cX5_nextToRun 4 = .ok (.aload_n 0, 1) := by decide +kernel
theorem dX5_nextToRun_5 : decode cX5_nextToRun 5 = .ok (.getfield 20, 3) := by decide +kernel
theorem dX5_nextToRun_8 : decode cX5_nextToRun 8 = .ok (.invokevirtual 122, 3) := by decide +kernel
theorem dX5_nextToRun_11 : decode cX5_nextToRun 11 = .ok (.ifCond .ne 7, 3) := by decide +kernel
theorem dX5_nextToRun_14 : decode cX5_nextToRun 14 = .ok (.aload_n 0, 1) := by decide +kernel
theorem dX5_nextToRun_15 : decode cX5_nextToRun 15 = .ok (.invokevirtual 126, 3) := by decide +kernel
theorem dX5_nextToRun_18 : decode cX5_nextToRun 18 = .ok (.aload_n 0, 1) := by decide +kernel
theorem dX5_nextToRun_19 : decode cX5_nextToRun 19 = .ok (.getfield 20, 3) := by decide +kernel
theorem dX5_nextToRun_22 : decode cX5_nextToRun 22 = .ok (.invokevirtual 129, 3) := by decide +kernel
theorem dX5_nextToRun_25 : decode cX5_nextToRun 25 = .ok (.areturn, 1) := by decide +kernel
theorem dX5_wakeDelayed_0 : decode cX5_wakeDelayed 0 = .ok (.iconst 0, 1) := by decide +kernel
theorem dX5_wakeDelayed_1 : decode cX5_wakeDelayed 1 = .ok (.istore_n 1, 1) := by decide +kernel
theorem dX5_wakeDelayed_2 : decode cX5_wakeDelayed 2 = .ok (.iload_n 1, 1) := by decide +kernel
theorem dX5_wakeDelayed_3 : decode cX5_wakeDelayed 3 = .ok (.aload_n 0, 1) := by decide +kernel
theorem dX5_wakeDelayed_4 : decode cX5_wakeDelayed 4 = .ok (.getfield 38, 3) := by decide +kernel
theorem dX5_wakeDelayed_7 : decode cX5_wakeDelayed 7 = .ok (.if_icmp .ge 35, 3) := by decide +kernel
theorem dX5_wakeDelayed_10 : decode cX5_wakeDelayed 10 = .ok (.aload_n 0, 1) := by decide +kernel
theorem dX5_wakeDelayed_11 : decode cX5_wakeDelayed 11 = .ok (.invokevirtual 132, 3) := by decide +kernel
theorem dX5_wakeDelayed_14 : decode cX5_wakeDelayed 14 = .ok (.astore_n 2, 1) := by decide +kernel
theorem dX5_wakeDelayed_15 : decode cX5_wakeDelayed 15 = .ok (.aload_n 2, 1) := by decide +kernel
theorem dX5_wakeDelayed_16 : decode cX5_wakeDelayed 16 = .ok (.ifnull 14, 3) := by decide +kernel
theorem dX5_wakeDelayed_19 : decode cX5_wakeDelayed 19 = .ok (.aload_n 2, 1) := by decide +kernel
theorem dX5_wakeDelayed_20 : decode cX5_wakeDelayed 20 = .ok (.getfield 135, 3) := by decide +kernel
theorem dX5_wakeDelayed_23 : decode cX5_wakeDelayed 23 = .ok (.aload_n 0, 1) := by decide +kernel
theorem dX5_wakeDelayed_24 : decode cX5_wakeDelayed 24 = .ok (.getfield 52, 3) := by decide +kernel
theorem dX5_wakeDelayed_27 : decode cX5_wakeDelayed 27 = .ok (.if_icmp .le 4, 3) := by decide +kernel
theorem dX5_wakeDelayed_30 : decode cX5_wakeDelayed 30 = .ok (.return_, 1) := by decide +kernel
theorem dX5_wakeDelayed_31 : decode cX5_wakeDelayed 31 = .ok (.aload_n 0, 1) := by decide +kernel
theorem dX5_wakeDelayed_32 : decode cX5_wakeDelayed 32 = .ok (.aload_n 2, 1) := by decide +kernel
theorem dX5_wakeDelayed_33 : decode cX5_wakeDelayed 33 = .ok (.invokevirtual 138, 3) := by decide +kernel
theorem dX5_wakeDelayed_36 : decode cX5_wakeDelayed 36 = .ok (.iinc 1 1, 3) := by decide +kernel
theorem dX5_wakeDelayed_39 : decode cX5_wakeDelayed 39 = .ok (.goto (-37), 3) := by decide +kernel
theorem dX5_wakeDelayed_42 : decode cX5_wakeDelayed 42 = .ok (.return_, 1) := by decide +kernel
theorem dX5_firstDelayed_0 : decode cX5_firstDelayed 0 = .ok (.aconst_null, 1) := by decide +kernel
theorem dX5_firstDelayed_1 : decode cX5_firstDelayed 1 = .ok (.astore_n 1, 1) := by decide +kernel
theorem dX5_firstDelayed_2 : decode cX5_firstDelayed 2 = .ok (.iconst 0, 1) := by decide +kernel
theorem dX5_firstDelayed_3 : decode cX5_firstDelayed 3 = .ok (.istore_n 2, 1) := by decide +kernel
theorem dX5_firstDelayed_4 : decode cX5_firstDelayed 4 = .ok (.iload_n 2, 1) := by decide +kernel
theorem dX5_firstDelayed_5 : decode cX5_firstDelayed 5 = .ok (.aload_n 0, 1) := by decide +kernel
theorem dX5_firstDelayed_6 : decode cX5_firstDelayed 6 = .ok (.getfield 38, 3) := by decide +kernel
theorem dX5_firstDelayed_9 : decode cX5_firstDelayed 9 = .ok (.if_icmp .ge 41, 3) := by decide +kernel
theorem dX5_firstDelayed_12 : decode cX5_firstDelayed 12 = .ok (.aload_n 0, 1) := by decide +kernel
theorem dX5_firstDelayed_13 : decode cX5_firstDelayed 13 = .ok (.getfield 11, 3) := by decide +kernel
theorem dX5_firstDelayed_16 : decode cX5_firstDelayed 16 = .ok (.iload_n 2, 1) := by decide +kernel
theorem dX5_firstDelayed_17 : decode cX5_firstDelayed 17 = .ok (.aaload, 1) := by decide +kernel
theorem dX5_firstDelayed_18 : decode cX5_firstDelayed 18 = .ok (.astore_n 3, 1) := by decide +kernel
theorem dX5_firstDelayed_19 : decode cX5_firstDelayed 19 = .ok (.aload_n 3, 1) := by decide +kernel
theorem dX5_firstDelayed_20 : decode cX5_firstDelayed 20 = .ok (.getfield 91, 3) := by decide +kernel
theorem dX5_firstDelayed_23 : decode cX5_firstDelayed 23 = .ok (.iconst 4, 1) := by decide +kernel
theorem dX5_firstDelayed_24 : decode cX5_firstDelayed 24 = .ok (.if_icmp .ne 20, 3) := by decide +kernel
theorem dX5_firstDelayed_27 : decode cX5_firstDelayed 27 = .ok (.aload_n 1, 1) := by decide +kernel
theorem dX5_firstDelayed_28 : decode cX5_firstDelayed 28 = .ok (.ifnull 14, 3) := by decide +kernel
theorem dX5_firstDelayed_31 : decode cX5_firstDelayed 31 = .ok (.aload_n 3, 1) := by decide +kernel
theorem dX5_firstDelayed_32 : decode cX5_firstDelayed 32 = .ok (.getfield 135, 3) := by decide +kernel
theorem dX5_firstDelayed_35 : decode cX5_firstDelayed 35 = .ok (.aload_n 1, 1) := by decide +kernel
theorem dX5_firstDelayed_36 : decode cX5_firstDelayed 36 = .ok (.getfield 135, 3) := by decide +kernel
theorem dX5_firstDelayed_39 : decode cX5_firstDelayed 39 = .ok (.if_icmp .ge 5, 3) := by decide +kernel
theorem dX5_firstDelayed_42 : decode cX5_firstDelayed 42 = .ok (.aload_n 3, 1) := by decide +kernel
theorem dX5_firstDelayed_43 : decode cX5_firstDelayed 43 = .ok (.astore_n 1, 1) := by decide +kernel
theorem dX5_firstDelayed_44 : decode cX5_firstDelayed 44 = .ok (.iinc 2 1, 3) := by decide +kernel
theorem dX5_firstDelayed_47 : decode cX5_firstDelayed 47 = .ok (.goto (-43), 3) := by decide +kernel
theorem dX5_firstDelayed_50 : decode cX5_firstDelayed 50 = .ok (.aload_n 1, 1) := by decide +kernel
theorem dX5_firstDelayed_51 : decode cX5_firstDelayed 51 = .ok (.areturn, 1) := by decide +kernel
theorem dX5_endIdleness_0 : decode cX5_endIdleness 0 = .ok (.aload_n 0, 1) := by decide +kernel
theorem dX5_endIdleness_1 : decode cX5_endIdleness 1 = .ok (.invokevirtual 132, 3) := by decide +kernel
theorem dX5_endIdleness_4 : decode cX5_endIdleness 4 = .ok (.astore_n 1, 1) := by decide +kernel
theorem dX5_endIdleness_5 : decode cX5_endIdleness 5 = .ok (.aload_n 1, 1) := by decide +kernel
theorem dX5_endIdleness_6 : decode cX5_endIdleness 6 = .ok (.ifnull 18, 3) := by decide +kernel
theorem dX5_endIdleness_9 : decode cX5_endIdleness 9 = .ok (.aload_n 0, 1) := by decide +kernel
theorem dX5_endIdleness_10 : decode cX5_endIdleness 10 = .ok (.aload_n 1, 1) := by decide +kernel
theorem dX5_endIdleness_11 : decode cX5_endIdleness 11 = .ok (.getfield 135, 3) := by decide +kernel
theorem dX5_endIdleness_14 : decode cX5_endIdleness 14 = .ok (.putfield 52, 3) := by decide +kernel
theorem dX5_endIdleness_17 : decode cX5_endIdleness 17 = .ok (.aload_n 0, 1) := by decide +kernel
theorem dX5_endIdleness_18 : decode cX5_endIdleness 18 = .ok (.invokevirtual 119, 3) := by decide +kernel
theorem dX5_endIdleness_21 : decode cX5_endIdleness 21 = .ok (.goto 7, 3) := by decide +kernel
theorem dX5_endIdleness_24 : decode cX5_endIdleness 24 = .ok (.aload_n 0, 1) := by decide +kernel
theorem dX5_endIdleness_25 : decode cX5_endIdleness 25 = .ok (.invokevirtual 141, 3) := by decide +kernel
theorem dX5_endIdleness_28 : decode cX5_endIdleness 28 = .ok (.return_, 1) := by decide +kernel
theorem dX5_rescueWaiting_0 : decode cX5_rescueWaiting 0 = .ok (.iconst 0, 1) := by decide +kernel
theorem dX5_rescueWaiting_1 : decode cX5_rescueWaiting 1 = .ok (.istore_n 1, 1) := by decide +kernel
theorem dX5_rescueWaiting_2 : decode cX5_rescueWaiting 2 = .ok (.iload_n 1, 1) := by decide +kernel
theorem dX5_rescueWaiting_3 : decode cX5_rescueWaiting 3 = .ok (.aload_n 0, 1) := by decide +kernel
theorem dX5_rescueWaiting_4 : decode cX5_rescueWaiting 4 = .ok (.getfield 38, 3) := by decide +kernel
theorem dX5_rescueWaiting_7 : decode cX5_rescueWaiting 7 = .ok (.if_icmp .ge 47, 3) := by decide +kernel
theorem dX5_rescueWaiting_10 : decode cX5_rescueWaiting 10 = .ok (.aload_n 0, 1) := by decide +kernel
theorem dX5_rescueWaiting_11 : decode cX5_rescueWaiting 11 = .ok (.getfield 11, 3) := by decide +kernel
theorem dX5_rescueWaiting_14 : decode cX5_rescueWaiting 14 = .ok (.iload_n 1, 1) := by decide +kernel
theorem dX5_rescueWaiting_15 : decode cX5_rescueWaiting 15 = .ok (.aaload, 1) := by decide +kernel
theorem dX5_rescueWaiting_16 : decode cX5_rescueWaiting 16 = .ok (.invokevirtual 144, 3) := by decide +kernel
theorem dX5_rescueWaiting_19 : decode cX5_rescueWaiting 19 = .ok (.ifCond .eq 29, 3) := by decide +kernel
theorem dX5_rescueWaiting_22 : decode cX5_rescueWaiting 22 = .ok (.aload_n 0, 1) := by decide +kernel
theorem dX5_rescueWaiting_23 : decode cX5_rescueWaiting 23 = .ok (.dup, 1) := by decide +kernel
theorem dX5_rescueWaiting_24 : decode cX5_rescueWaiting 24 = .ok (.getfield 58, 3) := by decide +kernel
theorem dX5_rescueWaiting_27 : decode cX5_rescueWaiting 27 = .ok (.iconst 1, 1) := by decide +kernel
theorem dX5_rescueWaiting_28 : decode cX5_rescueWaiting 28 = .ok (.iadd, 1) := by decide +kernel
theorem dX5_rescueWaiting_29 : decode cX5_rescueWaiting 29 = .ok (.putfield 58, 3) := by decide +kernel
theorem dX5_rescueWaiting_32 : decode cX5_rescueWaiting 32 = .ok (.aload_n 0, 1) := by decide +kernel
theorem dX5_rescueWaiting_33 : decode cX5_rescueWaiting 33 = .ok (.aload_n 0, 1) := by decide +kernel
theorem dX5_rescueWaiting_34 : decode cX5_rescueWaiting 34 = .ok (.getfield 11, 3) := by decide +kernel
theorem dX5_rescueWaiting_37 : decode cX5_rescueWaiting 37 = .ok (.iload_n 1, 1) := by decide +kernel
theorem dX5_rescueWaiting_38 : decode cX5_rescueWaiting 38 = .ok (.aaload, 1) := by decide +kernel
theorem dX5_rescueWaiting_39 : decode cX5_rescueWaiting 39 = .ok (.bipush 10, 2) := by decide +kernel
theorem dX5_rescueWaiting_41 : decode cX5_rescueWaiting 41 = .ok (.invokevirtual 148, 3) := by decide +kernel
theorem dX5_rescueWaiting_44 : decode cX5_rescueWaiting 44 = .ok (.aload_n 0, 1) := by decide +kernel
theorem dX5_rescueWaiting_45 : decode cX5_rescueWaiting 45 = .ok (.invokevirtual 112, 3) := by decide +kernel
theorem dX5_rescueWaiting_48 : decode cX5_rescueWaiting 48 = .ok (.iinc 1 1, 3) := by decide +kernel
theorem dX5_rescueWaiting_51 : decode cX5_rescueWaiting 51 = .ok (.goto (-49), 3) := by decide +kernel
theorem dX5_rescueWaiting_54 : decode cX5_rescueWaiting 54 = .ok (.return_, 1) := by decide +kernel
theorem dX5_closeIfOver_0 : decode cX5_closeIfOver 0 = .ok (.aload_n 0, 1) := by decide +kernel
theorem dX5_closeIfOver_1 : decode cX5_closeIfOver 1 = .ok (.getfield 46, 3) := by decide +kernel
theorem dX5_closeIfOver_4 : decode cX5_closeIfOver 4 = .ok (.ifCond .ne 15, 3) := by decide +kernel
theorem dX5_closeIfOver_7 : decode cX5_closeIfOver 7 = .ok (.aload_n 0, 1) := by decide +kernel
theorem dX5_closeIfOver_8 : decode cX5_closeIfOver 8 = .ok (.getfield 11, 3) := by decide +kernel
theorem dX5_closeIfOver_11 : decode cX5_closeIfOver 11 = .ok (.iconst 0, 1) := by decide +kernel
theorem dX5_closeIfOver_12 : decode cX5_closeIfOver 12 = .ok (.aaload, 1) := by decide +kernel
theorem dX5_closeIfOver_13 : decode cX5_closeIfOver 13 = .ok (.invokevirtual 152, 3) := by decide +kernel
theorem dX5_closeIfOver_16 : decode cX5_closeIfOver 16 = .ok (.ifCond .ne 4, 3) := by decide +kernel
theorem dX5_closeIfOver_19 : decode cX5_closeIfOver 19 = .ok (.return_, 1) := by decide +kernel
theorem dX5_closeIfOver_20 : decode cX5_closeIfOver 20 = .ok (.aload_n 0, 1) := by decide +kernel
theorem dX5_closeIfOver_21 : decode cX5_closeIfOver 21 = .ok (.iconst 1, 1) := by decide +kernel
theorem dX5_closeIfOver_22 : decode cX5_closeIfOver 22 = .ok (.putfield 46, 3) := by decide +kernel
theorem dX5_closeIfOver_25 : decode cX5_closeIfOver 25 = .ok (.aload_n 0, 1) := by decide +kernel
theorem dX5_closeIfOver_26 : decode cX5_closeIfOver 26 = .ok (.getfield 20, 3) := by decide +kernel
theorem dX5_closeIfOver_29 : decode cX5_closeIfOver 29 = .ok (.invokevirtual 71, 3) := by decide +kernel
theorem dX5_closeIfOver_32 : decode cX5_closeIfOver 32 = .ok (.iconst 1, 1) := by decide +kernel
theorem dX5_closeIfOver_33 : decode cX5_closeIfOver 33 = .ok (.istore_n 1, 1) := by decide +kernel
theorem dX5_closeIfOver_34 : decode cX5_closeIfOver 34 = .ok (.iload_n 1, 1) := by decide +kernel
theorem dX5_closeIfOver_35 : decode cX5_closeIfOver 35 = .ok (.aload_n 0, 1) := by decide +kernel
theorem dX5_closeIfOver_36 : decode cX5_closeIfOver 36 = .ok (.getfield 38, 3) := by decide +kernel
theorem dX5_closeIfOver_39 : decode cX5_closeIfOver 39 = .ok (.if_icmp .ge 32, 3) := by decide +kernel
theorem dX5_closeIfOver_42 : decode cX5_closeIfOver 42 = .ok (.aload_n 0, 1) := by decide +kernel
theorem dX5_closeIfOver_43 : decode cX5_closeIfOver 43 = .ok (.getfield 11, 3) := by decide +kernel
theorem dX5_closeIfOver_46 : decode cX5_closeIfOver 46 = .ok (.iload_n 1, 1) := by decide +kernel
theorem dX5_closeIfOver_47 : decode cX5_closeIfOver 47 = .ok (.aaload, 1) := by decide +kernel
theorem dX5_closeIfOver_48 : decode cX5_closeIfOver 48 = .ok (.invokevirtual 152, 3) := by decide +kernel
theorem dX5_closeIfOver_51 : decode cX5_closeIfOver 51 = .ok (.ifCond .ne 14, 3) := by decide +kernel
theorem dX5_closeIfOver_54 : decode cX5_closeIfOver 54 = .ok (.aload_n 0, 1) := by decide +kernel
theorem dX5_closeIfOver_55 : decode cX5_closeIfOver 55 = .ok (.getfield 11, 3) := by decide +kernel
theorem dX5_closeIfOver_58 : decode cX5_closeIfOver 58 = .ok (.iload_n 1, 1) := by decide +kernel
theorem dX5_closeIfOver_59 : decode cX5_closeIfOver 59 = .ok (.aaload, 1) := by decide +kernel
theorem dX5_closeIfOver_60 : decode cX5_closeIfOver 60 = .ok (.bipush 7, 2) := by decide +kernel
theorem dX5_closeIfOver_62 : decode cX5_closeIfOver 62 = .ok (.putfield 91, 3) := by decide +kernel
theorem dX5_closeIfOver_65 : decode cX5_closeIfOver 65 = .ok (.iinc 1 1, 3) := by decide +kernel
theorem dX5_closeIfOver_68 : decode cX5_closeIfOver 68 = .ok (.goto (-34), 3) := by decide +kernel
theorem dX5_closeIfOver_71 : decode cX5_closeIfOver 71 = .ok (.return_, 1) := by decide +kernel
theorem dX5_doAct_0 : decode cX5_doAct 0 = .ok (.iload_n 2, 1) := by decide +kernel
theorem dX5_doAct_1 : decode cX5_doAct 1 = .ok (.iconst (-1), 1) := by decide +kernel
theorem dX5_doAct_2 : decode cX5_doAct 2 = .ok (.if_icmp .ne 9, 3) := by decide +kernel
theorem dX5_doAct_5 : decode cX5_doAct 5 = .ok (.aload_n 1, 1) := by decide +kernel
theorem dX5_doAct_6 : decode cX5_doAct 6 = .ok (.iconst 5, 1) := by decide +kernel
theorem dX5_doAct_7 : decode cX5_doAct 7 = .ok (.putfield 91, 3) := by decide +kernel
theorem dX5_doAct_10 : decode cX5_doAct 10 = .ok (.return_, 1) := by decide +kernel
theorem dX5_doAct_11 : decode cX5_doAct 11 = .ok (.aload_n 1, 1) := by decide +kernel
theorem dX5_doAct_12 : decode cX5_doAct 12 = .ok (.dup, 1) := by decide +kernel
theorem dX5_doAct_13 : decode cX5_doAct 13 = .ok (.getfield 97, 3) := by decide +kernel
theorem dX5_doAct_16 : decode cX5_doAct 16 = .ok (.iconst 1, 1) := by decide +kernel
theorem dX5_doAct_17 : decode cX5_doAct 17 = .ok (.iadd, 1) := by decide +kernel
theorem dX5_doAct_18 : decode cX5_doAct 18 = .ok (.putfield 97, 3) := by decide +kernel
theorem dX5_doAct_21 : decode cX5_doAct 21 = .ok (.aload_n 0, 1) := by decide +kernel
theorem dX5_doAct_22 : decode cX5_doAct 22 = .ok (.iload_n 2, 1) := by decide +kernel
theorem dX5_doAct_23 : decode cX5_doAct 23 = .ok (.iload_n 3, 1) := by decide +kernel
theorem dX5_doAct_24 : decode cX5_doAct 24 = .ok (.invokevirtual 155, 3) := by decide +kernel
theorem dX5_doAct_27 : decode cX5_doAct 27 = .ok (.istore 4, 2) := by decide +kernel
theorem dX5_doAct_29 : decode cX5_doAct 29 = .ok (.iload 4, 2) := by decide +kernel
theorem dX5_doAct_31 : decode cX5_doAct 31 = .ok (.ifCond .ne 13, 3) := by decide +kernel
theorem dX5_doAct_34 : decode cX5_doAct 34 = .ok (.aload_n 0, 1) := by decide +kernel
theorem dX5_doAct_35 : decode cX5_doAct 35 = .ok (.aload_n 1, 1) := by decide +kernel
theorem dX5_doAct_36 : decode cX5_doAct 36 = .ok (.iload_n 2, 1) := by decide +kernel
theorem dX5_doAct_37 : decode cX5_doAct 37 = .ok (.iload_n 3, 1) := by decide +kernel
theorem dX5_doAct_38 : decode cX5_doAct 38 = .ok (.invokevirtual 158, 3) := by decide +kernel
theorem dX5_doAct_41 : decode cX5_doAct 41 = .ok (.goto 30, 3) := by decide +kernel
theorem dX5_doAct_44 : decode cX5_doAct 44 = .ok (.aload_n 1, 1) := by decide +kernel
theorem dX5_doAct_45 : decode cX5_doAct 45 = .ok (.getfield 161, 3) := by decide +kernel
theorem dX5_doAct_48 : decode cX5_doAct 48 = .ok (.ifCond .le 15, 3) := by decide +kernel
theorem dX5_doAct_51 : decode cX5_doAct 51 = .ok (.aload_n 0, 1) := by decide +kernel
theorem dX5_doAct_52 : decode cX5_doAct 52 = .ok (.aload_n 1, 1) := by decide +kernel
theorem dX5_doAct_53 : decode cX5_doAct 53 = .ok (.aload_n 1, 1) := by decide +kernel
theorem dX5_doAct_54 : decode cX5_doAct 54 = .ok (.invokevirtual 164, 3) := by decide +kernel
theorem dX5_doAct_57 : decode cX5_doAct 57 = .ok (.invokevirtual 148, 3) := by decide +kernel
theorem dX5_doAct_60 : decode cX5_doAct 60 = .ok (.goto 11, 3) := by decide +kernel
theorem dX5_doAct_63 : decode cX5_doAct 63 = .ok (.aload_n 0, 1) := by decide +kernel
theorem dX5_doAct_64 : decode cX5_doAct 64 = .ok (.aload_n 1, 1) := by decide +kernel
theorem dX5_doAct_65 : decode cX5_doAct 65 = .ok (.iload 4, 2) := by decide +kernel
theorem dX5_doAct_67 : decode cX5_doAct 67 = .ok (.iload_n 3, 1) := by decide +kernel
theorem dX5_doAct_68 : decode cX5_doAct 68 = .ok (.invokevirtual 167, 3) := by decide +kernel
theorem dX5_doAct_71 : decode cX5_doAct 71 = .ok (.return_, 1) := by decide +kernel
theorem dX5_stateAfter_0 : decode cX5_stateAfter 0 = .ok (.iload_n 1, 1) := by decide +kernel
theorem dX5_stateAfter_1 : decode cX5_stateAfter 1 = .ok (.tableswitch 100 0 7 #[47, 64, 81, 100, 100, 100, 100, 98], 47) := by decide +kernel
theorem dX5_stateAfter_48 : decode cX5_stateAfter 48 = .ok (.aload_n 0, 1) := by decide +kernel
theorem dX5_stateAfter_49 : decode cX5_stateAfter 49 = .ok (.getfield 27, 3) := by decide +kernel
theorem dX5_stateAfter_52 : decode cX5_stateAfter 52 = .ok (.iload_n 2, 1) := by decide +kernel
theorem dX5_stateAfter_53 : decode cX5_stateAfter 53 = .ok (.invokevirtual 170, 3) := by decide +kernel
theorem dX5_stateAfter_56 : decode cX5_stateAfter 56 = .ok (.ifCond .eq 7, 3) := by decide +kernel
theorem dX5_stateAfter_59 : decode cX5_stateAfter 59 = .ok (.iconst 1, 1) := by decide +kernel
theorem dX5_stateAfter_60 : decode cX5_stateAfter 60 = .ok (.goto 4, 3) := by decide +kernel
theorem dX5_stateAfter_63 : decode cX5_stateAfter 63 = .ok (.iconst 0, 1) := by decide +kernel
theorem dX5_stateAfter_64 : decode cX5_stateAfter 64 = .ok (.ireturn, 1) := by decide +kernel
theorem dX5_stateAfter_65 : decode cX5_stateAfter 65 = .ok (.aload_n 0, 1) := by decide +kernel
theorem dX5_stateAfter_66 : decode cX5_stateAfter 66 = .ok (.getfield 27, 3) := by decide +kernel
theorem dX5_stateAfter_69 : decode cX5_stateAfter 69 = .ok (.iload_n 2, 1) := by decide +kernel
theorem dX5_stateAfter_70 : decode cX5_stateAfter 70 = .ok (.invokevirtual 170, 3) := by decide +kernel
theorem dX5_stateAfter_73 : decode cX5_stateAfter 73 = .ok (.ifCond .eq 7, 3) := by decide +kernel
theorem dX5_stateAfter_76 : decode cX5_stateAfter 76 = .ok (.iconst 0, 1) := by decide +kernel
theorem dX5_stateAfter_77 : decode cX5_stateAfter 77 = .ok (.goto 4, 3) := by decide +kernel
theorem dX5_stateAfter_80 : decode cX5_stateAfter 80 = .ok (.iconst 2, 1) := by decide +kernel
theorem dX5_stateAfter_81 : decode cX5_stateAfter 81 = .ok (.ireturn, 1) := by decide +kernel
theorem dX5_stateAfter_82 : decode cX5_stateAfter 82 = .ok (.aload_n 0, 1) := by decide +kernel
theorem dX5_stateAfter_83 : decode cX5_stateAfter 83 = .ok (.getfield 27, 3) := by decide +kernel
theorem dX5_stateAfter_86 : decode cX5_stateAfter 86 = .ok (.iload_n 2, 1) := by decide +kernel
theorem dX5_stateAfter_87 : decode cX5_stateAfter 87 = .ok (.invokevirtual 170, 3) := by decide +kernel
theorem dX5_stateAfter_90 : decode cX5_stateAfter 90 = .ok (.ifCond .eq 7, 3) := by decide +kernel
theorem dX5_stateAfter_93 : decode cX5_stateAfter 93 = .ok (.iconst 0, 1) := by decide +kernel
theorem dX5_stateAfter_94 : decode cX5_stateAfter 94 = .ok (.goto 4, 3) := by decide +kernel
theorem dX5_stateAfter_97 : decode cX5_stateAfter 97 = .ok (.iconst 3, 1) := by decide +kernel
theorem dX5_stateAfter_98 : decode cX5_stateAfter 98 = .ok (.ireturn, 1) := by decide +kernel
theorem dX5_stateAfter_99 : decode cX5_stateAfter 99 = .ok (.iconst 4, 1) := by decide +kernel
theorem dX5_stateAfter_100 : decode cX5_stateAfter 100 = .ok (.ireturn, 1) := by decide +kernel
theorem dX5_stateAfter_101 : decode cX5_stateAfter 101 = .ok (.iconst 0, 1) := by decide +kernel
theorem dX5_stateAfter_102 : decode cX5_stateAfter 102 = .ok (.ireturn, 1) := by decide +kernel
theorem dX5_pause_0 : decode cX5_pause 0 = .ok (.aload_n 1, 1) := by decide +kernel
theorem dX5_pause_1 : decode cX5_pause 1 = .ok (.iload_n 2, 1) := by decide +kernel
theorem dX5_pause_2 : decode cX5_pause 2 = .ok (.putfield 91, 3) := by decide +kernel
theorem dX5_pause_5 : decode cX5_pause 5 = .ok (.iload_n 2, 1) := by decide +kernel
theorem dX5_pause_6 : decode cX5_pause 6 = .ok (.iconst 4, 1) := by decide +kernel
theorem dX5_pause_7 : decode cX5_pause 7 = .ok (.if_icmp .ne 16, 3) := by decide +kernel
theorem dX5_pause_10 : decode cX5_pause 10 = .ok (.aload_n 1, 1) := by decide +kernel
theorem dX5_pause_11 : decode cX5_pause 11 = .ok (.aload_n 0, 1) := by decide +kernel
theorem dX5_pause_12 : decode cX5_pause 12 = .ok (.getfield 52, 3) := by decide +kernel
theorem dX5_pause_15 : decode cX5_pause 15 = .ok (.iload_n 3, 1) := by decide +kernel
theorem dX5_pause_16 : decode cX5_pause 16 = .ok (.iadd, 1) := by decide +kernel
theorem dX5_pause_17 : decode cX5_pause 17 = .ok (.putfield 135, 3) := by decide +kernel
theorem dX5_pause_20 : decode cX5_pause 20 = .ok (.goto 26, 3) := by decide +kernel
theorem dX5_pause_23 : decode cX5_pause 23 = .ok (.aload_n 1, 1) := by decide +kernel
theorem dX5_pause_24 : decode cX5_pause 24 = .ok (.iload_n 3, 1) := by decide +kernel
theorem dX5_pause_25 : decode cX5_pause 25 = .ok (.putfield 174, 3) := by decide +kernel
theorem dX5_pause_28 : decode cX5_pause 28 = .ok (.aload_n 1, 1) := by decide +kernel
theorem dX5_pause_29 : decode cX5_pause 29 = .ok (.aload_n 0, 1) := by decide +kernel
theorem dX5_pause_30 : decode cX5_pause 30 = .ok (.getfield 61, 3) := by decide +kernel
theorem dX5_pause_33 : decode cX5_pause 33 = .ok (.putfield 177, 3) := by decide +kernel
theorem dX5_pause_36 : decode cX5_pause 36 = .ok (.aload_n 0, 1) := by decide +kernel
theorem dX5_pause_37 : decode cX5_pause 37 = .ok (.dup, 1) := by decide +kernel
theorem dX5_pause_38 : decode cX5_pause 38 = .ok (.getfield 61, 3) := by decide +kernel
theorem dX5_pause_41 : decode cX5_pause 41 = .ok (.iconst 1, 1) := by decide +kernel
theorem dX5_pause_42 : decode cX5_pause 42 = .ok (.iadd, 1) := by decide +kernel
theorem dX5_pause_43 : decode cX5_pause 43 = .ok (.putfield 61, 3) := by decide +kernel
theorem dX5_pause_46 : decode cX5_pause 46 = .ok (.return_, 1) := by decide +kernel
theorem dX5_perform_0 : decode cX5_perform 0 = .ok (.iload_n 2, 1) := by decide +kernel
theorem dX5_perform_1 : decode cX5_perform 1 = .ok (.tableswitch 274 0 16 #[83, 95, 104, 119, 127, 140, 274, 274, 156, 164, 186, 204, 213, 230, 238, 245, 263], 83) := by decide +kernel
theorem dX5_perform_84 : decode cX5_perform 84 = .ok (.aload_n 0, 1) := by decide +kernel
theorem dX5_perform_85 : decode cX5_perform 85 = .ok (.iload_n 3, 1) := by decide +kernel
theorem dX5_perform_86 : decode cX5_perform 86 = .ok (.aload_n 1, 1) := by decide +kernel
theorem dX5_perform_87 : decode cX5_perform 87 = .ok (.getfield 180, 3) := by decide +kernel
theorem dX5_perform_90 : decode cX5_perform 90 = .ok (.invokevirtual 183, 3) := by decide +kernel
theorem dX5_perform_93 : decode cX5_perform 93 = .ok (.goto 182, 3) := by decide +kernel
theorem dX5_perform_96 : decode cX5_perform 96 = .ok (.aload_n 0, 1) := by decide +kernel
theorem dX5_perform_97 : decode cX5_perform 97 = .ok (.iload_n 3, 1) := by decide +kernel
theorem dX5_perform_98 : decode cX5_perform 98 = .ok (.aload_n 1, 1) := by decide +kernel
theorem dX5_perform_99 : decode cX5_perform 99 = .ok (.invokevirtual 187, 3) := by decide +kernel
theorem dX5_perform_102 : decode cX5_perform 102 = .ok (.goto 173, 3) := by decide +kernel
theorem dX5_perform_105 : decode cX5_perform 105 = .ok (.aload_n 1, 1) := by decide +kernel
theorem dX5_perform_106 : decode cX5_perform 106 = .ok (.aload_n 0, 1) := by decide +kernel
theorem dX5_perform_107 : decode cX5_perform 107 = .ok (.getfield 27, 3) := by decide +kernel
theorem dX5_perform_110 : decode cX5_perform 110 = .ok (.iload_n 3, 1) := by decide +kernel
theorem dX5_perform_111 : decode cX5_perform 111 = .ok (.invokevirtual 191, 3) := by decide +kernel
theorem dX5_perform_114 : decode cX5_perform 114 = .ok (.putfield 180, 3) := by decide +kernel
theorem dX5_perform_117 : decode cX5_perform 117 = .ok (.goto 158, 3) := by decide +kernel
theorem dX5_perform_120 : decode cX5_perform 120 = .ok (.aload_n 1, 1) := by decide +kernel
theorem dX5_perform_121 : decode cX5_perform 121 = .ok (.iload_n 3, 1) := by decide +kernel
theorem dX5_perform_122 : decode cX5_perform 122 = .ok (.putfield 180, 3) := by decide +kernel
theorem dX5_perform_125 : decode cX5_perform 125 = .ok (.goto 150, 3) := by decide +kernel
theorem dX5_perform_128 : decode cX5_perform 128 = .ok (.aload_n 1, 1) := by decide +kernel
theorem dX5_perform_129 : decode cX5_perform 129 = .ok (.dup, 1) := by decide +kernel
theorem dX5_perform_130 : decode cX5_perform 130 = .ok (.getfield 180, 3) := by decide +kernel
theorem dX5_perform_133 : decode cX5_perform 133 = .ok (.iload_n 3, 1) := by decide +kernel
theorem dX5_perform_134 : decode cX5_perform 134 = .ok (.iadd, 1) := by decide +kernel
theorem dX5_perform_135 : decode cX5_perform 135 = .ok (.putfield 180, 3) := by decide +kernel
theorem dX5_perform_138 : decode cX5_perform 138 = .ok (.goto 137, 3) := by decide +kernel
theorem dX5_perform_141 : decode cX5_perform 141 = .ok (.aload_n 1, 1) := by decide +kernel
theorem dX5_perform_142 : decode cX5_perform 142 = .ok (.aload_n 0, 1) := by decide +kernel
theorem dX5_perform_143 : decode cX5_perform 143 = .ok (.iload_n 3, 1) := by decide +kernel
theorem dX5_perform_144 : decode cX5_perform 144 = .ok (.aload_n 1, 1) := by decide +kernel
theorem dX5_perform_145 : decode cX5_perform 145 = .ok (.getfield 180, 3) := by decide +kernel
theorem dX5_perform_148 : decode cX5_perform 148 = .ok (.invokevirtual 78, 3) := by decide +kernel
theorem dX5_perform_151 : decode cX5_perform 151 = .ok (.putfield 180, 3) := by decide +kernel
theorem dX5_perform_154 : decode cX5_perform 154 = .ok (.goto 121, 3) := by decide +kernel
theorem dX5_perform_157 : decode cX5_perform 157 = .ok (.aload_n 1, 1) := by decide +kernel
theorem dX5_perform_158 : decode cX5_perform 158 = .ok (.iload_n 3, 1) := by decide +kernel
theorem dX5_perform_159 : decode cX5_perform 159 = .ok (.putfield 97, 3) := by decide +kernel
theorem dX5_perform_162 : decode cX5_perform 162 = .ok (.goto 113, 3) := by decide +kernel
theorem dX5_perform_165 : decode cX5_perform 165 = .ok (.aload_n 1, 1) := by decide +kernel
theorem dX5_perform_166 : decode cX5_perform 166 = .ok (.aload_n 1, 1) := by decide +kernel
theorem dX5_perform_167 : decode cX5_perform 167 = .ok (.getfield 180, 3) := by decide +kernel
theorem dX5_perform_170 : decode cX5_perform 170 = .ok (.ifCond .ne 7, 3) := by decide +kernel
theorem dX5_perform_173 : decode cX5_perform 173 = .ok (.iload_n 3, 1) := by decide +kernel
theorem dX5_perform_174 : decode cX5_perform 174 = .ok (.goto 7, 3) := by decide +kernel
theorem dX5_perform_177 : decode cX5_perform 177 = .ok (.aload_n 1, 1) := by decide +kernel
theorem dX5_perform_178 : decode cX5_perform 178 = .ok (.getfield 97, 3) := by decide +kernel
theorem dX5_perform_181 : decode cX5_perform 181 = .ok (.putfield 97, 3) := by decide +kernel
theorem dX5_perform_184 : decode cX5_perform 184 = .ok (.goto 91, 3) := by decide +kernel
theorem dX5_perform_187 : decode cX5_perform 187 = .ok (.aload_n 0, 1) := by decide +kernel
theorem dX5_perform_188 : decode cX5_perform 188 = .ok (.getfield 34, 3) := by decide +kernel
theorem dX5_perform_191 : decode cX5_perform 191 = .ok (.aload_n 1, 1) := by decide +kernel
theorem dX5_perform_192 : decode cX5_perform 192 = .ok (.getfield 195, 3) := by decide +kernel
theorem dX5_perform_195 : decode cX5_perform 195 = .ok (.aload_n 1, 1) := by decide +kernel
theorem dX5_perform_196 : decode cX5_perform 196 = .ok (.getfield 180, 3) := by decide +kernel
theorem dX5_perform_199 : decode cX5_perform 199 = .ok (.invokevirtual 198, 3) := by decide +kernel
theorem dX5_perform_202 : decode cX5_perform 202 = .ok (.goto 73, 3) := by decide +kernel
theorem dX5_perform_205 : decode cX5_perform 205 = .ok (.aload_n 0, 1) := by decide +kernel
theorem dX5_perform_206 : decode cX5_perform 206 = .ok (.aload_n 1, 1) := by decide +kernel
theorem dX5_perform_207 : decode cX5_perform 207 = .ok (.iload_n 3, 1) := by decide +kernel
theorem dX5_perform_208 : decode cX5_perform 208 = .ok (.invokevirtual 148, 3) := by decide +kernel
theorem dX5_perform_211 : decode cX5_perform 211 = .ok (.goto 64, 3) := by decide +kernel
theorem dX5_perform_214 : decode cX5_perform 214 = .ok (.aload_n 0, 1) := by decide +kernel
theorem dX5_perform_215 : decode cX5_perform 215 = .ok (.aload_n 0, 1) := by decide +kernel
theorem dX5_perform_216 : decode cX5_perform 216 = .ok (.aload_n 1, 1) := by decide +kernel
theorem dX5_perform_217 : decode cX5_perform 217 = .ok (.getfield 180, 3) := by decide +kernel
theorem dX5_perform_220 : decode cX5_perform 220 = .ok (.invokevirtual 200, 3) := by decide +kernel
theorem dX5_perform_223 : decode cX5_perform 223 = .ok (.aload_n 1, 1) := by decide +kernel
theorem dX5_perform_224 : decode cX5_perform 224 = .ok (.iload_n 3, 1) := by decide +kernel
theorem dX5_perform_225 : decode cX5_perform 225 = .ok (.invokevirtual 204, 3) := by decide +kernel
theorem dX5_perform_228 : decode cX5_perform 228 = .ok (.goto 47, 3) := by decide +kernel
theorem dX5_perform_231 : decode cX5_perform 231 = .ok (.aload_n 1, 1) := by decide +kernel
theorem dX5_perform_232 : decode cX5_perform 232 = .ok (.iload_n 3, 1) := by decide +kernel
theorem dX5_perform_233 : decode cX5_perform 233 = .ok (.invokevirtual 208, 3) := by decide +kernel
theorem dX5_perform_236 : decode cX5_perform 236 = .ok (.goto 39, 3) := by decide +kernel
theorem dX5_perform_239 : decode cX5_perform 239 = .ok (.aload_n 1, 1) := by decide +kernel
theorem dX5_perform_240 : decode cX5_perform 240 = .ok (.invokevirtual 211, 3) := by decide +kernel
theorem dX5_perform_243 : decode cX5_perform 243 = .ok (.goto 32, 3) := by decide +kernel
theorem dX5_perform_246 : decode cX5_perform 246 = .ok (.aload_n 0, 1) := by decide +kernel
theorem dX5_perform_247 : decode cX5_perform 247 = .ok (.aload_n 1, 1) := by decide +kernel
theorem dX5_perform_248 : decode cX5_perform 248 = .ok (.iload_n 3, 1) := by decide +kernel
theorem dX5_perform_249 : decode cX5_perform 249 = .ok (.iconst 1, 1) := by decide +kernel
theorem dX5_perform_250 : decode cX5_perform 250 = .ok (.if_icmp .ne 7, 3) := by decide +kernel
theorem dX5_perform_253 : decode cX5_perform 253 = .ok (.iconst 1, 1) := by decide +kernel
theorem dX5_perform_254 : decode cX5_perform 254 = .ok (.goto 4, 3) := by decide +kernel
theorem dX5_perform_257 : decode cX5_perform 257 = .ok (.iconst 0, 1) := by decide +kernel
theorem dX5_perform_258 : decode cX5_perform 258 = .ok (.invokevirtual 214, 3) := by decide +kernel
theorem dX5_perform_261 : decode cX5_perform 261 = .ok (.goto 14, 3) := by decide +kernel
theorem dX5_perform_264 : decode cX5_perform 264 = .ok (.aload_n 1, 1) := by decide +kernel
theorem dX5_perform_265 : decode cX5_perform 265 = .ok (.aload_n 1, 1) := by decide +kernel
theorem dX5_perform_266 : decode cX5_perform 266 = .ok (.getfield 195, 3) := by decide +kernel
theorem dX5_perform_269 : decode cX5_perform 269 = .ok (.putfield 180, 3) := by decide +kernel
theorem dX5_perform_272 : decode cX5_perform 272 = .ok (.goto 3, 3) := by decide +kernel
theorem dX5_perform_275 : decode cX5_perform 275 = .ok (.return_, 1) := by decide +kernel
theorem dX5_startFiber_0 : decode cX5_startFiber 0 = .ok (.aload_n 0, 1) := by decide +kernel
theorem dX5_startFiber_1 : decode cX5_startFiber 1 = .ok (.getfield 38, 3) := by decide +kernel
theorem dX5_startFiber_4 : decode cX5_startFiber 4 = .ok (.bipush 24, 2) := by decide +kernel
theorem dX5_startFiber_6 : decode cX5_startFiber 6 = .ok (.if_icmp .ge 14, 3) := by decide +kernel
theorem dX5_startFiber_9 : decode cX5_startFiber 9 = .ok (.aload_n 0, 1) := by decide +kernel
theorem dX5_startFiber_10 : decode cX5_startFiber 10 = .ok (.getfield 64, 3) := by decide +kernel
theorem dX5_startFiber_13 : decode cX5_startFiber 13 = .ok (.iload_n 1, 1) := by decide +kernel
theorem dX5_startFiber_14 : decode cX5_startFiber 14 = .ok (.invokevirtual 218, 3) := by decide +kernel
theorem dX5_startFiber_17 : decode cX5_startFiber 17 = .ok (.ifCond .ne 5, 3) := by decide +kernel
theorem dX5_startFiber_20 : decode cX5_startFiber 20 = .ok (.iconst (-1), 1) := by decide +kernel
theorem dX5_startFiber_21 : decode cX5_startFiber 21 = .ok (.ireturn, 1) := by decide +kernel
theorem dX5_startFiber_22 : decode cX5_startFiber 22 = .ok (.aload_n 0, 1) := by decide +kernel
theorem dX5_startFiber_23 : decode cX5_startFiber 23 = .ok (.getfield 11, 3) := by decide +kernel
theorem dX5_startFiber_26 : decode cX5_startFiber 26 = .ok (.aload_n 0, 1) := by decide +kernel
theorem dX5_startFiber_27 : decode cX5_startFiber 27 = .ok (.getfield 38, 3) := by decide +kernel
theorem dX5_startFiber_30 : decode cX5_startFiber 30 = .ok (.aaload, 1) := by decide +kernel
theorem dX5_startFiber_31 : decode cX5_startFiber 31 = .ok (.astore_n 3, 1) := by decide +kernel
theorem dX5_startFiber_32 : decode cX5_startFiber 32 = .ok (.aload_n 0, 1) := by decide +kernel
theorem dX5_startFiber_33 : decode cX5_startFiber 33 = .ok (.dup, 1) := by decide +kernel
theorem dX5_startFiber_34 : decode cX5_startFiber 34 = .ok (.getfield 38, 3) := by decide +kernel
theorem dX5_startFiber_37 : decode cX5_startFiber 37 = .ok (.iconst 1, 1) := by decide +kernel
theorem dX5_startFiber_38 : decode cX5_startFiber 38 = .ok (.iadd, 1) := by decide +kernel
theorem dX5_startFiber_39 : decode cX5_startFiber 39 = .ok (.putfield 38, 3) := by decide +kernel
theorem dX5_startFiber_42 : decode cX5_startFiber 42 = .ok (.aload_n 3, 1) := by decide +kernel
theorem dX5_startFiber_43 : decode cX5_startFiber 43 = .ok (.iload_n 1, 1) := by decide +kernel
theorem dX5_startFiber_44 : decode cX5_startFiber 44 = .ok (.iload_n 2, 1) := by decide +kernel
theorem dX5_startFiber_45 : decode cX5_startFiber 45 = .ok (.invokevirtual 221, 3) := by decide +kernel
theorem dX5_startFiber_48 : decode cX5_startFiber 48 = .ok (.aload_n 0, 1) := by decide +kernel
theorem dX5_startFiber_49 : decode cX5_startFiber 49 = .ok (.getfield 20, 3) := by decide +kernel
theorem dX5_startFiber_52 : decode cX5_startFiber 52 = .ok (.aload_n 3, 1) := by decide +kernel
theorem dX5_startFiber_53 : decode cX5_startFiber 53 = .ok (.invokevirtual 115, 3) := by decide +kernel
theorem dX5_startFiber_56 : decode cX5_startFiber 56 = .ok (.aload_n 3, 1) := by decide +kernel
theorem dX5_startFiber_57 : decode cX5_startFiber 57 = .ok (.getfield 195, 3) := by decide +kernel
theorem dX5_startFiber_60 : decode cX5_startFiber 60 = .ok (.ireturn, 1) := by decide +kernel
theorem dX5_makeReady_0 : decode cX5_makeReady 0 = .ok (.aload_n 1, 1) := by decide +kernel
theorem dX5_makeReady_1 : decode cX5_makeReady 1 = .ok (.iconst 0, 1) := by decide +kernel
theorem dX5_makeReady_2 : decode cX5_makeReady 2 = .ok (.putfield 91, 3) := by decide +kernel
theorem dX5_makeReady_5 : decode cX5_makeReady 5 = .ok (.aload_n 0, 1) := by decide +kernel
theorem dX5_makeReady_6 : decode cX5_makeReady 6 = .ok (.getfield 20, 3) := by decide +kernel
theorem dX5_makeReady_9 : decode cX5_makeReady 9 = .ok (.aload_n 1, 1) := by decide +kernel
theorem dX5_makeReady_10 : decode cX5_makeReady 10 = .ok (.invokevirtual 115, 3) := by decide +kernel
theorem dX5_makeReady_13 : decode cX5_makeReady 13 = .ok (.return_, 1) := by decide +kernel
theorem dX5_bring_0 : decode cX5_bring 0 = .ok (.iconst 0, 1) := by decide +kernel
theorem dX5_bring_1 : decode cX5_bring 1 = .ok (.istore_n 3, 1) := by decide +kernel
theorem dX5_bring_2 : decode cX5_bring 2 = .ok (.iload_n 3, 1) := by decide +kernel
theorem dX5_bring_3 : decode cX5_bring 3 = .ok (.bipush 24, 2) := by decide +kernel
theorem dX5_bring_5 : decode cX5_bring 5 = .ok (.if_icmp .ge 37, 3) := by decide +kernel
theorem dX5_bring_8 : decode cX5_bring 8 = .ok (.aload_n 0, 1) := by decide +kernel
theorem dX5_bring_9 : decode cX5_bring 9 = .ok (.iload_n 1, 1) := by decide +kernel
theorem dX5_bring_10 : decode cX5_bring 10 = .ok (.iconst 3, 1) := by decide +kernel
theorem dX5_bring_11 : decode cX5_bring 11 = .ok (.invokevirtual 224, 3) := by decide +kernel
theorem dX5_bring_14 : decode cX5_bring 14 = .ok (.astore 4, 2) := by decide +kernel
theorem dX5_bring_16 : decode cX5_bring 16 = .ok (.aload 4, 2) := by decide +kernel
theorem dX5_bring_18 : decode cX5_bring 18 = .ok (.ifnonnull 6, 3) := by decide +kernel
theorem dX5_bring_21 : decode cX5_bring 21 = .ok (.goto 21, 3) := by decide +kernel
theorem dX5_bring_24 : decode cX5_bring 24 = .ok (.aload 4, 2) := by decide +kernel
theorem dX5_bring_26 : decode cX5_bring 26 = .ok (.iload_n 2, 1) := by decide +kernel
theorem dX5_bring_27 : decode cX5_bring 27 = .ok (.putfield 180, 3) := by decide +kernel
theorem dX5_bring_30 : decode cX5_bring 30 = .ok (.aload_n 0, 1) := by decide +kernel
theorem dX5_bring_31 : decode cX5_bring 31 = .ok (.aload 4, 2) := by decide +kernel
theorem dX5_bring_33 : decode cX5_bring 33 = .ok (.invokevirtual 138, 3) := by decide +kernel
theorem dX5_bring_36 : decode cX5_bring 36 = .ok (.iinc 3 1, 3) := by decide +kernel
theorem dX5_bring_39 : decode cX5_bring 39 = .ok (.goto (-37), 3) := by decide +kernel
theorem dX5_bring_42 : decode cX5_bring 42 = .ok (.aload_n 0, 1) := by decide +kernel
theorem dX5_bring_43 : decode cX5_bring 43 = .ok (.iload_n 1, 1) := by decide +kernel
theorem dX5_bring_44 : decode cX5_bring 44 = .ok (.iconst 2, 1) := by decide +kernel
theorem dX5_bring_45 : decode cX5_bring 45 = .ok (.invokevirtual 224, 3) := by decide +kernel
theorem dX5_bring_48 : decode cX5_bring 48 = .ok (.astore_n 3, 1) := by decide +kernel
theorem dX5_bring_49 : decode cX5_bring 49 = .ok (.aload_n 3, 1) := by decide +kernel
theorem dX5_bring_50 : decode cX5_bring 50 = .ok (.ifnonnull 15, 3) := by decide +kernel
theorem dX5_bring_53 : decode cX5_bring 53 = .ok (.aload_n 0, 1) := by decide +kernel
theorem dX5_bring_54 : decode cX5_bring 54 = .ok (.getfield 27, 3) := by decide +kernel
theorem dX5_bring_57 : decode cX5_bring 57 = .ok (.iload_n 1, 1) := by decide +kernel
theorem dX5_bring_58 : decode cX5_bring 58 = .ok (.iload_n 2, 1) := by decide +kernel
theorem dX5_bring_59 : decode cX5_bring 59 = .ok (.invokevirtual 228, 3) := by decide +kernel
theorem dX5_bring_62 : decode cX5_bring 62 = .ok (.goto 13, 3) := by decide +kernel
theorem dX5_bring_65 : decode cX5_bring 65 = .ok (.aload_n 3, 1) := by decide +kernel
theorem dX5_bring_66 : decode cX5_bring 66 = .ok (.iload_n 2, 1) := by decide +kernel
theorem dX5_bring_67 : decode cX5_bring 67 = .ok (.putfield 180, 3) := by decide +kernel
theorem dX5_bring_70 : decode cX5_bring 70 = .ok (.aload_n 0, 1) := by decide +kernel
theorem dX5_bring_71 : decode cX5_bring 71 = .ok (.aload_n 3, 1) := by decide +kernel
theorem dX5_bring_72 : decode cX5_bring 72 = .ok (.invokevirtual 138, 3) := by decide +kernel
theorem dX5_bring_75 : decode cX5_bring 75 = .ok (.return_, 1) := by decide +kernel
theorem dX5_takeFrom_0 : decode cX5_takeFrom 0 = .ok (.aload_n 2, 1) := by decide +kernel
theorem dX5_takeFrom_1 : decode cX5_takeFrom 1 = .ok (.aload_n 0, 1) := by decide +kernel
theorem dX5_takeFrom_2 : decode cX5_takeFrom 2 = .ok (.getfield 27, 3) := by decide +kernel
theorem dX5_takeFrom_5 : decode cX5_takeFrom 5 = .ok (.iload_n 1, 1) := by decide +kernel
theorem dX5_takeFrom_6 : decode cX5_takeFrom 6 = .ok (.invokevirtual 191, 3) := by decide +kernel
theorem dX5_takeFrom_9 : decode cX5_takeFrom 9 = .ok (.putfield 180, 3) := by decide +kernel
theorem dX5_takeFrom_12 : decode cX5_takeFrom 12 = .ok (.aload_n 0, 1) := by decide +kernel
theorem dX5_takeFrom_13 : decode cX5_takeFrom 13 = .ok (.getfield 27, 3) := by decide +kernel
theorem dX5_takeFrom_16 : decode cX5_takeFrom 16 = .ok (.iload_n 1, 1) := by decide +kernel
theorem dX5_takeFrom_17 : decode cX5_takeFrom 17 = .ok (.invokevirtual 75, 3) := by decide +kernel
theorem dX5_takeFrom_20 : decode cX5_takeFrom 20 = .ok (.aload_n 0, 1) := by decide +kernel
theorem dX5_takeFrom_21 : decode cX5_takeFrom 21 = .ok (.iload_n 1, 1) := by decide +kernel
theorem dX5_takeFrom_22 : decode cX5_takeFrom 22 = .ok (.iconst 1, 1) := by decide +kernel
theorem dX5_takeFrom_23 : decode cX5_takeFrom 23 = .ok (.invokevirtual 224, 3) := by decide +kernel
theorem dX5_takeFrom_26 : decode cX5_takeFrom 26 = .ok (.astore_n 3, 1) := by decide +kernel
theorem dX5_takeFrom_27 : decode cX5_takeFrom 27 = .ok (.aload_n 3, 1) := by decide +kernel
theorem dX5_takeFrom_28 : decode cX5_takeFrom 28 = .ok (.ifnull 20, 3) := by decide +kernel
theorem dX5_takeFrom_31 : decode cX5_takeFrom 31 = .ok (.aload_n 0, 1) := by decide +kernel
theorem dX5_takeFrom_32 : decode cX5_takeFrom 32 = .ok (.getfield 27, 3) := by decide +kernel
theorem dX5_takeFrom_35 : decode cX5_takeFrom 35 = .ok (.iload_n 1, 1) := by decide +kernel
theorem dX5_takeFrom_36 : decode cX5_takeFrom 36 = .ok (.aload_n 3, 1) := by decide +kernel
theorem dX5_takeFrom_37 : decode cX5_takeFrom 37 = .ok (.getfield 180, 3) := by decide +kernel
theorem dX5_takeFrom_40 : decode cX5_takeFrom 40 = .ok (.invokevirtual 228, 3) := by decide +kernel
theorem dX5_takeFrom_43 : decode cX5_takeFrom 43 = .ok (.aload_n 0, 1) := by decide +kernel
theorem dX5_takeFrom_44 : decode cX5_takeFrom 44 = .ok (.aload_n 3, 1) := by decide +kernel
theorem dX5_takeFrom_45 : decode cX5_takeFrom 45 = .ok (.invokevirtual 138, 3) := by decide +kernel
theorem dX5_takeFrom_48 : decode cX5_takeFrom 48 = .ok (.return_, 1) := by decide +kernel
theorem dX5_firstWaiting_0 : decode cX5_firstWaiting 0 = .ok (.aconst_null, 1) := by decide +kernel
theorem dX5_firstWaiting_1 : decode cX5_firstWaiting 1 = .ok (.astore_n 3, 1) := by decide +kernel
theorem dX5_firstWaiting_2 : decode cX5_firstWaiting 2 = .ok (.iconst 0, 1) := by decide +kernel
theorem dX5_firstWaiting_3 : decode cX5_firstWaiting 3 = .ok (.istore 4, 2) := by decide +kernel
theorem dX5_firstWaiting_5 : decode cX5_firstWaiting 5 = .ok (.iload 4, 2) := by decide +kernel
theorem dX5_firstWaiting_7 : decode cX5_firstWaiting 7 = .ok (.aload_n 0, 1) := by decide +kernel
theorem dX5_firstWaiting_8 : decode cX5_firstWaiting 8 = .ok (.getfield 38, 3) := by decide +kernel
theorem dX5_firstWaiting_11 : decode cX5_firstWaiting 11 = .ok (.if_icmp .ge 47, 3) := by decide +kernel
theorem dX5_firstWaiting_14 : decode cX5_firstWaiting 14 = .ok (.aload_n 0, 1) := by decide +kernel
theorem dX5_firstWaiting_15 : decode cX5_firstWaiting 15 = .ok (.getfield 11, 3) := by decide +kernel
theorem dX5_firstWaiting_18 : decode cX5_firstWaiting 18 = .ok (.iload 4, 2) := by decide +kernel
theorem dX5_firstWaiting_20 : decode cX5_firstWaiting 20 = .ok (.aaload, 1) := by decide +kernel
theorem dX5_firstWaiting_21 : decode cX5_firstWaiting 21 = .ok (.astore 5, 2) := by decide +kernel
theorem dX5_firstWaiting_23 : decode cX5_firstWaiting 23 = .ok (.aload 5, 2) := by decide +kernel
theorem dX5_firstWaiting_25 : decode cX5_firstWaiting 25 = .ok (.iload_n 1, 1) := by decide +kernel
theorem dX5_firstWaiting_26 : decode cX5_firstWaiting 26 = .ok (.iload_n 2, 1) := by decide +kernel
theorem dX5_firstWaiting_27 : decode cX5_firstWaiting 27 = .ok (.invokevirtual 82, 3) := by decide +kernel
theorem dX5_firstWaiting_30 : decode cX5_firstWaiting 30 = .ok (.ifCond .eq 22, 3) := by decide +kernel
theorem dX5_firstWaiting_33 : decode cX5_firstWaiting 33 = .ok (.aload_n 3, 1) := by decide +kernel
theorem dX5_firstWaiting_34 : decode cX5_firstWaiting 34 = .ok (.ifnull 15, 3) := by decide +kernel
theorem dX5_firstWaiting_37 : decode cX5_firstWaiting 37 = .ok (.aload 5, 2) := by decide +kernel
theorem dX5_firstWaiting_39 : decode cX5_firstWaiting 39 = .ok (.getfield 177, 3) := by decide +kernel
theorem dX5_firstWaiting_42 : decode cX5_firstWaiting 42 = .ok (.aload_n 3, 1) := by decide +kernel
theorem dX5_firstWaiting_43 : decode cX5_firstWaiting 43 = .ok (.getfield 177, 3) := by decide +kernel
theorem dX5_firstWaiting_46 : decode cX5_firstWaiting 46 = .ok (.if_icmp .ge 6, 3) := by decide +kernel
theorem dX5_firstWaiting_49 : decode cX5_firstWaiting 49 = .ok (.aload 5, 2) := by decide +kernel
theorem dX5_firstWaiting_51 : decode cX5_firstWaiting 51 = .ok (.astore_n 3, 1) := by decide +kernel
theorem dX5_firstWaiting_52 : decode cX5_firstWaiting 52 = .ok (.iinc 4 1, 3) := by decide +kernel
theorem dX5_firstWaiting_55 : decode cX5_firstWaiting 55 = .ok (.goto (-50), 3) := by decide +kernel
theorem dX5_firstWaiting_58 : decode cX5_firstWaiting 58 = .ok (.aload_n 3, 1) := by decide +kernel
theorem dX5_firstWaiting_59 : decode cX5_firstWaiting 59 = .ok (.areturn, 1) := by decide +kernel
theorem dX5_raise_0 : decode cX5_raise 0 = .ok (.aload_n 1, 1) := by decide +kernel
theorem dX5_raise_1 : decode cX5_raise 1 = .ok (.invokevirtual 231, 3) := by decide +kernel
theorem dX5_raise_4 : decode cX5_raise 4 = .ok (.istore_n 3, 1) := by decide +kernel
theorem dX5_raise_5 : decode cX5_raise 5 = .ok (.aload_n 1, 1) := by decide +kernel
theorem dX5_raise_6 : decode cX5_raise 6 = .ok (.iload_n 2, 1) := by decide +kernel
theorem dX5_raise_7 : decode cX5_raise 7 = .ok (.invokevirtual 234, 3) := by decide +kernel
theorem dX5_raise_10 : decode cX5_raise 10 = .ok (.ifCond .ne 25, 3) := by decide +kernel
theorem dX5_raise_13 : decode cX5_raise 13 = .ok (.aload_n 1, 1) := by decide +kernel
theorem dX5_raise_14 : decode cX5_raise 14 = .ok (.bipush 6, 2) := by decide +kernel
theorem dX5_raise_16 : decode cX5_raise 16 = .ok (.putfield 91, 3) := by decide +kernel
theorem dX5_raise_19 : decode cX5_raise 19 = .ok (.aload_n 1, 1) := by decide +kernel
theorem dX5_raise_20 : decode cX5_raise 20 = .ok (.iload_n 2, 1) := by decide +kernel
theorem dX5_raise_21 : decode cX5_raise 21 = .ok (.putfield 237, 3) := by decide +kernel
theorem dX5_raise_24 : decode cX5_raise 24 = .ok (.aload_n 0, 1) := by decide +kernel
theorem dX5_raise_25 : decode cX5_raise 25 = .ok (.getfield 20, 3) := by decide +kernel
theorem dX5_raise_28 : decode cX5_raise 28 = .ok (.aload_n 1, 1) := by decide +kernel
theorem dX5_raise_29 : decode cX5_raise 29 = .ok (.invokevirtual 240, 3) := by decide +kernel
theorem dX5_raise_32 : decode cX5_raise 32 = .ok (.goto 20, 3) := by decide +kernel
theorem dX5_raise_35 : decode cX5_raise 35 = .ok (.iload_n 3, 1) := by decide +kernel
theorem dX5_raise_36 : decode cX5_raise 36 = .ok (.ifCond .eq 16, 3) := by decide +kernel
theorem dX5_raise_39 : decode cX5_raise 39 = .ok (.aload_n 1, 1) := by decide +kernel
theorem dX5_raise_40 : decode cX5_raise 40 = .ok (.iconst 0, 1) := by decide +kernel
theorem dX5_raise_41 : decode cX5_raise 41 = .ok (.putfield 91, 3) := by decide +kernel
theorem dX5_raise_44 : decode cX5_raise 44 = .ok (.aload_n 0, 1) := by decide +kernel
theorem dX5_raise_45 : decode cX5_raise 45 = .ok (.getfield 20, 3) := by decide +kernel
theorem dX5_raise_48 : decode cX5_raise 48 = .ok (.aload_n 1, 1) := by decide +kernel
theorem dX5_raise_49 : decode cX5_raise 49 = .ok (.invokevirtual 115, 3) := by decide +kernel
theorem dX5_raise_52 : decode cX5_raise 52 = .ok (.return_, 1) := by decide +kernel
theorem dX5_throwTo_0 : decode cX5_throwTo 0 = .ok (.aload_n 1, 1) := by decide +kernel
theorem dX5_throwTo_1 : decode cX5_throwTo 1 = .ok (.ifnull 10, 3) := by decide +kernel
theorem dX5_throwTo_4 : decode cX5_throwTo 4 = .ok (.aload_n 1, 1) := by decide +kernel
theorem dX5_throwTo_5 : decode cX5_throwTo 5 = .ok (.invokevirtual 152, 3) := by decide +kernel
theorem dX5_throwTo_8 : decode cX5_throwTo 8 = .ok (.ifCond .eq 4, 3) := by decide +kernel
theorem dX5_throwTo_11 : decode cX5_throwTo 11 = .ok (.return_, 1) := by decide +kernel
theorem dX5_throwTo_12 : decode cX5_throwTo 12 = .ok (.aload_n 1, 1) := by decide +kernel
theorem dX5_throwTo_13 : decode cX5_throwTo 13 = .ok (.aload_n 2, 1) := by decide +kernel
theorem dX5_throwTo_14 : decode cX5_throwTo 14 = .ok (.if_acmp .eq 17, 3) := by decide +kernel
theorem dX5_throwTo_17 : decode cX5_throwTo 17 = .ok (.aload_n 1, 1) := by decide +kernel
theorem dX5_throwTo_18 : decode cX5_throwTo 18 = .ok (.getfield 243, 3) := by decide +kernel
theorem dX5_throwTo_21 : decode cX5_throwTo 21 = .ok (.ifCond .eq 10, 3) := by decide +kernel
theorem dX5_throwTo_24 : decode cX5_throwTo 24 = .ok (.aload_n 1, 1) := by decide +kernel
theorem dX5_throwTo_25 : decode cX5_throwTo 25 = .ok (.invokevirtual 231, 3) := by decide +kernel
theorem dX5_throwTo_28 : decode cX5_throwTo 28 = .ok (.ifCond .eq 12, 3) := by decide +kernel
theorem dX5_throwTo_31 : decode cX5_throwTo 31 = .ok (.aload_n 0, 1) := by decide +kernel
theorem dX5_throwTo_32 : decode cX5_throwTo 32 = .ok (.aload_n 1, 1) := by decide +kernel
theorem dX5_throwTo_33 : decode cX5_throwTo 33 = .ok (.iload_n 3, 1) := by decide +kernel
theorem dX5_throwTo_34 : decode cX5_throwTo 34 = .ok (.invokevirtual 148, 3) := by decide +kernel
theorem dX5_throwTo_37 : decode cX5_throwTo 37 = .ok (.goto 8, 3) := by decide +kernel
theorem dX5_throwTo_40 : decode cX5_throwTo 40 = .ok (.aload_n 1, 1) := by decide +kernel
theorem dX5_throwTo_41 : decode cX5_throwTo 41 = .ok (.iload_n 3, 1) := by decide +kernel
theorem dX5_throwTo_42 : decode cX5_throwTo 42 = .ok (.invokevirtual 246, 3) := by decide +kernel
theorem dX5_throwTo_45 : decode cX5_throwTo 45 = .ok (.return_, 1) := by decide +kernel
theorem dX5_mask_0 : decode cX5_mask 0 = .ok (.aload_n 1, 1) := by decide +kernel
theorem dX5_mask_1 : decode cX5_mask 1 = .ok (.iload_n 2, 1) := by decide +kernel
theorem dX5_mask_2 : decode cX5_mask 2 = .ok (.putfield 243, 3) := by decide +kernel
theorem dX5_mask_5 : decode cX5_mask 5 = .ok (.iload_n 2, 1) := by decide +kernel
theorem dX5_mask_6 : decode cX5_mask 6 = .ok (.ifCond .eq 4, 3) := by decide +kernel
theorem dX5_mask_9 : decode cX5_mask 9 = .ok (.return_, 1) := by decide +kernel
theorem dX5_mask_10 : decode cX5_mask 10 = .ok (.iconst 0, 1) := by decide +kernel
theorem dX5_mask_11 : decode cX5_mask 11 = .ok (.istore_n 3, 1) := by decide +kernel
theorem dX5_mask_12 : decode cX5_mask 12 = .ok (.iload_n 3, 1) := by decide +kernel
theorem dX5_mask_13 : decode cX5_mask 13 = .ok (.iconst 4, 1) := by decide +kernel
theorem dX5_mask_14 : decode cX5_mask 14 = .ok (.if_icmp .ge 32, 3) := by decide +kernel
theorem dX5_mask_17 : decode cX5_mask 17 = .ok (.aload_n 1, 1) := by decide +kernel
theorem dX5_mask_18 : decode cX5_mask 18 = .ok (.getfield 161, 3) := by decide +kernel
theorem dX5_mask_21 : decode cX5_mask 21 = .ok (.ifCond .le 25, 3) := by decide +kernel
theorem dX5_mask_24 : decode cX5_mask 24 = .ok (.aload_n 1, 1) := by decide +kernel
theorem dX5_mask_25 : decode cX5_mask 25 = .ok (.invokevirtual 152, 3) := by decide +kernel
theorem dX5_mask_28 : decode cX5_mask 28 = .ok (.ifCond .ne 18, 3) := by decide +kernel
theorem dX5_mask_31 : decode cX5_mask 31 = .ok (.aload_n 0, 1) := by decide +kernel
theorem dX5_mask_32 : decode cX5_mask 32 = .ok (.aload_n 1, 1) := by decide +kernel
theorem dX5_mask_33 : decode cX5_mask 33 = .ok (.aload_n 1, 1) := by decide +kernel
theorem dX5_mask_34 : decode cX5_mask 34 = .ok (.invokevirtual 164, 3) := by decide +kernel
theorem dX5_mask_37 : decode cX5_mask 37 = .ok (.invokevirtual 148, 3) := by decide +kernel
theorem dX5_mask_40 : decode cX5_mask 40 = .ok (.iinc 3 1, 3) := by decide +kernel
theorem dX5_mask_43 : decode cX5_mask 43 = .ok (.goto (-31), 3) := by decide +kernel
theorem dX5_mask_46 : decode cX5_mask 46 = .ok (.return_, 1) := by decide +kernel
theorem dX6_init_0 : decode cX6_init 0 = .ok (.aload_n 0, 1) := by decide +kernel
theorem dX6_init_1 : decode cX6_init 1 = .ok (.invokespecial 1, 3) := by decide +kernel
theorem dX6_init_4 : decode cX6_init 4 = .ok (.aload_n 0, 1) := by decide +kernel
theorem dX6_init_5 : decode cX6_init 5 = .ok (.new 7, 3) := by decide +kernel
theorem dX6_init_8 : decode cX6_init 8 = .ok (.dup, 1) := by decide +kernel
theorem dX6_init_9 : decode cX6_init 9 = .ok (.invokespecial 9, 3) := by decide +kernel
theorem dX6_init_12 : decode cX6_init 12 = .ok (.putfield 10, 3) := by decide +kernel
theorem dX6_init_15 : decode cX6_init 15 = .ok (.aload_n 0, 1) := by decide +kernel
theorem dX6_init_16 : decode cX6_init 16 = .ok (.new 16, 3) := by decide +kernel
theorem dX6_init_19 : decode cX6_init 19 = .ok (.dup, 1) := by decide +kernel
theorem dX6_init_20 : decode cX6_init 20 = .ok (.aload_n 0, 1) := by decide +kernel
theorem dX6_init_21 : decode cX6_init 21 = .ok (.getfield 10, 3) := by decide +kernel
theorem dX6_init_24 : decode cX6_init 24 = .ok (.invokespecial 18, 3) := by decide +kernel
theorem dX6_init_27 : decode cX6_init 27 = .ok (.putfield 21, 3) := by decide +kernel
theorem dX6_init_30 : decode cX6_init 30 = .ok (.return_, 1) := by decide +kernel
theorem dX6_program_0 : decode cX6_program 0 = .ok (.aload_n 0, 1) := by decide +kernel
theorem dX6_program_1 : decode cX6_program 1 = .ok (.getfield 10, 3) := by decide +kernel
theorem dX6_program_4 : decode cX6_program 4 = .ok (.invokevirtual 25, 3) := by decide +kernel
theorem dX6_program_7 : decode cX6_program 7 = .ok (.ireturn, 1) := by decide +kernel
theorem dX6_act_0 : decode cX6_act 0 = .ok (.iload_n 1, 1) := by decide +kernel
theorem dX6_act_1 : decode cX6_act 1 = .ok (.iload_n 2, 1) := by decide +kernel
theorem dX6_act_2 : decode cX6_act 2 = .ok (.invokestatic 29, 3) := by decide +kernel
theorem dX6_act_5 : decode cX6_act 5 = .ok (.ifCond .ne 6, 3) := by decide +kernel
theorem dX6_act_8 : decode cX6_act 8 = .ok (.bipush (-2), 2) := by decide +kernel
theorem dX6_act_10 : decode cX6_act 10 = .ok (.ireturn, 1) := by decide +kernel
theorem dX6_act_11 : decode cX6_act 11 = .ok (.aload_n 0, 1) := by decide +kernel
theorem dX6_act_12 : decode cX6_act 12 = .ok (.getfield 10, 3) := by decide +kernel
theorem dX6_act_15 : decode cX6_act 15 = .ok (.invokevirtual 33, 3) := by decide +kernel
theorem dX6_act_18 : decode cX6_act 18 = .ok (.ifCond .eq 6, 3) := by decide +kernel
theorem dX6_act_21 : decode cX6_act 21 = .ok (.bipush (-3), 2) := by decide +kernel
theorem dX6_act_23 : decode cX6_act 23 = .ok (.ireturn, 1) := by decide +kernel
theorem dX6_act_24 : decode cX6_act 24 = .ok (.aload_n 0, 1) := by decide +kernel
theorem dX6_act_25 : decode cX6_act 25 = .ok (.getfield 10, 3) := by decide +kernel
theorem dX6_act_28 : decode cX6_act 28 = .ok (.iload_n 1, 1) := by decide +kernel
theorem dX6_act_29 : decode cX6_act 29 = .ok (.iload_n 2, 1) := by decide +kernel
theorem dX6_act_30 : decode cX6_act 30 = .ok (.invokevirtual 37, 3) := by decide +kernel
theorem dX6_act_33 : decode cX6_act 33 = .ok (.ireturn, 1) := by decide +kernel
theorem dX6_begin_0 : decode cX6_begin 0 = .ok (.aload_n 0, 1) := by decide +kernel
theorem dX6_begin_1 : decode cX6_begin 1 = .ok (.getfield 10, 3) := by decide +kernel
theorem dX6_begin_4 : decode cX6_begin 4 = .ok (.iload_n 1, 1) := by decide +kernel
theorem dX6_begin_5 : decode cX6_begin 5 = .ok (.invokevirtual 41, 3) := by decide +kernel
theorem dX6_begin_8 : decode cX6_begin 8 = .ok (.ifCond .ne 5, 3) := by decide +kernel
theorem dX6_begin_11 : decode cX6_begin 11 = .ok (.iconst (-1), 1) := by decide +kernel
theorem dX6_begin_12 : decode cX6_begin 12 = .ok (.ireturn, 1) := by decide +kernel
theorem dX6_begin_13 : decode cX6_begin 13 = .ok (.iload_n 2, 1) := by decide +kernel
theorem dX6_begin_14 : decode cX6_begin 14 = .ok (.iconst 1, 1) := by decide +kernel
theorem dX6_begin_15 : decode cX6_begin 15 = .ok (.if_icmp .lt 9, 3) := by decide +kernel
theorem dX6_begin_18 : decode cX6_begin 18 = .ok (.iload_n 2, 1) := by decide +kernel
theorem dX6_begin_19 : decode cX6_begin 19 = .ok (.bipush 10, 2) := by decide +kernel
theorem dX6_begin_21 : decode cX6_begin 21 = .ok (.if_icmp .le 6, 3) := by decide +kernel
theorem dX6_begin_24 : decode cX6_begin 24 = .ok (.bipush (-2), 2) := by decide +kernel
theorem dX6_begin_26 : decode cX6_begin 26 = .ok (.ireturn, 1) := by decide +kernel
theorem dX6_begin_27 : decode cX6_begin 27 = .ok (.aload_n 0, 1) := by decide +kernel
theorem dX6_begin_28 : decode cX6_begin 28 = .ok (.getfield 21, 3) := by decide +kernel
theorem dX6_begin_31 : decode cX6_begin 31 = .ok (.iload_n 1, 1) := by decide +kernel
theorem dX6_begin_32 : decode cX6_begin 32 = .ok (.iload_n 2, 1) := by decide +kernel
theorem dX6_begin_33 : decode cX6_begin 33 = .ok (.iload_n 3, 1) := by decide +kernel
theorem dX6_begin_34 : decode cX6_begin 34 = .ok (.invokevirtual 45, 3) := by decide +kernel
theorem dX6_begin_37 : decode cX6_begin 37 = .ok (.iconst 1, 1) := by decide +kernel
theorem dX6_begin_38 : decode cX6_begin 38 = .ok (.ireturn, 1) := by decide +kernel
theorem dX6_fill_0 : decode cX6_fill 0 = .ok (.aload_n 0, 1) := by decide +kernel
theorem dX6_fill_1 : decode cX6_fill 1 = .ok (.getfield 21, 3) := by decide +kernel
theorem dX6_fill_4 : decode cX6_fill 4 = .ok (.getfield 49, 3) := by decide +kernel
theorem dX6_fill_7 : decode cX6_fill 7 = .ok (.iload_n 1, 1) := by decide +kernel
theorem dX6_fill_8 : decode cX6_fill 8 = .ok (.invokevirtual 53, 3) := by decide +kernel
theorem dX6_fill_11 : decode cX6_fill 11 = .ok (.ifCond .ne 5, 3) := by decide +kernel
theorem dX6_fill_14 : decode cX6_fill 14 = .ok (.iconst (-1), 1) := by decide +kernel
theorem dX6_fill_15 : decode cX6_fill 15 = .ok (.ireturn, 1) := by decide +kernel
theorem dX6_fill_16 : decode cX6_fill 16 = .ok (.aload_n 0, 1) := by decide +kernel
theorem dX6_fill_17 : decode cX6_fill 17 = .ok (.getfield 21, 3) := by decide +kernel
theorem dX6_fill_20 : decode cX6_fill 20 = .ok (.getfield 56, 3) := by decide +kernel
theorem dX6_fill_23 : decode cX6_fill 23 = .ok (.ifCond .eq 27, 3) := by decide +kernel
theorem dX6_fill_26 : decode cX6_fill 26 = .ok (.aload_n 0, 1) := by decide +kernel
theorem dX6_fill_27 : decode cX6_fill 27 = .ok (.getfield 21, 3) := by decide +kernel
theorem dX6_fill_30 : decode cX6_fill 30 = .ok (.getfield 60, 3) := by decide +kernel
theorem dX6_fill_33 : decode cX6_fill 33 = .ok (.ifCond .ne 17, 3) := by decide +kernel
theorem dX6_fill_36 : decode cX6_fill 36 = .ok (.aload_n 0, 1) := by decide +kernel
theorem dX6_fill_37 : decode cX6_fill 37 = .ok (.getfield 21, 3) := by decide +kernel
theorem dX6_fill_40 : decode cX6_fill 40 = .ok (.getfield 49, 3) := by decide +kernel
theorem dX6_fill_43 : decode cX6_fill 43 = .ok (.iload_n 1, 1) := by decide +kernel
theorem dX6_fill_44 : decode cX6_fill 44 = .ok (.invokevirtual 63, 3) := by decide +kernel
theorem dX6_fill_47 : decode cX6_fill 47 = .ok (.ifCond .eq 6, 3) := by decide +kernel
theorem dX6_fill_50 : decode cX6_fill 50 = .ok (.bipush (-3), 2) := by decide +kernel
theorem dX6_fill_52 : decode cX6_fill 52 = .ok (.ireturn, 1) := by decide +kernel
theorem dX6_fill_53 : decode cX6_fill 53 = .ok (.aload_n 0, 1) := by decide +kernel
theorem dX6_fill_54 : decode cX6_fill 54 = .ok (.getfield 21, 3) := by decide +kernel
theorem dX6_fill_57 : decode cX6_fill 57 = .ok (.iload_n 1, 1) := by decide +kernel
theorem dX6_fill_58 : decode cX6_fill 58 = .ok (.iload_n 2, 1) := by decide +kernel
theorem dX6_fill_59 : decode cX6_fill 59 = .ok (.invokevirtual 66, 3) := by decide +kernel
theorem dX6_fill_62 : decode cX6_fill 62 = .ok (.iconst 1, 1) := by decide +kernel
theorem dX6_fill_63 : decode cX6_fill 63 = .ok (.ireturn, 1) := by decide +kernel
theorem dX6_step_0 : decode cX6_step 0 = .ok (.iload_n 1, 1) := by decide +kernel
theorem dX6_step_1 : decode cX6_step 1 = .ok (.iconst 1, 1) := by decide +kernel
theorem dX6_step_2 : decode cX6_step 2 = .ok (.if_icmp .lt 10, 3) := by decide +kernel
theorem dX6_step_5 : decode cX6_step 5 = .ok (.iload_n 1, 1) := by decide +kernel
theorem dX6_step_6 : decode cX6_step 6 = .ok (.sipush 500, 3) := by decide +kernel
theorem dX6_step_9 : decode cX6_step 9 = .ok (.if_icmp .le 6, 3) := by decide +kernel
theorem dX6_step_12 : decode cX6_step 12 = .ok (.bipush (-2), 2) := by decide +kernel
theorem dX6_step_14 : decode cX6_step 14 = .ok (.ireturn, 1) := by decide +kernel
theorem dX6_step_15 : decode cX6_step 15 = .ok (.aload_n 0, 1) := by decide +kernel
theorem dX6_step_16 : decode cX6_step 16 = .ok (.getfield 21, 3) := by decide +kernel
theorem dX6_step_19 : decode cX6_step 19 = .ok (.getfield 56, 3) := by decide +kernel
theorem dX6_step_22 : decode cX6_step 22 = .ok (.ifCond .ne 6, 3) := by decide +kernel
theorem dX6_step_25 : decode cX6_step 25 = .ok (.bipush (-3), 2) := by decide +kernel
theorem dX6_step_27 : decode cX6_step 27 = .ok (.ireturn, 1) := by decide +kernel
theorem dX6_step_28 : decode cX6_step 28 = .ok (.aload_n 0, 1) := by decide +kernel
theorem dX6_step_29 : decode cX6_step 29 = .ok (.getfield 21, 3) := by decide +kernel
theorem dX6_step_32 : decode cX6_step 32 = .ok (.getfield 70, 3) := by decide +kernel
theorem dX6_step_35 : decode cX6_step 35 = .ok (.iload_n 1, 1) := by decide +kernel
theorem dX6_step_36 : decode cX6_step 36 = .ok (.iadd, 1) := by decide +kernel
theorem dX6_step_37 : decode cX6_step 37 = .ok (.sipush 3000, 3) := by decide +kernel
theorem dX6_step_40 : decode cX6_step 40 = .ok (.if_icmp .le 6, 3) := by decide +kernel
theorem dX6_step_43 : decode cX6_step 43 = .ok (.bipush (-4), 2) := by decide +kernel
theorem dX6_step_45 : decode cX6_step 45 = .ok (.ireturn, 1) := by decide +kernel
theorem dX6_step_46 : decode cX6_step 46 = .ok (.iconst 0, 1) := by decide +kernel
theorem dX6_step_47 : decode cX6_step 47 = .ok (.istore_n 2, 1) := by decide +kernel
theorem dX6_step_48 : decode cX6_step 48 = .ok (.iload_n 2, 1) := by decide +kernel
theorem dX6_step_49 : decode cX6_step 49 = .ok (.iload_n 1, 1) := by decide +kernel
theorem dX6_step_50 : decode cX6_step 50 = .ok (.if_icmp .ge 21, 3) := by decide +kernel
theorem dX6_step_53 : decode cX6_step 53 = .ok (.aload_n 0, 1) := by decide +kernel
theorem dX6_step_54 : decode cX6_step 54 = .ok (.getfield 21, 3) := by decide +kernel
theorem dX6_step_57 : decode cX6_step 57 = .ok (.invokevirtual 74, 3) := by decide +kernel
theorem dX6_step_60 : decode cX6_step 60 = .ok (.ifCond .ne 5, 3) := by decide +kernel
theorem dX6_step_63 : decode cX6_step 63 = .ok (.iload_n 2, 1) := by decide +kernel
theorem dX6_step_64 : decode cX6_step 64 = .ok (.ireturn, 1) := by decide +kernel
theorem dX6_step_65 : decode cX6_step 65 = .ok (.iinc 2 1, 3) := by decide +kernel
theorem dX6_step_68 : decode cX6_step 68 = .ok (.goto (-20), 3) := by decide +kernel
theorem dX6_step_71 : decode cX6_step 71 = .ok (.iload_n 1, 1) := by decide +kernel
theorem dX6_step_72 : decode cX6_step 72 = .ok (.ireturn, 1) := by decide +kernel
theorem dX6_told_0 : decode cX6_told 0 = .ok (.iload_n 1, 1) := by decide +kernel
theorem dX6_told_1 : decode cX6_told 1 = .ok (.ifCond .lt 8, 3) := by decide +kernel
theorem dX6_told_4 : decode cX6_told 4 = .ok (.iload_n 1, 1) := by decide +kernel
theorem dX6_told_5 : decode cX6_told 5 = .ok (.iconst 5, 1) := by decide +kernel
theorem dX6_told_6 : decode cX6_told 6 = .ok (.if_icmp .le 6, 3) := by decide +kernel
theorem dX6_told_9 : decode cX6_told 9 = .ok (.bipush (-2), 2) := by decide +kernel
theorem dX6_told_11 : decode cX6_told 11 = .ok (.ireturn, 1) := by decide +kernel
theorem dX6_told_12 : decode cX6_told 12 = .ok (.aload_n 0, 1) := by decide +kernel
theorem dX6_told_13 : decode cX6_told 13 = .ok (.getfield 21, 3) := by decide +kernel
theorem dX6_told_16 : decode cX6_told 16 = .ok (.getfield 56, 3) := by decide +kernel
theorem dX6_told_19 : decode cX6_told 19 = .ok (.ifCond .ne 6, 3) := by decide +kernel
theorem dX6_told_22 : decode cX6_told 22 = .ok (.bipush (-3), 2) := by decide +kernel
theorem dX6_told_24 : decode cX6_told 24 = .ok (.ireturn, 1) := by decide +kernel
theorem dX6_told_25 : decode cX6_told 25 = .ok (.iload_n 1, 1) := by decide +kernel
theorem dX6_told_26 : decode cX6_told 26 = .ok (.tableswitch 85 0 4 #[34, 50, 58, 66, 74], 34) := by decide +kernel
theorem dX6_told_60 : decode cX6_told 60 = .ok (.aload_n 0, 1) := by decide +kernel
theorem dX6_told_61 : decode cX6_told 61 = .ok (.getfield 21, 3) := by decide +kernel
theorem dX6_told_64 : decode cX6_told 64 = .ok (.getfield 60, 3) := by decide +kernel
theorem dX6_told_67 : decode cX6_told 67 = .ok (.ifCond .eq 7, 3) := by decide +kernel
theorem dX6_told_70 : decode cX6_told 70 = .ok (.iconst 1, 1) := by decide +kernel
theorem dX6_told_71 : decode cX6_told 71 = .ok (.goto 4, 3) := by decide +kernel
theorem dX6_told_74 : decode cX6_told 74 = .ok (.iconst 0, 1) := by decide +kernel
theorem dX6_told_75 : decode cX6_told 75 = .ok (.ireturn, 1) := by decide +kernel
theorem dX6_told_76 : decode cX6_told 76 = .ok (.aload_n 0, 1) := by decide +kernel
theorem dX6_told_77 : decode cX6_told 77 = .ok (.getfield 21, 3) := by decide +kernel
theorem dX6_told_80 : decode cX6_told 80 = .ok (.getfield 77, 3) := by decide +kernel
theorem dX6_told_83 : decode cX6_told 83 = .ok (.ireturn, 1) := by decide +kernel
theorem dX6_told_84 : decode cX6_told 84 = .ok (.aload_n 0, 1) := by decide +kernel
theorem dX6_told_85 : decode cX6_told 85 = .ok (.getfield 21, 3) := by decide +kernel
theorem dX6_told_88 : decode cX6_told 88 = .ok (.getfield 70, 3) := by decide +kernel
theorem dX6_told_91 : decode cX6_told 91 = .ok (.ireturn, 1) := by decide +kernel
theorem dX6_told_92 : decode cX6_told 92 = .ok (.aload_n 0, 1) := by decide +kernel
theorem dX6_told_93 : decode cX6_told 93 = .ok (.getfield 21, 3) := by decide +kernel
theorem dX6_told_96 : decode cX6_told 96 = .ok (.getfield 80, 3) := by decide +kernel
theorem dX6_told_99 : decode cX6_told 99 = .ok (.ireturn, 1) := by decide +kernel
theorem dX6_told_100 : decode cX6_told 100 = .ok (.aload_n 0, 1) := by decide +kernel
theorem dX6_told_101 : decode cX6_told 101 = .ok (.getfield 21, 3) := by decide +kernel
theorem dX6_told_104 : decode cX6_told 104 = .ok (.getfield 83, 3) := by decide +kernel
theorem dX6_told_107 : decode cX6_told 107 = .ok (.invokevirtual 87, 3) := by decide +kernel
theorem dX6_told_110 : decode cX6_told 110 = .ok (.ireturn, 1) := by decide +kernel
theorem dX6_told_111 : decode cX6_told 111 = .ok (.aload_n 0, 1) := by decide +kernel
theorem dX6_told_112 : decode cX6_told 112 = .ok (.getfield 21, 3) := by decide +kernel
theorem dX6_told_115 : decode cX6_told 115 = .ok (.getfield 92, 3) := by decide +kernel
theorem dX6_told_118 : decode cX6_told 118 = .ok (.ireturn, 1) := by decide +kernel
theorem dX6_thread_0 : decode cX6_thread 0 = .ok (.aload_n 0, 1) := by decide +kernel
theorem dX6_thread_1 : decode cX6_thread 1 = .ok (.getfield 21, 3) := by decide +kernel
theorem dX6_thread_4 : decode cX6_thread 4 = .ok (.iload_n 1, 1) := by decide +kernel
theorem dX6_thread_5 : decode cX6_thread 5 = .ok (.invokevirtual 95, 3) := by decide +kernel
theorem dX6_thread_8 : decode cX6_thread 8 = .ok (.astore_n 3, 1) := by decide +kernel
theorem dX6_thread_9 : decode cX6_thread 9 = .ok (.aload_n 3, 1) := by decide +kernel
theorem dX6_thread_10 : decode cX6_thread 10 = .ok (.ifnonnull 5, 3) := by decide +kernel
theorem dX6_thread_13 : decode cX6_thread 13 = .ok (.iconst (-1), 1) := by decide +kernel
theorem dX6_thread_14 : decode cX6_thread 14 = .ok (.ireturn, 1) := by decide +kernel
theorem dX6_thread_15 : decode cX6_thread 15 = .ok (.iload_n 2, 1) := by decide +kernel
theorem dX6_thread_16 : decode cX6_thread 16 = .ok (.ifCond .lt 9, 3) := by decide +kernel
theorem dX6_thread_19 : decode cX6_thread 19 = .ok (.iload_n 2, 1) := by decide +kernel
theorem dX6_thread_20 : decode cX6_thread 20 = .ok (.bipush 9, 2) := by decide +kernel
theorem dX6_thread_22 : decode cX6_thread 22 = .ok (.if_icmp .le 6, 3) := by decide +kernel
theorem dX6_thread_25 : decode cX6_thread 25 = .ok (.bipush (-2), 2) := by decide +kernel
theorem dX6_thread_27 : decode cX6_thread 27 = .ok (.ireturn, 1) := by decide +kernel
theorem dX6_thread_28 : decode cX6_thread 28 = .ok (.aload_n 3, 1) := by decide +kernel
theorem dX6_thread_29 : decode cX6_thread 29 = .ok (.iload_n 2, 1) := by decide +kernel
theorem dX6_thread_30 : decode cX6_thread 30 = .ok (.invokevirtual 99, 3) := by decide +kernel
theorem dX6_thread_33 : decode cX6_thread 33 = .ok (.ireturn, 1) := by decide +kernel
theorem dX6_queued_0 : decode cX6_queued 0 = .ok (.aload_n 0, 1) := by decide +kernel
theorem dX6_queued_1 : decode cX6_queued 1 = .ok (.getfield 21, 3) := by decide +kernel
theorem dX6_queued_4 : decode cX6_queued 4 = .ok (.getfield 83, 3) := by decide +kernel
theorem dX6_queued_7 : decode cX6_queued 7 = .ok (.iload_n 1, 1) := by decide +kernel
theorem dX6_queued_8 : decode cX6_queued 8 = .ok (.invokevirtual 105, 3) := by decide +kernel
theorem dX6_queued_11 : decode cX6_queued 11 = .ok (.astore_n 2, 1) := by decide +kernel
theorem dX6_queued_12 : decode cX6_queued 12 = .ok (.aload_n 2, 1) := by decide +kernel
theorem dX6_queued_13 : decode cX6_queued 13 = .ok (.ifnonnull 7, 3) := by decide +kernel
theorem dX6_queued_16 : decode cX6_queued 16 = .ok (.iconst (-1), 1) := by decide +kernel
theorem dX6_queued_17 : decode cX6_queued 17 = .ok (.goto 7, 3) := by decide +kernel
theorem dX6_queued_20 : decode cX6_queued 20 = .ok (.aload_n 2, 1) := by decide +kernel
theorem dX6_queued_21 : decode cX6_queued 21 = .ok (.getfield 108, 3) := by decide +kernel
theorem dX6_queued_24 : decode cX6_queued 24 = .ok (.ireturn, 1) := by decide +kernel
theorem dX6_box_0 : decode cX6_box 0 = .ok (.aload_n 0, 1) := by decide +kernel
theorem dX6_box_1 : decode cX6_box 1 = .ok (.getfield 21, 3) := by decide +kernel
theorem dX6_box_4 : decode cX6_box 4 = .ok (.getfield 56, 3) := by decide +kernel
theorem dX6_box_7 : decode cX6_box 7 = .ok (.ifCond .eq 17, 3) := by decide +kernel
theorem dX6_box_10 : decode cX6_box 10 = .ok (.aload_n 0, 1) := by decide +kernel
theorem dX6_box_11 : decode cX6_box 11 = .ok (.getfield 21, 3) := by decide +kernel
theorem dX6_box_14 : decode cX6_box 14 = .ok (.getfield 49, 3) := by decide +kernel
theorem dX6_box_17 : decode cX6_box 17 = .ok (.iload_n 1, 1) := by decide +kernel
theorem dX6_box_18 : decode cX6_box 18 = .ok (.invokevirtual 53, 3) := by decide +kernel
theorem dX6_box_21 : decode cX6_box 21 = .ok (.ifCond .ne 5, 3) := by decide +kernel
theorem dX6_box_24 : decode cX6_box 24 = .ok (.iconst (-1), 1) := by decide +kernel
theorem dX6_box_25 : decode cX6_box 25 = .ok (.ireturn, 1) := by decide +kernel
theorem dX6_box_26 : decode cX6_box 26 = .ok (.iload_n 2, 1) := by decide +kernel
theorem dX6_box_27 : decode cX6_box 27 = .ok (.ifCond .lt 8, 3) := by decide +kernel
theorem dX6_box_30 : decode cX6_box 30 = .ok (.iload_n 2, 1) := by decide +kernel
theorem dX6_box_31 : decode cX6_box 31 = .ok (.iconst 4, 1) := by decide +kernel
theorem dX6_box_32 : decode cX6_box 32 = .ok (.if_icmp .le 6, 3) := by decide +kernel
theorem dX6_box_35 : decode cX6_box 35 = .ok (.bipush (-2), 2) := by decide +kernel
theorem dX6_box_37 : decode cX6_box 37 = .ok (.ireturn, 1) := by decide +kernel
theorem dX6_box_38 : decode cX6_box 38 = .ok (.iload_n 2, 1) := by decide +kernel
theorem dX6_box_39 : decode cX6_box 39 = .ok (.tableswitch 100 0 3 #[29, 60, 80, 90], 29) := by decide +kernel
theorem dX6_box_68 : decode cX6_box 68 = .ok (.aload_n 0, 1) := by decide +kernel
theorem dX6_box_69 : decode cX6_box 69 = .ok (.getfield 21, 3) := by decide +kernel
theorem dX6_box_72 : decode cX6_box 72 = .ok (.getfield 49, 3) := by decide +kernel
theorem dX6_box_75 : decode cX6_box 75 = .ok (.iload_n 1, 1) := by decide +kernel
theorem dX6_box_76 : decode cX6_box 76 = .ok (.invokevirtual 63, 3) := by decide +kernel
theorem dX6_box_79 : decode cX6_box 79 = .ok (.ifCond .eq 17, 3) := by decide +kernel
theorem dX6_box_82 : decode cX6_box 82 = .ok (.aload_n 0, 1) := by decide +kernel
theorem dX6_box_83 : decode cX6_box 83 = .ok (.getfield 21, 3) := by decide +kernel
theorem dX6_box_86 : decode cX6_box 86 = .ok (.getfield 49, 3) := by decide +kernel
theorem dX6_box_89 : decode cX6_box 89 = .ok (.iload_n 1, 1) := by decide +kernel
theorem dX6_box_90 : decode cX6_box 90 = .ok (.invokevirtual 111, 3) := by decide +kernel
theorem dX6_box_93 : decode cX6_box 93 = .ok (.goto 5, 3) := by decide +kernel
theorem dX6_box_96 : decode cX6_box 96 = .ok (.bipush (-3), 2) := by decide +kernel
theorem dX6_box_98 : decode cX6_box 98 = .ok (.ireturn, 1) := by decide +kernel
theorem dX6_box_99 : decode cX6_box 99 = .ok (.aload_n 0, 1) := by decide +kernel
theorem dX6_box_100 : decode cX6_box 100 = .ok (.getfield 21, 3) := by decide +kernel
theorem dX6_box_103 : decode cX6_box 103 = .ok (.getfield 49, 3) := by decide +kernel
theorem dX6_box_106 : decode cX6_box 106 = .ok (.iload_n 1, 1) := by decide +kernel
theorem dX6_box_107 : decode cX6_box 107 = .ok (.invokevirtual 63, 3) := by decide +kernel
theorem dX6_box_110 : decode cX6_box 110 = .ok (.ifCond .eq 7, 3) := by decide +kernel
theorem dX6_box_113 : decode cX6_box 113 = .ok (.iconst 1, 1) := by decide +kernel
theorem dX6_box_114 : decode cX6_box 114 = .ok (.goto 4, 3) := by decide +kernel
theorem dX6_box_117 : decode cX6_box 117 = .ok (.iconst 0, 1) := by decide +kernel
theorem dX6_box_118 : decode cX6_box 118 = .ok (.ireturn, 1) := by decide +kernel
theorem dX6_box_119 : decode cX6_box 119 = .ok (.aload_n 0, 1) := by decide +kernel
theorem dX6_box_120 : decode cX6_box 120 = .ok (.getfield 21, 3) := by decide +kernel
theorem dX6_box_123 : decode cX6_box 123 = .ok (.iload_n 1, 1) := by decide +kernel
theorem dX6_box_124 : decode cX6_box 124 = .ok (.iconst 1, 1) := by decide +kernel
theorem dX6_box_125 : decode cX6_box 125 = .ok (.invokevirtual 114, 3) := by decide +kernel
theorem dX6_box_128 : decode cX6_box 128 = .ok (.ireturn, 1) := by decide +kernel
theorem dX6_box_129 : decode cX6_box 129 = .ok (.aload_n 0, 1) := by decide +kernel
theorem dX6_box_130 : decode cX6_box 130 = .ok (.getfield 21, 3) := by decide +kernel
theorem dX6_box_133 : decode cX6_box 133 = .ok (.iload_n 1, 1) := by decide +kernel
theorem dX6_box_134 : decode cX6_box 134 = .ok (.iconst 2, 1) := by decide +kernel
theorem dX6_box_135 : decode cX6_box 135 = .ok (.invokevirtual 114, 3) := by decide +kernel
theorem dX6_box_138 : decode cX6_box 138 = .ok (.ireturn, 1) := by decide +kernel
theorem dX6_box_139 : decode cX6_box 139 = .ok (.aload_n 0, 1) := by decide +kernel
theorem dX6_box_140 : decode cX6_box 140 = .ok (.getfield 21, 3) := by decide +kernel
theorem dX6_box_143 : decode cX6_box 143 = .ok (.iload_n 1, 1) := by decide +kernel
theorem dX6_box_144 : decode cX6_box 144 = .ok (.iconst 3, 1) := by decide +kernel
theorem dX6_box_145 : decode cX6_box 145 = .ok (.invokevirtual 114, 3) := by decide +kernel
theorem dX6_box_148 : decode cX6_box 148 = .ok (.ireturn, 1) := by decide +kernel
theorem dX6_trace_0 : decode cX6_trace 0 = .ok (.aload_n 0, 1) := by decide +kernel
theorem dX6_trace_1 : decode cX6_trace 1 = .ok (.getfield 21, 3) := by decide +kernel
theorem dX6_trace_4 : decode cX6_trace 4 = .ok (.getfield 117, 3) := by decide +kernel
theorem dX6_trace_7 : decode cX6_trace 7 = .ok (.invokevirtual 121, 3) := by decide +kernel
theorem dX6_trace_10 : decode cX6_trace 10 = .ok (.istore_n 3, 1) := by decide +kernel
theorem dX6_trace_11 : decode cX6_trace 11 = .ok (.aload_n 0, 1) := by decide +kernel
theorem dX6_trace_12 : decode cX6_trace 12 = .ok (.getfield 21, 3) := by decide +kernel
theorem dX6_trace_15 : decode cX6_trace 15 = .ok (.getfield 56, 3) := by decide +kernel
theorem dX6_trace_18 : decode cX6_trace 18 = .ok (.ifCond .eq 13, 3) := by decide +kernel
theorem dX6_trace_21 : decode cX6_trace 21 = .ok (.iload_n 1, 1) := by decide +kernel
theorem dX6_trace_22 : decode cX6_trace 22 = .ok (.iconst (-1), 1) := by decide +kernel
theorem dX6_trace_23 : decode cX6_trace 23 = .ok (.if_icmp .lt 8, 3) := by decide +kernel
theorem dX6_trace_26 : decode cX6_trace 26 = .ok (.iload_n 1, 1) := by decide +kernel
theorem dX6_trace_27 : decode cX6_trace 27 = .ok (.iload_n 3, 1) := by decide +kernel
theorem dX6_trace_28 : decode cX6_trace 28 = .ok (.if_icmp .lt 5, 3) := by decide +kernel
theorem dX6_trace_31 : decode cX6_trace 31 = .ok (.iconst (-1), 1) := by decide +kernel
theorem dX6_trace_32 : decode cX6_trace 32 = .ok (.ireturn, 1) := by decide +kernel
theorem dX6_trace_33 : decode cX6_trace 33 = .ok (.iload_n 2, 1) := by decide +kernel
theorem dX6_trace_34 : decode cX6_trace 34 = .ok (.ifCond .lt 8, 3) := by decide +kernel
theorem dX6_trace_37 : decode cX6_trace 37 = .ok (.iload_n 2, 1) := by decide +kernel
theorem dX6_trace_38 : decode cX6_trace 38 = .ok (.iconst 1, 1) := by decide +kernel
theorem dX6_trace_39 : decode cX6_trace 39 = .ok (.if_icmp .le 6, 3) := by decide +kernel
theorem dX6_trace_42 : decode cX6_trace 42 = .ok (.bipush (-2), 2) := by decide +kernel
theorem dX6_trace_44 : decode cX6_trace 44 = .ok (.ireturn, 1) := by decide +kernel
theorem dX6_trace_45 : decode cX6_trace 45 = .ok (.iload_n 1, 1) := by decide +kernel
theorem dX6_trace_46 : decode cX6_trace 46 = .ok (.iconst (-1), 1) := by decide +kernel
theorem dX6_trace_47 : decode cX6_trace 47 = .ok (.if_icmp .ne 5, 3) := by decide +kernel
theorem dX6_trace_50 : decode cX6_trace 50 = .ok (.iload_n 3, 1) := by decide +kernel
theorem dX6_trace_51 : decode cX6_trace 51 = .ok (.ireturn, 1) := by decide +kernel
theorem dX6_trace_52 : decode cX6_trace 52 = .ok (.iload_n 2, 1) := by decide +kernel
theorem dX6_trace_53 : decode cX6_trace 53 = .ok (.ifCond .ne 17, 3) := by decide +kernel
theorem dX6_trace_56 : decode cX6_trace 56 = .ok (.aload_n 0, 1) := by decide +kernel
theorem dX6_trace_57 : decode cX6_trace 57 = .ok (.getfield 21, 3) := by decide +kernel
theorem dX6_trace_60 : decode cX6_trace 60 = .ok (.getfield 117, 3) := by decide +kernel
theorem dX6_trace_63 : decode cX6_trace 63 = .ok (.iload_n 1, 1) := by decide +kernel
theorem dX6_trace_64 : decode cX6_trace 64 = .ok (.invokevirtual 124, 3) := by decide +kernel
theorem dX6_trace_67 : decode cX6_trace 67 = .ok (.goto 14, 3) := by decide +kernel
theorem dX6_trace_70 : decode cX6_trace 70 = .ok (.aload_n 0, 1) := by decide +kernel
theorem dX6_trace_71 : decode cX6_trace 71 = .ok (.getfield 21, 3) := by decide +kernel
theorem dX6_trace_74 : decode cX6_trace 74 = .ok (.getfield 117, 3) := by decide +kernel
theorem dX6_trace_77 : decode cX6_trace 77 = .ok (.iload_n 1, 1) := by decide +kernel
theorem dX6_trace_78 : decode cX6_trace 78 = .ok (.invokevirtual 127, 3) := by decide +kernel
theorem dX6_trace_81 : decode cX6_trace 81 = .ok (.ireturn, 1) := by decide +kernel
theorem dX6_share_0 : decode cX6_share 0 = .ok (.aload_n 0, 1) := by decide +kernel
theorem dX6_share_1 : decode cX6_share 1 = .ok (.getfield 21, 3) := by decide +kernel
theorem dX6_share_4 : decode cX6_share 4 = .ok (.iload_n 1, 1) := by decide +kernel
theorem dX6_share_5 : decode cX6_share 5 = .ok (.invokevirtual 95, 3) := by decide +kernel
theorem dX6_share_8 : decode cX6_share 8 = .ok (.astore_n 2, 1) := by decide +kernel
theorem dX6_share_9 : decode cX6_share 9 = .ok (.aload_n 2, 1) := by decide +kernel
theorem dX6_share_10 : decode cX6_share 10 = .ok (.ifnonnull 5, 3) := by decide +kernel
theorem dX6_share_13 : decode cX6_share 13 = .ok (.iconst (-1), 1) := by decide +kernel
theorem dX6_share_14 : decode cX6_share 14 = .ok (.ireturn, 1) := by decide +kernel
theorem dX6_share_15 : decode cX6_share 15 = .ok (.aload_n 0, 1) := by decide +kernel
theorem dX6_share_16 : decode cX6_share 16 = .ok (.getfield 21, 3) := by decide +kernel
theorem dX6_share_19 : decode cX6_share 19 = .ok (.getfield 70, 3) := by decide +kernel
theorem dX6_share_22 : decode cX6_share 22 = .ok (.ifCond .ne 13, 3) := by decide +kernel
theorem dX6_share_25 : decode cX6_share 25 = .ok (.new 130, 3) := by decide +kernel
theorem dX6_share_28 : decode cX6_share 28 = .ok (.dup, 1) := by decide +kernel
theorem dX6_share_29 : decode cX6_share 29 = .ok (.ldc 132, 2) := by decide +kernel
theorem dX6_share_31 : decode cX6_share 31 = .ok (.invokespecial 134, 3) := by decide +kernel
theorem dX6_share_34 : decode cX6_share 34 = .ok (.athrow, 1) := by decide +kernel
theorem dX6_share_35 : decode cX6_share 35 = .ok (.aload_n 2, 1) := by decide +kernel
theorem dX6_share_36 : decode cX6_share 36 = .ok (.getfield 137, 3) := by decide +kernel
theorem dX6_share_39 : decode cX6_share 39 = .ok (.sipush 1000, 3) := by decide +kernel
theorem dX6_share_42 : decode cX6_share 42 = .ok (.imul, 1) := by decide +kernel
theorem dX6_share_43 : decode cX6_share 43 = .ok (.aload_n 0, 1) := by decide +kernel
theorem dX6_share_44 : decode cX6_share 44 = .ok (.getfield 21, 3) := by decide +kernel
theorem dX6_share_47 : decode cX6_share 47 = .ok (.getfield 70, 3) := by decide +kernel
theorem dX6_share_50 : decode cX6_share 50 = .ok (.idiv, 1) := by decide +kernel
theorem dX6_share_51 : decode cX6_share 51 = .ok (.ireturn, 1) := by decide +kernel
theorem dX6_fits_0 : decode cX6_fits 0 = .ok (.iload_n 0, 1) := by decide +kernel
theorem dX6_fits_1 : decode cX6_fits 1 = .ok (.tableswitch 175 0 15 #[79, 79, 79, 175, 175, 95, 175, 111, 127, 127, 175, 143, 143, 127, 175, 160], 79) := by decide +kernel
theorem dX6_fits_80 : decode cX6_fits 80 = .ok (.iload_n 1, 1) := by decide +kernel
theorem dX6_fits_81 : decode cX6_fits 81 = .ok (.ifCond .lt 13, 3) := by decide +kernel
theorem dX6_fits_84 : decode cX6_fits 84 = .ok (.iload_n 1, 1) := by decide +kernel
theorem dX6_fits_85 : decode cX6_fits 85 = .ok (.bipush 8, 2) := by decide +kernel
theorem dX6_fits_87 : decode cX6_fits 87 = .ok (.if_icmp .ge 7, 3) := by decide +kernel
theorem dX6_fits_90 : decode cX6_fits 90 = .ok (.iconst 1, 1) := by decide +kernel
theorem dX6_fits_91 : decode cX6_fits 91 = .ok (.goto 4, 3) := by decide +kernel
theorem dX6_fits_94 : decode cX6_fits 94 = .ok (.iconst 0, 1) := by decide +kernel
theorem dX6_fits_95 : decode cX6_fits 95 = .ok (.ireturn, 1) := by decide +kernel
theorem dX6_fits_96 : decode cX6_fits 96 = .ok (.iload_n 1, 1) := by decide +kernel
theorem dX6_fits_97 : decode cX6_fits 97 = .ok (.ifCond .lt 13, 3) := by decide +kernel
theorem dX6_fits_100 : decode cX6_fits 100 = .ok (.iload_n 1, 1) := by decide +kernel
theorem dX6_fits_101 : decode cX6_fits 101 = .ok (.bipush 12, 2) := by decide +kernel
theorem dX6_fits_103 : decode cX6_fits 103 = .ok (.if_icmp .ge 7, 3) := by decide +kernel
theorem dX6_fits_106 : decode cX6_fits 106 = .ok (.iconst 1, 1) := by decide +kernel
theorem dX6_fits_107 : decode cX6_fits 107 = .ok (.goto 4, 3) := by decide +kernel
theorem dX6_fits_110 : decode cX6_fits 110 = .ok (.iconst 0, 1) := by decide +kernel
theorem dX6_fits_111 : decode cX6_fits 111 = .ok (.ireturn, 1) := by decide +kernel
theorem dX6_fits_112 : decode cX6_fits 112 = .ok (.iload_n 1, 1) := by decide +kernel
theorem dX6_fits_113 : decode cX6_fits 113 = .ok (.ifCond .lt 13, 3) := by decide +kernel
theorem dX6_fits_116 : decode cX6_fits 116 = .ok (.iload_n 1, 1) := by decide +kernel
theorem dX6_fits_117 : decode cX6_fits 117 = .ok (.bipush 100, 2) := by decide +kernel
theorem dX6_fits_119 : decode cX6_fits 119 = .ok (.if_icmp .gt 7, 3) := by decide +kernel
theorem dX6_fits_122 : decode cX6_fits 122 = .ok (.iconst 1, 1) := by decide +kernel
theorem dX6_fits_123 : decode cX6_fits 123 = .ok (.goto 4, 3) := by decide +kernel
theorem dX6_fits_126 : decode cX6_fits 126 = .ok (.iconst 0, 1) := by decide +kernel
theorem dX6_fits_127 : decode cX6_fits 127 = .ok (.ireturn, 1) := by decide +kernel
theorem dX6_fits_128 : decode cX6_fits 128 = .ok (.iload_n 1, 1) := by decide +kernel
theorem dX6_fits_129 : decode cX6_fits 129 = .ok (.ifCond .lt 13, 3) := by decide +kernel
theorem dX6_fits_132 : decode cX6_fits 132 = .ok (.iload_n 1, 1) := by decide +kernel
theorem dX6_fits_133 : decode cX6_fits 133 = .ok (.bipush 20, 2) := by decide +kernel
theorem dX6_fits_135 : decode cX6_fits 135 = .ok (.if_icmp .gt 7, 3) := by decide +kernel
theorem dX6_fits_138 : decode cX6_fits 138 = .ok (.iconst 1, 1) := by decide +kernel
theorem dX6_fits_139 : decode cX6_fits 139 = .ok (.goto 4, 3) := by decide +kernel
theorem dX6_fits_142 : decode cX6_fits 142 = .ok (.iconst 0, 1) := by decide +kernel
theorem dX6_fits_143 : decode cX6_fits 143 = .ok (.ireturn, 1) := by decide +kernel
theorem dX6_fits_144 : decode cX6_fits 144 = .ok (.iload_n 1, 1) := by decide +kernel
theorem dX6_fits_145 : decode cX6_fits 145 = .ok (.iconst 1, 1) := by decide +kernel
theorem dX6_fits_146 : decode cX6_fits 146 = .ok (.if_icmp .lt 13, 3) := by decide +kernel
theorem dX6_fits_149 : decode cX6_fits 149 = .ok (.iload_n 1, 1) := by decide +kernel
theorem dX6_fits_150 : decode cX6_fits 150 = .ok (.bipush 9, 2) := by decide +kernel
theorem dX6_fits_152 : decode cX6_fits 152 = .ok (.if_icmp .gt 7, 3) := by decide +kernel
theorem dX6_fits_155 : decode cX6_fits 155 = .ok (.iconst 1, 1) := by decide +kernel
theorem dX6_fits_156 : decode cX6_fits 156 = .ok (.goto 4, 3) := by decide +kernel
theorem dX6_fits_159 : decode cX6_fits 159 = .ok (.iconst 0, 1) := by decide +kernel
theorem dX6_fits_160 : decode cX6_fits 160 = .ok (.ireturn, 1) := by decide +kernel
theorem dX6_fits_161 : decode cX6_fits 161 = .ok (.iload_n 1, 1) := by decide +kernel
theorem dX6_fits_162 : decode cX6_fits 162 = .ok (.ifCond .eq 8, 3) := by decide +kernel
theorem dX6_fits_165 : decode cX6_fits 165 = .ok (.iload_n 1, 1) := by decide +kernel
theorem dX6_fits_166 : decode cX6_fits 166 = .ok (.iconst 1, 1) := by decide +kernel
theorem dX6_fits_167 : decode cX6_fits 167 = .ok (.if_icmp .ne 7, 3) := by decide +kernel
theorem dX6_fits_170 : decode cX6_fits 170 = .ok (.iconst 1, 1) := by decide +kernel
theorem dX6_fits_171 : decode cX6_fits 171 = .ok (.goto 4, 3) := by decide +kernel
theorem dX6_fits_174 : decode cX6_fits 174 = .ok (.iconst 0, 1) := by decide +kernel
theorem dX6_fits_175 : decode cX6_fits 175 = .ok (.ireturn, 1) := by decide +kernel
theorem dX6_fits_176 : decode cX6_fits 176 = .ok (.iload_n 0, 1) := by decide +kernel
theorem dX6_fits_177 : decode cX6_fits 177 = .ok (.ifCond .lt 13, 3) := by decide +kernel
theorem dX6_fits_180 : decode cX6_fits 180 = .ok (.iload_n 0, 1) := by decide +kernel
theorem dX6_fits_181 : decode cX6_fits 181 = .ok (.bipush 16, 2) := by decide +kernel
theorem dX6_fits_183 : decode cX6_fits 183 = .ok (.if_icmp .gt 7, 3) := by decide +kernel
theorem dX6_fits_186 : decode cX6_fits 186 = .ok (.iconst 1, 1) := by decide +kernel
theorem dX6_fits_187 : decode cX6_fits 187 = .ok (.goto 4, 3) := by decide +kernel
theorem dX6_fits_190 : decode cX6_fits 190 = .ok (.iconst 0, 1) := by decide +kernel
theorem dX6_fits_191 : decode cX6_fits 191 = .ok (.ireturn, 1) := by decide +kernel
end
section
theorem dX7_init_0 : decode cX7_init 0 = .ok (.aload_n 0, 1) := by decide +kernel
theorem dX7_init_1 : decode cX7_init 1 = .ok (.invokespecial 1, 3) := by decide +kernel
theorem dX7_init_4 : decode cX7_init 4 = .ok (.aload_n 0, 1) := by decide +kernel
theorem dX7_init_5 : decode cX7_init 5 = .ok (.bipush 12, 2) := by decide +kernel
theorem dX7_init_7 : decode cX7_init 7 = .ok (.newarray .int, 2) := by decide +kernel
theorem dX7_init_9 : decode cX7_init 9 = .ok (.putfield 7, 3) := by decide +kernel
theorem dX7_init_12 : decode cX7_init 12 = .ok (.aload_n 0, 1) := by decide +kernel
theorem dX7_init_13 : decode cX7_init 13 = .ok (.sipush 240, 3) := by decide +kernel
theorem dX7_init_16 : decode cX7_init 16 = .ok (.newarray .int, 2) := by decide +kernel
theorem dX7_init_18 : decode cX7_init 18 = .ok (.putfield 13, 3) := by decide +kernel
theorem dX7_init_21 : decode cX7_init 21 = .ok (.aload_n 0, 1) := by decide +kernel
theorem dX7_init_22 : decode cX7_init 22 = .ok (.sipush 240, 3) := by decide +kernel
theorem dX7_init_25 : decode cX7_init 25 = .ok (.newarray .int, 2) := by decide +kernel
theorem dX7_init_27 : decode cX7_init 27 = .ok (.putfield 16, 3) := by decide +kernel
theorem dX7_init_30 : decode cX7_init 30 = .ok (.aload_n 0, 1) := by decide +kernel
theorem dX7_init_31 : decode cX7_init 31 = .ok (.bipush 24, 2) := by decide +kernel
theorem dX7_init_33 : decode cX7_init 33 = .ok (.newarray .int, 2) := by decide +kernel
theorem dX7_init_35 : decode cX7_init 35 = .ok (.putfield 19, 3) := by decide +kernel
theorem dX7_init_38 : decode cX7_init 38 = .ok (.aload_n 0, 1) := by decide +kernel
theorem dX7_init_39 : decode cX7_init 39 = .ok (.bipush 24, 2) := by decide +kernel
theorem dX7_init_41 : decode cX7_init 41 = .ok (.newarray .int, 2) := by decide +kernel
theorem dX7_init_43 : decode cX7_init 43 = .ok (.putfield 22, 3) := by decide +kernel
theorem dX7_init_46 : decode cX7_init 46 = .ok (.aload_n 0, 1) := by decide +kernel
theorem dX7_init_47 : decode cX7_init 47 = .ok (.bipush 24, 2) := by decide +kernel
theorem dX7_init_49 : decode cX7_init 49 = .ok (.newarray .int, 2) := by decide +kernel
theorem dX7_init_51 : decode cX7_init 51 = .ok (.putfield 25, 3) := by decide +kernel
theorem dX7_init_54 : decode cX7_init 54 = .ok (.aload_n 0, 1) := by decide +kernel
theorem dX7_init_55 : decode cX7_init 55 = .ok (.bipush 24, 2) := by decide +kernel
theorem dX7_init_57 : decode cX7_init 57 = .ok (.newarray .int, 2) := by decide +kernel
theorem dX7_init_59 : decode cX7_init 59 = .ok (.putfield 28, 3) := by decide +kernel
theorem dX7_init_62 : decode cX7_init 62 = .ok (.aload_n 0, 1) := by decide +kernel
theorem dX7_init_63 : decode cX7_init 63 = .ok (.bipush 24, 2) := by decide +kernel
theorem dX7_init_65 : decode cX7_init 65 = .ok (.newarray .int, 2) := by decide +kernel
theorem dX7_init_67 : decode cX7_init 67 = .ok (.putfield 31, 3) := by decide +kernel
theorem dX7_init_70 : decode cX7_init 70 = .ok (.aload_n 0, 1) := by decide +kernel
theorem dX7_init_71 : decode cX7_init 71 = .ok (.bipush 96, 2) := by decide +kernel
theorem dX7_init_73 : decode cX7_init 73 = .ok (.newarray .int, 2) := by decide +kernel
theorem dX7_init_75 : decode cX7_init 75 = .ok (.putfield 34, 3) := by decide +kernel
theorem dX7_init_78 : decode cX7_init 78 = .ok (.aload_n 0, 1) := by decide +kernel
theorem dX7_init_79 : decode cX7_init 79 = .ok (.bipush 24, 2) := by decide +kernel
theorem dX7_init_81 : decode cX7_init 81 = .ok (.newarray .boolean, 2) := by decide +kernel
theorem dX7_init_83 : decode cX7_init 83 = .ok (.putfield 37, 3) := by decide +kernel
theorem dX7_init_86 : decode cX7_init 86 = .ok (.aload_n 0, 1) := by decide +kernel
theorem dX7_init_87 : decode cX7_init 87 = .ok (.bipush 24, 2) := by decide +kernel
theorem dX7_init_89 : decode cX7_init 89 = .ok (.newarray .int, 2) := by decide +kernel
theorem dX7_init_91 : decode cX7_init 91 = .ok (.putfield 41, 3) := by decide +kernel
theorem dX7_init_94 : decode cX7_init 94 = .ok (.aload_n 0, 1) := by decide +kernel
theorem dX7_init_95 : decode cX7_init 95 = .ok (.bipush 96, 2) := by decide +kernel
theorem dX7_init_97 : decode cX7_init 97 = .ok (.newarray .int, 2) := by decide +kernel
theorem dX7_init_99 : decode cX7_init 99 = .ok (.putfield 44, 3) := by decide +kernel
theorem dX7_init_102 : decode cX7_init 102 = .ok (.aload_n 0, 1) := by decide +kernel
theorem dX7_init_103 : decode cX7_init 103 = .ok (.bipush 24, 2) := by decide +kernel
theorem dX7_init_105 : decode cX7_init 105 = .ok (.newarray .int, 2) := by decide +kernel
theorem dX7_init_107 : decode cX7_init 107 = .ok (.putfield 47, 3) := by decide +kernel
theorem dX7_init_110 : decode cX7_init 110 = .ok (.aload_n 0, 1) := by decide +kernel
theorem dX7_init_111 : decode cX7_init 111 = .ok (.bipush 24, 2) := by decide +kernel
theorem dX7_init_113 : decode cX7_init 113 = .ok (.newarray .int, 2) := by decide +kernel
theorem dX7_init_115 : decode cX7_init 115 = .ok (.putfield 50, 3) := by decide +kernel
theorem dX7_init_118 : decode cX7_init 118 = .ok (.aload_n 0, 1) := by decide +kernel
theorem dX7_init_119 : decode cX7_init 119 = .ok (.bipush 24, 2) := by decide +kernel
theorem dX7_init_121 : decode cX7_init 121 = .ok (.newarray .int, 2) := by decide +kernel
theorem dX7_init_123 : decode cX7_init 123 = .ok (.putfield 53, 3) := by decide +kernel
theorem dX7_init_126 : decode cX7_init 126 = .ok (.aload_n 0, 1) := by decide +kernel
theorem dX7_init_127 : decode cX7_init 127 = .ok (.bipush 24, 2) := by decide +kernel
theorem dX7_init_129 : decode cX7_init 129 = .ok (.newarray .int, 2) := by decide +kernel
theorem dX7_init_131 : decode cX7_init 131 = .ok (.putfield 56, 3) := by decide +kernel
theorem dX7_init_134 : decode cX7_init 134 = .ok (.aload_n 0, 1) := by decide +kernel
theorem dX7_init_135 : decode cX7_init 135 = .ok (.bipush 24, 2) := by decide +kernel
theorem dX7_init_137 : decode cX7_init 137 = .ok (.newarray .int, 2) := by decide +kernel
theorem dX7_init_139 : decode cX7_init 139 = .ok (.putfield 59, 3) := by decide +kernel
theorem dX7_init_142 : decode cX7_init 142 = .ok (.aload_n 0, 1) := by decide +kernel
theorem dX7_init_143 : decode cX7_init 143 = .ok (.bipush 25, 2) := by decide +kernel
theorem dX7_init_145 : decode cX7_init 145 = .ok (.newarray .int, 2) := by decide +kernel
theorem dX7_init_147 : decode cX7_init 147 = .ok (.putfield 62, 3) := by decide +kernel
theorem dX7_init_150 : decode cX7_init 150 = .ok (.aload_n 0, 1) := by decide +kernel
theorem dX7_init_151 : decode cX7_init 151 = .ok (.bipush 8, 2) := by decide +kernel
theorem dX7_init_153 : decode cX7_init 153 = .ok (.newarray .int, 2) := by decide +kernel
theorem dX7_init_155 : decode cX7_init 155 = .ok (.putfield 65, 3) := by decide +kernel
theorem dX7_init_158 : decode cX7_init 158 = .ok (.aload_n 0, 1) := by decide +kernel
theorem dX7_init_159 : decode cX7_init 159 = .ok (.bipush 8, 2) := by decide +kernel
theorem dX7_init_161 : decode cX7_init 161 = .ok (.newarray .boolean, 2) := by decide +kernel
theorem dX7_init_163 : decode cX7_init 163 = .ok (.putfield 68, 3) := by decide +kernel
theorem dX7_init_166 : decode cX7_init 166 = .ok (.aload_n 0, 1) := by decide +kernel
theorem dX7_init_167 : decode cX7_init 167 = .ok (.bipush 100, 2) := by decide +kernel
theorem dX7_init_169 : decode cX7_init 169 = .ok (.newarray .int, 2) := by decide +kernel
theorem dX7_init_171 : decode cX7_init 171 = .ok (.putfield 71, 3) := by decide +kernel
theorem dX7_init_174 : decode cX7_init 174 = .ok (.aload_n 0, 1) := by decide +kernel
theorem dX7_init_175 : decode cX7_init 175 = .ok (.bipush 100, 2) := by decide +kernel
theorem dX7_init_177 : decode cX7_init 177 = .ok (.newarray .int, 2) := by decide +kernel
theorem dX7_init_179 : decode cX7_init 179 = .ok (.putfield 74, 3) := by decide +kernel
theorem dX7_init_182 : decode cX7_init 182 = .ok (.return_, 1) := by decide +kernel
theorem dX7_thrown_0 : decode cX7_thrown 0 = .ok (.aload_n 0, 1) := by decide +kernel
theorem dX7_thrown_1 : decode cX7_thrown 1 = .ok (.getfield 77, 3) := by decide +kernel
theorem dX7_thrown_4 : decode cX7_thrown 4 = .ok (.ireturn, 1) := by decide +kernel
theorem dX7_in_0 : decode cX7_in 0 = .ok (.iload_n 0, 1) := by decide +kernel
theorem dX7_in_1 : decode cX7_in 1 = .ok (.iload_n 1, 1) := by decide +kernel
theorem dX7_in_2 : decode cX7_in 2 = .ok (.if_icmp .lt 12, 3) := by decide +kernel
theorem dX7_in_5 : decode cX7_in 5 = .ok (.iload_n 0, 1) := by decide +kernel
theorem dX7_in_6 : decode cX7_in 6 = .ok (.iload_n 2, 1) := by decide +kernel
theorem dX7_in_7 : decode cX7_in 7 = .ok (.if_icmp .gt 7, 3) := by decide +kernel
theorem dX7_in_10 : decode cX7_in 10 = .ok (.iconst 1, 1) := by decide +kernel
theorem dX7_in_11 : decode cX7_in 11 = .ok (.goto 4, 3) := by decide +kernel
theorem dX7_in_14 : decode cX7_in 14 = .ok (.iconst 0, 1) := by decide +kernel
theorem dX7_in_15 : decode cX7_in 15 = .ok (.ireturn, 1) := by decide +kernel
theorem dX7_program_0 : decode cX7_program 0 = .ok (.aload_n 0, 1) := by decide +kernel
theorem dX7_program_1 : decode cX7_program 1 = .ok (.iconst 0, 1) := by decide +kernel
theorem dX7_program_2 : decode cX7_program 2 = .ok (.putfield 77, 3) := by decide +kernel
theorem dX7_program_5 : decode cX7_program 5 = .ok (.aload_n 0, 1) := by decide +kernel
theorem dX7_program_6 : decode cX7_program 6 = .ok (.getfield 81, 3) := by decide +kernel
theorem dX7_program_9 : decode cX7_program 9 = .ok (.bipush 12, 2) := by decide +kernel
theorem dX7_program_11 : decode cX7_program 11 = .ok (.if_icmp .ne 6, 3) := by decide +kernel
theorem dX7_program_14 : decode cX7_program 14 = .ok (.bipush (-4), 2) := by decide +kernel
theorem dX7_program_16 : decode cX7_program 16 = .ok (.ireturn, 1) := by decide +kernel
theorem dX7_program_17 : decode cX7_program 17 = .ok (.aload_n 0, 1) := by decide +kernel
theorem dX7_program_18 : decode cX7_program 18 = .ok (.getfield 7, 3) := by decide +kernel
theorem dX7_program_21 : decode cX7_program 21 = .ok (.aload_n 0, 1) := by decide +kernel
theorem dX7_program_22 : decode cX7_program 22 = .ok (.getfield 81, 3) := by decide +kernel
theorem dX7_program_25 : decode cX7_program 25 = .ok (.iconst 0, 1) := by decide +kernel
theorem dX7_program_26 : decode cX7_program 26 = .ok (.iastore, 1) := by decide +kernel
theorem dX7_program_27 : decode cX7_program 27 = .ok (.aload_n 0, 1) := by decide +kernel
theorem dX7_program_28 : decode cX7_program 28 = .ok (.dup, 1) := by decide +kernel
theorem dX7_program_29 : decode cX7_program 29 = .ok (.getfield 81, 3) := by decide +kernel
theorem dX7_program_32 : decode cX7_program 32 = .ok (.iconst 1, 1) := by decide +kernel
theorem dX7_program_33 : decode cX7_program 33 = .ok (.iadd, 1) := by decide +kernel
theorem dX7_program_34 : decode cX7_program 34 = .ok (.putfield 81, 3) := by decide +kernel
theorem dX7_program_37 : decode cX7_program 37 = .ok (.aload_n 0, 1) := by decide +kernel
theorem dX7_program_38 : decode cX7_program 38 = .ok (.getfield 81, 3) := by decide +kernel
theorem dX7_program_41 : decode cX7_program 41 = .ok (.iconst 1, 1) := by decide +kernel
theorem dX7_program_42 : decode cX7_program 42 = .ok (.isub, 1) := by decide +kernel
theorem dX7_program_43 : decode cX7_program 43 = .ok (.ireturn, 1) := by decide +kernel
theorem dX7_isGood_0 : decode cX7_isGood 0 = .ok (.iload_n 0, 1) := by decide +kernel
theorem dX7_isGood_1 : decode cX7_isGood 1 = .ok (.tableswitch 126 0 15 #[79, 79, 79, 126, 126, 87, 126, 95, 103, 103, 126, 111, 111, 103, 126, 119], 79) := by decide +kernel
theorem dX7_isGood_80 : decode cX7_isGood 80 = .ok (.iload_n 1, 1) := by decide +kernel
theorem dX7_isGood_81 : decode cX7_isGood 81 = .ok (.iconst 0, 1) := by decide +kernel
theorem dX7_isGood_82 : decode cX7_isGood 82 = .ok (.bipush 7, 2) := by decide +kernel
theorem dX7_isGood_84 : decode cX7_isGood 84 = .ok (.invokestatic 84, 3) := by decide +kernel
theorem dX7_isGood_87 : decode cX7_isGood 87 = .ok (.ireturn, 1) := by decide +kernel
theorem dX7_isGood_88 : decode cX7_isGood 88 = .ok (.iload_n 1, 1) := by decide +kernel
theorem dX7_isGood_89 : decode cX7_isGood 89 = .ok (.iconst 0, 1) := by decide +kernel
theorem dX7_isGood_90 : decode cX7_isGood 90 = .ok (.bipush 11, 2) := by decide +kernel
theorem dX7_isGood_92 : decode cX7_isGood 92 = .ok (.invokestatic 84, 3) := by decide +kernel
theorem dX7_isGood_95 : decode cX7_isGood 95 = .ok (.ireturn, 1) := by decide +kernel
theorem dX7_isGood_96 : decode cX7_isGood 96 = .ok (.iload_n 1, 1) := by decide +kernel
theorem dX7_isGood_97 : decode cX7_isGood 97 = .ok (.iconst 0, 1) := by decide +kernel
theorem dX7_isGood_98 : decode cX7_isGood 98 = .ok (.bipush 100, 2) := by decide +kernel
theorem dX7_isGood_100 : decode cX7_isGood 100 = .ok (.invokestatic 84, 3) := by decide +kernel
theorem dX7_isGood_103 : decode cX7_isGood 103 = .ok (.ireturn, 1) := by decide +kernel
theorem dX7_isGood_104 : decode cX7_isGood 104 = .ok (.iload_n 1, 1) := by decide +kernel
theorem dX7_isGood_105 : decode cX7_isGood 105 = .ok (.iconst 0, 1) := by decide +kernel
theorem dX7_isGood_106 : decode cX7_isGood 106 = .ok (.bipush 20, 2) := by decide +kernel
theorem dX7_isGood_108 : decode cX7_isGood 108 = .ok (.invokestatic 84, 3) := by decide +kernel
theorem dX7_isGood_111 : decode cX7_isGood 111 = .ok (.ireturn, 1) := by decide +kernel
theorem dX7_isGood_112 : decode cX7_isGood 112 = .ok (.iload_n 1, 1) := by decide +kernel
theorem dX7_isGood_113 : decode cX7_isGood 113 = .ok (.iconst 1, 1) := by decide +kernel
theorem dX7_isGood_114 : decode cX7_isGood 114 = .ok (.bipush 9, 2) := by decide +kernel
theorem dX7_isGood_116 : decode cX7_isGood 116 = .ok (.invokestatic 84, 3) := by decide +kernel
theorem dX7_isGood_119 : decode cX7_isGood 119 = .ok (.ireturn, 1) := by decide +kernel
theorem dX7_isGood_120 : decode cX7_isGood 120 = .ok (.iload_n 1, 1) := by decide +kernel
theorem dX7_isGood_121 : decode cX7_isGood 121 = .ok (.iconst 0, 1) := by decide +kernel
theorem dX7_isGood_122 : decode cX7_isGood 122 = .ok (.iconst 1, 1) := by decide +kernel
theorem dX7_isGood_123 : decode cX7_isGood 123 = .ok (.invokestatic 84, 3) := by decide +kernel
theorem dX7_isGood_126 : decode cX7_isGood 126 = .ok (.ireturn, 1) := by decide +kernel
theorem dX7_isGood_127 : decode cX7_isGood 127 = .ok (.iload_n 0, 1) := by decide +kernel
theorem dX7_isGood_128 : decode cX7_isGood 128 = .ok (.iconst 0, 1) := by decide +kernel
theorem dX7_isGood_129 : decode cX7_isGood 129 = .ok (.bipush 16, 2) := by decide +kernel
theorem dX7_isGood_131 : decode cX7_isGood 131 = .ok (.invokestatic 84, 3) := by decide +kernel
theorem dX7_isGood_134 : decode cX7_isGood 134 = .ok (.ireturn, 1) := by decide +kernel
theorem dX7_act_0 : decode cX7_act 0 = .ok (.aload_n 0, 1) := by decide +kernel
theorem dX7_act_1 : decode cX7_act 1 = .ok (.iconst 0, 1) := by decide +kernel
theorem dX7_act_2 : decode cX7_act 2 = .ok (.putfield 77, 3) := by decide +kernel
theorem dX7_act_5 : decode cX7_act 5 = .ok (.iload_n 1, 1) := by decide +kernel
theorem dX7_act_6 : decode cX7_act 6 = .ok (.iload_n 2, 1) := by decide +kernel
theorem dX7_act_7 : decode cX7_act 7 = .ok (.invokestatic 88, 3) := by decide +kernel
theorem dX7_act_10 : decode cX7_act 10 = .ok (.ifCond .ne 6, 3) := by decide +kernel
theorem dX7_act_13 : decode cX7_act 13 = .ok (.bipush (-2), 2) := by decide +kernel
theorem dX7_act_15 : decode cX7_act 15 = .ok (.ireturn, 1) := by decide +kernel
theorem dX7_act_16 : decode cX7_act 16 = .ok (.aload_n 0, 1) := by decide +kernel
theorem dX7_act_17 : decode cX7_act 17 = .ok (.getfield 81, 3) := by decide +kernel
theorem dX7_act_20 : decode cX7_act 20 = .ok (.ifCond .ne 6, 3) := by decide +kernel
theorem dX7_act_23 : decode cX7_act 23 = .ok (.bipush (-3), 2) := by decide +kernel
theorem dX7_act_25 : decode cX7_act 25 = .ok (.ireturn, 1) := by decide +kernel
theorem dX7_act_26 : decode cX7_act 26 = .ok (.aload_n 0, 1) := by decide +kernel
theorem dX7_act_27 : decode cX7_act 27 = .ok (.getfield 81, 3) := by decide +kernel
theorem dX7_act_30 : decode cX7_act 30 = .ok (.iconst 1, 1) := by decide +kernel
theorem dX7_act_31 : decode cX7_act 31 = .ok (.isub, 1) := by decide +kernel
theorem dX7_act_32 : decode cX7_act 32 = .ok (.istore_n 3, 1) := by decide +kernel
theorem dX7_act_33 : decode cX7_act 33 = .ok (.aload_n 0, 1) := by decide +kernel
theorem dX7_act_34 : decode cX7_act 34 = .ok (.getfield 7, 3) := by decide +kernel
theorem dX7_act_37 : decode cX7_act 37 = .ok (.iload_n 3, 1) := by decide +kernel
theorem dX7_act_38 : decode cX7_act 38 = .ok (.iaload, 1) := by decide +kernel
theorem dX7_act_39 : decode cX7_act 39 = .ok (.bipush 20, 2) := by decide +kernel
theorem dX7_act_41 : decode cX7_act 41 = .ok (.if_icmp .ne 6, 3) := by decide +kernel
theorem dX7_act_44 : decode cX7_act 44 = .ok (.bipush (-4), 2) := by decide +kernel
theorem dX7_act_46 : decode cX7_act 46 = .ok (.ireturn, 1) := by decide +kernel
theorem dX7_act_47 : decode cX7_act 47 = .ok (.aload_n 0, 1) := by decide +kernel
theorem dX7_act_48 : decode cX7_act 48 = .ok (.getfield 13, 3) := by decide +kernel
theorem dX7_act_51 : decode cX7_act 51 = .ok (.bipush 20, 2) := by decide +kernel
theorem dX7_act_53 : decode cX7_act 53 = .ok (.iload_n 3, 1) := by decide +kernel
theorem dX7_act_54 : decode cX7_act 54 = .ok (.imul, 1) := by decide +kernel
theorem dX7_act_55 : decode cX7_act 55 = .ok (.aload_n 0, 1) := by decide +kernel
theorem dX7_act_56 : decode cX7_act 56 = .ok (.getfield 7, 3) := by decide +kernel
theorem dX7_act_59 : decode cX7_act 59 = .ok (.iload_n 3, 1) := by decide +kernel
theorem dX7_act_60 : decode cX7_act 60 = .ok (.iaload, 1) := by decide +kernel
theorem dX7_act_61 : decode cX7_act 61 = .ok (.iadd, 1) := by decide +kernel
theorem dX7_act_62 : decode cX7_act 62 = .ok (.iload_n 1, 1) := by decide +kernel
theorem dX7_act_63 : decode cX7_act 63 = .ok (.iastore, 1) := by decide +kernel
theorem dX7_act_64 : decode cX7_act 64 = .ok (.aload_n 0, 1) := by decide +kernel
theorem dX7_act_65 : decode cX7_act 65 = .ok (.getfield 16, 3) := by decide +kernel
theorem dX7_act_68 : decode cX7_act 68 = .ok (.bipush 20, 2) := by decide +kernel
theorem dX7_act_70 : decode cX7_act 70 = .ok (.iload_n 3, 1) := by decide +kernel
theorem dX7_act_71 : decode cX7_act 71 = .ok (.imul, 1) := by decide +kernel
theorem dX7_act_72 : decode cX7_act 72 = .ok (.aload_n 0, 1) := by decide +kernel
theorem dX7_act_73 : decode cX7_act 73 = .ok (.getfield 7, 3) := by decide +kernel
theorem dX7_act_76 : decode cX7_act 76 = .ok (.iload_n 3, 1) := by decide +kernel
theorem dX7_act_77 : decode cX7_act 77 = .ok (.iaload, 1) := by decide +kernel
theorem dX7_act_78 : decode cX7_act 78 = .ok (.iadd, 1) := by decide +kernel
theorem dX7_act_79 : decode cX7_act 79 = .ok (.iload_n 2, 1) := by decide +kernel
theorem dX7_act_80 : decode cX7_act 80 = .ok (.iastore, 1) := by decide +kernel
theorem dX7_act_81 : decode cX7_act 81 = .ok (.aload_n 0, 1) := by decide +kernel
theorem dX7_act_82 : decode cX7_act 82 = .ok (.getfield 7, 3) := by decide +kernel
theorem dX7_act_85 : decode cX7_act 85 = .ok (.iload_n 3, 1) := by decide +kernel
theorem dX7_act_86 : decode cX7_act 86 = .ok (.dup2, 1) := by decide +kernel
theorem dX7_act_87 : decode cX7_act 87 = .ok (.iaload, 1) := by decide +kernel
theorem dX7_act_88 : decode cX7_act 88 = .ok (.iconst 1, 1) := by decide +kernel
theorem dX7_act_89 : decode cX7_act 89 = .ok (.iadd, 1) := by decide +kernel
theorem dX7_act_90 : decode cX7_act 90 = .ok (.iastore, 1) := by decide +kernel
theorem dX7_act_91 : decode cX7_act 91 = .ok (.aload_n 0, 1) := by decide +kernel
theorem dX7_act_92 : decode cX7_act 92 = .ok (.getfield 7, 3) := by decide +kernel
theorem dX7_act_95 : decode cX7_act 95 = .ok (.iload_n 3, 1) := by decide +kernel
theorem dX7_act_96 : decode cX7_act 96 = .ok (.iaload, 1) := by decide +kernel
theorem dX7_act_97 : decode cX7_act 97 = .ok (.ireturn, 1) := by decide +kernel
theorem dX7_newThread_0 : decode cX7_newThread 0 = .ok (.aload_n 0, 1) := by decide +kernel
theorem dX7_newThread_1 : decode cX7_newThread 1 = .ok (.getfield 92, 3) := by decide +kernel
theorem dX7_newThread_4 : decode cX7_newThread 4 = .ok (.istore_n 3, 1) := by decide +kernel
theorem dX7_newThread_5 : decode cX7_newThread 5 = .ok (.aload_n 0, 1) := by decide +kernel
theorem dX7_newThread_6 : decode cX7_newThread 6 = .ok (.getfield 19, 3) := by decide +kernel
theorem dX7_newThread_9 : decode cX7_newThread 9 = .ok (.iload_n 3, 1) := by decide +kernel
theorem dX7_newThread_10 : decode cX7_newThread 10 = .ok (.iconst 0, 1) := by decide +kernel
theorem dX7_newThread_11 : decode cX7_newThread 11 = .ok (.iastore, 1) := by decide +kernel
theorem dX7_newThread_12 : decode cX7_newThread 12 = .ok (.aload_n 0, 1) := by decide +kernel
theorem dX7_newThread_13 : decode cX7_newThread 13 = .ok (.getfield 22, 3) := by decide +kernel
theorem dX7_newThread_16 : decode cX7_newThread 16 = .ok (.iload_n 3, 1) := by decide +kernel
theorem dX7_newThread_17 : decode cX7_newThread 17 = .ok (.iload_n 1, 1) := by decide +kernel
theorem dX7_newThread_18 : decode cX7_newThread 18 = .ok (.iastore, 1) := by decide +kernel
theorem dX7_newThread_19 : decode cX7_newThread 19 = .ok (.aload_n 0, 1) := by decide +kernel
theorem dX7_newThread_20 : decode cX7_newThread 20 = .ok (.getfield 25, 3) := by decide +kernel
theorem dX7_newThread_23 : decode cX7_newThread 23 = .ok (.iload_n 3, 1) := by decide +kernel
theorem dX7_newThread_24 : decode cX7_newThread 24 = .ok (.iconst 0, 1) := by decide +kernel
theorem dX7_newThread_25 : decode cX7_newThread 25 = .ok (.iastore, 1) := by decide +kernel
theorem dX7_newThread_26 : decode cX7_newThread 26 = .ok (.aload_n 0, 1) := by decide +kernel
theorem dX7_newThread_27 : decode cX7_newThread 27 = .ok (.getfield 28, 3) := by decide +kernel
theorem dX7_newThread_30 : decode cX7_newThread 30 = .ok (.iload_n 3, 1) := by decide +kernel
theorem dX7_newThread_31 : decode cX7_newThread 31 = .ok (.iload_n 2, 1) := by decide +kernel
theorem dX7_newThread_32 : decode cX7_newThread 32 = .ok (.iastore, 1) := by decide +kernel
theorem dX7_newThread_33 : decode cX7_newThread 33 = .ok (.aload_n 0, 1) := by decide +kernel
theorem dX7_newThread_34 : decode cX7_newThread 34 = .ok (.getfield 31, 3) := by decide +kernel
theorem dX7_newThread_37 : decode cX7_newThread 37 = .ok (.iload_n 3, 1) := by decide +kernel
theorem dX7_newThread_38 : decode cX7_newThread 38 = .ok (.iconst 0, 1) := by decide +kernel
theorem dX7_newThread_39 : decode cX7_newThread 39 = .ok (.iastore, 1) := by decide +kernel
theorem dX7_newThread_40 : decode cX7_newThread 40 = .ok (.aload_n 0, 1) := by decide +kernel
theorem dX7_newThread_41 : decode cX7_newThread 41 = .ok (.getfield 37, 3) := by decide +kernel
theorem dX7_newThread_44 : decode cX7_newThread 44 = .ok (.iload_n 3, 1) := by decide +kernel
theorem dX7_newThread_45 : decode cX7_newThread 45 = .ok (.iconst 0, 1) := by decide +kernel
theorem dX7_newThread_46 : decode cX7_newThread 46 = .ok (.bastore, 1) := by decide +kernel
theorem dX7_newThread_47 : decode cX7_newThread 47 = .ok (.aload_n 0, 1) := by decide +kernel
theorem dX7_newThread_48 : decode cX7_newThread 48 = .ok (.getfield 41, 3) := by decide +kernel
theorem dX7_newThread_51 : decode cX7_newThread 51 = .ok (.iload_n 3, 1) := by decide +kernel
theorem dX7_newThread_52 : decode cX7_newThread 52 = .ok (.iconst 0, 1) := by decide +kernel
theorem dX7_newThread_53 : decode cX7_newThread 53 = .ok (.iastore, 1) := by decide +kernel
theorem dX7_newThread_54 : decode cX7_newThread 54 = .ok (.aload_n 0, 1) := by decide +kernel
theorem dX7_newThread_55 : decode cX7_newThread 55 = .ok (.getfield 47, 3) := by decide +kernel
theorem dX7_newThread_58 : decode cX7_newThread 58 = .ok (.iload_n 3, 1) := by decide +kernel
theorem dX7_newThread_59 : decode cX7_newThread 59 = .ok (.iconst 0, 1) := by decide +kernel
theorem dX7_newThread_60 : decode cX7_newThread 60 = .ok (.iastore, 1) := by decide +kernel
theorem dX7_newThread_61 : decode cX7_newThread 61 = .ok (.aload_n 0, 1) := by decide +kernel
theorem dX7_newThread_62 : decode cX7_newThread 62 = .ok (.getfield 50, 3) := by decide +kernel
theorem dX7_newThread_65 : decode cX7_newThread 65 = .ok (.iload_n 3, 1) := by decide +kernel
theorem dX7_newThread_66 : decode cX7_newThread 66 = .ok (.iconst 0, 1) := by decide +kernel
theorem dX7_newThread_67 : decode cX7_newThread 67 = .ok (.iastore, 1) := by decide +kernel
theorem dX7_newThread_68 : decode cX7_newThread 68 = .ok (.aload_n 0, 1) := by decide +kernel
theorem dX7_newThread_69 : decode cX7_newThread 69 = .ok (.getfield 53, 3) := by decide +kernel
theorem dX7_newThread_72 : decode cX7_newThread 72 = .ok (.iload_n 3, 1) := by decide +kernel
theorem dX7_newThread_73 : decode cX7_newThread 73 = .ok (.bipush (-3), 2) := by decide +kernel
theorem dX7_newThread_75 : decode cX7_newThread 75 = .ok (.iastore, 1) := by decide +kernel
theorem dX7_newThread_76 : decode cX7_newThread 76 = .ok (.aload_n 0, 1) := by decide +kernel
theorem dX7_newThread_77 : decode cX7_newThread 77 = .ok (.getfield 56, 3) := by decide +kernel
theorem dX7_newThread_80 : decode cX7_newThread 80 = .ok (.iload_n 3, 1) := by decide +kernel
theorem dX7_newThread_81 : decode cX7_newThread 81 = .ok (.iconst (-1), 1) := by decide +kernel
theorem dX7_newThread_82 : decode cX7_newThread 82 = .ok (.iastore, 1) := by decide +kernel
theorem dX7_newThread_83 : decode cX7_newThread 83 = .ok (.aload_n 0, 1) := by decide +kernel
theorem dX7_newThread_84 : decode cX7_newThread 84 = .ok (.dup, 1) := by decide +kernel
theorem dX7_newThread_85 : decode cX7_newThread 85 = .ok (.getfield 92, 3) := by decide +kernel
theorem dX7_newThread_88 : decode cX7_newThread 88 = .ok (.iconst 1, 1) := by decide +kernel
theorem dX7_newThread_89 : decode cX7_newThread 89 = .ok (.iadd, 1) := by decide +kernel
theorem dX7_newThread_90 : decode cX7_newThread 90 = .ok (.putfield 92, 3) := by decide +kernel
theorem dX7_newThread_93 : decode cX7_newThread 93 = .ok (.aload_n 0, 1) := by decide +kernel
theorem dX7_newThread_94 : decode cX7_newThread 94 = .ok (.iload_n 3, 1) := by decide +kernel
theorem dX7_newThread_95 : decode cX7_newThread 95 = .ok (.invokevirtual 95, 3) := by decide +kernel
theorem dX7_newThread_98 : decode cX7_newThread 98 = .ok (.iload_n 3, 1) := by decide +kernel
theorem dX7_newThread_99 : decode cX7_newThread 99 = .ok (.ireturn, 1) := by decide +kernel
theorem dX7_enqueue_0 : decode cX7_enqueue 0 = .ok (.aload_n 0, 1) := by decide +kernel
theorem dX7_enqueue_1 : decode cX7_enqueue 1 = .ok (.getfield 19, 3) := by decide +kernel
theorem dX7_enqueue_4 : decode cX7_enqueue 4 = .ok (.iload_n 1, 1) := by decide +kernel
theorem dX7_enqueue_5 : decode cX7_enqueue 5 = .ok (.iconst 0, 1) := by decide +kernel
theorem dX7_enqueue_6 : decode cX7_enqueue 6 = .ok (.iastore, 1) := by decide +kernel
theorem dX7_enqueue_7 : decode cX7_enqueue 7 = .ok (.aload_n 0, 1) := by decide +kernel
theorem dX7_enqueue_8 : decode cX7_enqueue 8 = .ok (.getfield 62, 3) := by decide +kernel
theorem dX7_enqueue_11 : decode cX7_enqueue 11 = .ok (.aload_n 0, 1) := by decide +kernel
theorem dX7_enqueue_12 : decode cX7_enqueue 12 = .ok (.getfield 99, 3) := by decide +kernel
theorem dX7_enqueue_15 : decode cX7_enqueue 15 = .ok (.iload_n 1, 1) := by decide +kernel
theorem dX7_enqueue_16 : decode cX7_enqueue 16 = .ok (.iastore, 1) := by decide +kernel
theorem dX7_enqueue_17 : decode cX7_enqueue 17 = .ok (.aload_n 0, 1) := by decide +kernel
theorem dX7_enqueue_18 : decode cX7_enqueue 18 = .ok (.dup, 1) := by decide +kernel
theorem dX7_enqueue_19 : decode cX7_enqueue 19 = .ok (.getfield 99, 3) := by decide +kernel
theorem dX7_enqueue_22 : decode cX7_enqueue 22 = .ok (.iconst 1, 1) := by decide +kernel
theorem dX7_enqueue_23 : decode cX7_enqueue 23 = .ok (.iadd, 1) := by decide +kernel
theorem dX7_enqueue_24 : decode cX7_enqueue 24 = .ok (.putfield 99, 3) := by decide +kernel
theorem dX7_enqueue_27 : decode cX7_enqueue 27 = .ok (.return_, 1) := by decide +kernel
theorem dX7_leaveQueue_0 : decode cX7_leaveQueue 0 = .ok (.iconst 0, 1) := by decide +kernel
theorem dX7_leaveQueue_1 : decode cX7_leaveQueue 1 = .ok (.istore_n 2, 1) := by decide +kernel
theorem dX7_leaveQueue_2 : decode cX7_leaveQueue 2 = .ok (.iconst 0, 1) := by decide +kernel
theorem dX7_leaveQueue_3 : decode cX7_leaveQueue 3 = .ok (.istore_n 3, 1) := by decide +kernel
theorem dX7_leaveQueue_4 : decode cX7_leaveQueue 4 = .ok (.iload_n 3, 1) := by decide +kernel
theorem dX7_leaveQueue_5 : decode cX7_leaveQueue 5 = .ok (.aload_n 0, 1) := by decide +kernel
theorem dX7_leaveQueue_6 : decode cX7_leaveQueue 6 = .ok (.getfield 99, 3) := by decide +kernel
theorem dX7_leaveQueue_9 : decode cX7_leaveQueue 9 = .ok (.if_icmp .ge 34, 3) := by decide +kernel
theorem dX7_leaveQueue_12 : decode cX7_leaveQueue 12 = .ok (.aload_n 0, 1) := by decide +kernel
theorem dX7_leaveQueue_13 : decode cX7_leaveQueue 13 = .ok (.getfield 62, 3) := by decide +kernel
theorem dX7_leaveQueue_16 : decode cX7_leaveQueue 16 = .ok (.iload_n 3, 1) := by decide +kernel
theorem dX7_leaveQueue_17 : decode cX7_leaveQueue 17 = .ok (.iaload, 1) := by decide +kernel
theorem dX7_leaveQueue_18 : decode cX7_leaveQueue 18 = .ok (.iload_n 1, 1) := by decide +kernel
theorem dX7_leaveQueue_19 : decode cX7_leaveQueue 19 = .ok (.if_icmp .eq 18, 3) := by decide +kernel
theorem dX7_leaveQueue_22 : decode cX7_leaveQueue 22 = .ok (.aload_n 0, 1) := by decide +kernel
theorem dX7_leaveQueue_23 : decode cX7_leaveQueue 23 = .ok (.getfield 62, 3) := by decide +kernel
theorem dX7_leaveQueue_26 : decode cX7_leaveQueue 26 = .ok (.iload_n 2, 1) := by decide +kernel
theorem dX7_leaveQueue_27 : decode cX7_leaveQueue 27 = .ok (.aload_n 0, 1) := by decide +kernel
theorem dX7_leaveQueue_28 : decode cX7_leaveQueue 28 = .ok (.getfield 62, 3) := by decide +kernel
theorem dX7_leaveQueue_31 : decode cX7_leaveQueue 31 = .ok (.iload_n 3, 1) := by decide +kernel
theorem dX7_leaveQueue_32 : decode cX7_leaveQueue 32 = .ok (.iaload, 1) := by decide +kernel
theorem dX7_leaveQueue_33 : decode cX7_leaveQueue 33 = .ok (.iastore, 1) := by decide +kernel
theorem dX7_leaveQueue_34 : decode cX7_leaveQueue 34 = .ok (.iinc 2 1, 3) := by decide +kernel
theorem dX7_leaveQueue_37 : decode cX7_leaveQueue 37 = .ok (.iinc 3 1, 3) := by decide +kernel
theorem dX7_leaveQueue_40 : decode cX7_leaveQueue 40 = .ok (.goto (-36), 3) := by decide +kernel
theorem dX7_leaveQueue_43 : decode cX7_leaveQueue 43 = .ok (.aload_n 0, 1) := by decide +kernel
theorem dX7_leaveQueue_44 : decode cX7_leaveQueue 44 = .ok (.iload_n 2, 1) := by decide +kernel
theorem dX7_leaveQueue_45 : decode cX7_leaveQueue 45 = .ok (.putfield 99, 3) := by decide +kernel
theorem dX7_leaveQueue_48 : decode cX7_leaveQueue 48 = .ok (.return_, 1) := by decide +kernel
theorem dX7_begin_0 : decode cX7_begin 0 = .ok (.aload_n 0, 1) := by decide +kernel
theorem dX7_begin_1 : decode cX7_begin 1 = .ok (.iconst 0, 1) := by decide +kernel
theorem dX7_begin_2 : decode cX7_begin 2 = .ok (.putfield 77, 3) := by decide +kernel
theorem dX7_begin_5 : decode cX7_begin 5 = .ok (.iload_n 1, 1) := by decide +kernel
theorem dX7_begin_6 : decode cX7_begin 6 = .ok (.iconst 0, 1) := by decide +kernel
theorem dX7_begin_7 : decode cX7_begin 7 = .ok (.aload_n 0, 1) := by decide +kernel
theorem dX7_begin_8 : decode cX7_begin 8 = .ok (.getfield 81, 3) := by decide +kernel
theorem dX7_begin_11 : decode cX7_begin 11 = .ok (.iconst 1, 1) := by decide +kernel
theorem dX7_begin_12 : decode cX7_begin 12 = .ok (.isub, 1) := by decide +kernel
theorem dX7_begin_13 : decode cX7_begin 13 = .ok (.invokestatic 84, 3) := by decide +kernel
theorem dX7_begin_16 : decode cX7_begin 16 = .ok (.ifCond .ne 5, 3) := by decide +kernel
theorem dX7_begin_19 : decode cX7_begin 19 = .ok (.iconst (-1), 1) := by decide +kernel
theorem dX7_begin_20 : decode cX7_begin 20 = .ok (.ireturn, 1) := by decide +kernel
theorem dX7_begin_21 : decode cX7_begin 21 = .ok (.iload_n 2, 1) := by decide +kernel
theorem dX7_begin_22 : decode cX7_begin 22 = .ok (.iconst 1, 1) := by decide +kernel
theorem dX7_begin_23 : decode cX7_begin 23 = .ok (.bipush 10, 2) := by decide +kernel
theorem dX7_begin_25 : decode cX7_begin 25 = .ok (.invokestatic 84, 3) := by decide +kernel
theorem dX7_begin_28 : decode cX7_begin 28 = .ok (.ifCond .ne 6, 3) := by decide +kernel
theorem dX7_begin_31 : decode cX7_begin 31 = .ok (.bipush (-2), 2) := by decide +kernel
theorem dX7_begin_33 : decode cX7_begin 33 = .ok (.ireturn, 1) := by decide +kernel
theorem dX7_begin_34 : decode cX7_begin 34 = .ok (.aload_n 0, 1) := by decide +kernel
theorem dX7_begin_35 : decode cX7_begin 35 = .ok (.iconst 1, 1) := by decide +kernel
theorem dX7_begin_36 : decode cX7_begin 36 = .ok (.putfield 102, 3) := by decide +kernel
theorem dX7_begin_39 : decode cX7_begin 39 = .ok (.aload_n 0, 1) := by decide +kernel
theorem dX7_begin_40 : decode cX7_begin 40 = .ok (.iconst 0, 1) := by decide +kernel
theorem dX7_begin_41 : decode cX7_begin 41 = .ok (.putfield 106, 3) := by decide +kernel
theorem dX7_begin_44 : decode cX7_begin 44 = .ok (.aload_n 0, 1) := by decide +kernel
theorem dX7_begin_45 : decode cX7_begin 45 = .ok (.iload_n 2, 1) := by decide +kernel
theorem dX7_begin_46 : decode cX7_begin 46 = .ok (.putfield 109, 3) := by decide +kernel
theorem dX7_begin_49 : decode cX7_begin 49 = .ok (.aload_n 0, 1) := by decide +kernel
theorem dX7_begin_50 : decode cX7_begin 50 = .ok (.iconst 0, 1) := by decide +kernel
theorem dX7_begin_51 : decode cX7_begin 51 = .ok (.putfield 112, 3) := by decide +kernel
theorem dX7_begin_54 : decode cX7_begin 54 = .ok (.aload_n 0, 1) := by decide +kernel
theorem dX7_begin_55 : decode cX7_begin 55 = .ok (.iconst 0, 1) := by decide +kernel
theorem dX7_begin_56 : decode cX7_begin 56 = .ok (.putfield 115, 3) := by decide +kernel
theorem dX7_begin_59 : decode cX7_begin 59 = .ok (.aload_n 0, 1) := by decide +kernel
theorem dX7_begin_60 : decode cX7_begin 60 = .ok (.iconst 0, 1) := by decide +kernel
theorem dX7_begin_61 : decode cX7_begin 61 = .ok (.putfield 118, 3) := by decide +kernel
theorem dX7_begin_64 : decode cX7_begin 64 = .ok (.aload_n 0, 1) := by decide +kernel
theorem dX7_begin_65 : decode cX7_begin 65 = .ok (.iconst 0, 1) := by decide +kernel
theorem dX7_begin_66 : decode cX7_begin 66 = .ok (.putfield 92, 3) := by decide +kernel
theorem dX7_begin_69 : decode cX7_begin 69 = .ok (.aload_n 0, 1) := by decide +kernel
theorem dX7_begin_70 : decode cX7_begin 70 = .ok (.iconst 0, 1) := by decide +kernel
theorem dX7_begin_71 : decode cX7_begin 71 = .ok (.putfield 99, 3) := by decide +kernel
theorem dX7_begin_74 : decode cX7_begin 74 = .ok (.aload_n 0, 1) := by decide +kernel
theorem dX7_begin_75 : decode cX7_begin 75 = .ok (.iconst 0, 1) := by decide +kernel
theorem dX7_begin_76 : decode cX7_begin 76 = .ok (.putfield 121, 3) := by decide +kernel
theorem dX7_begin_79 : decode cX7_begin 79 = .ok (.aload_n 0, 1) := by decide +kernel
theorem dX7_begin_80 : decode cX7_begin 80 = .ok (.iconst 0, 1) := by decide +kernel
theorem dX7_begin_81 : decode cX7_begin 81 = .ok (.putfield 124, 3) := by decide +kernel
theorem dX7_begin_84 : decode cX7_begin 84 = .ok (.iconst 0, 1) := by decide +kernel
theorem dX7_begin_85 : decode cX7_begin 85 = .ok (.istore 4, 2) := by decide +kernel
theorem dX7_begin_87 : decode cX7_begin 87 = .ok (.iload 4, 2) := by decide +kernel
theorem dX7_begin_89 : decode cX7_begin 89 = .ok (.bipush 8, 2) := by decide +kernel
theorem dX7_begin_91 : decode cX7_begin 91 = .ok (.if_icmp .ge 17, 3) := by decide +kernel
theorem dX7_begin_94 : decode cX7_begin 94 = .ok (.aload_n 0, 1) := by decide +kernel
theorem dX7_begin_95 : decode cX7_begin 95 = .ok (.getfield 68, 3) := by decide +kernel
theorem dX7_begin_98 : decode cX7_begin 98 = .ok (.iload 4, 2) := by decide +kernel
theorem dX7_begin_100 : decode cX7_begin 100 = .ok (.iconst 0, 1) := by decide +kernel
theorem dX7_begin_101 : decode cX7_begin 101 = .ok (.bastore, 1) := by decide +kernel
theorem dX7_begin_102 : decode cX7_begin 102 = .ok (.iinc 4 1, 3) := by decide +kernel
theorem dX7_begin_105 : decode cX7_begin 105 = .ok (.goto (-18), 3) := by decide +kernel
theorem dX7_begin_108 : decode cX7_begin 108 = .ok (.aload_n 0, 1) := by decide +kernel
theorem dX7_begin_109 : decode cX7_begin 109 = .ok (.iload_n 1, 1) := by decide +kernel
theorem dX7_begin_110 : decode cX7_begin 110 = .ok (.iload_n 3, 1) := by decide +kernel
theorem dX7_begin_111 : decode cX7_begin 111 = .ok (.invokevirtual 127, 3) := by decide +kernel
theorem dX7_begin_114 : decode cX7_begin 114 = .ok (.istore 4, 2) := by decide +kernel
theorem dX7_begin_116 : decode cX7_begin 116 = .ok (.iconst 1, 1) := by decide +kernel
theorem dX7_begin_117 : decode cX7_begin 117 = .ok (.ireturn, 1) := by decide +kernel
theorem dX7_firstAt_0 : decode cX7_firstAt 0 = .ok (.iconst (-1), 1) := by decide +kernel
theorem dX7_firstAt_1 : decode cX7_firstAt 1 = .ok (.istore_n 3, 1) := by decide +kernel
theorem dX7_firstAt_2 : decode cX7_firstAt 2 = .ok (.iconst 0, 1) := by decide +kernel
theorem dX7_firstAt_3 : decode cX7_firstAt 3 = .ok (.istore 4, 2) := by decide +kernel
theorem dX7_firstAt_5 : decode cX7_firstAt 5 = .ok (.iload 4, 2) := by decide +kernel
theorem dX7_firstAt_7 : decode cX7_firstAt 7 = .ok (.aload_n 0, 1) := by decide +kernel
theorem dX7_firstAt_8 : decode cX7_firstAt 8 = .ok (.getfield 92, 3) := by decide +kernel
theorem dX7_firstAt_11 : decode cX7_firstAt 11 = .ok (.if_icmp .ge 58, 3) := by decide +kernel
theorem dX7_firstAt_14 : decode cX7_firstAt 14 = .ok (.aload_n 0, 1) := by decide +kernel
theorem dX7_firstAt_15 : decode cX7_firstAt 15 = .ok (.getfield 19, 3) := by decide +kernel
theorem dX7_firstAt_18 : decode cX7_firstAt 18 = .ok (.iload 4, 2) := by decide +kernel
theorem dX7_firstAt_20 : decode cX7_firstAt 20 = .ok (.iaload, 1) := by decide +kernel
theorem dX7_firstAt_21 : decode cX7_firstAt 21 = .ok (.iload_n 2, 1) := by decide +kernel
theorem dX7_firstAt_22 : decode cX7_firstAt 22 = .ok (.if_icmp .ne 39, 3) := by decide +kernel
theorem dX7_firstAt_25 : decode cX7_firstAt 25 = .ok (.aload_n 0, 1) := by decide +kernel
theorem dX7_firstAt_26 : decode cX7_firstAt 26 = .ok (.getfield 56, 3) := by decide +kernel
theorem dX7_firstAt_29 : decode cX7_firstAt 29 = .ok (.iload 4, 2) := by decide +kernel
theorem dX7_firstAt_31 : decode cX7_firstAt 31 = .ok (.iaload, 1) := by decide +kernel
theorem dX7_firstAt_32 : decode cX7_firstAt 32 = .ok (.iload_n 1, 1) := by decide +kernel
theorem dX7_firstAt_33 : decode cX7_firstAt 33 = .ok (.if_icmp .ne 28, 3) := by decide +kernel
theorem dX7_firstAt_36 : decode cX7_firstAt 36 = .ok (.iload_n 3, 1) := by decide +kernel
theorem dX7_firstAt_37 : decode cX7_firstAt 37 = .ok (.ifCond .lt 19, 3) := by decide +kernel
theorem dX7_firstAt_40 : decode cX7_firstAt 40 = .ok (.aload_n 0, 1) := by decide +kernel
theorem dX7_firstAt_41 : decode cX7_firstAt 41 = .ok (.getfield 59, 3) := by decide +kernel
theorem dX7_firstAt_44 : decode cX7_firstAt 44 = .ok (.iload 4, 2) := by decide +kernel
theorem dX7_firstAt_46 : decode cX7_firstAt 46 = .ok (.iaload, 1) := by decide +kernel
theorem dX7_firstAt_47 : decode cX7_firstAt 47 = .ok (.aload_n 0, 1) := by decide +kernel
theorem dX7_firstAt_48 : decode cX7_firstAt 48 = .ok (.getfield 59, 3) := by decide +kernel
theorem dX7_firstAt_51 : decode cX7_firstAt 51 = .ok (.iload_n 3, 1) := by decide +kernel
theorem dX7_firstAt_52 : decode cX7_firstAt 52 = .ok (.iaload, 1) := by decide +kernel
theorem dX7_firstAt_53 : decode cX7_firstAt 53 = .ok (.if_icmp .ge 8, 3) := by decide +kernel
theorem dX7_firstAt_56 : decode cX7_firstAt 56 = .ok (.iload 4, 2) := by decide +kernel
theorem dX7_firstAt_58 : decode cX7_firstAt 58 = .ok (.goto 4, 3) := by decide +kernel
theorem dX7_firstAt_61 : decode cX7_firstAt 61 = .ok (.iload_n 3, 1) := by decide +kernel
theorem dX7_firstAt_62 : decode cX7_firstAt 62 = .ok (.istore_n 3, 1) := by decide +kernel
theorem dX7_firstAt_63 : decode cX7_firstAt 63 = .ok (.iinc 4 1, 3) := by decide +kernel
theorem dX7_firstAt_66 : decode cX7_firstAt 66 = .ok (.goto (-61), 3) := by decide +kernel
theorem dX7_firstAt_69 : decode cX7_firstAt 69 = .ok (.iload_n 3, 1) := by decide +kernel
theorem dX7_firstAt_70 : decode cX7_firstAt 70 = .ok (.ireturn, 1) := by decide +kernel
theorem dX7_goesOn_0 : decode cX7_goesOn 0 = .ok (.aload_n 0, 1) := by decide +kernel
theorem dX7_goesOn_1 : decode cX7_goesOn 1 = .ok (.getfield 25, 3) := by decide +kernel
theorem dX7_goesOn_4 : decode cX7_goesOn 4 = .ok (.iload_n 1, 1) := by decide +kernel
theorem dX7_goesOn_5 : decode cX7_goesOn 5 = .ok (.dup2, 1) := by decide +kernel
theorem dX7_goesOn_6 : decode cX7_goesOn 6 = .ok (.iaload, 1) := by decide +kernel
theorem dX7_goesOn_7 : decode cX7_goesOn 7 = .ok (.iconst 1, 1) := by decide +kernel
theorem dX7_goesOn_8 : decode cX7_goesOn 8 = .ok (.iadd, 1) := by decide +kernel
theorem dX7_goesOn_9 : decode cX7_goesOn 9 = .ok (.iastore, 1) := by decide +kernel
theorem dX7_goesOn_10 : decode cX7_goesOn 10 = .ok (.aload_n 0, 1) := by decide +kernel
theorem dX7_goesOn_11 : decode cX7_goesOn 11 = .ok (.getfield 56, 3) := by decide +kernel
theorem dX7_goesOn_14 : decode cX7_goesOn 14 = .ok (.iload_n 1, 1) := by decide +kernel
theorem dX7_goesOn_15 : decode cX7_goesOn 15 = .ok (.iconst (-1), 1) := by decide +kernel
theorem dX7_goesOn_16 : decode cX7_goesOn 16 = .ok (.iastore, 1) := by decide +kernel
theorem dX7_goesOn_17 : decode cX7_goesOn 17 = .ok (.aload_n 0, 1) := by decide +kernel
theorem dX7_goesOn_18 : decode cX7_goesOn 18 = .ok (.iload_n 1, 1) := by decide +kernel
theorem dX7_goesOn_19 : decode cX7_goesOn 19 = .ok (.invokevirtual 95, 3) := by decide +kernel
theorem dX7_goesOn_22 : decode cX7_goesOn 22 = .ok (.return_, 1) := by decide +kernel
theorem dX7_comesIn_0 : decode cX7_comesIn 0 = .ok (.aload_n 0, 1) := by decide +kernel
theorem dX7_comesIn_1 : decode cX7_comesIn 1 = .ok (.iload_n 1, 1) := by decide +kernel
theorem dX7_comesIn_2 : decode cX7_comesIn 2 = .ok (.iconst 3, 1) := by decide +kernel
theorem dX7_comesIn_3 : decode cX7_comesIn 3 = .ok (.invokevirtual 131, 3) := by decide +kernel
theorem dX7_comesIn_6 : decode cX7_comesIn 6 = .ok (.istore_n 3, 1) := by decide +kernel
theorem dX7_comesIn_7 : decode cX7_comesIn 7 = .ok (.iload_n 3, 1) := by decide +kernel
theorem dX7_comesIn_8 : decode cX7_comesIn 8 = .ok (.ifCond .lt 25, 3) := by decide +kernel
theorem dX7_comesIn_11 : decode cX7_comesIn 11 = .ok (.aload_n 0, 1) := by decide +kernel
theorem dX7_comesIn_12 : decode cX7_comesIn 12 = .ok (.getfield 28, 3) := by decide +kernel
theorem dX7_comesIn_15 : decode cX7_comesIn 15 = .ok (.iload_n 3, 1) := by decide +kernel
theorem dX7_comesIn_16 : decode cX7_comesIn 16 = .ok (.iload_n 2, 1) := by decide +kernel
theorem dX7_comesIn_17 : decode cX7_comesIn 17 = .ok (.iastore, 1) := by decide +kernel
theorem dX7_comesIn_18 : decode cX7_comesIn 18 = .ok (.aload_n 0, 1) := by decide +kernel
theorem dX7_comesIn_19 : decode cX7_comesIn 19 = .ok (.iload_n 3, 1) := by decide +kernel
theorem dX7_comesIn_20 : decode cX7_comesIn 20 = .ok (.invokevirtual 134, 3) := by decide +kernel
theorem dX7_comesIn_23 : decode cX7_comesIn 23 = .ok (.aload_n 0, 1) := by decide +kernel
theorem dX7_comesIn_24 : decode cX7_comesIn 24 = .ok (.iload_n 1, 1) := by decide +kernel
theorem dX7_comesIn_25 : decode cX7_comesIn 25 = .ok (.iconst 3, 1) := by decide +kernel
theorem dX7_comesIn_26 : decode cX7_comesIn 26 = .ok (.invokevirtual 131, 3) := by decide +kernel
theorem dX7_comesIn_29 : decode cX7_comesIn 29 = .ok (.istore_n 3, 1) := by decide +kernel
theorem dX7_comesIn_30 : decode cX7_comesIn 30 = .ok (.goto (-23), 3) := by decide +kernel
theorem dX7_comesIn_33 : decode cX7_comesIn 33 = .ok (.aload_n 0, 1) := by decide +kernel
theorem dX7_comesIn_34 : decode cX7_comesIn 34 = .ok (.iload_n 1, 1) := by decide +kernel
theorem dX7_comesIn_35 : decode cX7_comesIn 35 = .ok (.iconst 2, 1) := by decide +kernel
theorem dX7_comesIn_36 : decode cX7_comesIn 36 = .ok (.invokevirtual 131, 3) := by decide +kernel
theorem dX7_comesIn_39 : decode cX7_comesIn 39 = .ok (.istore_n 3, 1) := by decide +kernel
theorem dX7_comesIn_40 : decode cX7_comesIn 40 = .ok (.iload_n 3, 1) := by decide +kernel
theorem dX7_comesIn_41 : decode cX7_comesIn 41 = .ok (.ifCond .lt 18, 3) := by decide +kernel
theorem dX7_comesIn_44 : decode cX7_comesIn 44 = .ok (.aload_n 0, 1) := by decide +kernel
theorem dX7_comesIn_45 : decode cX7_comesIn 45 = .ok (.getfield 28, 3) := by decide +kernel
theorem dX7_comesIn_48 : decode cX7_comesIn 48 = .ok (.iload_n 3, 1) := by decide +kernel
theorem dX7_comesIn_49 : decode cX7_comesIn 49 = .ok (.iload_n 2, 1) := by decide +kernel
theorem dX7_comesIn_50 : decode cX7_comesIn 50 = .ok (.iastore, 1) := by decide +kernel
theorem dX7_comesIn_51 : decode cX7_comesIn 51 = .ok (.aload_n 0, 1) := by decide +kernel
theorem dX7_comesIn_52 : decode cX7_comesIn 52 = .ok (.iload_n 3, 1) := by decide +kernel
theorem dX7_comesIn_53 : decode cX7_comesIn 53 = .ok (.invokevirtual 134, 3) := by decide +kernel
theorem dX7_comesIn_56 : decode cX7_comesIn 56 = .ok (.goto 17, 3) := by decide +kernel
theorem dX7_comesIn_59 : decode cX7_comesIn 59 = .ok (.aload_n 0, 1) := by decide +kernel
theorem dX7_comesIn_60 : decode cX7_comesIn 60 = .ok (.getfield 68, 3) := by decide +kernel
theorem dX7_comesIn_63 : decode cX7_comesIn 63 = .ok (.iload_n 1, 1) := by decide +kernel
theorem dX7_comesIn_64 : decode cX7_comesIn 64 = .ok (.iconst 1, 1) := by decide +kernel
theorem dX7_comesIn_65 : decode cX7_comesIn 65 = .ok (.bastore, 1) := by decide +kernel
theorem dX7_comesIn_66 : decode cX7_comesIn 66 = .ok (.aload_n 0, 1) := by decide +kernel
theorem dX7_comesIn_67 : decode cX7_comesIn 67 = .ok (.getfield 65, 3) := by decide +kernel
theorem dX7_comesIn_70 : decode cX7_comesIn 70 = .ok (.iload_n 1, 1) := by decide +kernel
theorem dX7_comesIn_71 : decode cX7_comesIn 71 = .ok (.iload_n 2, 1) := by decide +kernel
theorem dX7_comesIn_72 : decode cX7_comesIn 72 = .ok (.iastore, 1) := by decide +kernel
theorem dX7_comesIn_73 : decode cX7_comesIn 73 = .ok (.return_, 1) := by decide +kernel
theorem dX7_taken_0 : decode cX7_taken 0 = .ok (.aload_n 0, 1) := by decide +kernel
theorem dX7_taken_1 : decode cX7_taken 1 = .ok (.getfield 68, 3) := by decide +kernel
theorem dX7_taken_4 : decode cX7_taken 4 = .ok (.iload_n 1, 1) := by decide +kernel
theorem dX7_taken_5 : decode cX7_taken 5 = .ok (.iconst 0, 1) := by decide +kernel
theorem dX7_taken_6 : decode cX7_taken 6 = .ok (.bastore, 1) := by decide +kernel
theorem dX7_taken_7 : decode cX7_taken 7 = .ok (.aload_n 0, 1) := by decide +kernel
theorem dX7_taken_8 : decode cX7_taken 8 = .ok (.iload_n 1, 1) := by decide +kernel
theorem dX7_taken_9 : decode cX7_taken 9 = .ok (.iconst 1, 1) := by decide +kernel
theorem dX7_taken_10 : decode cX7_taken 10 = .ok (.invokevirtual 131, 3) := by decide +kernel
theorem dX7_taken_13 : decode cX7_taken 13 = .ok (.istore_n 2, 1) := by decide +kernel
theorem dX7_taken_14 : decode cX7_taken 14 = .ok (.iload_n 2, 1) := by decide +kernel
theorem dX7_taken_15 : decode cX7_taken 15 = .ok (.ifCond .lt 21, 3) := by decide +kernel
theorem dX7_taken_18 : decode cX7_taken 18 = .ok (.aload_n 0, 1) := by decide +kernel
theorem dX7_taken_19 : decode cX7_taken 19 = .ok (.getfield 28, 3) := by decide +kernel
theorem dX7_taken_22 : decode cX7_taken 22 = .ok (.iload_n 2, 1) := by decide +kernel
theorem dX7_taken_23 : decode cX7_taken 23 = .ok (.iaload, 1) := by decide +kernel
theorem dX7_taken_24 : decode cX7_taken 24 = .ok (.istore_n 3, 1) := by decide +kernel
theorem dX7_taken_25 : decode cX7_taken 25 = .ok (.aload_n 0, 1) := by decide +kernel
theorem dX7_taken_26 : decode cX7_taken 26 = .ok (.iload_n 2, 1) := by decide +kernel
theorem dX7_taken_27 : decode cX7_taken 27 = .ok (.invokevirtual 134, 3) := by decide +kernel
theorem dX7_taken_30 : decode cX7_taken 30 = .ok (.aload_n 0, 1) := by decide +kernel
theorem dX7_taken_31 : decode cX7_taken 31 = .ok (.iload_n 1, 1) := by decide +kernel
theorem dX7_taken_32 : decode cX7_taken 32 = .ok (.iload_n 3, 1) := by decide +kernel
theorem dX7_taken_33 : decode cX7_taken 33 = .ok (.invokevirtual 137, 3) := by decide +kernel
theorem dX7_taken_36 : decode cX7_taken 36 = .ok (.return_, 1) := by decide +kernel
theorem dX7_fill_0 : decode cX7_fill 0 = .ok (.aload_n 0, 1) := by decide +kernel
theorem dX7_fill_1 : decode cX7_fill 1 = .ok (.iconst 0, 1) := by decide +kernel
theorem dX7_fill_2 : decode cX7_fill 2 = .ok (.putfield 77, 3) := by decide +kernel
theorem dX7_fill_5 : decode cX7_fill 5 = .ok (.iload_n 1, 1) := by decide +kernel
theorem dX7_fill_6 : decode cX7_fill 6 = .ok (.iconst 0, 1) := by decide +kernel
theorem dX7_fill_7 : decode cX7_fill 7 = .ok (.bipush 7, 2) := by decide +kernel
theorem dX7_fill_9 : decode cX7_fill 9 = .ok (.invokestatic 84, 3) := by decide +kernel
theorem dX7_fill_12 : decode cX7_fill 12 = .ok (.ifCond .ne 5, 3) := by decide +kernel
theorem dX7_fill_15 : decode cX7_fill 15 = .ok (.iconst (-1), 1) := by decide +kernel
theorem dX7_fill_16 : decode cX7_fill 16 = .ok (.ireturn, 1) := by decide +kernel
theorem dX7_fill_17 : decode cX7_fill 17 = .ok (.aload_n 0, 1) := by decide +kernel
theorem dX7_fill_18 : decode cX7_fill 18 = .ok (.getfield 102, 3) := by decide +kernel
theorem dX7_fill_21 : decode cX7_fill 21 = .ok (.ifCond .eq 19, 3) := by decide +kernel
theorem dX7_fill_24 : decode cX7_fill 24 = .ok (.aload_n 0, 1) := by decide +kernel
theorem dX7_fill_25 : decode cX7_fill 25 = .ok (.getfield 106, 3) := by decide +kernel
theorem dX7_fill_28 : decode cX7_fill 28 = .ok (.ifCond .ne 12, 3) := by decide +kernel
theorem dX7_fill_31 : decode cX7_fill 31 = .ok (.aload_n 0, 1) := by decide +kernel
theorem dX7_fill_32 : decode cX7_fill 32 = .ok (.getfield 68, 3) := by decide +kernel
theorem dX7_fill_35 : decode cX7_fill 35 = .ok (.iload_n 1, 1) := by decide +kernel
theorem dX7_fill_36 : decode cX7_fill 36 = .ok (.baload, 1) := by decide +kernel
theorem dX7_fill_37 : decode cX7_fill 37 = .ok (.ifCond .eq 6, 3) := by decide +kernel
theorem dX7_fill_40 : decode cX7_fill 40 = .ok (.bipush (-3), 2) := by decide +kernel
theorem dX7_fill_42 : decode cX7_fill 42 = .ok (.ireturn, 1) := by decide +kernel
theorem dX7_fill_43 : decode cX7_fill 43 = .ok (.aload_n 0, 1) := by decide +kernel
theorem dX7_fill_44 : decode cX7_fill 44 = .ok (.iload_n 1, 1) := by decide +kernel
theorem dX7_fill_45 : decode cX7_fill 45 = .ok (.iload_n 2, 1) := by decide +kernel
theorem dX7_fill_46 : decode cX7_fill 46 = .ok (.invokevirtual 137, 3) := by decide +kernel
theorem dX7_fill_49 : decode cX7_fill 49 = .ok (.iconst 1, 1) := by decide +kernel
theorem dX7_fill_50 : decode cX7_fill 50 = .ok (.ireturn, 1) := by decide +kernel
theorem dX7_except_0 : decode cX7_except 0 = .ok (.aload_n 0, 1) := by decide +kernel
theorem dX7_except_1 : decode cX7_except 1 = .ok (.getfield 19, 3) := by decide +kernel
theorem dX7_except_4 : decode cX7_except 4 = .ok (.iload_n 1, 1) := by decide +kernel
theorem dX7_except_5 : decode cX7_except 5 = .ok (.iaload, 1) := by decide +kernel
theorem dX7_except_6 : decode cX7_except 6 = .ok (.ifCond .eq 7, 3) := by decide +kernel
theorem dX7_except_9 : decode cX7_except 9 = .ok (.iconst 1, 1) := by decide +kernel
theorem dX7_except_10 : decode cX7_except 10 = .ok (.goto 4, 3) := by decide +kernel
theorem dX7_except_13 : decode cX7_except 13 = .ok (.iconst 0, 1) := by decide +kernel
theorem dX7_except_14 : decode cX7_except 14 = .ok (.istore_n 3, 1) := by decide +kernel
theorem dX7_except_15 : decode cX7_except 15 = .ok (.aload_n 0, 1) := by decide +kernel
theorem dX7_except_16 : decode cX7_except 16 = .ok (.getfield 56, 3) := by decide +kernel
theorem dX7_except_19 : decode cX7_except 19 = .ok (.iload_n 1, 1) := by decide +kernel
theorem dX7_except_20 : decode cX7_except 20 = .ok (.iconst (-1), 1) := by decide +kernel
theorem dX7_except_21 : decode cX7_except 21 = .ok (.iastore, 1) := by decide +kernel
theorem dX7_except_22 : decode cX7_except 22 = .ok (.aload_n 0, 1) := by decide +kernel
theorem dX7_except_23 : decode cX7_except 23 = .ok (.getfield 53, 3) := by decide +kernel
theorem dX7_except_26 : decode cX7_except 26 = .ok (.iload_n 1, 1) := by decide +kernel
theorem dX7_except_27 : decode cX7_except 27 = .ok (.bipush (-3), 2) := by decide +kernel
theorem dX7_except_29 : decode cX7_except 29 = .ok (.iastore, 1) := by decide +kernel
theorem dX7_except_30 : decode cX7_except 30 = .ok (.aload_n 0, 1) := by decide +kernel
theorem dX7_except_31 : decode cX7_except 31 = .ok (.getfield 31, 3) := by decide +kernel
theorem dX7_except_34 : decode cX7_except 34 = .ok (.iload_n 1, 1) := by decide +kernel
theorem dX7_except_35 : decode cX7_except 35 = .ok (.iaload, 1) := by decide +kernel
theorem dX7_except_36 : decode cX7_except 36 = .ok (.ifCond .le 53, 3) := by decide +kernel
theorem dX7_except_39 : decode cX7_except 39 = .ok (.aload_n 0, 1) := by decide +kernel
theorem dX7_except_40 : decode cX7_except 40 = .ok (.getfield 31, 3) := by decide +kernel
theorem dX7_except_43 : decode cX7_except 43 = .ok (.iload_n 1, 1) := by decide +kernel
theorem dX7_except_44 : decode cX7_except 44 = .ok (.dup2, 1) := by decide +kernel
theorem dX7_except_45 : decode cX7_except 45 = .ok (.iaload, 1) := by decide +kernel
theorem dX7_except_46 : decode cX7_except 46 = .ok (.iconst 1, 1) := by decide +kernel
theorem dX7_except_47 : decode cX7_except 47 = .ok (.isub, 1) := by decide +kernel
theorem dX7_except_48 : decode cX7_except 48 = .ok (.iastore, 1) := by decide +kernel
theorem dX7_except_49 : decode cX7_except 49 = .ok (.aload_n 0, 1) := by decide +kernel
theorem dX7_except_50 : decode cX7_except 50 = .ok (.getfield 25, 3) := by decide +kernel
theorem dX7_except_53 : decode cX7_except 53 = .ok (.iload_n 1, 1) := by decide +kernel
theorem dX7_except_54 : decode cX7_except 54 = .ok (.aload_n 0, 1) := by decide +kernel
theorem dX7_except_55 : decode cX7_except 55 = .ok (.getfield 34, 3) := by decide +kernel
theorem dX7_except_58 : decode cX7_except 58 = .ok (.iconst 4, 1) := by decide +kernel
theorem dX7_except_59 : decode cX7_except 59 = .ok (.iload_n 1, 1) := by decide +kernel
theorem dX7_except_60 : decode cX7_except 60 = .ok (.imul, 1) := by decide +kernel
theorem dX7_except_61 : decode cX7_except 61 = .ok (.aload_n 0, 1) := by decide +kernel
theorem dX7_except_62 : decode cX7_except 62 = .ok (.getfield 31, 3) := by decide +kernel
theorem dX7_except_65 : decode cX7_except 65 = .ok (.iload_n 1, 1) := by decide +kernel
theorem dX7_except_66 : decode cX7_except 66 = .ok (.iaload, 1) := by decide +kernel
theorem dX7_except_67 : decode cX7_except 67 = .ok (.iadd, 1) := by decide +kernel
theorem dX7_except_68 : decode cX7_except 68 = .ok (.iaload, 1) := by decide +kernel
theorem dX7_except_69 : decode cX7_except 69 = .ok (.iastore, 1) := by decide +kernel
theorem dX7_except_70 : decode cX7_except 70 = .ok (.aload_n 0, 1) := by decide +kernel
theorem dX7_except_71 : decode cX7_except 71 = .ok (.getfield 28, 3) := by decide +kernel
theorem dX7_except_74 : decode cX7_except 74 = .ok (.iload_n 1, 1) := by decide +kernel
theorem dX7_except_75 : decode cX7_except 75 = .ok (.iload_n 2, 1) := by decide +kernel
theorem dX7_except_76 : decode cX7_except 76 = .ok (.iastore, 1) := by decide +kernel
theorem dX7_except_77 : decode cX7_except 77 = .ok (.iload_n 3, 1) := by decide +kernel
theorem dX7_except_78 : decode cX7_except 78 = .ok (.ifCond .eq 25, 3) := by decide +kernel
theorem dX7_except_81 : decode cX7_except 81 = .ok (.aload_n 0, 1) := by decide +kernel
theorem dX7_except_82 : decode cX7_except 82 = .ok (.iload_n 1, 1) := by decide +kernel
theorem dX7_except_83 : decode cX7_except 83 = .ok (.invokevirtual 95, 3) := by decide +kernel
theorem dX7_except_86 : decode cX7_except 86 = .ok (.goto 17, 3) := by decide +kernel
theorem dX7_except_89 : decode cX7_except 89 = .ok (.aload_n 0, 1) := by decide +kernel
theorem dX7_except_90 : decode cX7_except 90 = .ok (.getfield 47, 3) := by decide +kernel
theorem dX7_except_93 : decode cX7_except 93 = .ok (.iload_n 1, 1) := by decide +kernel
theorem dX7_except_94 : decode cX7_except 94 = .ok (.iload_n 2, 1) := by decide +kernel
theorem dX7_except_95 : decode cX7_except 95 = .ok (.iastore, 1) := by decide +kernel
theorem dX7_except_96 : decode cX7_except 96 = .ok (.aload_n 0, 1) := by decide +kernel
theorem dX7_except_97 : decode cX7_except 97 = .ok (.iload_n 1, 1) := by decide +kernel
theorem dX7_except_98 : decode cX7_except 98 = .ok (.bipush 6, 2) := by decide +kernel
theorem dX7_except_100 : decode cX7_except 100 = .ok (.invokevirtual 141, 3) := by decide +kernel
theorem dX7_except_103 : decode cX7_except 103 = .ok (.return_, 1) := by decide +kernel
theorem dX7_finish_0 : decode cX7_finish 0 = .ok (.aload_n 0, 1) := by decide +kernel
theorem dX7_finish_1 : decode cX7_finish 1 = .ok (.getfield 19, 3) := by decide +kernel
theorem dX7_finish_4 : decode cX7_finish 4 = .ok (.iload_n 1, 1) := by decide +kernel
theorem dX7_finish_5 : decode cX7_finish 5 = .ok (.iload_n 2, 1) := by decide +kernel
theorem dX7_finish_6 : decode cX7_finish 6 = .ok (.iastore, 1) := by decide +kernel
theorem dX7_finish_7 : decode cX7_finish 7 = .ok (.aload_n 0, 1) := by decide +kernel
theorem dX7_finish_8 : decode cX7_finish 8 = .ok (.iload_n 1, 1) := by decide +kernel
theorem dX7_finish_9 : decode cX7_finish 9 = .ok (.invokevirtual 144, 3) := by decide +kernel
theorem dX7_finish_12 : decode cX7_finish 12 = .ok (.iload_n 1, 1) := by decide +kernel
theorem dX7_finish_13 : decode cX7_finish 13 = .ok (.ifCond .ne 71, 3) := by decide +kernel
theorem dX7_finish_16 : decode cX7_finish 16 = .ok (.aload_n 0, 1) := by decide +kernel
theorem dX7_finish_17 : decode cX7_finish 17 = .ok (.iconst 1, 1) := by decide +kernel
theorem dX7_finish_18 : decode cX7_finish 18 = .ok (.putfield 106, 3) := by decide +kernel
theorem dX7_finish_21 : decode cX7_finish 21 = .ok (.aload_n 0, 1) := by decide +kernel
theorem dX7_finish_22 : decode cX7_finish 22 = .ok (.iconst 0, 1) := by decide +kernel
theorem dX7_finish_23 : decode cX7_finish 23 = .ok (.putfield 99, 3) := by decide +kernel
theorem dX7_finish_26 : decode cX7_finish 26 = .ok (.iconst 0, 1) := by decide +kernel
theorem dX7_finish_27 : decode cX7_finish 27 = .ok (.istore_n 3, 1) := by decide +kernel
theorem dX7_finish_28 : decode cX7_finish 28 = .ok (.iload_n 3, 1) := by decide +kernel
theorem dX7_finish_29 : decode cX7_finish 29 = .ok (.aload_n 0, 1) := by decide +kernel
theorem dX7_finish_30 : decode cX7_finish 30 = .ok (.getfield 92, 3) := by decide +kernel
theorem dX7_finish_33 : decode cX7_finish 33 = .ok (.if_icmp .ge 51, 3) := by decide +kernel
theorem dX7_finish_36 : decode cX7_finish 36 = .ok (.aload_n 0, 1) := by decide +kernel
theorem dX7_finish_37 : decode cX7_finish 37 = .ok (.getfield 19, 3) := by decide +kernel
theorem dX7_finish_40 : decode cX7_finish 40 = .ok (.iload_n 3, 1) := by decide +kernel
theorem dX7_finish_41 : decode cX7_finish 41 = .ok (.aload_n 0, 1) := by decide +kernel
theorem dX7_finish_42 : decode cX7_finish 42 = .ok (.getfield 19, 3) := by decide +kernel
theorem dX7_finish_45 : decode cX7_finish 45 = .ok (.iload_n 3, 1) := by decide +kernel
theorem dX7_finish_46 : decode cX7_finish 46 = .ok (.iaload, 1) := by decide +kernel
theorem dX7_finish_47 : decode cX7_finish 47 = .ok (.iconst 5, 1) := by decide +kernel
theorem dX7_finish_48 : decode cX7_finish 48 = .ok (.if_icmp .ge 8, 3) := by decide +kernel
theorem dX7_finish_51 : decode cX7_finish 51 = .ok (.bipush 7, 2) := by decide +kernel
theorem dX7_finish_53 : decode cX7_finish 53 = .ok (.goto 9, 3) := by decide +kernel
theorem dX7_finish_56 : decode cX7_finish 56 = .ok (.aload_n 0, 1) := by decide +kernel
theorem dX7_finish_57 : decode cX7_finish 57 = .ok (.getfield 19, 3) := by decide +kernel
theorem dX7_finish_60 : decode cX7_finish 60 = .ok (.iload_n 3, 1) := by decide +kernel
theorem dX7_finish_61 : decode cX7_finish 61 = .ok (.iaload, 1) := by decide +kernel
theorem dX7_finish_62 : decode cX7_finish 62 = .ok (.iastore, 1) := by decide +kernel
theorem dX7_finish_63 : decode cX7_finish 63 = .ok (.aload_n 0, 1) := by decide +kernel
theorem dX7_finish_64 : decode cX7_finish 64 = .ok (.getfield 56, 3) := by decide +kernel
theorem dX7_finish_67 : decode cX7_finish 67 = .ok (.iload_n 3, 1) := by decide +kernel
theorem dX7_finish_68 : decode cX7_finish 68 = .ok (.iconst (-1), 1) := by decide +kernel
theorem dX7_finish_69 : decode cX7_finish 69 = .ok (.iastore, 1) := by decide +kernel
theorem dX7_finish_70 : decode cX7_finish 70 = .ok (.aload_n 0, 1) := by decide +kernel
theorem dX7_finish_71 : decode cX7_finish 71 = .ok (.getfield 53, 3) := by decide +kernel
theorem dX7_finish_74 : decode cX7_finish 74 = .ok (.iload_n 3, 1) := by decide +kernel
theorem dX7_finish_75 : decode cX7_finish 75 = .ok (.bipush (-3), 2) := by decide +kernel
theorem dX7_finish_77 : decode cX7_finish 77 = .ok (.iastore, 1) := by decide +kernel
theorem dX7_finish_78 : decode cX7_finish 78 = .ok (.iinc 3 1, 3) := by decide +kernel
theorem dX7_finish_81 : decode cX7_finish 81 = .ok (.goto (-53), 3) := by decide +kernel
theorem dX7_finish_84 : decode cX7_finish 84 = .ok (.return_, 1) := by decide +kernel
theorem dX7_popPending_0 : decode cX7_popPending 0 = .ok (.aload_n 0, 1) := by decide +kernel
theorem dX7_popPending_1 : decode cX7_popPending 1 = .ok (.getfield 44, 3) := by decide +kernel
theorem dX7_popPending_4 : decode cX7_popPending 4 = .ok (.iconst 4, 1) := by decide +kernel
theorem dX7_popPending_5 : decode cX7_popPending 5 = .ok (.iload_n 1, 1) := by decide +kernel
theorem dX7_popPending_6 : decode cX7_popPending 6 = .ok (.imul, 1) := by decide +kernel
theorem dX7_popPending_7 : decode cX7_popPending 7 = .ok (.iaload, 1) := by decide +kernel
theorem dX7_popPending_8 : decode cX7_popPending 8 = .ok (.istore_n 2, 1) := by decide +kernel
theorem dX7_popPending_9 : decode cX7_popPending 9 = .ok (.aload_n 0, 1) := by decide +kernel
theorem dX7_popPending_10 : decode cX7_popPending 10 = .ok (.getfield 41, 3) := by decide +kernel
theorem dX7_popPending_13 : decode cX7_popPending 13 = .ok (.iload_n 1, 1) := by decide +kernel
theorem dX7_popPending_14 : decode cX7_popPending 14 = .ok (.dup2, 1) := by decide +kernel
theorem dX7_popPending_15 : decode cX7_popPending 15 = .ok (.iaload, 1) := by decide +kernel
theorem dX7_popPending_16 : decode cX7_popPending 16 = .ok (.iconst 1, 1) := by decide +kernel
theorem dX7_popPending_17 : decode cX7_popPending 17 = .ok (.isub, 1) := by decide +kernel
theorem dX7_popPending_18 : decode cX7_popPending 18 = .ok (.iastore, 1) := by decide +kernel
theorem dX7_popPending_19 : decode cX7_popPending 19 = .ok (.iconst 0, 1) := by decide +kernel
theorem dX7_popPending_20 : decode cX7_popPending 20 = .ok (.istore_n 3, 1) := by decide +kernel
theorem dX7_popPending_21 : decode cX7_popPending 21 = .ok (.iload_n 3, 1) := by decide +kernel
theorem dX7_popPending_22 : decode cX7_popPending 22 = .ok (.aload_n 0, 1) := by decide +kernel
theorem dX7_popPending_23 : decode cX7_popPending 23 = .ok (.getfield 41, 3) := by decide +kernel
theorem dX7_popPending_26 : decode cX7_popPending 26 = .ok (.iload_n 1, 1) := by decide +kernel
theorem dX7_popPending_27 : decode cX7_popPending 27 = .ok (.iaload, 1) := by decide +kernel
theorem dX7_popPending_28 : decode cX7_popPending 28 = .ok (.if_icmp .ge 31, 3) := by decide +kernel
theorem dX7_popPending_31 : decode cX7_popPending 31 = .ok (.aload_n 0, 1) := by decide +kernel
theorem dX7_popPending_32 : decode cX7_popPending 32 = .ok (.getfield 44, 3) := by decide +kernel
theorem dX7_popPending_35 : decode cX7_popPending 35 = .ok (.iconst 4, 1) := by decide +kernel
theorem dX7_popPending_36 : decode cX7_popPending 36 = .ok (.iload_n 1, 1) := by decide +kernel
theorem dX7_popPending_37 : decode cX7_popPending 37 = .ok (.imul, 1) := by decide +kernel
theorem dX7_popPending_38 : decode cX7_popPending 38 = .ok (.iload_n 3, 1) := by decide +kernel
theorem dX7_popPending_39 : decode cX7_popPending 39 = .ok (.iadd, 1) := by decide +kernel
theorem dX7_popPending_40 : decode cX7_popPending 40 = .ok (.aload_n 0, 1) := by decide +kernel
theorem dX7_popPending_41 : decode cX7_popPending 41 = .ok (.getfield 44, 3) := by decide +kernel
theorem dX7_popPending_44 : decode cX7_popPending 44 = .ok (.iconst 4, 1) := by decide +kernel
theorem dX7_popPending_45 : decode cX7_popPending 45 = .ok (.iload_n 1, 1) := by decide +kernel
theorem dX7_popPending_46 : decode cX7_popPending 46 = .ok (.imul, 1) := by decide +kernel
theorem dX7_popPending_47 : decode cX7_popPending 47 = .ok (.iload_n 3, 1) := by decide +kernel
theorem dX7_popPending_48 : decode cX7_popPending 48 = .ok (.iadd, 1) := by decide +kernel
theorem dX7_popPending_49 : decode cX7_popPending 49 = .ok (.iconst 1, 1) := by decide +kernel
theorem dX7_popPending_50 : decode cX7_popPending 50 = .ok (.iadd, 1) := by decide +kernel
theorem dX7_popPending_51 : decode cX7_popPending 51 = .ok (.iaload, 1) := by decide +kernel
theorem dX7_popPending_52 : decode cX7_popPending 52 = .ok (.iastore, 1) := by decide +kernel
theorem dX7_popPending_53 : decode cX7_popPending 53 = .ok (.iinc 3 1, 3) := by decide +kernel
theorem dX7_popPending_56 : decode cX7_popPending 56 = .ok (.goto (-35), 3) := by decide +kernel
theorem dX7_popPending_59 : decode cX7_popPending 59 = .ok (.aload_n 0, 1) := by decide +kernel
theorem dX7_popPending_60 : decode cX7_popPending 60 = .ok (.iload_n 1, 1) := by decide +kernel
theorem dX7_popPending_61 : decode cX7_popPending 61 = .ok (.iload_n 2, 1) := by decide +kernel
theorem dX7_popPending_62 : decode cX7_popPending 62 = .ok (.invokevirtual 147, 3) := by decide +kernel
theorem dX7_popPending_65 : decode cX7_popPending 65 = .ok (.return_, 1) := by decide +kernel
theorem dX7_waitAt_0 : decode cX7_waitAt 0 = .ok (.aload_n 0, 1) := by decide +kernel
theorem dX7_waitAt_1 : decode cX7_waitAt 1 = .ok (.getfield 41, 3) := by decide +kernel
theorem dX7_waitAt_4 : decode cX7_waitAt 4 = .ok (.iload_n 1, 1) := by decide +kernel
theorem dX7_waitAt_5 : decode cX7_waitAt 5 = .ok (.iaload, 1) := by decide +kernel
theorem dX7_waitAt_6 : decode cX7_waitAt 6 = .ok (.ifCond .le 9, 3) := by decide +kernel
theorem dX7_waitAt_9 : decode cX7_waitAt 9 = .ok (.aload_n 0, 1) := by decide +kernel
theorem dX7_waitAt_10 : decode cX7_waitAt 10 = .ok (.iload_n 1, 1) := by decide +kernel
theorem dX7_waitAt_11 : decode cX7_waitAt 11 = .ok (.invokevirtual 150, 3) := by decide +kernel
theorem dX7_waitAt_14 : decode cX7_waitAt 14 = .ok (.return_, 1) := by decide +kernel
theorem dX7_waitAt_15 : decode cX7_waitAt 15 = .ok (.aload_n 0, 1) := by decide +kernel
theorem dX7_waitAt_16 : decode cX7_waitAt 16 = .ok (.getfield 19, 3) := by decide +kernel
theorem dX7_waitAt_19 : decode cX7_waitAt 19 = .ok (.iload_n 1, 1) := by decide +kernel
theorem dX7_waitAt_20 : decode cX7_waitAt 20 = .ok (.iload_n 3, 1) := by decide +kernel
theorem dX7_waitAt_21 : decode cX7_waitAt 21 = .ok (.iastore, 1) := by decide +kernel
theorem dX7_waitAt_22 : decode cX7_waitAt 22 = .ok (.aload_n 0, 1) := by decide +kernel
theorem dX7_waitAt_23 : decode cX7_waitAt 23 = .ok (.getfield 56, 3) := by decide +kernel
theorem dX7_waitAt_26 : decode cX7_waitAt 26 = .ok (.iload_n 1, 1) := by decide +kernel
theorem dX7_waitAt_27 : decode cX7_waitAt 27 = .ok (.iload_n 2, 1) := by decide +kernel
theorem dX7_waitAt_28 : decode cX7_waitAt 28 = .ok (.iastore, 1) := by decide +kernel
theorem dX7_waitAt_29 : decode cX7_waitAt 29 = .ok (.aload_n 0, 1) := by decide +kernel
theorem dX7_waitAt_30 : decode cX7_waitAt 30 = .ok (.getfield 59, 3) := by decide +kernel
theorem dX7_waitAt_33 : decode cX7_waitAt 33 = .ok (.iload_n 1, 1) := by decide +kernel
theorem dX7_waitAt_34 : decode cX7_waitAt 34 = .ok (.aload_n 0, 1) := by decide +kernel
theorem dX7_waitAt_35 : decode cX7_waitAt 35 = .ok (.getfield 124, 3) := by decide +kernel
theorem dX7_waitAt_38 : decode cX7_waitAt 38 = .ok (.iastore, 1) := by decide +kernel
theorem dX7_waitAt_39 : decode cX7_waitAt 39 = .ok (.aload_n 0, 1) := by decide +kernel
theorem dX7_waitAt_40 : decode cX7_waitAt 40 = .ok (.dup, 1) := by decide +kernel
theorem dX7_waitAt_41 : decode cX7_waitAt 41 = .ok (.getfield 124, 3) := by decide +kernel
theorem dX7_waitAt_44 : decode cX7_waitAt 44 = .ok (.iconst 1, 1) := by decide +kernel
theorem dX7_waitAt_45 : decode cX7_waitAt 45 = .ok (.iadd, 1) := by decide +kernel
theorem dX7_waitAt_46 : decode cX7_waitAt 46 = .ok (.putfield 124, 3) := by decide +kernel
theorem dX7_waitAt_49 : decode cX7_waitAt 49 = .ok (.return_, 1) := by decide +kernel
theorem dX7_throwTo_0 : decode cX7_throwTo 0 = .ok (.aload_n 0, 1) := by decide +kernel
theorem dX7_throwTo_1 : decode cX7_throwTo 1 = .ok (.getfield 28, 3) := by decide +kernel
theorem dX7_throwTo_4 : decode cX7_throwTo 4 = .ok (.iload_n 1, 1) := by decide +kernel
theorem dX7_throwTo_5 : decode cX7_throwTo 5 = .ok (.iaload, 1) := by decide +kernel
theorem dX7_throwTo_6 : decode cX7_throwTo 6 = .ok (.istore_n 3, 1) := by decide +kernel
theorem dX7_throwTo_7 : decode cX7_throwTo 7 = .ok (.iload_n 3, 1) := by decide +kernel
theorem dX7_throwTo_8 : decode cX7_throwTo 8 = .ok (.iload_n 1, 1) := by decide +kernel
theorem dX7_throwTo_9 : decode cX7_throwTo 9 = .ok (.if_icmp .ne 12, 3) := by decide +kernel
theorem dX7_throwTo_12 : decode cX7_throwTo 12 = .ok (.aload_n 0, 1) := by decide +kernel
theorem dX7_throwTo_13 : decode cX7_throwTo 13 = .ok (.iload_n 1, 1) := by decide +kernel
theorem dX7_throwTo_14 : decode cX7_throwTo 14 = .ok (.iload_n 2, 1) := by decide +kernel
theorem dX7_throwTo_15 : decode cX7_throwTo 15 = .ok (.invokevirtual 147, 3) := by decide +kernel
theorem dX7_throwTo_18 : decode cX7_throwTo 18 = .ok (.goto 90, 3) := by decide +kernel
theorem dX7_throwTo_21 : decode cX7_throwTo 21 = .ok (.iload_n 3, 1) := by decide +kernel
theorem dX7_throwTo_22 : decode cX7_throwTo 22 = .ok (.iconst 0, 1) := by decide +kernel
theorem dX7_throwTo_23 : decode cX7_throwTo 23 = .ok (.aload_n 0, 1) := by decide +kernel
theorem dX7_throwTo_24 : decode cX7_throwTo 24 = .ok (.getfield 92, 3) := by decide +kernel
theorem dX7_throwTo_27 : decode cX7_throwTo 27 = .ok (.iconst 1, 1) := by decide +kernel
theorem dX7_throwTo_28 : decode cX7_throwTo 28 = .ok (.isub, 1) := by decide +kernel
theorem dX7_throwTo_29 : decode cX7_throwTo 29 = .ok (.invokestatic 84, 3) := by decide +kernel
theorem dX7_throwTo_32 : decode cX7_throwTo 32 = .ok (.ifCond .eq 76, 3) := by decide +kernel
theorem dX7_throwTo_35 : decode cX7_throwTo 35 = .ok (.aload_n 0, 1) := by decide +kernel
theorem dX7_throwTo_36 : decode cX7_throwTo 36 = .ok (.getfield 19, 3) := by decide +kernel
theorem dX7_throwTo_39 : decode cX7_throwTo 39 = .ok (.iload_n 3, 1) := by decide +kernel
theorem dX7_throwTo_40 : decode cX7_throwTo 40 = .ok (.iaload, 1) := by decide +kernel
theorem dX7_throwTo_41 : decode cX7_throwTo 41 = .ok (.iconst 5, 1) := by decide +kernel
theorem dX7_throwTo_42 : decode cX7_throwTo 42 = .ok (.if_icmp .ge 66, 3) := by decide +kernel
theorem dX7_throwTo_45 : decode cX7_throwTo 45 = .ok (.aload_n 0, 1) := by decide +kernel
theorem dX7_throwTo_46 : decode cX7_throwTo 46 = .ok (.getfield 37, 3) := by decide +kernel
theorem dX7_throwTo_49 : decode cX7_throwTo 49 = .ok (.iload_n 3, 1) := by decide +kernel
theorem dX7_throwTo_50 : decode cX7_throwTo 50 = .ok (.baload, 1) := by decide +kernel
theorem dX7_throwTo_51 : decode cX7_throwTo 51 = .ok (.ifCond .eq 12, 3) := by decide +kernel
theorem dX7_throwTo_54 : decode cX7_throwTo 54 = .ok (.aload_n 0, 1) := by decide +kernel
theorem dX7_throwTo_55 : decode cX7_throwTo 55 = .ok (.getfield 19, 3) := by decide +kernel
theorem dX7_throwTo_58 : decode cX7_throwTo 58 = .ok (.iload_n 3, 1) := by decide +kernel
theorem dX7_throwTo_59 : decode cX7_throwTo 59 = .ok (.iaload, 1) := by decide +kernel
theorem dX7_throwTo_60 : decode cX7_throwTo 60 = .ok (.ifCond .eq 12, 3) := by decide +kernel
theorem dX7_throwTo_63 : decode cX7_throwTo 63 = .ok (.aload_n 0, 1) := by decide +kernel
theorem dX7_throwTo_64 : decode cX7_throwTo 64 = .ok (.iload_n 3, 1) := by decide +kernel
theorem dX7_throwTo_65 : decode cX7_throwTo 65 = .ok (.iload_n 2, 1) := by decide +kernel
theorem dX7_throwTo_66 : decode cX7_throwTo 66 = .ok (.invokevirtual 147, 3) := by decide +kernel
theorem dX7_throwTo_69 : decode cX7_throwTo 69 = .ok (.goto 39, 3) := by decide +kernel
theorem dX7_throwTo_72 : decode cX7_throwTo 72 = .ok (.aload_n 0, 1) := by decide +kernel
theorem dX7_throwTo_73 : decode cX7_throwTo 73 = .ok (.getfield 41, 3) := by decide +kernel
theorem dX7_throwTo_76 : decode cX7_throwTo 76 = .ok (.iload_n 3, 1) := by decide +kernel
theorem dX7_throwTo_77 : decode cX7_throwTo 77 = .ok (.iaload, 1) := by decide +kernel
theorem dX7_throwTo_78 : decode cX7_throwTo 78 = .ok (.iconst 4, 1) := by decide +kernel
theorem dX7_throwTo_79 : decode cX7_throwTo 79 = .ok (.if_icmp .ge 29, 3) := by decide +kernel
theorem dX7_throwTo_82 : decode cX7_throwTo 82 = .ok (.aload_n 0, 1) := by decide +kernel
theorem dX7_throwTo_83 : decode cX7_throwTo 83 = .ok (.getfield 44, 3) := by decide +kernel
theorem dX7_throwTo_86 : decode cX7_throwTo 86 = .ok (.iconst 4, 1) := by decide +kernel
theorem dX7_throwTo_87 : decode cX7_throwTo 87 = .ok (.iload_n 3, 1) := by decide +kernel
theorem dX7_throwTo_88 : decode cX7_throwTo 88 = .ok (.imul, 1) := by decide +kernel
theorem dX7_throwTo_89 : decode cX7_throwTo 89 = .ok (.aload_n 0, 1) := by decide +kernel
theorem dX7_throwTo_90 : decode cX7_throwTo 90 = .ok (.getfield 41, 3) := by decide +kernel
theorem dX7_throwTo_93 : decode cX7_throwTo 93 = .ok (.iload_n 3, 1) := by decide +kernel
theorem dX7_throwTo_94 : decode cX7_throwTo 94 = .ok (.iaload, 1) := by decide +kernel
theorem dX7_throwTo_95 : decode cX7_throwTo 95 = .ok (.iadd, 1) := by decide +kernel
theorem dX7_throwTo_96 : decode cX7_throwTo 96 = .ok (.iload_n 2, 1) := by decide +kernel
theorem dX7_throwTo_97 : decode cX7_throwTo 97 = .ok (.iastore, 1) := by decide +kernel
theorem dX7_throwTo_98 : decode cX7_throwTo 98 = .ok (.aload_n 0, 1) := by decide +kernel
theorem dX7_throwTo_99 : decode cX7_throwTo 99 = .ok (.getfield 41, 3) := by decide +kernel
theorem dX7_throwTo_102 : decode cX7_throwTo 102 = .ok (.iload_n 3, 1) := by decide +kernel
theorem dX7_throwTo_103 : decode cX7_throwTo 103 = .ok (.dup2, 1) := by decide +kernel
theorem dX7_throwTo_104 : decode cX7_throwTo 104 = .ok (.iaload, 1) := by decide +kernel
theorem dX7_throwTo_105 : decode cX7_throwTo 105 = .ok (.iconst 1, 1) := by decide +kernel
theorem dX7_throwTo_106 : decode cX7_throwTo 106 = .ok (.iadd, 1) := by decide +kernel
theorem dX7_throwTo_107 : decode cX7_throwTo 107 = .ok (.iastore, 1) := by decide +kernel
theorem dX7_throwTo_108 : decode cX7_throwTo 108 = .ok (.return_, 1) := by decide +kernel
theorem dX7_doAct_0 : decode cX7_doAct 0 = .ok (.bipush 20, 2) := by decide +kernel
theorem dX7_doAct_2 : decode cX7_doAct 2 = .ok (.aload_n 0, 1) := by decide +kernel
theorem dX7_doAct_3 : decode cX7_doAct 3 = .ok (.getfield 22, 3) := by decide +kernel
theorem dX7_doAct_6 : decode cX7_doAct 6 = .ok (.iload_n 1, 1) := by decide +kernel
theorem dX7_doAct_7 : decode cX7_doAct 7 = .ok (.iaload, 1) := by decide +kernel
theorem dX7_doAct_8 : decode cX7_doAct 8 = .ok (.imul, 1) := by decide +kernel
theorem dX7_doAct_9 : decode cX7_doAct 9 = .ok (.aload_n 0, 1) := by decide +kernel
theorem dX7_doAct_10 : decode cX7_doAct 10 = .ok (.getfield 25, 3) := by decide +kernel
theorem dX7_doAct_13 : decode cX7_doAct 13 = .ok (.iload_n 1, 1) := by decide +kernel
theorem dX7_doAct_14 : decode cX7_doAct 14 = .ok (.iaload, 1) := by decide +kernel
theorem dX7_doAct_15 : decode cX7_doAct 15 = .ok (.iadd, 1) := by decide +kernel
theorem dX7_doAct_16 : decode cX7_doAct 16 = .ok (.istore_n 2, 1) := by decide +kernel
theorem dX7_doAct_17 : decode cX7_doAct 17 = .ok (.aload_n 0, 1) := by decide +kernel
theorem dX7_doAct_18 : decode cX7_doAct 18 = .ok (.getfield 16, 3) := by decide +kernel
theorem dX7_doAct_21 : decode cX7_doAct 21 = .ok (.iload_n 2, 1) := by decide +kernel
theorem dX7_doAct_22 : decode cX7_doAct 22 = .ok (.iaload, 1) := by decide +kernel
theorem dX7_doAct_23 : decode cX7_doAct 23 = .ok (.istore_n 3, 1) := by decide +kernel
theorem dX7_doAct_24 : decode cX7_doAct 24 = .ok (.aload_n 0, 1) := by decide +kernel
theorem dX7_doAct_25 : decode cX7_doAct 25 = .ok (.getfield 13, 3) := by decide +kernel
theorem dX7_doAct_28 : decode cX7_doAct 28 = .ok (.iload_n 2, 1) := by decide +kernel
theorem dX7_doAct_29 : decode cX7_doAct 29 = .ok (.iaload, 1) := by decide +kernel
theorem dX7_doAct_30 : decode cX7_doAct 30 = .ok (.tableswitch 214 0 9 #[54, 93, 138, 214, 214, 214, 214, 214, 178, 186], 54) := by decide +kernel
theorem dX7_doAct_84 : decode cX7_doAct 84 = .ok (.aload_n 0, 1) := by decide +kernel
theorem dX7_doAct_85 : decode cX7_doAct 85 = .ok (.getfield 68, 3) := by decide +kernel
theorem dX7_doAct_88 : decode cX7_doAct 88 = .ok (.iload_n 3, 1) := by decide +kernel
theorem dX7_doAct_89 : decode cX7_doAct 89 = .ok (.baload, 1) := by decide +kernel
theorem dX7_doAct_90 : decode cX7_doAct 90 = .ok (.ifCond .eq 11, 3) := by decide +kernel
theorem dX7_doAct_93 : decode cX7_doAct 93 = .ok (.aload_n 0, 1) := by decide +kernel
theorem dX7_doAct_94 : decode cX7_doAct 94 = .ok (.iload_n 1, 1) := by decide +kernel
theorem dX7_doAct_95 : decode cX7_doAct 95 = .ok (.iload_n 3, 1) := by decide +kernel
theorem dX7_doAct_96 : decode cX7_doAct 96 = .ok (.iconst 1, 1) := by decide +kernel
theorem dX7_doAct_97 : decode cX7_doAct 97 = .ok (.invokevirtual 153, 3) := by decide +kernel
theorem dX7_doAct_100 : decode cX7_doAct 100 = .ok (.return_, 1) := by decide +kernel
theorem dX7_doAct_101 : decode cX7_doAct 101 = .ok (.aload_n 0, 1) := by decide +kernel
theorem dX7_doAct_102 : decode cX7_doAct 102 = .ok (.getfield 25, 3) := by decide +kernel
theorem dX7_doAct_105 : decode cX7_doAct 105 = .ok (.iload_n 1, 1) := by decide +kernel
theorem dX7_doAct_106 : decode cX7_doAct 106 = .ok (.dup2, 1) := by decide +kernel
theorem dX7_doAct_107 : decode cX7_doAct 107 = .ok (.iaload, 1) := by decide +kernel
theorem dX7_doAct_108 : decode cX7_doAct 108 = .ok (.iconst 1, 1) := by decide +kernel
theorem dX7_doAct_109 : decode cX7_doAct 109 = .ok (.iadd, 1) := by decide +kernel
theorem dX7_doAct_110 : decode cX7_doAct 110 = .ok (.iastore, 1) := by decide +kernel
theorem dX7_doAct_111 : decode cX7_doAct 111 = .ok (.aload_n 0, 1) := by decide +kernel
theorem dX7_doAct_112 : decode cX7_doAct 112 = .ok (.iload_n 3, 1) := by decide +kernel
theorem dX7_doAct_113 : decode cX7_doAct 113 = .ok (.aload_n 0, 1) := by decide +kernel
theorem dX7_doAct_114 : decode cX7_doAct 114 = .ok (.getfield 28, 3) := by decide +kernel
theorem dX7_doAct_117 : decode cX7_doAct 117 = .ok (.iload_n 1, 1) := by decide +kernel
theorem dX7_doAct_118 : decode cX7_doAct 118 = .ok (.iaload, 1) := by decide +kernel
theorem dX7_doAct_119 : decode cX7_doAct 119 = .ok (.invokevirtual 137, 3) := by decide +kernel
theorem dX7_doAct_122 : decode cX7_doAct 122 = .ok (.return_, 1) := by decide +kernel
theorem dX7_doAct_123 : decode cX7_doAct 123 = .ok (.aload_n 0, 1) := by decide +kernel
theorem dX7_doAct_124 : decode cX7_doAct 124 = .ok (.getfield 68, 3) := by decide +kernel
theorem dX7_doAct_127 : decode cX7_doAct 127 = .ok (.iload_n 3, 1) := by decide +kernel
theorem dX7_doAct_128 : decode cX7_doAct 128 = .ok (.baload, 1) := by decide +kernel
theorem dX7_doAct_129 : decode cX7_doAct 129 = .ok (.ifCond .ne 11, 3) := by decide +kernel
theorem dX7_doAct_132 : decode cX7_doAct 132 = .ok (.aload_n 0, 1) := by decide +kernel
theorem dX7_doAct_133 : decode cX7_doAct 133 = .ok (.iload_n 1, 1) := by decide +kernel
theorem dX7_doAct_134 : decode cX7_doAct 134 = .ok (.iload_n 3, 1) := by decide +kernel
theorem dX7_doAct_135 : decode cX7_doAct 135 = .ok (.iconst 2, 1) := by decide +kernel
theorem dX7_doAct_136 : decode cX7_doAct 136 = .ok (.invokevirtual 153, 3) := by decide +kernel
theorem dX7_doAct_139 : decode cX7_doAct 139 = .ok (.return_, 1) := by decide +kernel
theorem dX7_doAct_140 : decode cX7_doAct 140 = .ok (.aload_n 0, 1) := by decide +kernel
theorem dX7_doAct_141 : decode cX7_doAct 141 = .ok (.getfield 25, 3) := by decide +kernel
theorem dX7_doAct_144 : decode cX7_doAct 144 = .ok (.iload_n 1, 1) := by decide +kernel
theorem dX7_doAct_145 : decode cX7_doAct 145 = .ok (.dup2, 1) := by decide +kernel
theorem dX7_doAct_146 : decode cX7_doAct 146 = .ok (.iaload, 1) := by decide +kernel
theorem dX7_doAct_147 : decode cX7_doAct 147 = .ok (.iconst 1, 1) := by decide +kernel
theorem dX7_doAct_148 : decode cX7_doAct 148 = .ok (.iadd, 1) := by decide +kernel
theorem dX7_doAct_149 : decode cX7_doAct 149 = .ok (.iastore, 1) := by decide +kernel
theorem dX7_doAct_150 : decode cX7_doAct 150 = .ok (.aload_n 0, 1) := by decide +kernel
theorem dX7_doAct_151 : decode cX7_doAct 151 = .ok (.getfield 28, 3) := by decide +kernel
theorem dX7_doAct_154 : decode cX7_doAct 154 = .ok (.iload_n 1, 1) := by decide +kernel
theorem dX7_doAct_155 : decode cX7_doAct 155 = .ok (.aload_n 0, 1) := by decide +kernel
theorem dX7_doAct_156 : decode cX7_doAct 156 = .ok (.getfield 65, 3) := by decide +kernel
theorem dX7_doAct_159 : decode cX7_doAct 159 = .ok (.iload_n 3, 1) := by decide +kernel
theorem dX7_doAct_160 : decode cX7_doAct 160 = .ok (.iaload, 1) := by decide +kernel
theorem dX7_doAct_161 : decode cX7_doAct 161 = .ok (.iastore, 1) := by decide +kernel
theorem dX7_doAct_162 : decode cX7_doAct 162 = .ok (.aload_n 0, 1) := by decide +kernel
theorem dX7_doAct_163 : decode cX7_doAct 163 = .ok (.iload_n 3, 1) := by decide +kernel
theorem dX7_doAct_164 : decode cX7_doAct 164 = .ok (.invokevirtual 157, 3) := by decide +kernel
theorem dX7_doAct_167 : decode cX7_doAct 167 = .ok (.return_, 1) := by decide +kernel
theorem dX7_doAct_168 : decode cX7_doAct 168 = .ok (.aload_n 0, 1) := by decide +kernel
theorem dX7_doAct_169 : decode cX7_doAct 169 = .ok (.getfield 68, 3) := by decide +kernel
theorem dX7_doAct_172 : decode cX7_doAct 172 = .ok (.iload_n 3, 1) := by decide +kernel
theorem dX7_doAct_173 : decode cX7_doAct 173 = .ok (.baload, 1) := by decide +kernel
theorem dX7_doAct_174 : decode cX7_doAct 174 = .ok (.ifCond .ne 11, 3) := by decide +kernel
theorem dX7_doAct_177 : decode cX7_doAct 177 = .ok (.aload_n 0, 1) := by decide +kernel
theorem dX7_doAct_178 : decode cX7_doAct 178 = .ok (.iload_n 1, 1) := by decide +kernel
theorem dX7_doAct_179 : decode cX7_doAct 179 = .ok (.iload_n 3, 1) := by decide +kernel
theorem dX7_doAct_180 : decode cX7_doAct 180 = .ok (.iconst 3, 1) := by decide +kernel
theorem dX7_doAct_181 : decode cX7_doAct 181 = .ok (.invokevirtual 153, 3) := by decide +kernel
theorem dX7_doAct_184 : decode cX7_doAct 184 = .ok (.return_, 1) := by decide +kernel
theorem dX7_doAct_185 : decode cX7_doAct 185 = .ok (.aload_n 0, 1) := by decide +kernel
theorem dX7_doAct_186 : decode cX7_doAct 186 = .ok (.getfield 25, 3) := by decide +kernel
theorem dX7_doAct_189 : decode cX7_doAct 189 = .ok (.iload_n 1, 1) := by decide +kernel
theorem dX7_doAct_190 : decode cX7_doAct 190 = .ok (.dup2, 1) := by decide +kernel
theorem dX7_doAct_191 : decode cX7_doAct 191 = .ok (.iaload, 1) := by decide +kernel
theorem dX7_doAct_192 : decode cX7_doAct 192 = .ok (.iconst 1, 1) := by decide +kernel
theorem dX7_doAct_193 : decode cX7_doAct 193 = .ok (.iadd, 1) := by decide +kernel
theorem dX7_doAct_194 : decode cX7_doAct 194 = .ok (.iastore, 1) := by decide +kernel
theorem dX7_doAct_195 : decode cX7_doAct 195 = .ok (.aload_n 0, 1) := by decide +kernel
theorem dX7_doAct_196 : decode cX7_doAct 196 = .ok (.getfield 28, 3) := by decide +kernel
theorem dX7_doAct_199 : decode cX7_doAct 199 = .ok (.iload_n 1, 1) := by decide +kernel
theorem dX7_doAct_200 : decode cX7_doAct 200 = .ok (.aload_n 0, 1) := by decide +kernel
theorem dX7_doAct_201 : decode cX7_doAct 201 = .ok (.getfield 65, 3) := by decide +kernel
theorem dX7_doAct_204 : decode cX7_doAct 204 = .ok (.iload_n 3, 1) := by decide +kernel
theorem dX7_doAct_205 : decode cX7_doAct 205 = .ok (.iaload, 1) := by decide +kernel
theorem dX7_doAct_206 : decode cX7_doAct 206 = .ok (.iastore, 1) := by decide +kernel
theorem dX7_doAct_207 : decode cX7_doAct 207 = .ok (.return_, 1) := by decide +kernel
theorem dX7_doAct_208 : decode cX7_doAct 208 = .ok (.aload_n 0, 1) := by decide +kernel
theorem dX7_doAct_209 : decode cX7_doAct 209 = .ok (.getfield 25, 3) := by decide +kernel
theorem dX7_doAct_212 : decode cX7_doAct 212 = .ok (.iload_n 1, 1) := by decide +kernel
theorem dX7_doAct_213 : decode cX7_doAct 213 = .ok (.iload_n 3, 1) := by decide +kernel
theorem dX7_doAct_214 : decode cX7_doAct 214 = .ok (.iastore, 1) := by decide +kernel
theorem dX7_doAct_215 : decode cX7_doAct 215 = .ok (.return_, 1) := by decide +kernel
theorem dX7_doAct_216 : decode cX7_doAct 216 = .ok (.aload_n 0, 1) := by decide +kernel
theorem dX7_doAct_217 : decode cX7_doAct 217 = .ok (.getfield 25, 3) := by decide +kernel
theorem dX7_doAct_220 : decode cX7_doAct 220 = .ok (.iload_n 1, 1) := by decide +kernel
theorem dX7_doAct_221 : decode cX7_doAct 221 = .ok (.aload_n 0, 1) := by decide +kernel
theorem dX7_doAct_222 : decode cX7_doAct 222 = .ok (.getfield 28, 3) := by decide +kernel
theorem dX7_doAct_225 : decode cX7_doAct 225 = .ok (.iload_n 1, 1) := by decide +kernel
theorem dX7_doAct_226 : decode cX7_doAct 226 = .ok (.iaload, 1) := by decide +kernel
theorem dX7_doAct_227 : decode cX7_doAct 227 = .ok (.ifCond .ne 7, 3) := by decide +kernel
theorem dX7_doAct_230 : decode cX7_doAct 230 = .ok (.iload_n 3, 1) := by decide +kernel
theorem dX7_doAct_231 : decode cX7_doAct 231 = .ok (.goto 11, 3) := by decide +kernel
theorem dX7_doAct_234 : decode cX7_doAct 234 = .ok (.aload_n 0, 1) := by decide +kernel
theorem dX7_doAct_235 : decode cX7_doAct 235 = .ok (.getfield 25, 3) := by decide +kernel
theorem dX7_doAct_238 : decode cX7_doAct 238 = .ok (.iload_n 1, 1) := by decide +kernel
theorem dX7_doAct_239 : decode cX7_doAct 239 = .ok (.iaload, 1) := by decide +kernel
theorem dX7_doAct_240 : decode cX7_doAct 240 = .ok (.iconst 1, 1) := by decide +kernel
theorem dX7_doAct_241 : decode cX7_doAct 241 = .ok (.iadd, 1) := by decide +kernel
theorem dX7_doAct_242 : decode cX7_doAct 242 = .ok (.iastore, 1) := by decide +kernel
theorem dX7_doAct_243 : decode cX7_doAct 243 = .ok (.return_, 1) := by decide +kernel
theorem dX7_doAct_244 : decode cX7_doAct 244 = .ok (.aload_n 0, 1) := by decide +kernel
theorem dX7_doAct_245 : decode cX7_doAct 245 = .ok (.getfield 25, 3) := by decide +kernel
theorem dX7_doAct_248 : decode cX7_doAct 248 = .ok (.iload_n 1, 1) := by decide +kernel
theorem dX7_doAct_249 : decode cX7_doAct 249 = .ok (.dup2, 1) := by decide +kernel
theorem dX7_doAct_250 : decode cX7_doAct 250 = .ok (.iaload, 1) := by decide +kernel
theorem dX7_doAct_251 : decode cX7_doAct 251 = .ok (.iconst 1, 1) := by decide +kernel
theorem dX7_doAct_252 : decode cX7_doAct 252 = .ok (.iadd, 1) := by decide +kernel
theorem dX7_doAct_253 : decode cX7_doAct 253 = .ok (.iastore, 1) := by decide +kernel
theorem dX7_doAct_254 : decode cX7_doAct 254 = .ok (.aload_n 0, 1) := by decide +kernel
theorem dX7_doAct_255 : decode cX7_doAct 255 = .ok (.iload_n 1, 1) := by decide +kernel
theorem dX7_doAct_256 : decode cX7_doAct 256 = .ok (.aload_n 0, 1) := by decide +kernel
theorem dX7_doAct_257 : decode cX7_doAct 257 = .ok (.getfield 13, 3) := by decide +kernel
theorem dX7_doAct_260 : decode cX7_doAct 260 = .ok (.iload_n 2, 1) := by decide +kernel
theorem dX7_doAct_261 : decode cX7_doAct 261 = .ok (.iaload, 1) := by decide +kernel
theorem dX7_doAct_262 : decode cX7_doAct 262 = .ok (.iload_n 3, 1) := by decide +kernel
theorem dX7_doAct_263 : decode cX7_doAct 263 = .ok (.invokevirtual 160, 3) := by decide +kernel
theorem dX7_doAct_266 : decode cX7_doAct 266 = .ok (.return_, 1) := by decide +kernel
theorem dX7_doOther_0 : decode cX7_doOther 0 = .ok (.iload_n 2, 1) := by decide +kernel
theorem dX7_doOther_1 : decode cX7_doOther 1 = .ok (.tableswitch 359 3 15 #[67, 77, 90, 131, 139, 359, 359, 178, 225, 234, 243, 282, 308], 67) := by decide +kernel
theorem dX7_doOther_68 : decode cX7_doOther 68 = .ok (.aload_n 0, 1) := by decide +kernel
theorem dX7_doOther_69 : decode cX7_doOther 69 = .ok (.getfield 28, 3) := by decide +kernel
theorem dX7_doOther_72 : decode cX7_doOther 72 = .ok (.iload_n 1, 1) := by decide +kernel
theorem dX7_doOther_73 : decode cX7_doOther 73 = .ok (.iload_n 3, 1) := by decide +kernel
theorem dX7_doOther_74 : decode cX7_doOther 74 = .ok (.iastore, 1) := by decide +kernel
theorem dX7_doOther_75 : decode cX7_doOther 75 = .ok (.goto 292, 3) := by decide +kernel
theorem dX7_doOther_78 : decode cX7_doOther 78 = .ok (.aload_n 0, 1) := by decide +kernel
theorem dX7_doOther_79 : decode cX7_doOther 79 = .ok (.getfield 28, 3) := by decide +kernel
theorem dX7_doOther_82 : decode cX7_doOther 82 = .ok (.iload_n 1, 1) := by decide +kernel
theorem dX7_doOther_83 : decode cX7_doOther 83 = .ok (.dup2, 1) := by decide +kernel
theorem dX7_doOther_84 : decode cX7_doOther 84 = .ok (.iaload, 1) := by decide +kernel
theorem dX7_doOther_85 : decode cX7_doOther 85 = .ok (.iload_n 3, 1) := by decide +kernel
theorem dX7_doOther_86 : decode cX7_doOther 86 = .ok (.iadd, 1) := by decide +kernel
theorem dX7_doOther_87 : decode cX7_doOther 87 = .ok (.iastore, 1) := by decide +kernel
theorem dX7_doOther_88 : decode cX7_doOther 88 = .ok (.goto 279, 3) := by decide +kernel
theorem dX7_doOther_91 : decode cX7_doOther 91 = .ok (.aload_n 0, 1) := by decide +kernel
theorem dX7_doOther_92 : decode cX7_doOther 92 = .ok (.getfield 28, 3) := by decide +kernel
theorem dX7_doOther_95 : decode cX7_doOther 95 = .ok (.iload_n 1, 1) := by decide +kernel
theorem dX7_doOther_96 : decode cX7_doOther 96 = .ok (.aload_n 0, 1) := by decide +kernel
theorem dX7_doOther_97 : decode cX7_doOther 97 = .ok (.getfield 92, 3) := by decide +kernel
theorem dX7_doOther_100 : decode cX7_doOther 100 = .ok (.bipush 24, 2) := by decide +kernel
theorem dX7_doOther_102 : decode cX7_doOther 102 = .ok (.if_icmp .eq 11, 3) := by decide +kernel
theorem dX7_doOther_105 : decode cX7_doOther 105 = .ok (.iload_n 3, 1) := by decide +kernel
theorem dX7_doOther_106 : decode cX7_doOther 106 = .ok (.aload_n 0, 1) := by decide +kernel
theorem dX7_doOther_107 : decode cX7_doOther 107 = .ok (.getfield 81, 3) := by decide +kernel
theorem dX7_doOther_110 : decode cX7_doOther 110 = .ok (.if_icmp .lt 7, 3) := by decide +kernel
theorem dX7_doOther_113 : decode cX7_doOther 113 = .ok (.iconst (-1), 1) := by decide +kernel
theorem dX7_doOther_114 : decode cX7_doOther 114 = .ok (.goto 14, 3) := by decide +kernel
theorem dX7_doOther_117 : decode cX7_doOther 117 = .ok (.aload_n 0, 1) := by decide +kernel
theorem dX7_doOther_118 : decode cX7_doOther 118 = .ok (.iload_n 3, 1) := by decide +kernel
theorem dX7_doOther_119 : decode cX7_doOther 119 = .ok (.aload_n 0, 1) := by decide +kernel
theorem dX7_doOther_120 : decode cX7_doOther 120 = .ok (.getfield 28, 3) := by decide +kernel
theorem dX7_doOther_123 : decode cX7_doOther 123 = .ok (.iload_n 1, 1) := by decide +kernel
theorem dX7_doOther_124 : decode cX7_doOther 124 = .ok (.iaload, 1) := by decide +kernel
theorem dX7_doOther_125 : decode cX7_doOther 125 = .ok (.invokevirtual 127, 3) := by decide +kernel
theorem dX7_doOther_128 : decode cX7_doOther 128 = .ok (.iastore, 1) := by decide +kernel
theorem dX7_doOther_129 : decode cX7_doOther 129 = .ok (.goto 238, 3) := by decide +kernel
theorem dX7_doOther_132 : decode cX7_doOther 132 = .ok (.aload_n 0, 1) := by decide +kernel
theorem dX7_doOther_133 : decode cX7_doOther 133 = .ok (.iconst 1, 1) := by decide +kernel
theorem dX7_doOther_134 : decode cX7_doOther 134 = .ok (.putfield 163, 3) := by decide +kernel
theorem dX7_doOther_137 : decode cX7_doOther 137 = .ok (.goto 230, 3) := by decide +kernel
theorem dX7_doOther_140 : decode cX7_doOther 140 = .ok (.aload_n 0, 1) := by decide +kernel
theorem dX7_doOther_141 : decode cX7_doOther 141 = .ok (.getfield 41, 3) := by decide +kernel
theorem dX7_doOther_144 : decode cX7_doOther 144 = .ok (.iload_n 1, 1) := by decide +kernel
theorem dX7_doOther_145 : decode cX7_doOther 145 = .ok (.iaload, 1) := by decide +kernel
theorem dX7_doOther_146 : decode cX7_doOther 146 = .ok (.ifCond .le 11, 3) := by decide +kernel
theorem dX7_doOther_149 : decode cX7_doOther 149 = .ok (.aload_n 0, 1) := by decide +kernel
theorem dX7_doOther_150 : decode cX7_doOther 150 = .ok (.iload_n 1, 1) := by decide +kernel
theorem dX7_doOther_151 : decode cX7_doOther 151 = .ok (.invokevirtual 150, 3) := by decide +kernel
theorem dX7_doOther_154 : decode cX7_doOther 154 = .ok (.goto 213, 3) := by decide +kernel
theorem dX7_doOther_157 : decode cX7_doOther 157 = .ok (.aload_n 0, 1) := by decide +kernel
theorem dX7_doOther_158 : decode cX7_doOther 158 = .ok (.getfield 19, 3) := by decide +kernel
theorem dX7_doOther_161 : decode cX7_doOther 161 = .ok (.iload_n 1, 1) := by decide +kernel
theorem dX7_doOther_162 : decode cX7_doOther 162 = .ok (.iconst 4, 1) := by decide +kernel
theorem dX7_doOther_163 : decode cX7_doOther 163 = .ok (.iastore, 1) := by decide +kernel
theorem dX7_doOther_164 : decode cX7_doOther 164 = .ok (.aload_n 0, 1) := by decide +kernel
theorem dX7_doOther_165 : decode cX7_doOther 165 = .ok (.getfield 53, 3) := by decide +kernel
theorem dX7_doOther_168 : decode cX7_doOther 168 = .ok (.iload_n 1, 1) := by decide +kernel
theorem dX7_doOther_169 : decode cX7_doOther 169 = .ok (.aload_n 0, 1) := by decide +kernel
theorem dX7_doOther_170 : decode cX7_doOther 170 = .ok (.getfield 112, 3) := by decide +kernel
theorem dX7_doOther_173 : decode cX7_doOther 173 = .ok (.iload_n 3, 1) := by decide +kernel
theorem dX7_doOther_174 : decode cX7_doOther 174 = .ok (.iadd, 1) := by decide +kernel
theorem dX7_doOther_175 : decode cX7_doOther 175 = .ok (.iastore, 1) := by decide +kernel
theorem dX7_doOther_176 : decode cX7_doOther 176 = .ok (.goto 191, 3) := by decide +kernel
theorem dX7_doOther_179 : decode cX7_doOther 179 = .ok (.aload_n 0, 1) := by decide +kernel
theorem dX7_doOther_180 : decode cX7_doOther 180 = .ok (.getfield 121, 3) := by decide +kernel
theorem dX7_doOther_183 : decode cX7_doOther 183 = .ok (.bipush 100, 2) := by decide +kernel
theorem dX7_doOther_185 : decode cX7_doOther 185 = .ok (.if_icmp .ge 182, 3) := by decide +kernel
theorem dX7_doOther_188 : decode cX7_doOther 188 = .ok (.aload_n 0, 1) := by decide +kernel
theorem dX7_doOther_189 : decode cX7_doOther 189 = .ok (.getfield 71, 3) := by decide +kernel
theorem dX7_doOther_192 : decode cX7_doOther 192 = .ok (.aload_n 0, 1) := by decide +kernel
theorem dX7_doOther_193 : decode cX7_doOther 193 = .ok (.getfield 121, 3) := by decide +kernel
theorem dX7_doOther_196 : decode cX7_doOther 196 = .ok (.iload_n 1, 1) := by decide +kernel
theorem dX7_doOther_197 : decode cX7_doOther 197 = .ok (.iastore, 1) := by decide +kernel
theorem dX7_doOther_198 : decode cX7_doOther 198 = .ok (.aload_n 0, 1) := by decide +kernel
theorem dX7_doOther_199 : decode cX7_doOther 199 = .ok (.getfield 74, 3) := by decide +kernel
theorem dX7_doOther_202 : decode cX7_doOther 202 = .ok (.aload_n 0, 1) := by decide +kernel
theorem dX7_doOther_203 : decode cX7_doOther 203 = .ok (.getfield 121, 3) := by decide +kernel
theorem dX7_doOther_206 : decode cX7_doOther 206 = .ok (.aload_n 0, 1) := by decide +kernel
theorem dX7_doOther_207 : decode cX7_doOther 207 = .ok (.getfield 28, 3) := by decide +kernel
theorem dX7_doOther_210 : decode cX7_doOther 210 = .ok (.iload_n 1, 1) := by decide +kernel
theorem dX7_doOther_211 : decode cX7_doOther 211 = .ok (.iaload, 1) := by decide +kernel
theorem dX7_doOther_212 : decode cX7_doOther 212 = .ok (.iastore, 1) := by decide +kernel
theorem dX7_doOther_213 : decode cX7_doOther 213 = .ok (.aload_n 0, 1) := by decide +kernel
theorem dX7_doOther_214 : decode cX7_doOther 214 = .ok (.dup, 1) := by decide +kernel
theorem dX7_doOther_215 : decode cX7_doOther 215 = .ok (.getfield 121, 3) := by decide +kernel
theorem dX7_doOther_218 : decode cX7_doOther 218 = .ok (.iconst 1, 1) := by decide +kernel
theorem dX7_doOther_219 : decode cX7_doOther 219 = .ok (.iadd, 1) := by decide +kernel
theorem dX7_doOther_220 : decode cX7_doOther 220 = .ok (.putfield 121, 3) := by decide +kernel
theorem dX7_doOther_223 : decode cX7_doOther 223 = .ok (.goto 144, 3) := by decide +kernel
theorem dX7_doOther_226 : decode cX7_doOther 226 = .ok (.aload_n 0, 1) := by decide +kernel
theorem dX7_doOther_227 : decode cX7_doOther 227 = .ok (.iload_n 1, 1) := by decide +kernel
theorem dX7_doOther_228 : decode cX7_doOther 228 = .ok (.iload_n 3, 1) := by decide +kernel
theorem dX7_doOther_229 : decode cX7_doOther 229 = .ok (.invokevirtual 147, 3) := by decide +kernel
theorem dX7_doOther_232 : decode cX7_doOther 232 = .ok (.goto 135, 3) := by decide +kernel
theorem dX7_doOther_235 : decode cX7_doOther 235 = .ok (.aload_n 0, 1) := by decide +kernel
theorem dX7_doOther_236 : decode cX7_doOther 236 = .ok (.iload_n 1, 1) := by decide +kernel
theorem dX7_doOther_237 : decode cX7_doOther 237 = .ok (.iload_n 3, 1) := by decide +kernel
theorem dX7_doOther_238 : decode cX7_doOther 238 = .ok (.invokevirtual 166, 3) := by decide +kernel
theorem dX7_doOther_241 : decode cX7_doOther 241 = .ok (.goto 126, 3) := by decide +kernel
theorem dX7_doOther_244 : decode cX7_doOther 244 = .ok (.aload_n 0, 1) := by decide +kernel
theorem dX7_doOther_245 : decode cX7_doOther 245 = .ok (.getfield 31, 3) := by decide +kernel
theorem dX7_doOther_248 : decode cX7_doOther 248 = .ok (.iload_n 1, 1) := by decide +kernel
theorem dX7_doOther_249 : decode cX7_doOther 249 = .ok (.iaload, 1) := by decide +kernel
theorem dX7_doOther_250 : decode cX7_doOther 250 = .ok (.iconst 4, 1) := by decide +kernel
theorem dX7_doOther_251 : decode cX7_doOther 251 = .ok (.if_icmp .ge 116, 3) := by decide +kernel
theorem dX7_doOther_254 : decode cX7_doOther 254 = .ok (.aload_n 0, 1) := by decide +kernel
theorem dX7_doOther_255 : decode cX7_doOther 255 = .ok (.getfield 34, 3) := by decide +kernel
theorem dX7_doOther_258 : decode cX7_doOther 258 = .ok (.iconst 4, 1) := by decide +kernel
theorem dX7_doOther_259 : decode cX7_doOther 259 = .ok (.iload_n 1, 1) := by decide +kernel
theorem dX7_doOther_260 : decode cX7_doOther 260 = .ok (.imul, 1) := by decide +kernel
theorem dX7_doOther_261 : decode cX7_doOther 261 = .ok (.aload_n 0, 1) := by decide +kernel
theorem dX7_doOther_262 : decode cX7_doOther 262 = .ok (.getfield 31, 3) := by decide +kernel
theorem dX7_doOther_265 : decode cX7_doOther 265 = .ok (.iload_n 1, 1) := by decide +kernel
theorem dX7_doOther_266 : decode cX7_doOther 266 = .ok (.iaload, 1) := by decide +kernel
theorem dX7_doOther_267 : decode cX7_doOther 267 = .ok (.iadd, 1) := by decide +kernel
theorem dX7_doOther_268 : decode cX7_doOther 268 = .ok (.iload_n 3, 1) := by decide +kernel
theorem dX7_doOther_269 : decode cX7_doOther 269 = .ok (.iastore, 1) := by decide +kernel
theorem dX7_doOther_270 : decode cX7_doOther 270 = .ok (.aload_n 0, 1) := by decide +kernel
theorem dX7_doOther_271 : decode cX7_doOther 271 = .ok (.getfield 31, 3) := by decide +kernel
theorem dX7_doOther_274 : decode cX7_doOther 274 = .ok (.iload_n 1, 1) := by decide +kernel
theorem dX7_doOther_275 : decode cX7_doOther 275 = .ok (.dup2, 1) := by decide +kernel
theorem dX7_doOther_276 : decode cX7_doOther 276 = .ok (.iaload, 1) := by decide +kernel
theorem dX7_doOther_277 : decode cX7_doOther 277 = .ok (.iconst 1, 1) := by decide +kernel
theorem dX7_doOther_278 : decode cX7_doOther 278 = .ok (.iadd, 1) := by decide +kernel
theorem dX7_doOther_279 : decode cX7_doOther 279 = .ok (.iastore, 1) := by decide +kernel
theorem dX7_doOther_280 : decode cX7_doOther 280 = .ok (.goto 87, 3) := by decide +kernel
theorem dX7_doOther_283 : decode cX7_doOther 283 = .ok (.aload_n 0, 1) := by decide +kernel
theorem dX7_doOther_284 : decode cX7_doOther 284 = .ok (.getfield 31, 3) := by decide +kernel
theorem dX7_doOther_287 : decode cX7_doOther 287 = .ok (.iload_n 1, 1) := by decide +kernel
theorem dX7_doOther_288 : decode cX7_doOther 288 = .ok (.dup2, 1) := by decide +kernel
theorem dX7_doOther_289 : decode cX7_doOther 289 = .ok (.iaload, 1) := by decide +kernel
theorem dX7_doOther_290 : decode cX7_doOther 290 = .ok (.aload_n 0, 1) := by decide +kernel
theorem dX7_doOther_291 : decode cX7_doOther 291 = .ok (.getfield 31, 3) := by decide +kernel
theorem dX7_doOther_294 : decode cX7_doOther 294 = .ok (.iload_n 1, 1) := by decide +kernel
theorem dX7_doOther_295 : decode cX7_doOther 295 = .ok (.iaload, 1) := by decide +kernel
theorem dX7_doOther_296 : decode cX7_doOther 296 = .ok (.ifCond .le 7, 3) := by decide +kernel
theorem dX7_doOther_299 : decode cX7_doOther 299 = .ok (.iconst 1, 1) := by decide +kernel
theorem dX7_doOther_300 : decode cX7_doOther 300 = .ok (.goto 4, 3) := by decide +kernel
theorem dX7_doOther_303 : decode cX7_doOther 303 = .ok (.iconst 0, 1) := by decide +kernel
theorem dX7_doOther_304 : decode cX7_doOther 304 = .ok (.isub, 1) := by decide +kernel
theorem dX7_doOther_305 : decode cX7_doOther 305 = .ok (.iastore, 1) := by decide +kernel
theorem dX7_doOther_306 : decode cX7_doOther 306 = .ok (.goto 61, 3) := by decide +kernel
theorem dX7_doOther_309 : decode cX7_doOther 309 = .ok (.aload_n 0, 1) := by decide +kernel
theorem dX7_doOther_310 : decode cX7_doOther 310 = .ok (.getfield 37, 3) := by decide +kernel
theorem dX7_doOther_313 : decode cX7_doOther 313 = .ok (.iload_n 1, 1) := by decide +kernel
theorem dX7_doOther_314 : decode cX7_doOther 314 = .ok (.iload_n 3, 1) := by decide +kernel
theorem dX7_doOther_315 : decode cX7_doOther 315 = .ok (.iconst 1, 1) := by decide +kernel
theorem dX7_doOther_316 : decode cX7_doOther 316 = .ok (.if_icmp .ne 7, 3) := by decide +kernel
theorem dX7_doOther_319 : decode cX7_doOther 319 = .ok (.iconst 1, 1) := by decide +kernel
theorem dX7_doOther_320 : decode cX7_doOther 320 = .ok (.goto 4, 3) := by decide +kernel
theorem dX7_doOther_323 : decode cX7_doOther 323 = .ok (.iconst 0, 1) := by decide +kernel
theorem dX7_doOther_324 : decode cX7_doOther 324 = .ok (.bastore, 1) := by decide +kernel
theorem dX7_doOther_325 : decode cX7_doOther 325 = .ok (.aload_n 0, 1) := by decide +kernel
theorem dX7_doOther_326 : decode cX7_doOther 326 = .ok (.getfield 37, 3) := by decide +kernel
theorem dX7_doOther_329 : decode cX7_doOther 329 = .ok (.iload_n 1, 1) := by decide +kernel
theorem dX7_doOther_330 : decode cX7_doOther 330 = .ok (.baload, 1) := by decide +kernel
theorem dX7_doOther_331 : decode cX7_doOther 331 = .ok (.ifCond .ne 36, 3) := by decide +kernel
theorem dX7_doOther_334 : decode cX7_doOther 334 = .ok (.aload_n 0, 1) := by decide +kernel
theorem dX7_doOther_335 : decode cX7_doOther 335 = .ok (.getfield 41, 3) := by decide +kernel
theorem dX7_doOther_338 : decode cX7_doOther 338 = .ok (.iload_n 1, 1) := by decide +kernel
theorem dX7_doOther_339 : decode cX7_doOther 339 = .ok (.iaload, 1) := by decide +kernel
theorem dX7_doOther_340 : decode cX7_doOther 340 = .ok (.ifCond .le 27, 3) := by decide +kernel
theorem dX7_doOther_343 : decode cX7_doOther 343 = .ok (.aload_n 0, 1) := by decide +kernel
theorem dX7_doOther_344 : decode cX7_doOther 344 = .ok (.getfield 19, 3) := by decide +kernel
theorem dX7_doOther_347 : decode cX7_doOther 347 = .ok (.iload_n 1, 1) := by decide +kernel
theorem dX7_doOther_348 : decode cX7_doOther 348 = .ok (.iaload, 1) := by decide +kernel
theorem dX7_doOther_349 : decode cX7_doOther 349 = .ok (.ifCond .ne 18, 3) := by decide +kernel
theorem dX7_doOther_352 : decode cX7_doOther 352 = .ok (.aload_n 0, 1) := by decide +kernel
theorem dX7_doOther_353 : decode cX7_doOther 353 = .ok (.iload_n 1, 1) := by decide +kernel
theorem dX7_doOther_354 : decode cX7_doOther 354 = .ok (.invokevirtual 150, 3) := by decide +kernel
theorem dX7_doOther_357 : decode cX7_doOther 357 = .ok (.goto (-32), 3) := by decide +kernel
theorem dX7_doOther_360 : decode cX7_doOther 360 = .ok (.aload_n 0, 1) := by decide +kernel
theorem dX7_doOther_361 : decode cX7_doOther 361 = .ok (.getfield 28, 3) := by decide +kernel
theorem dX7_doOther_364 : decode cX7_doOther 364 = .ok (.iload_n 1, 1) := by decide +kernel
theorem dX7_doOther_365 : decode cX7_doOther 365 = .ok (.iload_n 1, 1) := by decide +kernel
theorem dX7_doOther_366 : decode cX7_doOther 366 = .ok (.iastore, 1) := by decide +kernel
theorem dX7_doOther_367 : decode cX7_doOther 367 = .ok (.return_, 1) := by decide +kernel
theorem dX7_wake_0 : decode cX7_wake 0 = .ok (.iconst 0, 1) := by decide +kernel
theorem dX7_wake_1 : decode cX7_wake 1 = .ok (.istore_n 1, 1) := by decide +kernel
theorem dX7_wake_2 : decode cX7_wake 2 = .ok (.iload_n 1, 1) := by decide +kernel
theorem dX7_wake_3 : decode cX7_wake 3 = .ok (.ifCond .lt 89, 3) := by decide +kernel
theorem dX7_wake_6 : decode cX7_wake 6 = .ok (.iconst (-1), 1) := by decide +kernel
theorem dX7_wake_7 : decode cX7_wake 7 = .ok (.istore_n 1, 1) := by decide +kernel
theorem dX7_wake_8 : decode cX7_wake 8 = .ok (.iconst 0, 1) := by decide +kernel
theorem dX7_wake_9 : decode cX7_wake 9 = .ok (.istore_n 2, 1) := by decide +kernel
theorem dX7_wake_10 : decode cX7_wake 10 = .ok (.iload_n 2, 1) := by decide +kernel
theorem dX7_wake_11 : decode cX7_wake 11 = .ok (.aload_n 0, 1) := by decide +kernel
theorem dX7_wake_12 : decode cX7_wake 12 = .ok (.getfield 92, 3) := by decide +kernel
theorem dX7_wake_15 : decode cX7_wake 15 = .ok (.if_icmp .ge 57, 3) := by decide +kernel
theorem dX7_wake_18 : decode cX7_wake 18 = .ok (.aload_n 0, 1) := by decide +kernel
theorem dX7_wake_19 : decode cX7_wake 19 = .ok (.getfield 19, 3) := by decide +kernel
theorem dX7_wake_22 : decode cX7_wake 22 = .ok (.iload_n 2, 1) := by decide +kernel
theorem dX7_wake_23 : decode cX7_wake 23 = .ok (.iaload, 1) := by decide +kernel
theorem dX7_wake_24 : decode cX7_wake 24 = .ok (.iconst 4, 1) := by decide +kernel
theorem dX7_wake_25 : decode cX7_wake 25 = .ok (.if_icmp .ne 39, 3) := by decide +kernel
theorem dX7_wake_28 : decode cX7_wake 28 = .ok (.aload_n 0, 1) := by decide +kernel
theorem dX7_wake_29 : decode cX7_wake 29 = .ok (.getfield 53, 3) := by decide +kernel
theorem dX7_wake_32 : decode cX7_wake 32 = .ok (.iload_n 2, 1) := by decide +kernel
theorem dX7_wake_33 : decode cX7_wake 33 = .ok (.iaload, 1) := by decide +kernel
theorem dX7_wake_34 : decode cX7_wake 34 = .ok (.aload_n 0, 1) := by decide +kernel
theorem dX7_wake_35 : decode cX7_wake 35 = .ok (.getfield 112, 3) := by decide +kernel
theorem dX7_wake_38 : decode cX7_wake 38 = .ok (.if_icmp .gt 26, 3) := by decide +kernel
theorem dX7_wake_41 : decode cX7_wake 41 = .ok (.iload_n 1, 1) := by decide +kernel
theorem dX7_wake_42 : decode cX7_wake 42 = .ok (.ifCond .lt 18, 3) := by decide +kernel
theorem dX7_wake_45 : decode cX7_wake 45 = .ok (.aload_n 0, 1) := by decide +kernel
theorem dX7_wake_46 : decode cX7_wake 46 = .ok (.getfield 53, 3) := by decide +kernel
theorem dX7_wake_49 : decode cX7_wake 49 = .ok (.iload_n 2, 1) := by decide +kernel
theorem dX7_wake_50 : decode cX7_wake 50 = .ok (.iaload, 1) := by decide +kernel
theorem dX7_wake_51 : decode cX7_wake 51 = .ok (.aload_n 0, 1) := by decide +kernel
theorem dX7_wake_52 : decode cX7_wake 52 = .ok (.getfield 53, 3) := by decide +kernel
theorem dX7_wake_55 : decode cX7_wake 55 = .ok (.iload_n 1, 1) := by decide +kernel
theorem dX7_wake_56 : decode cX7_wake 56 = .ok (.iaload, 1) := by decide +kernel
theorem dX7_wake_57 : decode cX7_wake 57 = .ok (.if_icmp .ge 7, 3) := by decide +kernel
theorem dX7_wake_60 : decode cX7_wake 60 = .ok (.iload_n 2, 1) := by decide +kernel
theorem dX7_wake_61 : decode cX7_wake 61 = .ok (.goto 4, 3) := by decide +kernel
theorem dX7_wake_64 : decode cX7_wake 64 = .ok (.iload_n 1, 1) := by decide +kernel
theorem dX7_wake_65 : decode cX7_wake 65 = .ok (.istore_n 1, 1) := by decide +kernel
theorem dX7_wake_66 : decode cX7_wake 66 = .ok (.iinc 2 1, 3) := by decide +kernel
theorem dX7_wake_69 : decode cX7_wake 69 = .ok (.goto (-59), 3) := by decide +kernel
theorem dX7_wake_72 : decode cX7_wake 72 = .ok (.iload_n 1, 1) := by decide +kernel
theorem dX7_wake_73 : decode cX7_wake 73 = .ok (.ifCond .lt (-71), 3) := by decide +kernel
theorem dX7_wake_76 : decode cX7_wake 76 = .ok (.aload_n 0, 1) := by decide +kernel
theorem dX7_wake_77 : decode cX7_wake 77 = .ok (.getfield 53, 3) := by decide +kernel
theorem dX7_wake_80 : decode cX7_wake 80 = .ok (.iload_n 1, 1) := by decide +kernel
theorem dX7_wake_81 : decode cX7_wake 81 = .ok (.bipush (-3), 2) := by decide +kernel
theorem dX7_wake_83 : decode cX7_wake 83 = .ok (.iastore, 1) := by decide +kernel
theorem dX7_wake_84 : decode cX7_wake 84 = .ok (.aload_n 0, 1) := by decide +kernel
theorem dX7_wake_85 : decode cX7_wake 85 = .ok (.iload_n 1, 1) := by decide +kernel
theorem dX7_wake_86 : decode cX7_wake 86 = .ok (.invokevirtual 95, 3) := by decide +kernel
theorem dX7_wake_89 : decode cX7_wake 89 = .ok (.goto (-87), 3) := by decide +kernel
theorem dX7_wake_92 : decode cX7_wake 92 = .ok (.return_, 1) := by decide +kernel
theorem dX7_findReady_0 : decode cX7_findReady 0 = .ok (.aload_n 0, 1) := by decide +kernel
theorem dX7_findReady_1 : decode cX7_findReady 1 = .ok (.invokevirtual 169, 3) := by decide +kernel
theorem dX7_findReady_4 : decode cX7_findReady 4 = .ok (.aload_n 0, 1) := by decide +kernel
theorem dX7_findReady_5 : decode cX7_findReady 5 = .ok (.getfield 99, 3) := by decide +kernel
theorem dX7_findReady_8 : decode cX7_findReady 8 = .ok (.ifCond .le 4, 3) := by decide +kernel
theorem dX7_findReady_11 : decode cX7_findReady 11 = .ok (.return_, 1) := by decide +kernel
theorem dX7_findReady_12 : decode cX7_findReady 12 = .ok (.iconst (-1), 1) := by decide +kernel
theorem dX7_findReady_13 : decode cX7_findReady 13 = .ok (.istore_n 1, 1) := by decide +kernel
theorem dX7_findReady_14 : decode cX7_findReady 14 = .ok (.iconst 0, 1) := by decide +kernel
theorem dX7_findReady_15 : decode cX7_findReady 15 = .ok (.istore_n 2, 1) := by decide +kernel
theorem dX7_findReady_16 : decode cX7_findReady 16 = .ok (.iload_n 2, 1) := by decide +kernel
theorem dX7_findReady_17 : decode cX7_findReady 17 = .ok (.aload_n 0, 1) := by decide +kernel
theorem dX7_findReady_18 : decode cX7_findReady 18 = .ok (.getfield 92, 3) := by decide +kernel
theorem dX7_findReady_21 : decode cX7_findReady 21 = .ok (.if_icmp .ge 44, 3) := by decide +kernel
theorem dX7_findReady_24 : decode cX7_findReady 24 = .ok (.aload_n 0, 1) := by decide +kernel
theorem dX7_findReady_25 : decode cX7_findReady 25 = .ok (.getfield 19, 3) := by decide +kernel
theorem dX7_findReady_28 : decode cX7_findReady 28 = .ok (.iload_n 2, 1) := by decide +kernel
theorem dX7_findReady_29 : decode cX7_findReady 29 = .ok (.iaload, 1) := by decide +kernel
theorem dX7_findReady_30 : decode cX7_findReady 30 = .ok (.iconst 4, 1) := by decide +kernel
theorem dX7_findReady_31 : decode cX7_findReady 31 = .ok (.if_icmp .ne 26, 3) := by decide +kernel
theorem dX7_findReady_34 : decode cX7_findReady 34 = .ok (.iload_n 1, 1) := by decide +kernel
theorem dX7_findReady_35 : decode cX7_findReady 35 = .ok (.ifCond .lt 13, 3) := by decide +kernel
theorem dX7_findReady_38 : decode cX7_findReady 38 = .ok (.aload_n 0, 1) := by decide +kernel
theorem dX7_findReady_39 : decode cX7_findReady 39 = .ok (.getfield 53, 3) := by decide +kernel
theorem dX7_findReady_42 : decode cX7_findReady 42 = .ok (.iload_n 2, 1) := by decide +kernel
theorem dX7_findReady_43 : decode cX7_findReady 43 = .ok (.iaload, 1) := by decide +kernel
theorem dX7_findReady_44 : decode cX7_findReady 44 = .ok (.iload_n 1, 1) := by decide +kernel
theorem dX7_findReady_45 : decode cX7_findReady 45 = .ok (.if_icmp .ge 12, 3) := by decide +kernel
theorem dX7_findReady_48 : decode cX7_findReady 48 = .ok (.aload_n 0, 1) := by decide +kernel
theorem dX7_findReady_49 : decode cX7_findReady 49 = .ok (.getfield 53, 3) := by decide +kernel
theorem dX7_findReady_52 : decode cX7_findReady 52 = .ok (.iload_n 2, 1) := by decide +kernel
theorem dX7_findReady_53 : decode cX7_findReady 53 = .ok (.iaload, 1) := by decide +kernel
theorem dX7_findReady_54 : decode cX7_findReady 54 = .ok (.goto 4, 3) := by decide +kernel
theorem dX7_findReady_57 : decode cX7_findReady 57 = .ok (.iload_n 1, 1) := by decide +kernel
theorem dX7_findReady_58 : decode cX7_findReady 58 = .ok (.istore_n 1, 1) := by decide +kernel
theorem dX7_findReady_59 : decode cX7_findReady 59 = .ok (.iinc 2 1, 3) := by decide +kernel
theorem dX7_findReady_62 : decode cX7_findReady 62 = .ok (.goto (-46), 3) := by decide +kernel
theorem dX7_findReady_65 : decode cX7_findReady 65 = .ok (.iload_n 1, 1) := by decide +kernel
theorem dX7_findReady_66 : decode cX7_findReady 66 = .ok (.ifCond .lt 13, 3) := by decide +kernel
theorem dX7_findReady_69 : decode cX7_findReady 69 = .ok (.aload_n 0, 1) := by decide +kernel
theorem dX7_findReady_70 : decode cX7_findReady 70 = .ok (.iload_n 1, 1) := by decide +kernel
theorem dX7_findReady_71 : decode cX7_findReady 71 = .ok (.putfield 112, 3) := by decide +kernel
theorem dX7_findReady_74 : decode cX7_findReady 74 = .ok (.aload_n 0, 1) := by decide +kernel
theorem dX7_findReady_75 : decode cX7_findReady 75 = .ok (.invokevirtual 169, 3) := by decide +kernel
theorem dX7_findReady_78 : decode cX7_findReady 78 = .ok (.return_, 1) := by decide +kernel
theorem dX7_findReady_79 : decode cX7_findReady 79 = .ok (.iconst 0, 1) := by decide +kernel
theorem dX7_findReady_80 : decode cX7_findReady 80 = .ok (.istore_n 2, 1) := by decide +kernel
theorem dX7_findReady_81 : decode cX7_findReady 81 = .ok (.iload_n 2, 1) := by decide +kernel
theorem dX7_findReady_82 : decode cX7_findReady 82 = .ok (.aload_n 0, 1) := by decide +kernel
theorem dX7_findReady_83 : decode cX7_findReady 83 = .ok (.getfield 92, 3) := by decide +kernel
theorem dX7_findReady_86 : decode cX7_findReady 86 = .ok (.if_icmp .ge 40, 3) := by decide +kernel
theorem dX7_findReady_89 : decode cX7_findReady 89 = .ok (.aload_n 0, 1) := by decide +kernel
theorem dX7_findReady_90 : decode cX7_findReady 90 = .ok (.getfield 19, 3) := by decide +kernel
theorem dX7_findReady_93 : decode cX7_findReady 93 = .ok (.iload_n 2, 1) := by decide +kernel
theorem dX7_findReady_94 : decode cX7_findReady 94 = .ok (.iaload, 1) := by decide +kernel
theorem dX7_findReady_95 : decode cX7_findReady 95 = .ok (.iconst 1, 1) := by decide +kernel
theorem dX7_findReady_96 : decode cX7_findReady 96 = .ok (.iconst 3, 1) := by decide +kernel
theorem dX7_findReady_97 : decode cX7_findReady 97 = .ok (.invokestatic 84, 3) := by decide +kernel
theorem dX7_findReady_100 : decode cX7_findReady 100 = .ok (.ifCond .eq 20, 3) := by decide +kernel
theorem dX7_findReady_103 : decode cX7_findReady 103 = .ok (.aload_n 0, 1) := by decide +kernel
theorem dX7_findReady_104 : decode cX7_findReady 104 = .ok (.dup, 1) := by decide +kernel
theorem dX7_findReady_105 : decode cX7_findReady 105 = .ok (.getfield 118, 3) := by decide +kernel
theorem dX7_findReady_108 : decode cX7_findReady 108 = .ok (.iconst 1, 1) := by decide +kernel
theorem dX7_findReady_109 : decode cX7_findReady 109 = .ok (.iadd, 1) := by decide +kernel
theorem dX7_findReady_110 : decode cX7_findReady 110 = .ok (.putfield 118, 3) := by decide +kernel
theorem dX7_findReady_113 : decode cX7_findReady 113 = .ok (.aload_n 0, 1) := by decide +kernel
theorem dX7_findReady_114 : decode cX7_findReady 114 = .ok (.iload_n 2, 1) := by decide +kernel
theorem dX7_findReady_115 : decode cX7_findReady 115 = .ok (.bipush 10, 2) := by decide +kernel
theorem dX7_findReady_117 : decode cX7_findReady 117 = .ok (.invokevirtual 147, 3) := by decide +kernel
theorem dX7_findReady_120 : decode cX7_findReady 120 = .ok (.iinc 2 1, 3) := by decide +kernel
theorem dX7_findReady_123 : decode cX7_findReady 123 = .ok (.goto (-42), 3) := by decide +kernel
theorem dX7_findReady_126 : decode cX7_findReady 126 = .ok (.return_, 1) := by decide +kernel
theorem dX7_isTurn_0 : decode cX7_isTurn 0 = .ok (.aload_n 0, 1) := by decide +kernel
theorem dX7_isTurn_1 : decode cX7_isTurn 1 = .ok (.getfield 106, 3) := by decide +kernel
theorem dX7_isTurn_4 : decode cX7_isTurn 4 = .ok (.ifCond .eq 5, 3) := by decide +kernel
theorem dX7_isTurn_7 : decode cX7_isTurn 7 = .ok (.iconst 0, 1) := by decide +kernel
theorem dX7_isTurn_8 : decode cX7_isTurn 8 = .ok (.ireturn, 1) := by decide +kernel
theorem dX7_isTurn_9 : decode cX7_isTurn 9 = .ok (.aload_n 0, 1) := by decide +kernel
theorem dX7_isTurn_10 : decode cX7_isTurn 10 = .ok (.invokevirtual 172, 3) := by decide +kernel
theorem dX7_isTurn_13 : decode cX7_isTurn 13 = .ok (.aload_n 0, 1) := by decide +kernel
theorem dX7_isTurn_14 : decode cX7_isTurn 14 = .ok (.getfield 106, 3) := by decide +kernel
theorem dX7_isTurn_17 : decode cX7_isTurn 17 = .ok (.ifCond .ne 10, 3) := by decide +kernel
theorem dX7_isTurn_20 : decode cX7_isTurn 20 = .ok (.aload_n 0, 1) := by decide +kernel
theorem dX7_isTurn_21 : decode cX7_isTurn 21 = .ok (.getfield 99, 3) := by decide +kernel
theorem dX7_isTurn_24 : decode cX7_isTurn 24 = .ok (.ifCond .ne 5, 3) := by decide +kernel
theorem dX7_isTurn_27 : decode cX7_isTurn 27 = .ok (.iconst 0, 1) := by decide +kernel
theorem dX7_isTurn_28 : decode cX7_isTurn 28 = .ok (.ireturn, 1) := by decide +kernel
theorem dX7_isTurn_29 : decode cX7_isTurn 29 = .ok (.aload_n 0, 1) := by decide +kernel
theorem dX7_isTurn_30 : decode cX7_isTurn 30 = .ok (.getfield 62, 3) := by decide +kernel
theorem dX7_isTurn_33 : decode cX7_isTurn 33 = .ok (.iconst 0, 1) := by decide +kernel
theorem dX7_isTurn_34 : decode cX7_isTurn 34 = .ok (.iaload, 1) := by decide +kernel
theorem dX7_isTurn_35 : decode cX7_isTurn 35 = .ok (.istore_n 1, 1) := by decide +kernel
theorem dX7_isTurn_36 : decode cX7_isTurn 36 = .ok (.aload_n 0, 1) := by decide +kernel
theorem dX7_isTurn_37 : decode cX7_isTurn 37 = .ok (.iload_n 1, 1) := by decide +kernel
theorem dX7_isTurn_38 : decode cX7_isTurn 38 = .ok (.invokevirtual 144, 3) := by decide +kernel
theorem dX7_isTurn_41 : decode cX7_isTurn 41 = .ok (.aload_n 0, 1) := by decide +kernel
theorem dX7_isTurn_42 : decode cX7_isTurn 42 = .ok (.iconst 0, 1) := by decide +kernel
theorem dX7_isTurn_43 : decode cX7_isTurn 43 = .ok (.putfield 163, 3) := by decide +kernel
theorem dX7_isTurn_46 : decode cX7_isTurn 46 = .ok (.aload_n 0, 1) := by decide +kernel
theorem dX7_isTurn_47 : decode cX7_isTurn 47 = .ok (.getfield 50, 3) := by decide +kernel
theorem dX7_isTurn_50 : decode cX7_isTurn 50 = .ok (.iload_n 1, 1) := by decide +kernel
theorem dX7_isTurn_51 : decode cX7_isTurn 51 = .ok (.dup2, 1) := by decide +kernel
theorem dX7_isTurn_52 : decode cX7_isTurn 52 = .ok (.iaload, 1) := by decide +kernel
theorem dX7_isTurn_53 : decode cX7_isTurn 53 = .ok (.iconst 1, 1) := by decide +kernel
theorem dX7_isTurn_54 : decode cX7_isTurn 54 = .ok (.iadd, 1) := by decide +kernel
theorem dX7_isTurn_55 : decode cX7_isTurn 55 = .ok (.iastore, 1) := by decide +kernel
theorem dX7_isTurn_56 : decode cX7_isTurn 56 = .ok (.aload_n 0, 1) := by decide +kernel
theorem dX7_isTurn_57 : decode cX7_isTurn 57 = .ok (.dup, 1) := by decide +kernel
theorem dX7_isTurn_58 : decode cX7_isTurn 58 = .ok (.getfield 115, 3) := by decide +kernel
theorem dX7_isTurn_61 : decode cX7_isTurn 61 = .ok (.iconst 1, 1) := by decide +kernel
theorem dX7_isTurn_62 : decode cX7_isTurn 62 = .ok (.iadd, 1) := by decide +kernel
theorem dX7_isTurn_63 : decode cX7_isTurn 63 = .ok (.putfield 115, 3) := by decide +kernel
theorem dX7_isTurn_66 : decode cX7_isTurn 66 = .ok (.iconst 0, 1) := by decide +kernel
theorem dX7_isTurn_67 : decode cX7_isTurn 67 = .ok (.istore_n 2, 1) := by decide +kernel
theorem dX7_isTurn_68 : decode cX7_isTurn 68 = .ok (.iload_n 2, 1) := by decide +kernel
theorem dX7_isTurn_69 : decode cX7_isTurn 69 = .ok (.aload_n 0, 1) := by decide +kernel
theorem dX7_isTurn_70 : decode cX7_isTurn 70 = .ok (.getfield 109, 3) := by decide +kernel
theorem dX7_isTurn_73 : decode cX7_isTurn 73 = .ok (.if_icmp .ge 59, 3) := by decide +kernel
theorem dX7_isTurn_76 : decode cX7_isTurn 76 = .ok (.aload_n 0, 1) := by decide +kernel
theorem dX7_isTurn_77 : decode cX7_isTurn 77 = .ok (.getfield 19, 3) := by decide +kernel
theorem dX7_isTurn_80 : decode cX7_isTurn 80 = .ok (.iload_n 1, 1) := by decide +kernel
theorem dX7_isTurn_81 : decode cX7_isTurn 81 = .ok (.iaload, 1) := by decide +kernel
theorem dX7_isTurn_82 : decode cX7_isTurn 82 = .ok (.ifCond .ne 50, 3) := by decide +kernel
theorem dX7_isTurn_85 : decode cX7_isTurn 85 = .ok (.aload_n 0, 1) := by decide +kernel
theorem dX7_isTurn_86 : decode cX7_isTurn 86 = .ok (.getfield 163, 3) := by decide +kernel
theorem dX7_isTurn_89 : decode cX7_isTurn 89 = .ok (.ifCond .ne 43, 3) := by decide +kernel
theorem dX7_isTurn_92 : decode cX7_isTurn 92 = .ok (.aload_n 0, 1) := by decide +kernel
theorem dX7_isTurn_93 : decode cX7_isTurn 93 = .ok (.getfield 25, 3) := by decide +kernel
theorem dX7_isTurn_96 : decode cX7_isTurn 96 = .ok (.iload_n 1, 1) := by decide +kernel
theorem dX7_isTurn_97 : decode cX7_isTurn 97 = .ok (.iaload, 1) := by decide +kernel
theorem dX7_isTurn_98 : decode cX7_isTurn 98 = .ok (.aload_n 0, 1) := by decide +kernel
theorem dX7_isTurn_99 : decode cX7_isTurn 99 = .ok (.getfield 7, 3) := by decide +kernel
theorem dX7_isTurn_102 : decode cX7_isTurn 102 = .ok (.aload_n 0, 1) := by decide +kernel
theorem dX7_isTurn_103 : decode cX7_isTurn 103 = .ok (.getfield 22, 3) := by decide +kernel
theorem dX7_isTurn_106 : decode cX7_isTurn 106 = .ok (.iload_n 1, 1) := by decide +kernel
theorem dX7_isTurn_107 : decode cX7_isTurn 107 = .ok (.iaload, 1) := by decide +kernel
theorem dX7_isTurn_108 : decode cX7_isTurn 108 = .ok (.iaload, 1) := by decide +kernel
theorem dX7_isTurn_109 : decode cX7_isTurn 109 = .ok (.if_icmp .lt 12, 3) := by decide +kernel
theorem dX7_isTurn_112 : decode cX7_isTurn 112 = .ok (.aload_n 0, 1) := by decide +kernel
theorem dX7_isTurn_113 : decode cX7_isTurn 113 = .ok (.iload_n 1, 1) := by decide +kernel
theorem dX7_isTurn_114 : decode cX7_isTurn 114 = .ok (.iconst 5, 1) := by decide +kernel
theorem dX7_isTurn_115 : decode cX7_isTurn 115 = .ok (.invokevirtual 141, 3) := by decide +kernel
theorem dX7_isTurn_118 : decode cX7_isTurn 118 = .ok (.goto 8, 3) := by decide +kernel
theorem dX7_isTurn_121 : decode cX7_isTurn 121 = .ok (.aload_n 0, 1) := by decide +kernel
theorem dX7_isTurn_122 : decode cX7_isTurn 122 = .ok (.iload_n 1, 1) := by decide +kernel
theorem dX7_isTurn_123 : decode cX7_isTurn 123 = .ok (.invokevirtual 175, 3) := by decide +kernel
theorem dX7_isTurn_126 : decode cX7_isTurn 126 = .ok (.iinc 2 1, 3) := by decide +kernel
theorem dX7_isTurn_129 : decode cX7_isTurn 129 = .ok (.goto (-61), 3) := by decide +kernel
theorem dX7_isTurn_132 : decode cX7_isTurn 132 = .ok (.aload_n 0, 1) := by decide +kernel
theorem dX7_isTurn_133 : decode cX7_isTurn 133 = .ok (.getfield 19, 3) := by decide +kernel
theorem dX7_isTurn_136 : decode cX7_isTurn 136 = .ok (.iload_n 1, 1) := by decide +kernel
theorem dX7_isTurn_137 : decode cX7_isTurn 137 = .ok (.iaload, 1) := by decide +kernel
theorem dX7_isTurn_138 : decode cX7_isTurn 138 = .ok (.ifCond .ne 8, 3) := by decide +kernel
theorem dX7_isTurn_141 : decode cX7_isTurn 141 = .ok (.aload_n 0, 1) := by decide +kernel
theorem dX7_isTurn_142 : decode cX7_isTurn 142 = .ok (.iload_n 1, 1) := by decide +kernel
theorem dX7_isTurn_143 : decode cX7_isTurn 143 = .ok (.invokevirtual 95, 3) := by decide +kernel
theorem dX7_isTurn_146 : decode cX7_isTurn 146 = .ok (.aload_n 0, 1) := by decide +kernel
theorem dX7_isTurn_147 : decode cX7_isTurn 147 = .ok (.dup, 1) := by decide +kernel
theorem dX7_isTurn_148 : decode cX7_isTurn 148 = .ok (.getfield 112, 3) := by decide +kernel
theorem dX7_isTurn_151 : decode cX7_isTurn 151 = .ok (.iconst 1, 1) := by decide +kernel
theorem dX7_isTurn_152 : decode cX7_isTurn 152 = .ok (.iadd, 1) := by decide +kernel
theorem dX7_isTurn_153 : decode cX7_isTurn 153 = .ok (.putfield 112, 3) := by decide +kernel
theorem dX7_isTurn_156 : decode cX7_isTurn 156 = .ok (.iconst 1, 1) := by decide +kernel
theorem dX7_isTurn_157 : decode cX7_isTurn 157 = .ok (.ireturn, 1) := by decide +kernel
theorem dX7_step_0 : decode cX7_step 0 = .ok (.aload_n 0, 1) := by decide +kernel
theorem dX7_step_1 : decode cX7_step 1 = .ok (.iconst 0, 1) := by decide +kernel
theorem dX7_step_2 : decode cX7_step 2 = .ok (.putfield 77, 3) := by decide +kernel
theorem dX7_step_5 : decode cX7_step 5 = .ok (.iload_n 1, 1) := by decide +kernel
theorem dX7_step_6 : decode cX7_step 6 = .ok (.iconst 1, 1) := by decide +kernel
theorem dX7_step_7 : decode cX7_step 7 = .ok (.sipush 500, 3) := by decide +kernel
theorem dX7_step_10 : decode cX7_step 10 = .ok (.invokestatic 84, 3) := by decide +kernel
theorem dX7_step_13 : decode cX7_step 13 = .ok (.ifCond .ne 6, 3) := by decide +kernel
theorem dX7_step_16 : decode cX7_step 16 = .ok (.bipush (-2), 2) := by decide +kernel
theorem dX7_step_18 : decode cX7_step 18 = .ok (.ireturn, 1) := by decide +kernel
theorem dX7_step_19 : decode cX7_step 19 = .ok (.aload_n 0, 1) := by decide +kernel
theorem dX7_step_20 : decode cX7_step 20 = .ok (.getfield 102, 3) := by decide +kernel
theorem dX7_step_23 : decode cX7_step 23 = .ok (.ifCond .ne 6, 3) := by decide +kernel
theorem dX7_step_26 : decode cX7_step 26 = .ok (.bipush (-3), 2) := by decide +kernel
theorem dX7_step_28 : decode cX7_step 28 = .ok (.ireturn, 1) := by decide +kernel
theorem dX7_step_29 : decode cX7_step 29 = .ok (.aload_n 0, 1) := by decide +kernel
theorem dX7_step_30 : decode cX7_step 30 = .ok (.getfield 115, 3) := by decide +kernel
theorem dX7_step_33 : decode cX7_step 33 = .ok (.iload_n 1, 1) := by decide +kernel
theorem dX7_step_34 : decode cX7_step 34 = .ok (.iadd, 1) := by decide +kernel
theorem dX7_step_35 : decode cX7_step 35 = .ok (.sipush 3000, 3) := by decide +kernel
theorem dX7_step_38 : decode cX7_step 38 = .ok (.if_icmp .le 6, 3) := by decide +kernel
theorem dX7_step_41 : decode cX7_step 41 = .ok (.bipush (-4), 2) := by decide +kernel
theorem dX7_step_43 : decode cX7_step 43 = .ok (.ireturn, 1) := by decide +kernel
theorem dX7_step_44 : decode cX7_step 44 = .ok (.iconst 0, 1) := by decide +kernel
theorem dX7_step_45 : decode cX7_step 45 = .ok (.istore_n 2, 1) := by decide +kernel
theorem dX7_step_46 : decode cX7_step 46 = .ok (.iload_n 2, 1) := by decide +kernel
theorem dX7_step_47 : decode cX7_step 47 = .ok (.iload_n 1, 1) := by decide +kernel
theorem dX7_step_48 : decode cX7_step 48 = .ok (.if_icmp .ge 16, 3) := by decide +kernel
theorem dX7_step_51 : decode cX7_step 51 = .ok (.aload_n 0, 1) := by decide +kernel
theorem dX7_step_52 : decode cX7_step 52 = .ok (.invokevirtual 178, 3) := by decide +kernel
theorem dX7_step_55 : decode cX7_step 55 = .ok (.ifCond .eq 9, 3) := by decide +kernel
theorem dX7_step_58 : decode cX7_step 58 = .ok (.iinc 2 1, 3) := by decide +kernel
theorem dX7_step_61 : decode cX7_step 61 = .ok (.goto (-15), 3) := by decide +kernel
theorem dX7_step_64 : decode cX7_step 64 = .ok (.iload_n 2, 1) := by decide +kernel
theorem dX7_step_65 : decode cX7_step 65 = .ok (.ireturn, 1) := by decide +kernel
theorem dX7_told_0 : decode cX7_told 0 = .ok (.aload_n 0, 1) := by decide +kernel
theorem dX7_told_1 : decode cX7_told 1 = .ok (.iconst 0, 1) := by decide +kernel
theorem dX7_told_2 : decode cX7_told 2 = .ok (.putfield 77, 3) := by decide +kernel
theorem dX7_told_5 : decode cX7_told 5 = .ok (.iload_n 1, 1) := by decide +kernel
theorem dX7_told_6 : decode cX7_told 6 = .ok (.iconst 0, 1) := by decide +kernel
theorem dX7_told_7 : decode cX7_told 7 = .ok (.iconst 5, 1) := by decide +kernel
theorem dX7_told_8 : decode cX7_told 8 = .ok (.invokestatic 84, 3) := by decide +kernel
theorem dX7_told_11 : decode cX7_told 11 = .ok (.ifCond .ne 6, 3) := by decide +kernel
theorem dX7_told_14 : decode cX7_told 14 = .ok (.bipush (-2), 2) := by decide +kernel
theorem dX7_told_16 : decode cX7_told 16 = .ok (.ireturn, 1) := by decide +kernel
theorem dX7_told_17 : decode cX7_told 17 = .ok (.aload_n 0, 1) := by decide +kernel
theorem dX7_told_18 : decode cX7_told 18 = .ok (.getfield 102, 3) := by decide +kernel
theorem dX7_told_21 : decode cX7_told 21 = .ok (.ifCond .ne 6, 3) := by decide +kernel
theorem dX7_told_24 : decode cX7_told 24 = .ok (.bipush (-3), 2) := by decide +kernel
theorem dX7_told_26 : decode cX7_told 26 = .ok (.ireturn, 1) := by decide +kernel
theorem dX7_told_27 : decode cX7_told 27 = .ok (.iload_n 1, 1) := by decide +kernel
theorem dX7_told_28 : decode cX7_told 28 = .ok (.ifCond .ne 18, 3) := by decide +kernel
theorem dX7_told_31 : decode cX7_told 31 = .ok (.aload_n 0, 1) := by decide +kernel
theorem dX7_told_32 : decode cX7_told 32 = .ok (.getfield 106, 3) := by decide +kernel
theorem dX7_told_35 : decode cX7_told 35 = .ok (.ifCond .eq 7, 3) := by decide +kernel
theorem dX7_told_38 : decode cX7_told 38 = .ok (.iconst 1, 1) := by decide +kernel
theorem dX7_told_39 : decode cX7_told 39 = .ok (.goto 59, 3) := by decide +kernel
theorem dX7_told_42 : decode cX7_told 42 = .ok (.iconst 0, 1) := by decide +kernel
theorem dX7_told_43 : decode cX7_told 43 = .ok (.goto 55, 3) := by decide +kernel
theorem dX7_told_46 : decode cX7_told 46 = .ok (.iload_n 1, 1) := by decide +kernel
theorem dX7_told_47 : decode cX7_told 47 = .ok (.iconst 1, 1) := by decide +kernel
theorem dX7_told_48 : decode cX7_told 48 = .ok (.if_icmp .ne 10, 3) := by decide +kernel
theorem dX7_told_51 : decode cX7_told 51 = .ok (.aload_n 0, 1) := by decide +kernel
theorem dX7_told_52 : decode cX7_told 52 = .ok (.getfield 112, 3) := by decide +kernel
theorem dX7_told_55 : decode cX7_told 55 = .ok (.goto 43, 3) := by decide +kernel
theorem dX7_told_58 : decode cX7_told 58 = .ok (.iload_n 1, 1) := by decide +kernel
theorem dX7_told_59 : decode cX7_told 59 = .ok (.iconst 2, 1) := by decide +kernel
theorem dX7_told_60 : decode cX7_told 60 = .ok (.if_icmp .ne 10, 3) := by decide +kernel
theorem dX7_told_63 : decode cX7_told 63 = .ok (.aload_n 0, 1) := by decide +kernel
theorem dX7_told_64 : decode cX7_told 64 = .ok (.getfield 115, 3) := by decide +kernel
theorem dX7_told_67 : decode cX7_told 67 = .ok (.goto 31, 3) := by decide +kernel
theorem dX7_told_70 : decode cX7_told 70 = .ok (.iload_n 1, 1) := by decide +kernel
theorem dX7_told_71 : decode cX7_told 71 = .ok (.iconst 3, 1) := by decide +kernel
theorem dX7_told_72 : decode cX7_told 72 = .ok (.if_icmp .ne 10, 3) := by decide +kernel
theorem dX7_told_75 : decode cX7_told 75 = .ok (.aload_n 0, 1) := by decide +kernel
theorem dX7_told_76 : decode cX7_told 76 = .ok (.getfield 92, 3) := by decide +kernel
theorem dX7_told_79 : decode cX7_told 79 = .ok (.goto 19, 3) := by decide +kernel
theorem dX7_told_82 : decode cX7_told 82 = .ok (.iload_n 1, 1) := by decide +kernel
theorem dX7_told_83 : decode cX7_told 83 = .ok (.iconst 4, 1) := by decide +kernel
theorem dX7_told_84 : decode cX7_told 84 = .ok (.if_icmp .ne 10, 3) := by decide +kernel
theorem dX7_told_87 : decode cX7_told 87 = .ok (.aload_n 0, 1) := by decide +kernel
theorem dX7_told_88 : decode cX7_told 88 = .ok (.getfield 99, 3) := by decide +kernel
theorem dX7_told_91 : decode cX7_told 91 = .ok (.goto 7, 3) := by decide +kernel
theorem dX7_told_94 : decode cX7_told 94 = .ok (.aload_n 0, 1) := by decide +kernel
theorem dX7_told_95 : decode cX7_told 95 = .ok (.getfield 118, 3) := by decide +kernel
theorem dX7_told_98 : decode cX7_told 98 = .ok (.ireturn, 1) := by decide +kernel
theorem dX7_thread_0 : decode cX7_thread 0 = .ok (.aload_n 0, 1) := by decide +kernel
theorem dX7_thread_1 : decode cX7_thread 1 = .ok (.iconst 0, 1) := by decide +kernel
theorem dX7_thread_2 : decode cX7_thread 2 = .ok (.putfield 77, 3) := by decide +kernel
theorem dX7_thread_5 : decode cX7_thread 5 = .ok (.aload_n 0, 1) := by decide +kernel
theorem dX7_thread_6 : decode cX7_thread 6 = .ok (.getfield 102, 3) := by decide +kernel
theorem dX7_thread_9 : decode cX7_thread 9 = .ok (.ifCond .eq 17, 3) := by decide +kernel
theorem dX7_thread_12 : decode cX7_thread 12 = .ok (.iload_n 1, 1) := by decide +kernel
theorem dX7_thread_13 : decode cX7_thread 13 = .ok (.iconst 0, 1) := by decide +kernel
theorem dX7_thread_14 : decode cX7_thread 14 = .ok (.aload_n 0, 1) := by decide +kernel
theorem dX7_thread_15 : decode cX7_thread 15 = .ok (.getfield 92, 3) := by decide +kernel
theorem dX7_thread_18 : decode cX7_thread 18 = .ok (.iconst 1, 1) := by decide +kernel
theorem dX7_thread_19 : decode cX7_thread 19 = .ok (.isub, 1) := by decide +kernel
theorem dX7_thread_20 : decode cX7_thread 20 = .ok (.invokestatic 84, 3) := by decide +kernel
theorem dX7_thread_23 : decode cX7_thread 23 = .ok (.ifCond .ne 5, 3) := by decide +kernel
theorem dX7_thread_26 : decode cX7_thread 26 = .ok (.iconst (-1), 1) := by decide +kernel
theorem dX7_thread_27 : decode cX7_thread 27 = .ok (.ireturn, 1) := by decide +kernel
theorem dX7_thread_28 : decode cX7_thread 28 = .ok (.iload_n 2, 1) := by decide +kernel
theorem dX7_thread_29 : decode cX7_thread 29 = .ok (.tableswitch 148 0 9 #[55, 62, 69, 91, 98, 105, 120, 127, 134, 141], 55) := by decide +kernel
theorem dX7_thread_84 : decode cX7_thread 84 = .ok (.aload_n 0, 1) := by decide +kernel
theorem dX7_thread_85 : decode cX7_thread 85 = .ok (.getfield 19, 3) := by decide +kernel
theorem dX7_thread_88 : decode cX7_thread 88 = .ok (.iload_n 1, 1) := by decide +kernel
theorem dX7_thread_89 : decode cX7_thread 89 = .ok (.iaload, 1) := by decide +kernel
theorem dX7_thread_90 : decode cX7_thread 90 = .ok (.ireturn, 1) := by decide +kernel
theorem dX7_thread_91 : decode cX7_thread 91 = .ok (.aload_n 0, 1) := by decide +kernel
theorem dX7_thread_92 : decode cX7_thread 92 = .ok (.getfield 22, 3) := by decide +kernel
theorem dX7_thread_95 : decode cX7_thread 95 = .ok (.iload_n 1, 1) := by decide +kernel
theorem dX7_thread_96 : decode cX7_thread 96 = .ok (.iaload, 1) := by decide +kernel
theorem dX7_thread_97 : decode cX7_thread 97 = .ok (.ireturn, 1) := by decide +kernel
theorem dX7_thread_98 : decode cX7_thread 98 = .ok (.aload_n 0, 1) := by decide +kernel
theorem dX7_thread_99 : decode cX7_thread 99 = .ok (.getfield 19, 3) := by decide +kernel
theorem dX7_thread_102 : decode cX7_thread 102 = .ok (.iload_n 1, 1) := by decide +kernel
theorem dX7_thread_103 : decode cX7_thread 103 = .ok (.iaload, 1) := by decide +kernel
theorem dX7_thread_104 : decode cX7_thread 104 = .ok (.iconst 4, 1) := by decide +kernel
theorem dX7_thread_105 : decode cX7_thread 105 = .ok (.if_icmp .le 8, 3) := by decide +kernel
theorem dX7_thread_108 : decode cX7_thread 108 = .ok (.bipush (-3), 2) := by decide +kernel
theorem dX7_thread_110 : decode cX7_thread 110 = .ok (.goto 9, 3) := by decide +kernel
theorem dX7_thread_113 : decode cX7_thread 113 = .ok (.aload_n 0, 1) := by decide +kernel
theorem dX7_thread_114 : decode cX7_thread 114 = .ok (.getfield 25, 3) := by decide +kernel
theorem dX7_thread_117 : decode cX7_thread 117 = .ok (.iload_n 1, 1) := by decide +kernel
theorem dX7_thread_118 : decode cX7_thread 118 = .ok (.iaload, 1) := by decide +kernel
theorem dX7_thread_119 : decode cX7_thread 119 = .ok (.ireturn, 1) := by decide +kernel
theorem dX7_thread_120 : decode cX7_thread 120 = .ok (.aload_n 0, 1) := by decide +kernel
theorem dX7_thread_121 : decode cX7_thread 121 = .ok (.getfield 28, 3) := by decide +kernel
theorem dX7_thread_124 : decode cX7_thread 124 = .ok (.iload_n 1, 1) := by decide +kernel
theorem dX7_thread_125 : decode cX7_thread 125 = .ok (.iaload, 1) := by decide +kernel
theorem dX7_thread_126 : decode cX7_thread 126 = .ok (.ireturn, 1) := by decide +kernel
theorem dX7_thread_127 : decode cX7_thread 127 = .ok (.aload_n 0, 1) := by decide +kernel
theorem dX7_thread_128 : decode cX7_thread 128 = .ok (.getfield 31, 3) := by decide +kernel
theorem dX7_thread_131 : decode cX7_thread 131 = .ok (.iload_n 1, 1) := by decide +kernel
theorem dX7_thread_132 : decode cX7_thread 132 = .ok (.iaload, 1) := by decide +kernel
theorem dX7_thread_133 : decode cX7_thread 133 = .ok (.ireturn, 1) := by decide +kernel
theorem dX7_thread_134 : decode cX7_thread 134 = .ok (.aload_n 0, 1) := by decide +kernel
theorem dX7_thread_135 : decode cX7_thread 135 = .ok (.getfield 37, 3) := by decide +kernel
theorem dX7_thread_138 : decode cX7_thread 138 = .ok (.iload_n 1, 1) := by decide +kernel
theorem dX7_thread_139 : decode cX7_thread 139 = .ok (.baload, 1) := by decide +kernel
theorem dX7_thread_140 : decode cX7_thread 140 = .ok (.ifCond .eq 7, 3) := by decide +kernel
theorem dX7_thread_143 : decode cX7_thread 143 = .ok (.iconst 1, 1) := by decide +kernel
theorem dX7_thread_144 : decode cX7_thread 144 = .ok (.goto 4, 3) := by decide +kernel
theorem dX7_thread_147 : decode cX7_thread 147 = .ok (.iconst 0, 1) := by decide +kernel
theorem dX7_thread_148 : decode cX7_thread 148 = .ok (.ireturn, 1) := by decide +kernel
theorem dX7_thread_149 : decode cX7_thread 149 = .ok (.aload_n 0, 1) := by decide +kernel
theorem dX7_thread_150 : decode cX7_thread 150 = .ok (.getfield 41, 3) := by decide +kernel
theorem dX7_thread_153 : decode cX7_thread 153 = .ok (.iload_n 1, 1) := by decide +kernel
theorem dX7_thread_154 : decode cX7_thread 154 = .ok (.iaload, 1) := by decide +kernel
theorem dX7_thread_155 : decode cX7_thread 155 = .ok (.ireturn, 1) := by decide +kernel
theorem dX7_thread_156 : decode cX7_thread 156 = .ok (.aload_n 0, 1) := by decide +kernel
theorem dX7_thread_157 : decode cX7_thread 157 = .ok (.getfield 47, 3) := by decide +kernel
theorem dX7_thread_160 : decode cX7_thread 160 = .ok (.iload_n 1, 1) := by decide +kernel
theorem dX7_thread_161 : decode cX7_thread 161 = .ok (.iaload, 1) := by decide +kernel
theorem dX7_thread_162 : decode cX7_thread 162 = .ok (.ireturn, 1) := by decide +kernel
theorem dX7_thread_163 : decode cX7_thread 163 = .ok (.aload_n 0, 1) := by decide +kernel
theorem dX7_thread_164 : decode cX7_thread 164 = .ok (.getfield 50, 3) := by decide +kernel
theorem dX7_thread_167 : decode cX7_thread 167 = .ok (.iload_n 1, 1) := by decide +kernel
theorem dX7_thread_168 : decode cX7_thread 168 = .ok (.iaload, 1) := by decide +kernel
theorem dX7_thread_169 : decode cX7_thread 169 = .ok (.ireturn, 1) := by decide +kernel
theorem dX7_thread_170 : decode cX7_thread 170 = .ok (.aload_n 0, 1) := by decide +kernel
theorem dX7_thread_171 : decode cX7_thread 171 = .ok (.getfield 53, 3) := by decide +kernel
theorem dX7_thread_174 : decode cX7_thread 174 = .ok (.iload_n 1, 1) := by decide +kernel
theorem dX7_thread_175 : decode cX7_thread 175 = .ok (.iaload, 1) := by decide +kernel
theorem dX7_thread_176 : decode cX7_thread 176 = .ok (.ireturn, 1) := by decide +kernel
theorem dX7_thread_177 : decode cX7_thread 177 = .ok (.bipush (-2), 2) := by decide +kernel
theorem dX7_thread_179 : decode cX7_thread 179 = .ok (.ireturn, 1) := by decide +kernel
theorem dX7_queued_0 : decode cX7_queued 0 = .ok (.aload_n 0, 1) := by decide +kernel
theorem dX7_queued_1 : decode cX7_queued 1 = .ok (.iconst 0, 1) := by decide +kernel
theorem dX7_queued_2 : decode cX7_queued 2 = .ok (.putfield 77, 3) := by decide +kernel
theorem dX7_queued_5 : decode cX7_queued 5 = .ok (.aload_n 0, 1) := by decide +kernel
theorem dX7_queued_6 : decode cX7_queued 6 = .ok (.getfield 102, 3) := by decide +kernel
theorem dX7_queued_9 : decode cX7_queued 9 = .ok (.ifCond .eq 26, 3) := by decide +kernel
theorem dX7_queued_12 : decode cX7_queued 12 = .ok (.iload_n 1, 1) := by decide +kernel
theorem dX7_queued_13 : decode cX7_queued 13 = .ok (.iconst 0, 1) := by decide +kernel
theorem dX7_queued_14 : decode cX7_queued 14 = .ok (.aload_n 0, 1) := by decide +kernel
theorem dX7_queued_15 : decode cX7_queued 15 = .ok (.getfield 99, 3) := by decide +kernel
theorem dX7_queued_18 : decode cX7_queued 18 = .ok (.iconst 1, 1) := by decide +kernel
theorem dX7_queued_19 : decode cX7_queued 19 = .ok (.isub, 1) := by decide +kernel
theorem dX7_queued_20 : decode cX7_queued 20 = .ok (.invokestatic 84, 3) := by decide +kernel
theorem dX7_queued_23 : decode cX7_queued 23 = .ok (.ifCond .eq 12, 3) := by decide +kernel
theorem dX7_queued_26 : decode cX7_queued 26 = .ok (.aload_n 0, 1) := by decide +kernel
theorem dX7_queued_27 : decode cX7_queued 27 = .ok (.getfield 62, 3) := by decide +kernel
theorem dX7_queued_30 : decode cX7_queued 30 = .ok (.iload_n 1, 1) := by decide +kernel
theorem dX7_queued_31 : decode cX7_queued 31 = .ok (.iaload, 1) := by decide +kernel
theorem dX7_queued_32 : decode cX7_queued 32 = .ok (.goto 4, 3) := by decide +kernel
theorem dX7_queued_35 : decode cX7_queued 35 = .ok (.iconst (-1), 1) := by decide +kernel
theorem dX7_queued_36 : decode cX7_queued 36 = .ok (.ireturn, 1) := by decide +kernel
theorem dX7_box_0 : decode cX7_box 0 = .ok (.aload_n 0, 1) := by decide +kernel
theorem dX7_box_1 : decode cX7_box 1 = .ok (.iconst 0, 1) := by decide +kernel
theorem dX7_box_2 : decode cX7_box 2 = .ok (.putfield 77, 3) := by decide +kernel
theorem dX7_box_5 : decode cX7_box 5 = .ok (.aload_n 0, 1) := by decide +kernel
theorem dX7_box_6 : decode cX7_box 6 = .ok (.getfield 102, 3) := by decide +kernel
theorem dX7_box_9 : decode cX7_box 9 = .ok (.ifCond .eq 13, 3) := by decide +kernel
theorem dX7_box_12 : decode cX7_box 12 = .ok (.iload_n 1, 1) := by decide +kernel
theorem dX7_box_13 : decode cX7_box 13 = .ok (.iconst 0, 1) := by decide +kernel
theorem dX7_box_14 : decode cX7_box 14 = .ok (.bipush 7, 2) := by decide +kernel
theorem dX7_box_16 : decode cX7_box 16 = .ok (.invokestatic 84, 3) := by decide +kernel
theorem dX7_box_19 : decode cX7_box 19 = .ok (.ifCond .ne 5, 3) := by decide +kernel
theorem dX7_box_22 : decode cX7_box 22 = .ok (.iconst (-1), 1) := by decide +kernel
theorem dX7_box_23 : decode cX7_box 23 = .ok (.ireturn, 1) := by decide +kernel
theorem dX7_box_24 : decode cX7_box 24 = .ok (.iload_n 2, 1) := by decide +kernel
theorem dX7_box_25 : decode cX7_box 25 = .ok (.iconst 0, 1) := by decide +kernel
theorem dX7_box_26 : decode cX7_box 26 = .ok (.iconst 4, 1) := by decide +kernel
theorem dX7_box_27 : decode cX7_box 27 = .ok (.invokestatic 84, 3) := by decide +kernel
theorem dX7_box_30 : decode cX7_box 30 = .ok (.ifCond .ne 6, 3) := by decide +kernel
theorem dX7_box_33 : decode cX7_box 33 = .ok (.bipush (-2), 2) := by decide +kernel
theorem dX7_box_35 : decode cX7_box 35 = .ok (.ireturn, 1) := by decide +kernel
theorem dX7_box_36 : decode cX7_box 36 = .ok (.iload_n 2, 1) := by decide +kernel
theorem dX7_box_37 : decode cX7_box 37 = .ok (.ifCond .ne 24, 3) := by decide +kernel
theorem dX7_box_40 : decode cX7_box 40 = .ok (.aload_n 0, 1) := by decide +kernel
theorem dX7_box_41 : decode cX7_box 41 = .ok (.getfield 68, 3) := by decide +kernel
theorem dX7_box_44 : decode cX7_box 44 = .ok (.iload_n 1, 1) := by decide +kernel
theorem dX7_box_45 : decode cX7_box 45 = .ok (.baload, 1) := by decide +kernel
theorem dX7_box_46 : decode cX7_box 46 = .ok (.ifCond .eq 12, 3) := by decide +kernel
theorem dX7_box_49 : decode cX7_box 49 = .ok (.aload_n 0, 1) := by decide +kernel
theorem dX7_box_50 : decode cX7_box 50 = .ok (.getfield 65, 3) := by decide +kernel
theorem dX7_box_53 : decode cX7_box 53 = .ok (.iload_n 1, 1) := by decide +kernel
theorem dX7_box_54 : decode cX7_box 54 = .ok (.iaload, 1) := by decide +kernel
theorem dX7_box_55 : decode cX7_box 55 = .ok (.goto 5, 3) := by decide +kernel
theorem dX7_box_58 : decode cX7_box 58 = .ok (.bipush (-3), 2) := by decide +kernel
theorem dX7_box_60 : decode cX7_box 60 = .ok (.ireturn, 1) := by decide +kernel
theorem dX7_box_61 : decode cX7_box 61 = .ok (.iload_n 2, 1) := by decide +kernel
theorem dX7_box_62 : decode cX7_box 62 = .ok (.iconst 1, 1) := by decide +kernel
theorem dX7_box_63 : decode cX7_box 63 = .ok (.if_icmp .ne 18, 3) := by decide +kernel
theorem dX7_box_66 : decode cX7_box 66 = .ok (.aload_n 0, 1) := by decide +kernel
theorem dX7_box_67 : decode cX7_box 67 = .ok (.getfield 68, 3) := by decide +kernel
theorem dX7_box_70 : decode cX7_box 70 = .ok (.iload_n 1, 1) := by decide +kernel
theorem dX7_box_71 : decode cX7_box 71 = .ok (.baload, 1) := by decide +kernel
theorem dX7_box_72 : decode cX7_box 72 = .ok (.ifCond .eq 7, 3) := by decide +kernel
theorem dX7_box_75 : decode cX7_box 75 = .ok (.iconst 1, 1) := by decide +kernel
theorem dX7_box_76 : decode cX7_box 76 = .ok (.goto 4, 3) := by decide +kernel
theorem dX7_box_79 : decode cX7_box 79 = .ok (.iconst 0, 1) := by decide +kernel
theorem dX7_box_80 : decode cX7_box 80 = .ok (.ireturn, 1) := by decide +kernel
theorem dX7_box_81 : decode cX7_box 81 = .ok (.iconst 0, 1) := by decide +kernel
theorem dX7_box_82 : decode cX7_box 82 = .ok (.istore_n 3, 1) := by decide +kernel
theorem dX7_box_83 : decode cX7_box 83 = .ok (.iconst 0, 1) := by decide +kernel
theorem dX7_box_84 : decode cX7_box 84 = .ok (.istore 4, 2) := by decide +kernel
theorem dX7_box_86 : decode cX7_box 86 = .ok (.iload 4, 2) := by decide +kernel
theorem dX7_box_88 : decode cX7_box 88 = .ok (.aload_n 0, 1) := by decide +kernel
theorem dX7_box_89 : decode cX7_box 89 = .ok (.getfield 92, 3) := by decide +kernel
theorem dX7_box_92 : decode cX7_box 92 = .ok (.if_icmp .ge 41, 3) := by decide +kernel
theorem dX7_box_95 : decode cX7_box 95 = .ok (.iload_n 3, 1) := by decide +kernel
theorem dX7_box_96 : decode cX7_box 96 = .ok (.aload_n 0, 1) := by decide +kernel
theorem dX7_box_97 : decode cX7_box 97 = .ok (.getfield 19, 3) := by decide +kernel
theorem dX7_box_100 : decode cX7_box 100 = .ok (.iload 4, 2) := by decide +kernel
theorem dX7_box_102 : decode cX7_box 102 = .ok (.iaload, 1) := by decide +kernel
theorem dX7_box_103 : decode cX7_box 103 = .ok (.iload_n 2, 1) := by decide +kernel
theorem dX7_box_104 : decode cX7_box 104 = .ok (.iconst 1, 1) := by decide +kernel
theorem dX7_box_105 : decode cX7_box 105 = .ok (.isub, 1) := by decide +kernel
theorem dX7_box_106 : decode cX7_box 106 = .ok (.if_icmp .ne 18, 3) := by decide +kernel
theorem dX7_box_109 : decode cX7_box 109 = .ok (.aload_n 0, 1) := by decide +kernel
theorem dX7_box_110 : decode cX7_box 110 = .ok (.getfield 56, 3) := by decide +kernel
theorem dX7_box_113 : decode cX7_box 113 = .ok (.iload 4, 2) := by decide +kernel
theorem dX7_box_115 : decode cX7_box 115 = .ok (.iaload, 1) := by decide +kernel
theorem dX7_box_116 : decode cX7_box 116 = .ok (.iload_n 1, 1) := by decide +kernel
theorem dX7_box_117 : decode cX7_box 117 = .ok (.if_icmp .ne 7, 3) := by decide +kernel
theorem dX7_box_120 : decode cX7_box 120 = .ok (.iconst 1, 1) := by decide +kernel
theorem dX7_box_121 : decode cX7_box 121 = .ok (.goto 4, 3) := by decide +kernel
theorem dX7_box_124 : decode cX7_box 124 = .ok (.iconst 0, 1) := by decide +kernel
theorem dX7_box_125 : decode cX7_box 125 = .ok (.iadd, 1) := by decide +kernel
theorem dX7_box_126 : decode cX7_box 126 = .ok (.istore_n 3, 1) := by decide +kernel
theorem dX7_box_127 : decode cX7_box 127 = .ok (.iinc 4 1, 3) := by decide +kernel
theorem dX7_box_130 : decode cX7_box 130 = .ok (.goto (-44), 3) := by decide +kernel
theorem dX7_box_133 : decode cX7_box 133 = .ok (.iload_n 3, 1) := by decide +kernel
theorem dX7_box_134 : decode cX7_box 134 = .ok (.ireturn, 1) := by decide +kernel
theorem dX7_trace_0 : decode cX7_trace 0 = .ok (.aload_n 0, 1) := by decide +kernel
theorem dX7_trace_1 : decode cX7_trace 1 = .ok (.iconst 0, 1) := by decide +kernel
theorem dX7_trace_2 : decode cX7_trace 2 = .ok (.putfield 77, 3) := by decide +kernel
theorem dX7_trace_5 : decode cX7_trace 5 = .ok (.aload_n 0, 1) := by decide +kernel
theorem dX7_trace_6 : decode cX7_trace 6 = .ok (.getfield 102, 3) := by decide +kernel
theorem dX7_trace_9 : decode cX7_trace 9 = .ok (.ifCond .eq 17, 3) := by decide +kernel
theorem dX7_trace_12 : decode cX7_trace 12 = .ok (.iload_n 1, 1) := by decide +kernel
theorem dX7_trace_13 : decode cX7_trace 13 = .ok (.iconst (-1), 1) := by decide +kernel
theorem dX7_trace_14 : decode cX7_trace 14 = .ok (.aload_n 0, 1) := by decide +kernel
theorem dX7_trace_15 : decode cX7_trace 15 = .ok (.getfield 121, 3) := by decide +kernel
theorem dX7_trace_18 : decode cX7_trace 18 = .ok (.iconst 1, 1) := by decide +kernel
theorem dX7_trace_19 : decode cX7_trace 19 = .ok (.isub, 1) := by decide +kernel
theorem dX7_trace_20 : decode cX7_trace 20 = .ok (.invokestatic 84, 3) := by decide +kernel
theorem dX7_trace_23 : decode cX7_trace 23 = .ok (.ifCond .ne 5, 3) := by decide +kernel
theorem dX7_trace_26 : decode cX7_trace 26 = .ok (.iconst (-1), 1) := by decide +kernel
theorem dX7_trace_27 : decode cX7_trace 27 = .ok (.ireturn, 1) := by decide +kernel
theorem dX7_trace_28 : decode cX7_trace 28 = .ok (.iload_n 2, 1) := by decide +kernel
theorem dX7_trace_29 : decode cX7_trace 29 = .ok (.iconst 0, 1) := by decide +kernel
theorem dX7_trace_30 : decode cX7_trace 30 = .ok (.iconst 1, 1) := by decide +kernel
theorem dX7_trace_31 : decode cX7_trace 31 = .ok (.invokestatic 84, 3) := by decide +kernel
theorem dX7_trace_34 : decode cX7_trace 34 = .ok (.ifCond .ne 6, 3) := by decide +kernel
theorem dX7_trace_37 : decode cX7_trace 37 = .ok (.bipush (-2), 2) := by decide +kernel
theorem dX7_trace_39 : decode cX7_trace 39 = .ok (.ireturn, 1) := by decide +kernel
theorem dX7_trace_40 : decode cX7_trace 40 = .ok (.iload_n 1, 1) := by decide +kernel
theorem dX7_trace_41 : decode cX7_trace 41 = .ok (.ifCond .ge 10, 3) := by decide +kernel
theorem dX7_trace_44 : decode cX7_trace 44 = .ok (.aload_n 0, 1) := by decide +kernel
theorem dX7_trace_45 : decode cX7_trace 45 = .ok (.getfield 121, 3) := by decide +kernel
theorem dX7_trace_48 : decode cX7_trace 48 = .ok (.goto 22, 3) := by decide +kernel
theorem dX7_trace_51 : decode cX7_trace 51 = .ok (.iload_n 2, 1) := by decide +kernel
theorem dX7_trace_52 : decode cX7_trace 52 = .ok (.ifCond .ne 12, 3) := by decide +kernel
theorem dX7_trace_55 : decode cX7_trace 55 = .ok (.aload_n 0, 1) := by decide +kernel
theorem dX7_trace_56 : decode cX7_trace 56 = .ok (.getfield 71, 3) := by decide +kernel
theorem dX7_trace_59 : decode cX7_trace 59 = .ok (.iload_n 1, 1) := by decide +kernel
theorem dX7_trace_60 : decode cX7_trace 60 = .ok (.iaload, 1) := by decide +kernel
theorem dX7_trace_61 : decode cX7_trace 61 = .ok (.goto 9, 3) := by decide +kernel
theorem dX7_trace_64 : decode cX7_trace 64 = .ok (.aload_n 0, 1) := by decide +kernel
theorem dX7_trace_65 : decode cX7_trace 65 = .ok (.getfield 74, 3) := by decide +kernel
theorem dX7_trace_68 : decode cX7_trace 68 = .ok (.iload_n 1, 1) := by decide +kernel
theorem dX7_trace_69 : decode cX7_trace 69 = .ok (.iaload, 1) := by decide +kernel
theorem dX7_trace_70 : decode cX7_trace 70 = .ok (.ireturn, 1) := by decide +kernel
theorem dX7_share_0 : decode cX7_share 0 = .ok (.aload_n 0, 1) := by decide +kernel
theorem dX7_share_1 : decode cX7_share 1 = .ok (.iconst 0, 1) := by decide +kernel
theorem dX7_share_2 : decode cX7_share 2 = .ok (.putfield 77, 3) := by decide +kernel
theorem dX7_share_5 : decode cX7_share 5 = .ok (.aload_n 0, 1) := by decide +kernel
theorem dX7_share_6 : decode cX7_share 6 = .ok (.getfield 102, 3) := by decide +kernel
theorem dX7_share_9 : decode cX7_share 9 = .ok (.ifCond .eq 17, 3) := by decide +kernel
theorem dX7_share_12 : decode cX7_share 12 = .ok (.iload_n 1, 1) := by decide +kernel
theorem dX7_share_13 : decode cX7_share 13 = .ok (.iconst 0, 1) := by decide +kernel
theorem dX7_share_14 : decode cX7_share 14 = .ok (.aload_n 0, 1) := by decide +kernel
theorem dX7_share_15 : decode cX7_share 15 = .ok (.getfield 92, 3) := by decide +kernel
theorem dX7_share_18 : decode cX7_share 18 = .ok (.iconst 1, 1) := by decide +kernel
theorem dX7_share_19 : decode cX7_share 19 = .ok (.isub, 1) := by decide +kernel
theorem dX7_share_20 : decode cX7_share 20 = .ok (.invokestatic 84, 3) := by decide +kernel
theorem dX7_share_23 : decode cX7_share 23 = .ok (.ifCond .ne 5, 3) := by decide +kernel
theorem dX7_share_26 : decode cX7_share 26 = .ok (.iconst (-1), 1) := by decide +kernel
theorem dX7_share_27 : decode cX7_share 27 = .ok (.ireturn, 1) := by decide +kernel
theorem dX7_share_28 : decode cX7_share 28 = .ok (.aload_n 0, 1) := by decide +kernel
theorem dX7_share_29 : decode cX7_share 29 = .ok (.getfield 115, 3) := by decide +kernel
theorem dX7_share_32 : decode cX7_share 32 = .ok (.ifCond .ne 10, 3) := by decide +kernel
theorem dX7_share_35 : decode cX7_share 35 = .ok (.aload_n 0, 1) := by decide +kernel
theorem dX7_share_36 : decode cX7_share 36 = .ok (.iconst 1, 1) := by decide +kernel
theorem dX7_share_37 : decode cX7_share 37 = .ok (.putfield 77, 3) := by decide +kernel
theorem dX7_share_40 : decode cX7_share 40 = .ok (.iconst 0, 1) := by decide +kernel
theorem dX7_share_41 : decode cX7_share 41 = .ok (.ireturn, 1) := by decide +kernel
theorem dX7_share_42 : decode cX7_share 42 = .ok (.sipush 1000, 3) := by decide +kernel
theorem dX7_share_45 : decode cX7_share 45 = .ok (.aload_n 0, 1) := by decide +kernel
theorem dX7_share_46 : decode cX7_share 46 = .ok (.getfield 50, 3) := by decide +kernel
theorem dX7_share_49 : decode cX7_share 49 = .ok (.iload_n 1, 1) := by decide +kernel
theorem dX7_share_50 : decode cX7_share 50 = .ok (.iaload, 1) := by decide +kernel
theorem dX7_share_51 : decode cX7_share 51 = .ok (.imul, 1) := by decide +kernel
theorem dX7_share_52 : decode cX7_share 52 = .ok (.aload_n 0, 1) := by decide +kernel
theorem dX7_share_53 : decode cX7_share 53 = .ok (.getfield 115, 3) := by decide +kernel
theorem dX7_share_56 : decode cX7_share 56 = .ok (.idiv, 1) := by decide +kernel
theorem dX7_share_57 : decode cX7_share 57 = .ok (.ireturn, 1) := by decide +kernel
end
section
/-! The system's state: families of cells (a family: a number; its members by an index), each cell's slots as whole numbers; references that never change stand in the layout, the queue's own array of references apart. -/
abbrev tV : Type := Int32 ⊕ Option (Nat × Nat)
abbrev tH : Type := (Nat → Nat → Nat → Int32) × (Nat → Option Nat)
abbrev tG : Type := va_G × (Nat → ClassId)
def rv (ad : Nat → Nat → Nat) (v : tV) : Value := match v with
  | .inl x => .int x
  | .inr none => .null
  | .inr (some q) => .ref (ad q.1 q.2)
/-- a family: (0, its class, its slots, how many) an object; (1, length, 0, how many) int[]; (2, ..) boolean[]; (3, length, target, ..) Fiber[] that stays; (4, ..) int[][] that stays; (5, ..) the queue's Fiber[] -/
def lays : List (Nat × Nat × Nat × Nat) := [(0, 6, 2, 1), (0, 3, 4, 1), (1, 12, 0, 1), (4, 12, 4, 1), (1, 20, 0, 12), (4, 12, 6, 1), (1, 20, 0, 12), (0, 1, 15, 24), (1, 4, 0, 24), (1, 4, 0, 24), (0, 2, 2, 1), (5, 24, 0, 1), (0, 0, 2, 1), (2, 8, 0, 1), (1, 8, 0, 1), (0, 4, 3, 1), (1, 100, 0, 1), (1, 100, 0, 1), (0, 5, 13, 1), (3, 24, 7, 1), (0, 7, 35, 1), (1, 12, 0, 1), (1, 240, 0, 1), (1, 240, 0, 1), (1, 24, 0, 1), (1, 24, 0, 1), (1, 24, 0, 1), (1, 24, 0, 1), (1, 24, 0, 1), (1, 96, 0, 1), (2, 24, 0, 1), (1, 24, 0, 1), (1, 96, 0, 1), (1, 24, 0, 1), (1, 24, 0, 1), (1, 24, 0, 1), (1, 24, 0, 1), (1, 24, 0, 1), (1, 25, 0, 1), (1, 8, 0, 1), (2, 8, 0, 1), (1, 100, 0, 1), (1, 100, 0, 1)]
def lay (c : Nat) : Nat × Nat × Nat × Nat := lays.getD c (9, 0, 0, 0)
/-- which slots are references that stay: (family, 0: its first, 1: the one of the same index) -/
def sks : List (List (Option (Nat × Nat))) := [[some (1, 0), some (18, 0)], [some (2, 0), some (3, 0), some (5, 0), none], [], [], [], [], [], [none, some (8, 1), some (9, 1)], [], [], [some (11, 0), none], [], [some (13, 0), some (14, 0)], [], [], [some (16, 0), some (17, 0), none], [], [], [some (1, 0), some (19, 0), some (10, 0), some (12, 0), some (15, 0)], [],
  [none, none, some (21, 0), some (22, 0), some (23, 0), none, none, none, none, none, none, none, some (24, 0), some (25, 0), some (26, 0), some (27, 0), some (28, 0), some (29, 0), some (30, 0), some (31, 0), some (32, 0), some (33, 0), some (34, 0), some (35, 0), some (36, 0), some (37, 0), none, none, some (38, 0), some (39, 0), some (40, 0), none, some (41, 0), some (42, 0), none]]
def sk (c k : Nat) : Option (Nat × Nat) := (sks.getD c []).getD k none
def rfi (i m : Nat) : Nat := if m = 0 then 0 else i
def fv (ad : Nat → Nat → Nat) (c i k : Nat) (x : Int32) : Value := match sk c k with
  | none => .int x
  | some q => .ref (ad q.1 (rfi i q.2))
def fvs (ad : Nat → Nat → Nat) (c i N : Nat) (f : Nat → Int32) : List Value := (List.range N).map (fun k => fv ad c i k (f k))
def cE (G : tG) (ad : Nat → Nat → Nat) (h : tH) (c i : Nat) : va_E := match lay c with
  | (0, ci, N, _) => .inr (ci, fvs ad c i N (h.1 c i))
  | (1, n, _, _) => .inl (G.2 0, n, .inl (h.1 c i))
  | (2, n, _, _) => .inl (G.2 1, n, .inl (h.1 c i))
  | (3, n, b, _) => .inl (G.2 2, n, .inr (.inr (.inr (.inr (fun j => some (ad b j))))))
  | (4, n, b, _) => .inl (G.2 3, n, .inr (.inr (.inr (.inr (fun j => some (ad b j))))))
  | (5, n, _, _) => .inl (G.2 2, n, .inr (.inr (.inr (.inr (fun j => (h.2 j).map (ad 7))))))
  | _ => .inr (99, [])
theorem cE_0 {G : tG} {ad : Nat → Nat → Nat} {h : tH} {c i ci N n : Nat} (hl : lay c = (0, ci, N, n)) : cE G ad h c i = .inr (ci, fvs ad c i N (h.1 c i)) := by unfold cE; rw [hl]; rfl
theorem cE_1 {G : tG} {ad : Nat → Nat → Nat} {h : tH} {c i n b w : Nat} (hl : lay c = (1, n, b, w)) : cE G ad h c i = .inl (G.2 0, n, .inl (h.1 c i)) := by unfold cE; rw [hl]; rfl
theorem cE_2 {G : tG} {ad : Nat → Nat → Nat} {h : tH} {c i n b w : Nat} (hl : lay c = (2, n, b, w)) : cE G ad h c i = .inl (G.2 1, n, .inl (h.1 c i)) := by unfold cE; rw [hl]; rfl
theorem cE_3 {G : tG} {ad : Nat → Nat → Nat} {h : tH} {c i n b w : Nat} (hl : lay c = (3, n, b, w)) : cE G ad h c i = .inl (G.2 2, n, .inr (.inr (.inr (.inr (fun j => some (ad b j)))))) := by unfold cE; rw [hl]; rfl
theorem cE_4 {G : tG} {ad : Nat → Nat → Nat} {h : tH} {c i n b w : Nat} (hl : lay c = (4, n, b, w)) : cE G ad h c i = .inl (G.2 3, n, .inr (.inr (.inr (.inr (fun j => some (ad b j)))))) := by unfold cE; rw [hl]; rfl
theorem cE_5 {G : tG} {ad : Nat → Nat → Nat} {h : tH} {c i n b w : Nat} (hl : lay c = (5, n, b, w)) : cE G ad h c i = .inl (G.2 2, n, .inr (.inr (.inr (.inr (fun j => (h.2 j).map (ad 7)))))) := by unfold cE; rw [hl]; rfl
theorem cE_congr {G : tG} {ad : Nat → Nat → Nat} {h h' : tH} {c i : Nat} (h1 : h'.1 c i = h.1 c i) (h2 : (lay c).1 = 5 → h'.2 = h.2) : cE G ad h' c i = cE G ad h c i := by
  unfold cE
  rw [h1]
  split <;> first | rfl | (rename_i hl; rw [h2 (by rw [hl])])
/-- all cells -/
def fams : List (Nat × Nat) := (List.range 43).flatMap (fun c => (List.range (lay c).2.2.2).map (fun i => (c, i)))
def fpos (q : Nat × Nat) : Nat := ((List.range q.1).map (fun c => (lay c).2.2.2)).sum + q.2
theorem fams_pos : ∀ (k : Nat) (q : Nat × Nat), fams[k]? = some q → fpos q = k := by
  have h : (List.range fams.length).all (fun k => decide ((fams[k]?).map fpos = some k)) = true := by decide +kernel
  intro k q hk
  have hl := (List.getElem?_eq_some_iff.mp hk).1
  have h1 := of_decide_eq_true (List.all_eq_true.mp h k (List.mem_range.mpr hl))
  rw [hk] at h1
  exact Option.some.inj h1
theorem fam_at {c i : Nat} (hi : i < (lay c).2.2.2) : ∃ k : Nat, fams[k]? = some (c, i) := by
  have hc : c < 43 := by
    rcases Nat.lt_or_ge c 43 with h | h
    · exact h
    · exfalso
      have : lays[c]? = none := List.getElem?_eq_none (by simpa [lays] using h)
      unfold lay at hi
      rw [List.getD_eq_getElem?_getD, this] at hi
      exact absurd hi (by simp)
  exact List.getElem?_of_mem (List.mem_flatMap.mpr ⟨c, List.mem_range.mpr hc, List.mem_map.mpr ⟨i, List.mem_range.mpr hi, rfl⟩⟩)
def wl (G : tG) (ad : Nat → Nat → Nat) (h : tH) : va_W := fams.map (fun q => (ad q.1 q.2, cE G ad h q.1 q.2))
theorem wl_get (G : tG) (ad : Nat → Nat → Nat) (h : tH) {c i : Nat} (hi : i < (lay c).2.2.2) : ∃ k : Nat, fams[k]? = some (c, i) ∧ (wl G ad h)[k]? = some (ad c i, cE G ad h c i) := by
  obtain ⟨k, hk⟩ := fam_at hi
  exact ⟨k, hk, by unfold wl; rw [List.getElem?_map, hk]; rfl⟩
theorem wl_set {G : tG} {ad : Nat → Nat → Nat} {h h' : tH} {c i k : Nat} {e : va_E} (hk : fams[k]? = some (c, i)) (he : e = cE G ad h' c i) (ho : ∀ q : Nat × Nat, q ∈ fams → q ≠ (c, i) → cE G ad h' q.1 q.2 = cE G ad h q.1 q.2) : (wl G ad h).set k (ad c i, e) = wl G ad h' := by
  subst he
  have hl := (List.getElem?_eq_some_iff.mp hk).1
  apply List.ext_getElem?
  intro j
  by_cases hj : j = k
  · subst hj
    rw [List.getElem?_set_self (by unfold wl; simpa using hl)]
    unfold wl
    rw [List.getElem?_map, hk]
    rfl
  · rw [List.getElem?_set_ne (Ne.symm hj)]
    unfold wl
    rw [List.getElem?_map, List.getElem?_map]
    cases hq : fams[j]? with
    | none => rfl
    | some q =>
      have hne : q ≠ (c, i) := fun e => hj (by rw [← fams_pos j q hq, ← fams_pos k (c, i) hk, e])
      show some (ad q.1 q.2, cE G ad h q.1 q.2) = some (ad q.1 q.2, cE G ad h' q.1 q.2)
      rw [ho q (List.mem_of_getElem? hq) hne]
def put (h : tH) (c i k : Nat) (x : Int32) : tH := (fun c' i' k' => if c' = c ∧ i' = i ∧ k' = k then x else h.1 c' i' k', h.2)
def putq (h : tH) (k : Nat) (r : Option Nat) : tH := (h.1, fun j => if j = k then r else h.2 j)
theorem put_off {h : tH} {c i k : Nat} {x : Int32} {q : Nat × Nat} (hq : q ≠ (c, i)) : (put h c i k x).1 q.1 q.2 = h.1 q.1 q.2 := by
  funext j
  show (if q.1 = c ∧ q.2 = i ∧ j = k then x else h.1 q.1 q.2 j) = _
  rw [if_neg]
  rintro ⟨e1, e2, -⟩
  exact hq (Prod.ext e1 e2)
theorem put_upd {h : tH} {c i k : Nat} {x : Int32} : (put h c i k x).1 c i = upd (h.1 c i) k x := by
  funext j
  show (if c = c ∧ i = i ∧ j = k then x else h.1 c i j) = if j = k then x else h.1 c i j
  simp
theorem fvs_get {ad : Nat → Nat → Nat} {c i N k : Nat} {f : Nat → Int32} (hk : k < N) : (fvs ad c i N f)[k]? = some (fv ad c i k (f k)) := by
  unfold fvs
  rw [List.getElem?_map, List.getElem?_range hk]
  rfl
theorem fvs_set {ad : Nat → Nat → Nat} {c i N k : Nat} {f : Nat → Int32} {x : Int32} (hk : k < N) (hs : sk c k = none) : (fvs ad c i N f).set k (.int x) = fvs ad c i N (upd f k x) := by
  apply List.ext_getElem?
  intro j
  by_cases hj : j = k
  · subst hj
    rw [List.getElem?_set_self (by unfold fvs; simpa using hk), fvs_get hk]
    unfold fv
    rw [hs]
    simp [upd]
  · rw [List.getElem?_set_ne (Ne.symm hj)]
    rcases Nat.lt_or_ge j N with h | h
    · rw [fvs_get h, fvs_get h]
      simp [upd, hj]
    · rw [List.getElem?_eq_none (by unfold fvs; simpa using h), List.getElem?_eq_none (by unfold fvs; simpa using h)]
theorem fvs_len {ad : Nat → Nat → Nat} {c i N : Nat} {f : Nat → Int32} : (fvs ad c i N f).length = N := by unfold fvs; simp
/-! the tables' words -/
def isNest : Cond → Bool
  | .fieldLinkNest .. => true
  | .methodLinkNest .. => true
  | _ => false
def tbOK (w : Cond) : Bool := (w.onTables && w.keeps) || isNest w
theorem tbOK_on {w : Cond} (h : tbOK w = true) : w.onTables = true := by
  unfold tbOK at h
  rcases Bool.or_eq_true_iff.mp h with h | h
  · exact (Bool.and_eq_true_iff.mp h).1
  · cases w <;> first | rfl | (simp [isNest] at h)
def Tb (U : State) : Prop := ∀ w ∈ lw_tbl, tbOK w = true → w.before #[] U = true
theorem Tb.use {U : State} {args : Array Value} {w : Cond} (h : Tb U) (hw : w ∈ lw_tbl) (ho : tbOK w = true) : w.before args U = true := va_tabs (tbOK_on ho) rfl (h w hw ho)
theorem Tb.same {u U : State} (e : u.vm = U.vm) (h : Tb u) : Tb U := fun w hw ho => va_tabs (tbOK_on ho) e (h w hw ho)
theorem Tb.warm {s U : State} (hW : s.WarmedH U.vm) (h : Tb s) : Tb U := by
  intro w hw ho
  have h1 := h w hw ho
  unfold tbOK at ho
  rcases Bool.or_eq_true_iff.mp ho with ho | ho
  · exact word_at hW (Or.inl ho) h1
  · cases w <;> first | exact va_Nw.warmF hW h1 | exact va_Nw.warmM hW h1 | (simp [isNest] at ho)
abbrev tyG (G : tG) : List (ClassId × FieldType) := [(G.2 0, .int), (G.2 1, .boolean), (G.2 2, .object RX1), (G.2 3, .array .int)]
/-! the judgement -/
def rmd (d : Nat) : Room := { frames := d, cells := 0, slots := 0, locals := 27 * d }
def CX (p : Program) (s : State) (m : MethodId) (meth : Method) (c : Code) (own : String) (cc : ByteArray) (nL : Nat) (ret : Option FieldType) (G : tG) : Prop :=
  p.tables.exec = Jvm.exec ∧ c.code = cc ∧ c.maxLocals = nL ∧ meth.sig.returnType = ret ∧ s.vm.findClass own = some m.cls ∧ meth.locks = false ∧ Tb s ∧ va_K G.1 vwCl (tyG G) s
def Qw (G : tG) (ad : Nat → Nat → Nat) (A : Nat → Prop) (Q : Option tV → tH → Prop) : Array Value → State → Outcome → State → Prop := fun _ st oc t =>
  (∃ (r : Option tV) (h : tH), oc = .returned (r.map (rv ad)) ∧ Q r h ∧ va_P G.1 vwCl (wl G ad h) t.heap ∧ va_D A (wl G ad h)) ∧ va_F A st t
def lvR (ad : Nat → Nat → Nat) (lv : List (Option tV)) : List (Nat × Value) := (List.range lv.length).filterMap (fun j => (lv.getD j none).map (fun v => (j, rv ad v)))
def Sx (A : Nat → Prop) (H0 H : Heap) (locs : List Loc) : Prop := va_S A H0 H locs ∧ ∀ q, H0.size ≤ q → A q
def Vw (own : String) (cc : ByteArray) (nL : Nat) (ret : Option FieldType) (d : Nat) (Q : Option tV → tH → Prop) (pc : Nat) (lv : List (Option tV)) (st : List tV) (h : tH) : Prop :=
  ∀ (p : Program) (l : Launch) (e : Env) (s : State) (m : MethodId) (args : Array Value) (below : List Frame) (meth : Method) (c : Code) (G : tG) (ad : Nat → Nat → Nat) (A : Nat → Prop) (H : Heap) (locs : List Loc) (ls : Array Slot),
    CX p s m meth c own cc nL ret G → va_P G.1 vwCl (wl G ad h) H → va_D A (wl G ad h) → Sx A s.heap H locs → lv_has ls nL (lvR ad lv) →
    W p l e (rmd d) s m args below meth c H locs 0 0 (MQ below (Qw G ad A Q) args s 0 0 A) (F0 m pc ls (st.map (rv ad)))
def Pw (G : tG) (ad : Nat → Nat → Nat) (sz : Nat) (h : tH) (U : State) : Prop := U.heap.size = sz ∧ va_P G.1 vwCl (wl G ad h) U.heap ∧ va_D (fun _ => True) (wl G ad h) ∧ va_K G.1 vwCl (tyG G) U ∧ Tb U
/-- a method's contract over the system's state: arguments, state before; answer and state behind -/
def Ct (y : MethodName) (cc : ByteArray) (maxL : Nat) (ret : Option FieldType) (d : Nat) (as : List tV) (h : tH) (Q : Option tV → tH → Prop) : Prop :=
  ∀ (l : Launch) (G : tG) (ad : Nat → Nat → Nat) (sz : Nat), Met l y [Cond.code y cc maxL ret] (rmd d) (va_Pc (as.map (rv ad)) (Pw G ad sz h)) (Qw G ad (va_A (wl G ad h) sz) Q) 0 0 (va_A (wl G ad h) sz)
theorem rv_cat (ad : Nat → Nat → Nat) (v : tV) : (rv ad v).category = 1 := by
  cases v with
  | inl x => rfl
  | inr r => cases r <;> rfl
theorem lvR_mem {ad : Nat → Nat → Nat} {lv : List (Option tV)} {j : Nat} {v : tV} (h : lv.getD j none = some v) : (j, rv ad v) ∈ lvR ad lv := by
  have hl : j < lv.length := by
    rcases Nat.lt_or_ge j lv.length with q | q
    · exact q
    · rw [List.getD_eq_getElem?_getD, List.getElem?_eq_none q] at h
      cases h
  exact List.mem_filterMap.mpr ⟨j, List.mem_range.mpr hl, by rw [h]; rfl⟩
theorem lvR_of {ad : Nat → Nat → Nat} {lv : List (Option tV)} {q : Nat × Value} (h : q ∈ lvR ad lv) : ∃ v, lv.getD q.1 none = some v ∧ q.2 = rv ad v := by
  obtain ⟨j, -, hj⟩ := List.mem_filterMap.mp h
  cases e : lv.getD j none with
  | none => rw [e] at hj; cases hj
  | some v =>
    rw [e] at hj
    cases hj
    exact ⟨v, e, rfl⟩
theorem lvR_at {ad : Nat → Nat → Nat} {ls : Array Slot} {nL j : Nat} {lv : List (Option tV)} {v : tV} (hl : lv_has ls nL (lvR ad lv)) (h : lv.getD j none = some v) : ls[j]? = some (.val (rv ad v)) := hl.2.2 _ (lvR_mem h)
theorem lvR_set {ad : Nat → Nat → Nat} {ls : Array Slot} {nL i : Nat} {lv : List (Option tV)} {v : tV} (hl : lv_has ls nL ((i, rv ad v) :: (lvR ad lv).filter (fun q => !(q.1 == i) && !(q.1 + 1 == i && q.2.category == 2)))) : lv_has ls nL (lvR ad (lv.set i (some v))) := by
  refine ⟨hl.1, hl.2.1, fun q hq => hl.2.2 q ?_⟩
  obtain ⟨w, hw, e⟩ := lvR_of hq
  obtain ⟨j, x⟩ := q
  dsimp only at hw e
  subst e
  by_cases hj : j = i
  · subst hj
    have : w = v := by
      rw [List.getD_eq_getElem?_getD] at hw
      rcases Nat.lt_or_ge j lv.length with z | z
      · rw [List.getElem?_set_self z] at hw
        exact (Option.some.inj hw).symm
      · rw [List.getElem?_eq_none (by simpa using z)] at hw
        cases hw
    subst this
    exact List.mem_cons_self
  · refine List.mem_cons_of_mem _ (List.mem_filter.mpr ⟨lvR_mem ?_, ?_⟩)
    · rw [List.getD_eq_getElem?_getD, List.getElem?_set_ne (Ne.symm hj)] at hw
      rw [List.getD_eq_getElem?_getD]
      exact hw
    · simp [hj, rv_cat]
theorem lg_len (ad : Nat → Nat → Nat) : ∀ as : List tV, (lg_sl (as.map (rv ad))).length = as.length
  | [] => rfl
  | a :: as => by
    have h := lg_len ad as
    unfold lg_sl at h ⊢
    simp only [List.map_cons, List.flatMap_cons, rv_cat, List.length_append, List.length_cons]
    rw [h]
    simp
    omega
theorem lv_argsR (ad : Nat → Nat → Nat) : ∀ (as : List tV) (k : Nat) (q : Nat × Value), (∃ (j : Nat) (v : tV), as[j]? = some v ∧ q = (k + j, rv ad v)) → q ∈ lv_args k (as.map (rv ad))
  | [], _, q, ⟨j, v, h, _⟩ => by simp at h
  | a :: as, k, q, ⟨j, v, h, e⟩ => by
    simp only [List.map_cons, lv_args, rv_cat]
    cases j with
    | zero =>
      rw [List.getElem?_cons_zero] at h
      cases h
      rw [e]
      exact List.mem_cons_self
    | succ j =>
      rw [List.getElem?_cons_succ] at h
      refine List.mem_cons_of_mem _ (lv_argsR ad as _ q ⟨j, v, h, ?_⟩)
      rw [e]
      simp
      omega
/-- a contract out of the walk of the method's body -/
theorem Ct.of {y : MethodName} {cc : ByteArray} {maxL d : Nat} {ret : Option FieldType} {as : List tV} {h : tH} {Q : Option tV → tH → Prop} (hy : plainName y.cls = true) (lv : List (Option tV)) (hlv : as.map some ++ List.replicate (maxL - as.length) none = lv) (hm : as.length ≤ maxL) (hv : Vw y.cls cc maxL ret d Q 0 lv [] h) : Ct y cc maxL ret d as h Q := by
  subst hlv
  intro l G ad sz
  refine Met.ofW (cc := cc) (maxL := maxL) (ret := ret) hy rfl ?_
  intro p e s m args below meth c s₁ B hml hvp
  obtain ⟨rfl, hsz, hP, hD0, hK, hT⟩ := hvp
  have hown : s.vm.findClass y.cls = some m.cls := findClass_of_methodNamed B.named
  subst hsz
  have hD := hD0.self (sz := s.heap.size)
  have hl := lv_entry (as.map (rv ad)) (n := maxL) (by rw [lg_len]; exact hm)
  rw [lg_entry_eq]
  refine hv p l e s m _ below meth c G ad _ s.heap [] _ ⟨B.exec, B.bytes, hml, B.returns, hown, B.notSynchronized, hT, hK⟩ hP hD ⟨va_S.rf, fun q h => Or.inr h⟩ ⟨hl.1, hl.2.1, fun q hq => hl.2.2 q ?_⟩
  obtain ⟨v, h1, h2⟩ := lvR_of hq
  refine lv_argsR ad as 0 q ⟨q.1, v, ?_, by rw [← h2, Nat.zero_add]⟩
  rw [List.getD_eq_getElem?_getD] at h1
  rcases Nat.lt_or_ge q.1 as.length with z | z
  · rw [List.getElem?_append_left (by simpa using z), List.getElem?_map] at h1
    cases e : as[q.1]? with
    | none => rw [e] at h1; cases h1
    | some w =>
      rw [e] at h1
      simp at h1
      rw [h1]
  · rw [List.getElem?_append_right (by simpa using z)] at h1
    cases e : (List.replicate (maxL - as.length) (none : Option tV))[q.1 - (List.map some as).length]? with
    | none => rw [e] at h1; cases h1
    | some w =>
      have := List.eq_of_mem_replicate (List.mem_of_getElem? e)
      rw [e, this] at h1
      cases h1
end
section
/-! Rows of the judgement Vw: one an instruction -/
section VwRows
variable {own : String} {cc : ByteArray} {nL : Nat} {ret : Option FieldType} {d : Nat} {Q : Option tV → tH → Prop} {pc : Nat} {lv : List (Option tV)} {st : List tV} {h : tH}
theorem v_iconst {n : Int} (x : Int32) (hdg : decode cc pc = .ok (.iconst n, 1)) (hv : Int32.ofInt n = x) (k : Vw own cc nL ret d Q (pc + 1) lv (.inl x :: st) h) : Vw own cc nL ret d Q pc lv st h :=
  fun p l e s m args below meth c G ad A H locs ls C hP hD hS hl => lv_iconst C.1 C.2.1 hdg hv (k p l e s m args below meth c G ad A H locs ls C hP hD hS hl)
theorem v_bipush {n : Int} (x : Int32) (hdg : decode cc pc = .ok (.bipush n, 2)) (hv : (Int8.ofInt n).toInt32 = x) (k : Vw own cc nL ret d Q (pc + 2) lv (.inl x :: st) h) : Vw own cc nL ret d Q pc lv st h :=
  fun p l e s m args below meth c G ad A H locs ls C hP hD hS hl => lv_bipush C.1 C.2.1 hdg hv (k p l e s m args below meth c G ad A H locs ls C hP hD hS hl)
theorem v_sipush {n : Int} (x : Int32) (hdg : decode cc pc = .ok (.sipush n, 3)) (hv : (Int16.ofInt n).toInt32 = x) (k : Vw own cc nL ret d Q (pc + 3) lv (.inl x :: st) h) : Vw own cc nL ret d Q pc lv st h :=
  fun p l e s m args below meth c G ad A H locs ls C hP hD hS hl => lv_sipush C.1 C.2.1 hdg hv (k p l e s m args below meth c G ad A H locs ls C hP hD hS hl)
theorem v_iload_n {j : Fin 4} {x : Int32} (hdg : decode cc pc = .ok (.iload_n j, 1)) (hg : lv.getD j none = some (.inl x)) (k : Vw own cc nL ret d Q (pc + 1) lv (.inl x :: st) h) : Vw own cc nL ret d Q pc lv st h :=
  fun p l e s m args below meth c G ad A H locs ls C hP hD hS hl => lv_iload_n C.1 C.2.1 hdg rfl (lvR_at hl hg) (k p l e s m args below meth c G ad A H locs ls C hP hD hS hl)
theorem v_iload {j : Nat} {x : Int32} (hdg : decode cc pc = .ok (.iload j, 2)) (hg : lv.getD j none = some (.inl x)) (k : Vw own cc nL ret d Q (pc + 2) lv (.inl x :: st) h) : Vw own cc nL ret d Q pc lv st h :=
  fun p l e s m args below meth c G ad A H locs ls C hP hD hS hl => lv_iload C.1 C.2.1 hdg (lvR_at hl hg) (k p l e s m args below meth c G ad A H locs ls C hP hD hS hl)
theorem v_aload_n {j : Fin 4} {r : Option (Nat × Nat)} (hdg : decode cc pc = .ok (.aload_n j, 1)) (hg : lv.getD j none = some (.inr r)) (k : Vw own cc nL ret d Q (pc + 1) lv (.inr r :: st) h) : Vw own cc nL ret d Q pc lv st h := by
  intro p l e s m args below meth c G ad A H locs ls C hP hD hS hl
  have hk := k p l e s m args below meth c G ad A H locs ls C hP hD hS hl
  have ha := lvR_at hl hg
  cases r with
  | none => exact lv_aload_nN C.1 C.2.1 hdg rfl ha hk
  | some q => exact lv_aload_n C.1 C.2.1 hdg rfl ha hk
theorem v_aload {j : Nat} {r : Option (Nat × Nat)} (hdg : decode cc pc = .ok (.aload j, 2)) (hg : lv.getD j none = some (.inr r)) (k : Vw own cc nL ret d Q (pc + 2) lv (.inr r :: st) h) : Vw own cc nL ret d Q pc lv st h := by
  intro p l e s m args below meth c G ad A H locs ls C hP hD hS hl
  have hk := k p l e s m args below meth c G ad A H locs ls C hP hD hS hl
  have ha := lvR_at hl hg
  cases r with
  | none => exact lv_aloadN C.1 C.2.1 hdg ha hk
  | some q => exact lv_aload C.1 C.2.1 hdg ha hk
theorem v_istore_n {j : Fin 4} {x : Int32} (lv' : List (Option tV)) (hdg : decode cc pc = .ok (.istore_n j, 1)) (hs : lv.set j (some (.inl x)) = lv') (hn : (j : Nat) < nL) (k : Vw own cc nL ret d Q (pc + 1) lv' st h) : Vw own cc nL ret d Q pc lv (.inl x :: st) h := by
  subst hs
  intro p l e s m args below meth c G ad A H locs ls C hP hD hS hl
  exact lv_istore_n C.1 C.2.1 hdg rfl hl hn rfl (fun ls' hl' => k p l e s m args below meth c G ad A H locs ls' C hP hD hS (lvR_set hl'))
theorem v_istore {j : Nat} {x : Int32} (lv' : List (Option tV)) (hdg : decode cc pc = .ok (.istore j, 2)) (hs : lv.set j (some (.inl x)) = lv') (hn : j < nL) (k : Vw own cc nL ret d Q (pc + 2) lv' st h) : Vw own cc nL ret d Q pc lv (.inl x :: st) h := by
  subst hs
  intro p l e s m args below meth c G ad A H locs ls C hP hD hS hl
  exact lv_istore C.1 C.2.1 hdg hl hn rfl (fun ls' hl' => k p l e s m args below meth c G ad A H locs ls' C hP hD hS (lvR_set hl'))
theorem v_astore_n {j : Fin 4} {r : Option (Nat × Nat)} (lv' : List (Option tV)) (hdg : decode cc pc = .ok (.astore_n j, 1)) (hs : lv.set j (some (.inr r)) = lv') (hn : (j : Nat) < nL) (k : Vw own cc nL ret d Q (pc + 1) lv' st h) : Vw own cc nL ret d Q pc lv (.inr r :: st) h := by
  subst hs
  intro p l e s m args below meth c G ad A H locs ls C hP hD hS hl
  cases r with
  | none => exact lv_astore_nN C.1 C.2.1 hdg rfl hl hn rfl (fun ls' hl' => k p l e s m args below meth c G ad A H locs ls' C hP hD hS (lvR_set hl'))
  | some q => exact lv_astore_n C.1 C.2.1 hdg rfl hl hn rfl (fun ls' hl' => k p l e s m args below meth c G ad A H locs ls' C hP hD hS (lvR_set hl'))
theorem v_astore {j : Nat} {r : Option (Nat × Nat)} (lv' : List (Option tV)) (hdg : decode cc pc = .ok (.astore j, 2)) (hs : lv.set j (some (.inr r)) = lv') (hn : j < nL) (k : Vw own cc nL ret d Q (pc + 2) lv' st h) : Vw own cc nL ret d Q pc lv (.inr r :: st) h := by
  subst hs
  intro p l e s m args below meth c G ad A H locs ls C hP hD hS hl
  cases r with
  | none => exact lv_astoreN C.1 C.2.1 hdg hl hn rfl (fun ls' hl' => k p l e s m args below meth c G ad A H locs ls' C hP hD hS (lvR_set hl'))
  | some q => exact lv_astore C.1 C.2.1 hdg hl hn rfl (fun ls' hl' => k p l e s m args below meth c G ad A H locs ls' C hP hD hS (lvR_set hl'))
theorem v_iinc {j : Nat} {n : Int} {x y : Int32} (lv' : List (Option tV)) (hdg : decode cc pc = .ok (.iinc j n, 3)) (hg : lv.getD j none = some (.inl x)) (hy : x + Int32.ofInt n = y) (hs : lv.set j (some (.inl y)) = lv') (hn : j < nL) (k : Vw own cc nL ret d Q (pc + 3) lv' st h) : Vw own cc nL ret d Q pc lv st h := by
  subst hs
  intro p l e s m args below meth c G ad A H locs ls C hP hD hS hl
  obtain ⟨i, hi⟩ := List.getElem?_of_mem (lvR_mem (ad := ad) hg)
  exact lv_iinc (k := i) C.1 C.2.1 hdg hl hi hy hn rfl (fun ls' hl' => k p l e s m args below meth c G ad A H locs ls' C hP hD hS (lvR_set hl'))
theorem v_iadd {x y : Int32} (hdg : decode cc pc = .ok (.iadd, 1)) (k : Vw own cc nL ret d Q (pc + 1) lv (.inl (x + y) :: st) h) : Vw own cc nL ret d Q pc lv (.inl y :: .inl x :: st) h :=
  fun p l e s m args below meth c G ad A H locs ls C hP hD hS hl => lv_iadd C.1 C.2.1 hdg (k p l e s m args below meth c G ad A H locs ls C hP hD hS hl)
theorem v_isub {x y : Int32} (hdg : decode cc pc = .ok (.isub, 1)) (k : Vw own cc nL ret d Q (pc + 1) lv (.inl (x - y) :: st) h) : Vw own cc nL ret d Q pc lv (.inl y :: .inl x :: st) h :=
  fun p l e s m args below meth c G ad A H locs ls C hP hD hS hl => lv_isub C.1 C.2.1 hdg (k p l e s m args below meth c G ad A H locs ls C hP hD hS hl)
theorem v_imul {x y : Int32} (hdg : decode cc pc = .ok (.imul, 1)) (k : Vw own cc nL ret d Q (pc + 1) lv (.inl (x * y) :: st) h) : Vw own cc nL ret d Q pc lv (.inl y :: .inl x :: st) h :=
  fun p l e s m args below meth c G ad A H locs ls C hP hD hS hl => lv_imul C.1 C.2.1 hdg (k p l e s m args below meth c G ad A H locs ls C hP hD hS hl)
theorem v_idiv {x y : Int32} (hdg : decode cc pc = .ok (.idiv, 1)) (hne : ¬ y = 0) (k : Vw own cc nL ret d Q (pc + 1) lv (.inl (x / y) :: st) h) : Vw own cc nL ret d Q pc lv (.inl y :: .inl x :: st) h :=
  fun p l e s m args below meth c G ad A H locs ls C hP hD hS hl => lv_idiv C.1 C.2.1 hdg hne (k p l e s m args below meth c G ad A H locs ls C hP hD hS hl)
theorem v_dup {v : tV} (hdg : decode cc pc = .ok (.dup, 1)) (k : Vw own cc nL ret d Q (pc + 1) lv (v :: v :: st) h) : Vw own cc nL ret d Q pc lv (v :: st) h :=
  fun p l e s m args below meth c G ad A H locs ls C hP hD hS hl => lv_dup C.1 C.2.1 hdg (rv_cat ad v) (k p l e s m args below meth c G ad A H locs ls C hP hD hS hl)
theorem v_dup2 {v w : tV} (hdg : decode cc pc = .ok (.dup2, 1)) (k : Vw own cc nL ret d Q (pc + 1) lv (v :: w :: v :: w :: st) h) : Vw own cc nL ret d Q pc lv (v :: w :: st) h :=
  fun p l e s m args below meth c G ad A H locs ls C hP hD hS hl => lv_dup2_11 C.1 C.2.1 hdg (rv_cat ad v) (rv_cat ad w) (k p l e s m args below meth c G ad A H locs ls C hP hD hS hl)
theorem v_pop {v : tV} (hdg : decode cc pc = .ok (.pop, 1)) (k : Vw own cc nL ret d Q (pc + 1) lv st h) : Vw own cc nL ret d Q pc lv (v :: st) h :=
  fun p l e s m args below meth c G ad A H locs ls C hP hD hS hl => lv_pop C.1 C.2.1 hdg (rv_cat ad v) (k p l e s m args below meth c G ad A H locs ls C hP hD hS hl)
theorem v_goto {off : Int} (tgt : Nat) (hdg : decode cc pc = .ok (.goto off, 3)) (ht : (pc : Int) + off = (tgt : Int)) (k : Vw own cc nL ret d Q tgt lv st h) : Vw own cc nL ret d Q pc lv st h :=
  fun p l e s m args below meth c G ad A H locs ls C hP hD hS hl => lv_goto C.1 C.2.1 hdg ht (k p l e s m args below meth c G ad A H locs ls C hP hD hS hl)
theorem v_null (hdg : decode cc pc = .ok (.aconst_null, 1)) (k : Vw own cc nL ret d Q (pc + 1) lv (.inr none :: st) h) : Vw own cc nL ret d Q pc lv st h :=
  fun p l e s m args below meth c G ad A H locs ls C hP hD hS hl => lv_null C.1 C.2.1 hdg (k p l e s m args below meth c G ad A H locs ls C hP hD hS hl)
theorem v_ifnull {r : Option (Nat × Nat)} {off : Int} (tgt : Nat) (hdg : decode cc pc = .ok (.ifnull off, 3)) (ht : (pc : Int) + off = (tgt : Int)) (kt : r = none → Vw own cc nL ret d Q tgt lv st h) (kf : ∀ q, r = some q → Vw own cc nL ret d Q (pc + 3) lv st h) : Vw own cc nL ret d Q pc lv (.inr r :: st) h := by
  intro p l e s m args below meth c G ad A H locs ls C hP hD hS hl
  cases r with
  | none => exact lv_ifnullN C.1 C.2.1 hdg ht (kt rfl p l e s m args below meth c G ad A H locs ls C hP hD hS hl)
  | some q => exact lv_ifnull C.1 C.2.1 hdg (kf q rfl p l e s m args below meth c G ad A H locs ls C hP hD hS hl)
theorem v_ifnonnull {r : Option (Nat × Nat)} {off : Int} (tgt : Nat) (hdg : decode cc pc = .ok (.ifnonnull off, 3)) (ht : (pc : Int) + off = (tgt : Int)) (kt : ∀ q, r = some q → Vw own cc nL ret d Q tgt lv st h) (kf : r = none → Vw own cc nL ret d Q (pc + 3) lv st h) : Vw own cc nL ret d Q pc lv (.inr r :: st) h := by
  intro p l e s m args below meth c G ad A H locs ls C hP hD hS hl
  cases r with
  | none => exact lv_ifnonnullN C.1 C.2.1 hdg (kf rfl p l e s m args below meth c G ad A H locs ls C hP hD hS hl)
  | some q => exact lv_ifnonnull C.1 C.2.1 hdg ht (kt q rfl p l e s m args below meth c G ad A H locs ls C hP hD hS hl)
def okr (r : Option (Nat × Nat)) : Prop := ∀ q, r = some q → q.2 < (lay q.1).2.2.2
theorem wl_inj {G : tG} {ad : Nat → Nat → Nat} {A : Nat → Prop} {h : tH} (hD : va_D A (wl G ad h)) {q r : Nat × Nat} (hq : q.2 < (lay q.1).2.2.2) (hr : r.2 < (lay r.1).2.2.2) (e : ad q.1 q.2 = ad r.1 r.2) : q = r := by
  obtain ⟨i, h1, h2⟩ := wl_get G ad h hq
  obtain ⟨j, h3, h4⟩ := wl_get G ad h hr
  have hij := hD.1 i j _ _ h2 h4 e
  subst hij
  exact Option.some.inj (h1.symm.trans h3)
theorem rv_rf (ad : Nat → Nat → Nat) (r : Option (Nat × Nat)) : rv ad (.inr r) = va_rf (r.map (fun q => ad q.1 q.2)) := by cases r <;> rfl
theorem v_acmpeq {r1 r2 : Option (Nat × Nat)} {off : Int} (tgt : Nat) (hdg : decode cc pc = .ok (.if_acmp .eq off, 3)) (ht : (pc : Int) + off = (tgt : Int)) (h1 : okr r1) (h2 : okr r2) (kt : r1 = r2 → Vw own cc nL ret d Q tgt lv st h) (kf : ¬ r1 = r2 → Vw own cc nL ret d Q (pc + 3) lv st h) : Vw own cc nL ret d Q pc lv (.inr r2 :: .inr r1 :: st) h := by
  intro p l e s m args below meth c G ad A H locs ls C hP hD hS hl
  have key : r1.map (fun q => ad q.1 q.2) = r2.map (fun q => ad q.1 q.2) → r1 = r2 := by
    intro z
    cases r1 with
    | none => cases r2 with
      | none => rfl
      | some b => cases z
    | some a => cases r2 with
      | none => cases z
      | some b => rw [wl_inj hD (h1 a rfl) (h2 b rfl) (Option.some.inj z)]
  show W p l e (rmd d) s m args below meth c H locs 0 0 _ (F0 m pc ls (rv ad (.inr r2) :: rv ad (.inr r1) :: st.map (rv ad)))
  rw [rv_rf, rv_rf]
  refine lv_acmp_eq C.1 C.2.1 hdg ht (fun z => ?_) (fun z => ?_)
  · exact kt (key z) p l e s m args below meth c G ad A H locs ls C hP hD hS hl
  · exact kf (fun q => z (by rw [q])) p l e s m args below meth c G ad A H locs ls C hP hD hS hl
theorem v_if_eq {x : Int32} {off : Int} (tgt : Nat) (hdg : decode cc pc = .ok (.ifCond .eq off, 3)) (ht : (pc : Int) + off = (tgt : Int)) (kt : x = 0 → Vw own cc nL ret d Q tgt lv st h) (kf : ¬ x = 0 → Vw own cc nL ret d Q (pc + 3) lv st h) : Vw own cc nL ret d Q pc lv (.inl x :: st) h :=
  fun p l e s m args below meth c G ad A H locs ls C hP hD hS hl => lv_if_eq C.1 C.2.1 hdg ht (fun z => kt z p l e s m args below meth c G ad A H locs ls C hP hD hS hl) (fun z => kf z p l e s m args below meth c G ad A H locs ls C hP hD hS hl)
theorem v_if_ne {x : Int32} {off : Int} (tgt : Nat) (hdg : decode cc pc = .ok (.ifCond .ne off, 3)) (ht : (pc : Int) + off = (tgt : Int)) (kt : ¬ x = 0 → Vw own cc nL ret d Q tgt lv st h) (kf : x = 0 → Vw own cc nL ret d Q (pc + 3) lv st h) : Vw own cc nL ret d Q pc lv (.inl x :: st) h :=
  fun p l e s m args below meth c G ad A H locs ls C hP hD hS hl => lv_if_ne C.1 C.2.1 hdg ht (fun z => kt z p l e s m args below meth c G ad A H locs ls C hP hD hS hl) (fun z => kf z p l e s m args below meth c G ad A H locs ls C hP hD hS hl)
theorem v_if_lt {x : Int32} {off : Int} (tgt : Nat) (hdg : decode cc pc = .ok (.ifCond .lt off, 3)) (ht : (pc : Int) + off = (tgt : Int)) (kt : x < 0 → Vw own cc nL ret d Q tgt lv st h) (kf : ¬ x < 0 → Vw own cc nL ret d Q (pc + 3) lv st h) : Vw own cc nL ret d Q pc lv (.inl x :: st) h :=
  fun p l e s m args below meth c G ad A H locs ls C hP hD hS hl => lv_if_lt C.1 C.2.1 hdg ht (fun z => kt z p l e s m args below meth c G ad A H locs ls C hP hD hS hl) (fun z => kf z p l e s m args below meth c G ad A H locs ls C hP hD hS hl)
theorem v_if_ge {x : Int32} {off : Int} (tgt : Nat) (hdg : decode cc pc = .ok (.ifCond .ge off, 3)) (ht : (pc : Int) + off = (tgt : Int)) (kt : 0 ≤ x → Vw own cc nL ret d Q tgt lv st h) (kf : ¬ 0 ≤ x → Vw own cc nL ret d Q (pc + 3) lv st h) : Vw own cc nL ret d Q pc lv (.inl x :: st) h :=
  fun p l e s m args below meth c G ad A H locs ls C hP hD hS hl => lv_if_ge C.1 C.2.1 hdg ht (fun z => kt z p l e s m args below meth c G ad A H locs ls C hP hD hS hl) (fun z => kf z p l e s m args below meth c G ad A H locs ls C hP hD hS hl)
theorem v_if_gt {x : Int32} {off : Int} (tgt : Nat) (hdg : decode cc pc = .ok (.ifCond .gt off, 3)) (ht : (pc : Int) + off = (tgt : Int)) (kt : 0 < x → Vw own cc nL ret d Q tgt lv st h) (kf : ¬ 0 < x → Vw own cc nL ret d Q (pc + 3) lv st h) : Vw own cc nL ret d Q pc lv (.inl x :: st) h :=
  fun p l e s m args below meth c G ad A H locs ls C hP hD hS hl => lv_if_gt C.1 C.2.1 hdg ht (fun z => kt z p l e s m args below meth c G ad A H locs ls C hP hD hS hl) (fun z => kf z p l e s m args below meth c G ad A H locs ls C hP hD hS hl)
theorem v_if_le {x : Int32} {off : Int} (tgt : Nat) (hdg : decode cc pc = .ok (.ifCond .le off, 3)) (ht : (pc : Int) + off = (tgt : Int)) (kt : x ≤ 0 → Vw own cc nL ret d Q tgt lv st h) (kf : ¬ x ≤ 0 → Vw own cc nL ret d Q (pc + 3) lv st h) : Vw own cc nL ret d Q pc lv (.inl x :: st) h :=
  fun p l e s m args below meth c G ad A H locs ls C hP hD hS hl => lv_if_le C.1 C.2.1 hdg ht (fun z => kt z p l e s m args below meth c G ad A H locs ls C hP hD hS hl) (fun z => kf z p l e s m args below meth c G ad A H locs ls C hP hD hS hl)
theorem v_icmp_eq {x y : Int32} {off : Int} (tgt : Nat) (hdg : decode cc pc = .ok (.if_icmp .eq off, 3)) (ht : (pc : Int) + off = (tgt : Int)) (kt : x = y → Vw own cc nL ret d Q tgt lv st h) (kf : ¬ x = y → Vw own cc nL ret d Q (pc + 3) lv st h) : Vw own cc nL ret d Q pc lv (.inl y :: .inl x :: st) h :=
  fun p l e s m args below meth c G ad A H locs ls C hP hD hS hl => lv_icmp_eq C.1 C.2.1 hdg ht (fun z => kt z p l e s m args below meth c G ad A H locs ls C hP hD hS hl) (fun z => kf z p l e s m args below meth c G ad A H locs ls C hP hD hS hl)
theorem v_icmp_ne {x y : Int32} {off : Int} (tgt : Nat) (hdg : decode cc pc = .ok (.if_icmp .ne off, 3)) (ht : (pc : Int) + off = (tgt : Int)) (kt : ¬ x = y → Vw own cc nL ret d Q tgt lv st h) (kf : x = y → Vw own cc nL ret d Q (pc + 3) lv st h) : Vw own cc nL ret d Q pc lv (.inl y :: .inl x :: st) h :=
  fun p l e s m args below meth c G ad A H locs ls C hP hD hS hl => lv_icmp_ne C.1 C.2.1 hdg ht (fun z => kt z p l e s m args below meth c G ad A H locs ls C hP hD hS hl) (fun z => kf z p l e s m args below meth c G ad A H locs ls C hP hD hS hl)
theorem v_icmp_lt {x y : Int32} {off : Int} (tgt : Nat) (hdg : decode cc pc = .ok (.if_icmp .lt off, 3)) (ht : (pc : Int) + off = (tgt : Int)) (kt : x < y → Vw own cc nL ret d Q tgt lv st h) (kf : ¬ x < y → Vw own cc nL ret d Q (pc + 3) lv st h) : Vw own cc nL ret d Q pc lv (.inl y :: .inl x :: st) h :=
  fun p l e s m args below meth c G ad A H locs ls C hP hD hS hl => lv_icmp_lt C.1 C.2.1 hdg ht (fun z => kt z p l e s m args below meth c G ad A H locs ls C hP hD hS hl) (fun z => kf z p l e s m args below meth c G ad A H locs ls C hP hD hS hl)
theorem v_icmp_ge {x y : Int32} {off : Int} (tgt : Nat) (hdg : decode cc pc = .ok (.if_icmp .ge off, 3)) (ht : (pc : Int) + off = (tgt : Int)) (kt : y ≤ x → Vw own cc nL ret d Q tgt lv st h) (kf : ¬ y ≤ x → Vw own cc nL ret d Q (pc + 3) lv st h) : Vw own cc nL ret d Q pc lv (.inl y :: .inl x :: st) h :=
  fun p l e s m args below meth c G ad A H locs ls C hP hD hS hl => lv_icmp_ge C.1 C.2.1 hdg ht (fun z => kt z p l e s m args below meth c G ad A H locs ls C hP hD hS hl) (fun z => kf z p l e s m args below meth c G ad A H locs ls C hP hD hS hl)
theorem v_icmp_gt {x y : Int32} {off : Int} (tgt : Nat) (hdg : decode cc pc = .ok (.if_icmp .gt off, 3)) (ht : (pc : Int) + off = (tgt : Int)) (kt : y < x → Vw own cc nL ret d Q tgt lv st h) (kf : ¬ y < x → Vw own cc nL ret d Q (pc + 3) lv st h) : Vw own cc nL ret d Q pc lv (.inl y :: .inl x :: st) h :=
  fun p l e s m args below meth c G ad A H locs ls C hP hD hS hl => lv_icmp_gt C.1 C.2.1 hdg ht (fun z => kt z p l e s m args below meth c G ad A H locs ls C hP hD hS hl) (fun z => kf z p l e s m args below meth c G ad A H locs ls C hP hD hS hl)
theorem v_icmp_le {x y : Int32} {off : Int} (tgt : Nat) (hdg : decode cc pc = .ok (.if_icmp .le off, 3)) (ht : (pc : Int) + off = (tgt : Int)) (kt : x ≤ y → Vw own cc nL ret d Q tgt lv st h) (kf : ¬ x ≤ y → Vw own cc nL ret d Q (pc + 3) lv st h) : Vw own cc nL ret d Q pc lv (.inl y :: .inl x :: st) h :=
  fun p l e s m args below meth c G ad A H locs ls C hP hD hS hl => lv_icmp_le C.1 C.2.1 hdg ht (fun z => kt z p l e s m args below meth c G ad A H locs ls C hP hD hS hl) (fun z => kf z p l e s m args below meth c G ad A H locs ls C hP hD hS hl)
end VwRows
end
section
/-! Rows of the judgement Vw: switches, fields, arrays, calls, ends -/
theorem uws_ok {C : String} {T : u_T} {N : Nat} : ∀ w ∈ u_ws C T N, tbOK w = true := by
  intro w hw
  unfold u_ws at hw
  obtain ⟨k, -, rfl⟩ := List.mem_map.mp hw
  unfold u_lay
  split <;> rfl
theorem lay_small (c : Nat) : (lay c).2.1 < 2147483648 := by
  have hb : ∀ q ∈ lays, q.2.1 < 2147483648 := by decide +kernel
  unfold lay
  rw [List.getD_eq_getElem?_getD]
  cases e : lays[c]? with
  | none => show (0 : Nat) < _; omega
  | some q => exact hb q (List.mem_of_getElem? e)
theorem wl_put {G : tG} {ad : Nat → Nat → Nat} {h : tH} {c i k q0 ci N n : Nat} {x : Int32} (hk : fams[q0]? = some (c, i)) (hl : lay c = (0, ci, N, n)) (hkN : k < N) (hs : sk c k = none) : (wl G ad h).set q0 (ad c i, .inr (ci, (fvs ad c i N (h.1 c i)).set k (.int x))) = wl G ad (put h c i k x) := by
  refine wl_set hk ?_ (fun q _ hq => cE_congr (put_off hq) (fun _ => rfl))
  rw [cE_0 hl, fvs_set hkN hs, put_upd]
theorem wl_puti {G : tG} {ad : Nat → Nat → Nat} {h : tH} {c i k q0 n b w : Nat} {x : Int32} (hk : fams[q0]? = some (c, i)) (hl : lay c = (1, n, b, w)) : (wl G ad h).set q0 (ad c i, .inl (G.2 0, n, .inl (upd (h.1 c i) k x))) = wl G ad (put h c i k x) := by
  refine wl_set hk ?_ (fun q _ hq => cE_congr (put_off hq) (fun _ => rfl))
  rw [cE_1 hl, put_upd]
theorem wl_putz {G : tG} {ad : Nat → Nat → Nat} {h : tH} {c i k q0 n b w : Nat} {x : Int32} (hk : fams[q0]? = some (c, i)) (hl : lay c = (2, n, b, w)) : (wl G ad h).set q0 (ad c i, .inl (G.2 1, n, .inl (upd (h.1 c i) k x))) = wl G ad (put h c i k x) := by
  refine wl_set hk ?_ (fun q _ hq => cE_congr (put_off hq) (fun _ => rfl))
  rw [cE_2 hl, put_upd]
theorem lay_5 (c : Nat) (hc : (lay c).1 = 5) : c = 11 := by
  have hb : (List.range 43).all (fun c => decide ((lay c).1 = 5 → c = 11)) = true := by decide +kernel
  rcases Nat.lt_or_ge c 43 with h | h
  · exact of_decide_eq_true (List.all_eq_true.mp hb c (List.mem_range.mpr h)) hc
  · exfalso
    have : lays[c]? = none := List.getElem?_eq_none (by simpa [lays] using h)
    unfold lay at hc
    rw [List.getD_eq_getElem?_getD, this] at hc
    exact absurd hc (by decide)
theorem wl_putq {G : tG} {ad : Nat → Nat → Nat} {h : tH} {k q0 : Nat} {r : Option Nat} (hk : fams[q0]? = some (11, 0)) : (wl G ad h).set q0 (ad 11 0, .inl (G.2 2, 24, .inr (.inr (.inr (.inr (va_up (fun j => (h.2 j).map (ad 7)) k (r.map (ad 7)))))))) = wl G ad (putq h k r) := by
  refine wl_set hk ?_ (fun q hm hq => cE_congr rfl (fun h5 => ?_))
  · rw [cE_5 (n := 24) (b := 0) (w := 1) rfl]
    refine congrArg (fun f => (Sum.inl (G.2 2, 24, .inr (.inr (.inr (.inr f)))) : va_E)) (funext fun j => ?_)
    show (if j = k then r.map (ad 7) else (h.2 j).map (ad 7)) = (if j = k then r else h.2 j).map (ad 7)
    split <;> rfl
  · exfalso
    obtain ⟨a, b⟩ := q
    have ha : a = 11 := lay_5 a h5
    have hb : ∀ q ∈ fams, q.1 = 11 → q.2 = 0 := by decide +kernel
    have hb2 : b = 0 := hb (a, b) hm ha
    subst ha
    subst hb2
    exact hq rfl
section VwRows2
variable {own : String} {cc : ByteArray} {nL : Nat} {ret : Option FieldType} {d : Nat} {Q : Option tV → tH → Prop} {pc : Nat} {lv : List (Option tV)} {st : List tV} {h : tH}
theorem v_tsIn {x : Int32} {dflt lo hi : Int} {offs : Array Int} {len : Nat} {off : Int} (tgt : Nat) (X : Int32) (hdg : decode cc pc = .ok (.tableswitch dflt lo hi offs, len)) (hx : x = X) (h1 : ¬ X.toInt < lo) (h2 : ¬ hi < X.toInt) (ho : offs[(X.toInt - lo).toNat]? = some off) (ht : (pc : Int) + off = (tgt : Int)) (k : Vw own cc nL ret d Q tgt lv st h) : Vw own cc nL ret d Q pc lv (.inl x :: st) h := by
  subst hx
  exact fun p l e s m args below meth c G ad A H locs ls C hP hD hS hl => lv_tableIn C.1 C.2.1 hdg h1 h2 ho ht (k p l e s m args below meth c G ad A H locs ls C hP hD hS hl)
theorem v_tsOut {x : Int32} {dflt lo hi : Int} {offs : Array Int} {len : Nat} (tgt : Nat) (hdg : decode cc pc = .ok (.tableswitch dflt lo hi offs, len)) (hx : x.toInt < lo ∨ hi < x.toInt) (ht : (pc : Int) + dflt = (tgt : Int)) (k : Vw own cc nL ret d Q tgt lv st h) : Vw own cc nL ret d Q pc lv (.inl x :: st) h :=
  fun p l e s m args below meth c G ad A H locs ls C hP hD hS hl => lv_tableOut C.1 C.2.1 hdg hx ht (k p l e s m args below meth c G ad A H locs ls C hP hD hS hl)
/-- the entry idx of own's pool is slot k of the family c -/
def FQ (own : String) (idx c k : Nat) (fin : Bool) (ty : FieldType) : Prop := ∃ (ci N n : Nat) (C : String) (T : u_T) (ty0 : Nat → FieldType), lay c = (0, ci, N, n) ∧ vwCl[ci]? = some (C, T, N) ∧ (∀ w ∈ u_ws C T N, w ∈ lw_tbl) ∧ (T k).1 = C ∧ k < N ∧ (∀ k, k < N → parseFieldDescriptor (T k).2.2.1 = some (ty0 k)) ∧ (∀ a, a < N → ∀ b, b < N → a ≠ b → (T a).2.1 ≠ (T b).2.1) ∧ (T k).2.2.2 = fin ∧ parseFieldDescriptor (T k).2.2.1 = some ty ∧
  (Cond.fieldLink own idx C (T k).2.1 (T k).2.2.1 ∈ lw_tbl ∨ ∃ host, Cond.fieldLinkNest own idx C (T k).2.1 (T k).2.2.1 host ∈ lw_tbl)
theorem v_getv {c i k idx : Nat} {fin : Bool} {ty : FieldType} {v : tV} (hf : FQ own idx c k fin ty) (hdg : decode cc pc = .ok (.getfield idx, 3)) (hi : i < (lay c).2.2.2) (hv : ∀ ad : Nat → Nat → Nat, fv ad c i k (h.1 c i k) = rv ad v) (kk : Vw own cc nL ret d Q (pc + 3) lv (v :: st) h) : Vw own cc nL ret d Q pc lv (.inr (some (c, i)) :: st) h := by
  obtain ⟨ci, N, n, C, T, ty0, hl0, hcl, hin, hdecl, hkN, hty, hnm, hfin, hpt, hlk⟩ := hf
  intro p l e s m args below meth c' G ad A H locs ls X hP hD hS hl
  have hkk := kk p l e s m args below meth c' G ad A H locs ls X hP hD hS hl
  obtain ⟨hx, hb, hml, hr, hown, hlk0, hT, hK⟩ := X
  obtain ⟨q0, hq0, hw⟩ := wl_get G ad h hi
  rw [cE_0 hl0] at hw
  have hv2 : (fvs ad c i N (h.1 c i))[k]? = some (rv ad v) := by rw [fvs_get hkN, hv]
  rcases hlk with hlk | ⟨host, hlk⟩
  · exact va_get hx hb (Ts := u_ws C T N) (fun w hw => hT.use (hin w hw) (uws_ok w hw)) (fun _ h => h) hown hK hP q0 hw hcl k hkN (hT.use hlk rfl) (fun x h9 => by rw [hdecl] at h9; exact h9) hv2 hdg hkk
  · exact va_getN hx hb (Ts := u_ws C T N) (fun w hw => hT.use (hin w hw) (uws_ok w hw)) (fun _ h => h) hown hK hP q0 hw hcl k hkN (hT.use hlk rfl) (fun x h9 => by rw [hdecl] at h9; exact h9) hv2 hdg hkk
theorem v_geti {c i k idx : Nat} {fin : Bool} {ty : FieldType} (hf : FQ own idx c k fin ty) (hdg : decode cc pc = .ok (.getfield idx, 3)) (hi : i < (lay c).2.2.2) (hs : sk c k = none) (kk : Vw own cc nL ret d Q (pc + 3) lv (.inl (h.1 c i k) :: st) h) : Vw own cc nL ret d Q pc lv (.inr (some (c, i)) :: st) h :=
  v_getv hf hdg hi (fun ad => by unfold fv; rw [hs]; rfl) kk
theorem v_getr {c i k idx c2 m2 : Nat} {fin : Bool} {ty : FieldType} (i2 : Nat) (hf : FQ own idx c k fin ty) (hdg : decode cc pc = .ok (.getfield idx, 3)) (hi : i < (lay c).2.2.2) (hs : sk c k = some (c2, m2)) (hi2 : rfi i m2 = i2) (kk : Vw own cc nL ret d Q (pc + 3) lv (.inr (some (c2, i2)) :: st) h) : Vw own cc nL ret d Q pc lv (.inr (some (c, i)) :: st) h :=
  v_getv hf hdg hi (fun ad => by unfold fv; rw [hs]; subst hi2; rfl) kk
theorem v_put {c i k idx : Nat} {ty : FieldType} {x : Int32} (hf : FQ own idx c k false ty) (hdg : decode cc pc = .ok (.putfield idx, 3)) (hi : i < (lay c).2.2.2) (hs : sk c k = none) (hn : narrow ty (.int x) = .int x) (hft : fits ty (.int x) = true) (kk : Vw own cc nL ret d Q (pc + 3) lv st (put h c i k x)) : Vw own cc nL ret d Q pc lv (.inl x :: .inr (some (c, i)) :: st) h := by
  obtain ⟨ci, N, n, C, T, ty0, hl0, hcl, hin, hdecl, hkN, hty, hnm, hfin, hpt, hlk⟩ := hf
  intro p l e s m args below meth c' G ad A H locs ls X hP hD hS hl
  have hkk := fun H1 locs1 a1 a2 a3 => kk p l e s m args below meth c' G ad A H1 locs1 ls X a1 a2 ⟨a3, hS.2⟩ hl
  obtain ⟨hx, hb, hml, hr, hown, hlk0, hT, hK⟩ := X
  obtain ⟨q0, hq0, hw⟩ := wl_get G ad h hi
  rw [cE_0 hl0] at hw
  have hset := wl_put (G := G) (ad := ad) (h := h) (x := x) hq0 hl0 hkN hs
  rcases hlk with hlk | ⟨host, hlk⟩
  · exact va_put hx hb (Ts := u_ws C T N) (fun w hw => hT.use (hin w hw) (uws_ok w hw)) (fun _ h => h) ty0 hty hnm hown hK hP hD hS.1 q0 hw hcl k hkN (hT.use hlk rfl) (fun x h9 => by rw [hdecl] at h9; exact h9) hfin hpt hn hft (by rw [fvs_len]; exact hkN) hdg (fun H1 locs1 a1 a2 a3 => hkk H1 locs1 (by rw [← hset]; exact a1) (by rw [← hset]; exact a2) a3)
  · exact va_putN hx hb (Ts := u_ws C T N) (fun w hw => hT.use (hin w hw) (uws_ok w hw)) (fun _ h => h) ty0 hty hnm hown hK hP hD hS.1 q0 hw hcl k hkN (hT.use hlk rfl) (fun x h9 => by rw [hdecl] at h9; exact h9) hfin hpt hn hft (by rw [fvs_len]; exact hkN) hdg (fun H1 locs1 a1 a2 a3 => hkk H1 locs1 (by rw [← hset]; exact a1) (by rw [← hset]; exact a2) a3)
theorem v_puti {c i k idx : Nat} {x : Int32} (hf : FQ own idx c k false .int) (hdg : decode cc pc = .ok (.putfield idx, 3)) (hi : i < (lay c).2.2.2) (hs : sk c k = none) (kk : Vw own cc nL ret d Q (pc + 3) lv st (put h c i k x)) : Vw own cc nL ret d Q pc lv (.inl x :: .inr (some (c, i)) :: st) h := v_put hf hdg hi hs rfl rfl kk
theorem nar_z {x : Int32} (hx : x = 0 ∨ x = 1) : narrow .boolean (.int x) = .int x ∧ fits .boolean (.int x) = true ∧ vp_nar .boolean x = x := by
  rcases hx with rfl | rfl <;> decide
theorem v_putz {c i k idx : Nat} {x : Int32} (hf : FQ own idx c k false .boolean) (hdg : decode cc pc = .ok (.putfield idx, 3)) (hi : i < (lay c).2.2.2) (hs : sk c k = none) (hx : x = 0 ∨ x = 1) (kk : Vw own cc nL ret d Q (pc + 3) lv st (put h c i k x)) : Vw own cc nL ret d Q pc lv (.inl x :: .inr (some (c, i)) :: st) h := v_put hf hdg hi hs (nar_z hx).1 (nar_z hx).2.1 kk
theorem v_iald {c i n b w : Nat} {j : Int32} (k : Nat) (hl0 : lay c = (1, n, b, w)) (hdg : decode cc pc = .ok (.iaload, 1)) (hi : i < w) (hj : j = nI k) (hk : k < n) (kk : Vw own cc nL ret d Q (pc + 1) lv (.inl (h.1 c i k) :: st) h) : Vw own cc nL ret d Q pc lv (.inl j :: .inr (some (c, i)) :: st) h := by
  subst hj
  have hn : n < 2 ^ 31 := by have := lay_small c; rw [hl0] at this; exact this
  intro p l e s m args below meth c' G ad A H locs ls X hP hD hS hl
  have hkk := kk p l e s m args below meth c' G ad A H locs ls X hP hD hS hl
  obtain ⟨q0, hq0, hw⟩ := wl_get G ad h (c := c) (i := i) (by rw [hl0]; exact hi)
  rw [cE_1 hl0] at hw
  refine va_iald X.1 X.2.1 X.2.2.2.2.2.2.2 hP q0 0 hw rfl (vp_in_nI hk hn) hdg ?_
  rw [nI_clamp (by omega)]
  exact hkk
theorem v_zald {c i n b w : Nat} {j : Int32} (k : Nat) (hl0 : lay c = (2, n, b, w)) (hdg : decode cc pc = .ok (.baload, 1)) (hi : i < w) (hj : j = nI k) (hk : k < n) (kk : Vw own cc nL ret d Q (pc + 1) lv (.inl (h.1 c i k) :: st) h) : Vw own cc nL ret d Q pc lv (.inl j :: .inr (some (c, i)) :: st) h := by
  subst hj
  have hn : n < 2 ^ 31 := by have := lay_small c; rw [hl0] at this; exact this
  intro p l e s m args below meth c' G ad A H locs ls X hP hD hS hl
  have hkk := kk p l e s m args below meth c' G ad A H locs ls X hP hD hS hl
  obtain ⟨q0, hq0, hw⟩ := wl_get G ad h (c := c) (i := i) (by rw [hl0]; exact hi)
  rw [cE_2 hl0] at hw
  refine va_zald X.1 X.2.1 X.2.2.2.2.2.2.2 hP q0 1 hw rfl (vp_in_nI hk hn) hdg ?_
  rw [nI_clamp (by omega)]
  exact hkk
theorem v_iast {c i n b w : Nat} {j x : Int32} (k : Nat) (hl0 : lay c = (1, n, b, w)) (hdg : decode cc pc = .ok (.iastore, 1)) (hi : i < w) (hj : j = nI k) (hk : k < n) (kk : Vw own cc nL ret d Q (pc + 1) lv st (put h c i k x)) : Vw own cc nL ret d Q pc lv (.inl x :: .inl j :: .inr (some (c, i)) :: st) h := by
  subst hj
  have hn : n < 2 ^ 31 := by have := lay_small c; rw [hl0] at this; exact this
  intro p l e s m args below meth c' G ad A H locs ls X hP hD hS hl
  obtain ⟨q0, hq0, hw⟩ := wl_get G ad h (c := c) (i := i) (by rw [hl0]; exact hi)
  rw [cE_1 hl0] at hw
  refine va_iast X.1 X.2.1 X.2.2.2.2.2.2.2 hP hD hS.1 q0 0 hw rfl (vp_in_nI hk hn) hdg (fun H1 locs1 a1 a2 a3 => ?_)
  rw [nI_clamp (by omega), wl_puti hq0 hl0] at a1 a2
  exact kk p l e s m args below meth c' G ad A H1 locs1 ls X a1 a2 ⟨a3, hS.2⟩ hl
theorem v_zast {c i n b w : Nat} {j x : Int32} (k : Nat) (hl0 : lay c = (2, n, b, w)) (hdg : decode cc pc = .ok (.bastore, 1)) (hi : i < w) (hj : j = nI k) (hk : k < n) (hx : x = 0 ∨ x = 1) (kk : Vw own cc nL ret d Q (pc + 1) lv st (put h c i k x)) : Vw own cc nL ret d Q pc lv (.inl x :: .inl j :: .inr (some (c, i)) :: st) h := by
  subst hj
  have hn : n < 2 ^ 31 := by have := lay_small c; rw [hl0] at this; exact this
  intro p l e s m args below meth c' G ad A H locs ls X hP hD hS hl
  obtain ⟨q0, hq0, hw⟩ := wl_get G ad h (c := c) (i := i) (by rw [hl0]; exact hi)
  rw [cE_2 hl0] at hw
  refine va_zast X.1 X.2.1 X.2.2.2.2.2.2.2 hP hD hS.1 q0 1 hw rfl (vp_in_nI hk hn) hdg (fun H1 locs1 a1 a2 a3 => ?_)
  rw [nI_clamp (by omega), (nar_z hx).2.2, wl_putz hq0 hl0] at a1 a2
  exact kk p l e s m args below meth c' G ad A H1 locs1 ls X a1 a2 ⟨a3, hS.2⟩ hl
/-- the arrays of references that stay -/
theorem v_aaldF {c i n b w : Nat} {j : Int32} (k : Nat) (hl0 : lay c = (3, n, b, w)) (hdg : decode cc pc = .ok (.aaload, 1)) (hi : i < w) (hj : j = nI k) (hk : k < n) (kk : Vw own cc nL ret d Q (pc + 1) lv (.inr (some (b, k)) :: st) h) : Vw own cc nL ret d Q pc lv (.inl j :: .inr (some (c, i)) :: st) h := by
  subst hj
  have hn : n < 2 ^ 31 := by have := lay_small c; rw [hl0] at this; exact this
  intro p l e s m args below meth c' G ad A H locs ls X hP hD hS hl
  have hkk := kk p l e s m args below meth c' G ad A H locs ls X hP hD hS hl
  obtain ⟨q0, hq0, hw⟩ := wl_get G ad h (c := c) (i := i) (by rw [hl0]; exact hi)
  rw [cE_3 hl0] at hw
  refine va_aldq X.1 X.2.1 X.2.2.2.2.2.2.2 hP q0 2 hw rfl (vp_in_nI hk hn) hdg ?_
  rw [nI_clamp (by omega)]
  exact hkk
theorem v_aaldG {c i n b w : Nat} {j : Int32} (k : Nat) (hl0 : lay c = (4, n, b, w)) (hdg : decode cc pc = .ok (.aaload, 1)) (hi : i < w) (hj : j = nI k) (hk : k < n) (kk : Vw own cc nL ret d Q (pc + 1) lv (.inr (some (b, k)) :: st) h) : Vw own cc nL ret d Q pc lv (.inl j :: .inr (some (c, i)) :: st) h := by
  subst hj
  have hn : n < 2 ^ 31 := by have := lay_small c; rw [hl0] at this; exact this
  have hin := vp_in_nI hk hn
  have hc0 : (nI k).toNatClampNeg = k := nI_clamp (by omega)
  intro p l e s m args below meth c' G ad A H locs ls X hP hD hS hl
  have hkk := kk p l e s m args below meth c' G ad A H locs ls X hP hD hS hl
  obtain ⟨q0, hq0, hw⟩ := wl_get G ad h (c := c) (i := i) (by rw [hl0]; exact hi)
  rw [cE_4 hl0] at hw
  exact W.aald (v := .ref (ad b k)) (ty := .array .int) X.1 X.2.1 (hP q0 _ hw) ((X.2.2.2.2.2.2.2.2 3 _ rfl).1 n (fun j => va_rf (some (ad b j)))) rfl (fun q => by cases q) (by show ¬ (_ ∨ (arrV _ _ _).slots.size ≤ _); rw [arrV_size]; exact hin) (by show (arrV _ _ _).slots[_]? = _; rw [hc0, arrV_read _ _ hk]; rfl) rfl rfl hdg hkk
/-- the queue's array -/
theorem v_aaldQ {j : Int32} (k : Nat) (hdg : decode cc pc = .ok (.aaload, 1)) (hj : j = nI k) (hk : k < 24) (kk : Vw own cc nL ret d Q (pc + 1) lv (.inr ((h.2 k).map (fun t => (7, t))) :: st) h) : Vw own cc nL ret d Q pc lv (.inl j :: .inr (some (11, 0)) :: st) h := by
  subst hj
  intro p l e s m args below meth c' G ad A H locs ls X hP hD hS hl
  have hkk := kk p l e s m args below meth c' G ad A H locs ls X hP hD hS hl
  obtain ⟨q0, hq0, hw⟩ := wl_get G ad h (c := 11) (i := 0) (by decide)
  rw [cE_5 (n := 24) (b := 0) (w := 1) rfl] at hw
  refine va_aldq X.1 X.2.1 X.2.2.2.2.2.2.2 hP q0 2 hw rfl (vp_in_nI hk (by omega)) hdg ?_
  rw [nI_clamp (by omega)]
  have e1 : va_rf ((h.2 k).map (ad 7)) = rv ad (.inr ((h.2 k).map (fun t => (7, t)))) := by cases h.2 k <;> rfl
  rw [e1]
  exact hkk
theorem v_aastQ {j : Int32} {r : Option Nat} (k : Nat) (hdg : decode cc pc = .ok (.aastore, 1)) (hj : j = nI k) (hk : k < 24) (hr : ∀ t, r = some t → t < 24) (kk : Vw own cc nL ret d Q (pc + 1) lv st (putq h k r)) : Vw own cc nL ret d Q pc lv (.inr (r.map (fun t => (7, t))) :: .inl j :: .inr (some (11, 0)) :: st) h := by
  subst hj
  intro p l e s m args below meth c' G ad A H locs ls X hP hD hS hl
  obtain ⟨q0, hq0, hw⟩ := wl_get G ad h (c := 11) (i := 0) (by decide)
  rw [cE_5 (n := 24) (b := 0) (w := 1) rfl] at hw
  have hset := wl_putq (G := G) (ad := ad) (h := h) (k := k) (r := r) hq0
  cases r with
  | none =>
    refine va_astqN X.1 X.2.1 X.2.2.2.2.2.2.2 hP hD hS.1 q0 2 hw rfl (vp_in_nI hk (by omega)) hdg (fun H1 locs1 a1 a2 a3 => ?_)
    rw [nI_clamp (by omega)] at a1 a2
    exact kk p l e s m args below meth c' G ad A H1 locs1 ls X (by rw [← hset]; exact a1) (by rw [← hset]; exact a2) ⟨a3, hS.2⟩ hl
  | some t =>
    obtain ⟨q1, hq1, hw1⟩ := wl_get G ad h (c := 7) (i := t) (hr t rfl)
    rw [cE_0 (ci := 1) (N := 15) (n := 24) rfl] at hw1
    refine va_astq X.1 X.2.1 X.2.2.2.2.2.2.2 hP hD hS.1 q0 2 q1 1 hw rfl hw1 rfl (vp_in_nI hk (by omega)) hdg (fun H1 locs1 a1 a2 a3 => ?_)
    rw [nI_clamp (by omega)] at a1 a2
    exact kk p l e s m args below meth c' G ad A H1 locs1 ls X (by rw [← hset]; exact a1) (by rw [← hset]; exact a2) ⟨a3, hS.2⟩ hl
/-! ends -/
theorem v_iret {x : Int32} (hdg : decode cc pc = .ok (.ireturn, 1)) (hq : Q (some (.inl x)) h) : Vw own cc nL (some .int) d Q pc lv [.inl x] h :=
  fun p l e s m args below meth c G ad A H locs ls X hP hD hS hl => W.iret (v := x) X.1 X.2.1 X.2.2.2.1 (fun t ht hW => ⟨⟨some (.inl x), h, rfl, hq, by rw [ht]; exact hP, hD⟩, hS.1.F ht⟩) hS.1.2.2 hdg X.2.2.2.2.2.1
theorem v_zret {x : Int32} (hdg : decode cc pc = .ok (.ireturn, 1)) (hx : x = 0 ∨ x = 1) (hq : Q (some (.inl x)) h) : Vw own cc nL (some .boolean) d Q pc lv [.inl x] h :=
  fun p l e s m args below meth c G ad A H locs ls X hP hD hS hl => W.zret (v := x) (ty := .boolean) X.1 X.2.1 X.2.2.2.1 (nar_z hx).1 (fun t ht hW => ⟨⟨some (.inl x), h, rfl, hq, by rw [ht]; exact hP, hD⟩, hS.1.F ht⟩) hS.1.2.2 hdg X.2.2.2.2.2.1
theorem v_vret (hdg : decode cc pc = .ok (.return_, 1)) (hq : Q none h) : Vw own cc nL none d Q pc lv [] h :=
  fun p l e s m args below meth c G ad A H locs ls X hP hD hS hl => W.vret X.1 X.2.1 X.2.2.2.1 (fun t ht hW => ⟨⟨none, h, rfl, hq, by rw [ht]; exact hP, hD⟩, hS.1.F ht⟩) hS.1.2.2 hdg X.2.2.2.2.2.1
theorem v_aret {r : Option (Nat × Nat)} {n : String} (hdg : decode cc pc = .ok (.areturn, 1)) (hq : Q (some (.inr r)) h) : Vw own cc nL (some (.object n)) d Q pc lv [.inr r] h :=
  fun p l e s m args below meth c G ad A H locs ls X hP hD hS hl => W.aret (v := rv ad (.inr r)) (rt := .object n) X.1 X.2.1 X.2.2.2.1 (Or.inl ⟨n, rfl⟩) (by cases r with | none => exact Or.inl rfl | some q => exact Or.inr ⟨_, rfl⟩) (fun t ht hW => ⟨⟨some (.inr r), h, rfl, hq, by rw [ht]; exact hP, hD⟩, hS.1.F ht⟩) hS.1.2.2 hdg X.2.2.2.2.2.1
/-! calls -/
def CQ (own : String) (idx : Nat) (y : MethodName) (n : Nat) : Prop := Cond.methodLink own idx y ∈ lw_tbl ∧ Cond.instanceMethod y ∈ lw_tbl ∧ Cond.selects y.cls y y ∈ lw_tbl ∧ Cond.initialized y.cls ∈ lw_tbl ∧ y.cls ≠ "java/lang/invoke/MethodHandle" ∧ y.cls ≠ "java/lang/invoke/VarHandle" ∧ (parseMethodDescriptor y.desc).map (fun d => d.parameters.length) = some n
def SQ (own : String) (idx : Nat) (y : MethodName) (n : Nat) : Prop := Cond.methodLink own idx y ∈ lw_tbl ∧ Cond.static y ∈ lw_tbl ∧ Cond.initialized y.cls ∈ lw_tbl ∧ y.cls ≠ "java/lang/invoke/MethodHandle" ∧ y.cls ≠ "java/lang/invoke/VarHandle" ∧ (parseMethodDescriptor y.desc).map (fun d => d.parameters.length) = some n
theorem Pw_blind (G : tG) (ad : Nat → Nat → Nat) (sz : Nat) (h : tH) (as : List Value) : FrameBlind (va_Pc as (Pw G ad sz h)) := by
  intro a U g mk q
  obtain ⟨q0, q1, q2, q3, q4, q5⟩ := q
  exact ⟨q0, q1, q2, q3, va_K.moved (u := U) (U := U.calling g mk a) (Vm.Alike.refl U.vm) q4, Tb.same (u := U) (U := U.calling g mk a) rfl q5⟩
theorem va_callw {p : Program} {l : Launch} {e : Env} {R : Room} {s : State} {m : MethodId} {args : Array Value} {below : List Frame} {meth : Method} {c : Code} {H : Heap} {locs : List Loc} {cells slots : Nat} {Qx : State → Prop} {pc : Nat} {ls : Array Slot} {rest st0 : List Value} {a : Array Value} {A0 A1 : Nat → Prop} {H0 : Heap} {mc ms : Nat} {free : Addr → Prop} {G : tG} {ad : Nat → Nat → Nat} {Q' : Option tV → tH → Prop}
    (hr : va_Run p l e R s m args below meth c H locs cells slots mc ms (F0 m pc ls st0) rest (Qw G ad A1 Q' a) free) (hS : va_S A0 H0 H locs) (hA : ∀ q, q < H.size → A1 q → A0 q) (hf : ∀ q, free q → A0 q)
    (kk : ∀ (r : Option tV) (h' : tH) (H1 : Heap) (locs1 : List Loc), Q' r h' → va_P G.1 vwCl (wl G ad h') H1 → va_D A1 (wl G ad h') → va_S A0 H0 H1 locs1 → W p l e R s m args below meth c H1 locs1 (cells + mc) (slots + ms) Qx (F0 m (pc + 3) ls ((r.map (rv ad)).toList ++ rest))) : W p l e R s m args below meth c H locs cells slots Qx (F0 m pc ls st0) := by
  intro T hT X
  obtain ⟨v, st₀, t, T', L, h0, X', hL, e1, e2, ⟨⟨r, h', hv, hp, hb1, hb2⟩, hz, hk⟩, st⟩ := hr T hT X
  cases hv
  rw [h0] at hz hk
  obtain ⟨t2, a1, b1⟩ := kk r h' T'.heap (locs ++ L) hp (by rw [e1]; exact hb1) hb2
    ⟨Nat.le_trans hS.1 (by rw [e1]; exact hz), fun q h1 h2 => by rw [e1, hk q (Nat.lt_of_lt_of_le h1 hS.1) (fun z => h2 (hA q (Nat.lt_of_lt_of_le h1 hS.1) z))]; exact hS.2.1 q h1 h2, fun q hq => by
      rcases List.mem_append.mp hq with h | h
      · exact hS.2.2 q h
      · exact hf _ (hL q h)⟩ T' rfl X'
  exact ⟨t2, st t2 a1, b1⟩
theorem st_room {ad : Nat → Nat → Nat} : ∀ {st : List tV} {n : Nat}, st.length ≤ n → ((st.map (rv ad)).map fun v => v.category).sum ≤ n
  | [], _, _ => Nat.zero_le _
  | a :: st, n, h => by
    have h2 : st.length ≤ n - 1 := by simp at h; omega
    have := st_room (ad := ad) h2
    simp only [List.map_cons, List.sum_cons, rv_cat]
    simp at h
    omega
theorem v_callV {y : MethodName} {cc' : ByteArray} {maxL' d' n idx ci N w c0 i : Nat} {ret' : Option FieldType} {as : List tV} {Q' : Option tV → tH → Prop} {T : u_T} (hq : CQ own idx y n) (hcd : Cond.code y cc' maxL' ret' ∈ lw_tbl) (hC : Ct y cc' maxL' ret' d' (.inr (some (c0, i)) :: as) h Q') (hdg : decode cc pc = .ok (.invokevirtual idx, 3)) (hl0 : lay c0 = (0, ci, N, w)) (hcl : vwCl[ci]? = some (y.cls, T, N)) (hi : i < w) (hn : as.length = n) (hd : d' < d) (hm : maxL' ≤ 8) (hst : st.length ≤ 8)
    (kk : ∀ r h', Q' r h' → Vw own cc nL ret d Q (pc + 3) lv (r.toList ++ st) h') : Vw own cc nL ret d Q pc lv (as.reverse ++ .inr (some (c0, i)) :: st) h := by
  obtain ⟨k1, k2, k3, k4, k5, k6, k7⟩ := hq
  intro p l e s m args below meth c' G ad A H locs ls X hP hD hS hl
  obtain ⟨hx, hb, hml, hr, hown, hlk0, hT, hK⟩ := id X
  obtain ⟨q0, hq0, hw⟩ := wl_get G ad h (c := c0) (i := i) (by rw [hl0]; exact hi)
  rw [cE_0 hl0] at hw
  have hF : ∀ q, va_A (wl G ad h) H.size q → A q := by
    intro q z
    rcases z with ⟨k, e0, z⟩ | z
    · exact hD.2 k _ z
    · exact hS.2 q (Nat.le_trans hS.1.1 z)
  have hcode : ∀ (a' : Array Value) (U : State), s.WarmedH U.vm → (Cond.code y cc' maxL' ret').before a' U = true := fun a' U hW => (Tb.warm hW hT).use hcd rfl
  have run := va_runV (args := args) (below := below) (meth := meth) (e := e) (R := rmd d) (locs := locs) (cells := 0) (slots := 0) (Ts := []) (own := own) (C := y.cls) (b := ad c0 i) (As := as.map (rv ad)) (rest := st.map (rv ad)) (g := F0 m pc ls ((as.reverse ++ .inr (some (c0, i)) :: st).map (rv ad))) (H := H) ⟨hx, hb, hml, hown, fun _ h => by cases h⟩ (hC l G ad H.size)
    (n := n) (bytes := cc') (maxL := maxL') (ret := ret')
    ⟨⟨rfl, rfl, by show d' + 1 ≤ d; omega, by show 8 + (maxL' + 11) + 27 * d' ≤ 27 * d; omega, fun w hw => by rw [List.mem_singleton.mp hw]; exact hcode, List.mem_singleton.mpr rfl, hT.use hcd rfl, hT.use k4 rfl, ⟨k5, k6⟩, fun sig hs => by rw [hs] at k7; exact (Option.some.inj k7).symm, hT.use k1 rfl⟩, hT.use k2 rfl, hT.use k3 rfl⟩
    ⟨Pw_blind G ad H.size h _, va_recv hK hP hcl hw, fun U hU hW => ⟨by simp [rv], by rw [hU], by rw [hU]; exact hP, hD.weaken (fun _ _ _ _ => trivial), va_K.moved hW.alike hK, Tb.warm hW hT⟩⟩
    rfl (by simpa using hn) hl.1 (by simp [rv]) (lv_room (st_room hst)) (by exact hdg) ⟨Nat.le_refl 0, Nat.le_refl 0⟩
  refine va_callw (G := G) (ad := ad) run hS.1 (fun q _ h => hF q h) hF (fun r h' H1 locs1 hq1 hP1 hD1 hS1 => ?_)
  have := kk r h' hq1 p l e s m args below meth c' G ad A H1 locs1 ls X hP1 (hD1.weaken (fun _ q _ z => hF q.1 z)) ⟨hS1, hS.2⟩ hl
  have e1 : (r.toList ++ st).map (rv ad) = (r.map (rv ad)).toList ++ st.map (rv ad) := by cases r <;> simp
  rw [e1] at this
  exact this
theorem v_callS {y : MethodName} {cc' : ByteArray} {maxL' d' n idx : Nat} {ret' : Option FieldType} {as : List tV} {Q' : Option tV → tH → Prop} (hq : SQ own idx y n) (hcd : Cond.code y cc' maxL' ret' ∈ lw_tbl) (hC : Ct y cc' maxL' ret' d' as h Q') (hdg : decode cc pc = .ok (.invokestatic idx, 3)) (hn : as.length = n) (hd : d' < d) (hm : maxL' ≤ 8) (hst : st.length ≤ 8)
    (kk : ∀ r h', Q' r h' → Vw own cc nL ret d Q (pc + 3) lv (r.toList ++ st) h') : Vw own cc nL ret d Q pc lv (as.reverse ++ st) h := by
  obtain ⟨k1, k2, k4, k5, k6, k7⟩ := hq
  intro p l e s m args below meth c' G ad A H locs ls X hP hD hS hl
  obtain ⟨hx, hb, hml, hr, hown, hlk0, hT, hK⟩ := id X
  have hF : ∀ q, va_A (wl G ad h) H.size q → A q := by
    intro q z
    rcases z with ⟨k, e0, z⟩ | z
    · exact hD.2 k _ z
    · exact hS.2 q (Nat.le_trans hS.1.1 z)
  have hcode : ∀ (a' : Array Value) (U : State), s.WarmedH U.vm → (Cond.code y cc' maxL' ret').before a' U = true := fun a' U hW => (Tb.warm hW hT).use hcd rfl
  have run := va_runS (args := args) (below := below) (meth := meth) (e := e) (R := rmd d) (locs := locs) (cells := 0) (slots := 0) (Ts := []) (own := own) (As := as.map (rv ad)) (rest := st.map (rv ad)) (g := F0 m pc ls ((as.reverse ++ st).map (rv ad))) (H := H) ⟨hx, hb, hml, hown, fun _ h => by cases h⟩ (hC l G ad H.size)
    (n := n) (bytes := cc') (maxL := maxL') (ret := ret')
    ⟨⟨rfl, rfl, by show d' + 1 ≤ d; omega, by show 8 + (maxL' + 11) + 27 * d' ≤ 27 * d; omega, fun w hw => by rw [List.mem_singleton.mp hw]; exact hcode, List.mem_singleton.mpr rfl, hT.use hcd rfl, hT.use k4 rfl, ⟨k5, k6⟩, fun sig hs => by rw [hs] at k7; exact (Option.some.inj k7).symm, hT.use k1 rfl⟩, hT.use k2 rfl⟩
    ⟨Pw_blind G ad H.size h _, fun U hU hW => ⟨rfl, by rw [hU], by rw [hU]; exact hP, hD.weaken (fun _ _ _ _ => trivial), va_K.moved hW.alike hK, Tb.warm hW hT⟩⟩
    rfl (by simpa using hn) hl.1 (by simp) (lv_room (st_room hst)) (by exact hdg) ⟨Nat.le_refl 0, Nat.le_refl 0⟩
  refine va_callw (G := G) (ad := ad) run hS.1 (fun q _ h => hF q h) hF (fun r h' H1 locs1 hq1 hP1 hD1 hS1 => ?_)
  have := kk r h' hq1 p l e s m args below meth c' G ad A H1 locs1 ls X hP1 (hD1.weaken (fun _ q _ z => hF q.1 z)) ⟨hS1, hS.2⟩ hl
  have e1 : (r.toList ++ st).map (rv ad) = (r.map (rv ad)).toList ++ st.map (rv ad) := by cases r <;> simp
  rw [e1] at this
  exact this
end VwRows2
end
section
theorem inX0 : ∀ w ∈ u_ws RX0 TX0 2, w ∈ lw_tbl := by decide +kernel
theorem inX1 : ∀ w ∈ u_ws RX1 TX1 15, w ∈ lw_tbl := by decide +kernel
theorem inX2 : ∀ w ∈ u_ws RX2 TX2 2, w ∈ lw_tbl := by decide +kernel
theorem inX3 : ∀ w ∈ u_ws RX3 TX3 4, w ∈ lw_tbl := by decide +kernel
theorem inX4 : ∀ w ∈ u_ws RX4 TX4 3, w ∈ lw_tbl := by decide +kernel
theorem inX5 : ∀ w ∈ u_ws RX5 TX5 13, w ∈ lw_tbl := by decide +kernel
theorem inX6 : ∀ w ∈ u_ws RX6 TX6 2, w ∈ lw_tbl := by decide +kernel
theorem inX7 : ∀ w ∈ u_ws RX7 TX7 35, w ∈ lw_tbl := by decide +kernel
theorem fX3_9 : FQ RX3 9 1 0 true (.array .int) := ⟨3, 4, 1, RX3, TX3, tyX3, rfl, rfl, inX3, rfl, by decide, tyX3_ok, nmX3, rfl, tyX3_ok 0 (by decide), Or.inl (by decide +kernel)⟩
theorem fX3_17 : FQ RX3 17 1 1 true (.array (.array .int)) := ⟨3, 4, 1, RX3, TX3, tyX3, rfl, rfl, inX3, rfl, by decide, tyX3_ok, nmX3, rfl, tyX3_ok 1 (by decide), Or.inl (by decide +kernel)⟩
theorem fX3_20 : FQ RX3 20 1 2 true (.array (.array .int)) := ⟨3, 4, 1, RX3, TX3, tyX3, rfl, rfl, inX3, rfl, by decide, tyX3_ok, nmX3, rfl, tyX3_ok 2 (by decide), Or.inl (by decide +kernel)⟩
theorem fX3_23 : FQ RX3 23 1 3 false .int := ⟨3, 4, 1, RX3, TX3, tyX3, rfl, rfl, inX3, rfl, by decide, tyX3_ok, nmX3, rfl, tyX3_ok 3 (by decide), Or.inl (by decide +kernel)⟩
theorem fX2_11 : FQ RX2 11 10 0 true (.array (.object "TurnThreads$Fiber")) := ⟨2, 2, 1, RX2, TX2, tyX2, rfl, rfl, inX2, rfl, by decide, tyX2_ok, nmX2, rfl, tyX2_ok 0 (by decide), Or.inl (by decide +kernel)⟩
theorem fX2_17 : FQ RX2 17 10 1 false .int := ⟨2, 2, 1, RX2, TX2, tyX2, rfl, rfl, inX2, rfl, by decide, tyX2_ok, nmX2, rfl, tyX2_ok 1 (by decide), Or.inl (by decide +kernel)⟩
theorem fX0_9 : FQ RX0 9 12 0 true (.array .boolean) := ⟨0, 2, 1, RX0, TX0, tyX0, rfl, rfl, inX0, rfl, by decide, tyX0_ok, nmX0, rfl, tyX0_ok 0 (by decide), Or.inl (by decide +kernel)⟩
theorem fX0_15 : FQ RX0 15 12 1 true (.array .int) := ⟨0, 2, 1, RX0, TX0, tyX0, rfl, rfl, inX0, rfl, by decide, tyX0_ok, nmX0, rfl, tyX0_ok 1 (by decide), Or.inl (by decide +kernel)⟩
theorem fX4_9 : FQ RX4 9 15 0 true (.array .int) := ⟨4, 3, 1, RX4, TX4, tyX4, rfl, rfl, inX4, rfl, by decide, tyX4_ok, nmX4, rfl, tyX4_ok 0 (by decide), Or.inl (by decide +kernel)⟩
theorem fX4_15 : FQ RX4 15 15 1 true (.array .int) := ⟨4, 3, 1, RX4, TX4, tyX4, rfl, rfl, inX4, rfl, by decide, tyX4_ok, nmX4, rfl, tyX4_ok 1 (by decide), Or.inl (by decide +kernel)⟩
theorem fX4_18 : FQ RX4 18 15 2 false .int := ⟨4, 3, 1, RX4, TX4, tyX4, rfl, rfl, inX4, rfl, by decide, tyX4_ok, nmX4, rfl, tyX4_ok 2 (by decide), Or.inl (by decide +kernel)⟩
theorem fX1_56 : FQ RX1 56 7 0 true .int := ⟨1, 15, 24, RX1, TX1, tyX1, rfl, rfl, inX1, rfl, by decide, tyX1_ok, nmX1, rfl, tyX1_ok 0 (by decide), Or.inl (by decide +kernel)⟩
theorem fX6_108 : FQ RX6 108 7 0 true .int := ⟨1, 15, 24, RX1, TX1, tyX1, rfl, rfl, inX1, rfl, by decide, tyX1_ok, nmX1, rfl, tyX1_ok 0 (by decide), Or.inr ⟨"TurnThreads", by decide +kernel⟩⟩
theorem fX5_195 : FQ RX5 195 7 0 true .int := ⟨1, 15, 24, RX1, TX1, tyX1, rfl, rfl, inX1, rfl, by decide, tyX1_ok, nmX1, rfl, tyX1_ok 0 (by decide), Or.inr ⟨"TurnThreads", by decide +kernel⟩⟩
theorem fX1_9 : FQ RX1 9 7 1 true (.array .int) := ⟨1, 15, 24, RX1, TX1, tyX1, rfl, rfl, inX1, rfl, by decide, tyX1_ok, nmX1, rfl, tyX1_ok 1 (by decide), Or.inl (by decide +kernel)⟩
theorem fX1_15 : FQ RX1 15 7 2 true (.array .int) := ⟨1, 15, 24, RX1, TX1, tyX1, rfl, rfl, inX1, rfl, by decide, tyX1_ok, nmX1, rfl, tyX1_ok 2 (by decide), Or.inl (by decide +kernel)⟩
theorem fX1_18 : FQ RX1 18 7 3 false .int := ⟨1, 15, 24, RX1, TX1, tyX1, rfl, rfl, inX1, rfl, by decide, tyX1_ok, nmX1, rfl, tyX1_ok 3 (by decide), Or.inl (by decide +kernel)⟩
theorem fX5_91 : FQ RX5 91 7 3 false .int := ⟨1, 15, 24, RX1, TX1, tyX1, rfl, rfl, inX1, rfl, by decide, tyX1_ok, nmX1, rfl, tyX1_ok 3 (by decide), Or.inr ⟨"TurnThreads", by decide +kernel⟩⟩
theorem fX1_22 : FQ RX1 22 7 4 false .int := ⟨1, 15, 24, RX1, TX1, tyX1, rfl, rfl, inX1, rfl, by decide, tyX1_ok, nmX1, rfl, tyX1_ok 4 (by decide), Or.inl (by decide +kernel)⟩
theorem fX5_94 : FQ RX5 94 7 4 false .int := ⟨1, 15, 24, RX1, TX1, tyX1, rfl, rfl, inX1, rfl, by decide, tyX1_ok, nmX1, rfl, tyX1_ok 4 (by decide), Or.inr ⟨"TurnThreads", by decide +kernel⟩⟩
theorem fX1_25 : FQ RX1 25 7 5 false .int := ⟨1, 15, 24, RX1, TX1, tyX1, rfl, rfl, inX1, rfl, by decide, tyX1_ok, nmX1, rfl, tyX1_ok 5 (by decide), Or.inl (by decide +kernel)⟩
theorem fX5_97 : FQ RX5 97 7 5 false .int := ⟨1, 15, 24, RX1, TX1, tyX1, rfl, rfl, inX1, rfl, by decide, tyX1_ok, nmX1, rfl, tyX1_ok 5 (by decide), Or.inr ⟨"TurnThreads", by decide +kernel⟩⟩
theorem fX1_28 : FQ RX1 28 7 6 false .int := ⟨1, 15, 24, RX1, TX1, tyX1, rfl, rfl, inX1, rfl, by decide, tyX1_ok, nmX1, rfl, tyX1_ok 6 (by decide), Or.inl (by decide +kernel)⟩
theorem fX5_180 : FQ RX5 180 7 6 false .int := ⟨1, 15, 24, RX1, TX1, tyX1, rfl, rfl, inX1, rfl, by decide, tyX1_ok, nmX1, rfl, tyX1_ok 6 (by decide), Or.inr ⟨"TurnThreads", by decide +kernel⟩⟩
theorem fX1_31 : FQ RX1 31 7 7 false .int := ⟨1, 15, 24, RX1, TX1, tyX1, rfl, rfl, inX1, rfl, by decide, tyX1_ok, nmX1, rfl, tyX1_ok 7 (by decide), Or.inl (by decide +kernel)⟩
theorem fX1_34 : FQ RX1 34 7 8 false .int := ⟨1, 15, 24, RX1, TX1, tyX1, rfl, rfl, inX1, rfl, by decide, tyX1_ok, nmX1, rfl, tyX1_ok 8 (by decide), Or.inl (by decide +kernel)⟩
theorem fX5_161 : FQ RX5 161 7 8 false .int := ⟨1, 15, 24, RX1, TX1, tyX1, rfl, rfl, inX1, rfl, by decide, tyX1_ok, nmX1, rfl, tyX1_ok 8 (by decide), Or.inr ⟨"TurnThreads", by decide +kernel⟩⟩
theorem fX1_37 : FQ RX1 37 7 9 false .boolean := ⟨1, 15, 24, RX1, TX1, tyX1, rfl, rfl, inX1, rfl, by decide, tyX1_ok, nmX1, rfl, tyX1_ok 9 (by decide), Or.inl (by decide +kernel)⟩
theorem fX5_243 : FQ RX5 243 7 9 false .boolean := ⟨1, 15, 24, RX1, TX1, tyX1, rfl, rfl, inX1, rfl, by decide, tyX1_ok, nmX1, rfl, tyX1_ok 9 (by decide), Or.inr ⟨"TurnThreads", by decide +kernel⟩⟩
theorem fX1_41 : FQ RX1 41 7 10 false .int := ⟨1, 15, 24, RX1, TX1, tyX1, rfl, rfl, inX1, rfl, by decide, tyX1_ok, nmX1, rfl, tyX1_ok 10 (by decide), Or.inl (by decide +kernel)⟩
theorem fX5_237 : FQ RX5 237 7 10 false .int := ⟨1, 15, 24, RX1, TX1, tyX1, rfl, rfl, inX1, rfl, by decide, tyX1_ok, nmX1, rfl, tyX1_ok 10 (by decide), Or.inr ⟨"TurnThreads", by decide +kernel⟩⟩
theorem fX1_44 : FQ RX1 44 7 11 false .int := ⟨1, 15, 24, RX1, TX1, tyX1, rfl, rfl, inX1, rfl, by decide, tyX1_ok, nmX1, rfl, tyX1_ok 11 (by decide), Or.inl (by decide +kernel)⟩
theorem fX5_90 : FQ RX5 90 7 11 false .int := ⟨1, 15, 24, RX1, TX1, tyX1, rfl, rfl, inX1, rfl, by decide, tyX1_ok, nmX1, rfl, tyX1_ok 11 (by decide), Or.inr ⟨"TurnThreads", by decide +kernel⟩⟩
theorem fX6_137 : FQ RX6 137 7 11 false .int := ⟨1, 15, 24, RX1, TX1, tyX1, rfl, rfl, inX1, rfl, by decide, tyX1_ok, nmX1, rfl, tyX1_ok 11 (by decide), Or.inr ⟨"TurnThreads", by decide +kernel⟩⟩
theorem fX1_47 : FQ RX1 47 7 12 false .int := ⟨1, 15, 24, RX1, TX1, tyX1, rfl, rfl, inX1, rfl, by decide, tyX1_ok, nmX1, rfl, tyX1_ok 12 (by decide), Or.inl (by decide +kernel)⟩
theorem fX5_135 : FQ RX5 135 7 12 false .int := ⟨1, 15, 24, RX1, TX1, tyX1, rfl, rfl, inX1, rfl, by decide, tyX1_ok, nmX1, rfl, tyX1_ok 12 (by decide), Or.inr ⟨"TurnThreads", by decide +kernel⟩⟩
theorem fX1_50 : FQ RX1 50 7 13 false .int := ⟨1, 15, 24, RX1, TX1, tyX1, rfl, rfl, inX1, rfl, by decide, tyX1_ok, nmX1, rfl, tyX1_ok 13 (by decide), Or.inl (by decide +kernel)⟩
theorem fX5_174 : FQ RX5 174 7 13 false .int := ⟨1, 15, 24, RX1, TX1, tyX1, rfl, rfl, inX1, rfl, by decide, tyX1_ok, nmX1, rfl, tyX1_ok 13 (by decide), Or.inr ⟨"TurnThreads", by decide +kernel⟩⟩
theorem fX1_53 : FQ RX1 53 7 14 false .int := ⟨1, 15, 24, RX1, TX1, tyX1, rfl, rfl, inX1, rfl, by decide, tyX1_ok, nmX1, rfl, tyX1_ok 14 (by decide), Or.inl (by decide +kernel)⟩
theorem fX5_177 : FQ RX5 177 7 14 false .int := ⟨1, 15, 24, RX1, TX1, tyX1, rfl, rfl, inX1, rfl, by decide, tyX1_ok, nmX1, rfl, tyX1_ok 14 (by decide), Or.inr ⟨"TurnThreads", by decide +kernel⟩⟩
theorem fX5_64 : FQ RX5 64 18 0 true (.object "TurnThreads$Programs") := ⟨5, 13, 1, RX5, TX5, tyX5, rfl, rfl, inX5, rfl, by decide, tyX5_ok, nmX5, rfl, tyX5_ok 0 (by decide), Or.inl (by decide +kernel)⟩
theorem fX5_11 : FQ RX5 11 18 1 true (.array (.object "TurnThreads$Fiber")) := ⟨5, 13, 1, RX5, TX5, tyX5, rfl, rfl, inX5, rfl, by decide, tyX5_ok, nmX5, rfl, tyX5_ok 1 (by decide), Or.inl (by decide +kernel)⟩
theorem fX5_20 : FQ RX5 20 18 2 true (.object "TurnThreads$Line") := ⟨5, 13, 1, RX5, TX5, tyX5, rfl, rfl, inX5, rfl, by decide, tyX5_ok, nmX5, rfl, tyX5_ok 2 (by decide), Or.inl (by decide +kernel)⟩
theorem fX6_83 : FQ RX6 83 18 2 true (.object "TurnThreads$Line") := ⟨5, 13, 1, RX5, TX5, tyX5, rfl, rfl, inX5, rfl, by decide, tyX5_ok, nmX5, rfl, tyX5_ok 2 (by decide), Or.inr ⟨"TurnThreads", by decide +kernel⟩⟩
theorem fX5_27 : FQ RX5 27 18 3 true (.object "TurnThreads$Boxes") := ⟨5, 13, 1, RX5, TX5, tyX5, rfl, rfl, inX5, rfl, by decide, tyX5_ok, nmX5, rfl, tyX5_ok 3 (by decide), Or.inl (by decide +kernel)⟩
theorem fX6_49 : FQ RX6 49 18 3 true (.object "TurnThreads$Boxes") := ⟨5, 13, 1, RX5, TX5, tyX5, rfl, rfl, inX5, rfl, by decide, tyX5_ok, nmX5, rfl, tyX5_ok 3 (by decide), Or.inr ⟨"TurnThreads", by decide +kernel⟩⟩
theorem fX5_34 : FQ RX5 34 18 4 true (.object "TurnThreads$Rows") := ⟨5, 13, 1, RX5, TX5, tyX5, rfl, rfl, inX5, rfl, by decide, tyX5_ok, nmX5, rfl, tyX5_ok 4 (by decide), Or.inl (by decide +kernel)⟩
theorem fX6_117 : FQ RX6 117 18 4 true (.object "TurnThreads$Rows") := ⟨5, 13, 1, RX5, TX5, tyX5, rfl, rfl, inX5, rfl, by decide, tyX5_ok, nmX5, rfl, tyX5_ok 4 (by decide), Or.inr ⟨"TurnThreads", by decide +kernel⟩⟩
theorem fX5_38 : FQ RX5 38 18 5 false .int := ⟨5, 13, 1, RX5, TX5, tyX5, rfl, rfl, inX5, rfl, by decide, tyX5_ok, nmX5, rfl, tyX5_ok 5 (by decide), Or.inl (by decide +kernel)⟩
theorem fX6_80 : FQ RX6 80 18 5 false .int := ⟨5, 13, 1, RX5, TX5, tyX5, rfl, rfl, inX5, rfl, by decide, tyX5_ok, nmX5, rfl, tyX5_ok 5 (by decide), Or.inr ⟨"TurnThreads", by decide +kernel⟩⟩
theorem fX5_42 : FQ RX5 42 18 6 false .boolean := ⟨5, 13, 1, RX5, TX5, tyX5, rfl, rfl, inX5, rfl, by decide, tyX5_ok, nmX5, rfl, tyX5_ok 6 (by decide), Or.inl (by decide +kernel)⟩
theorem fX6_56 : FQ RX6 56 18 6 false .boolean := ⟨5, 13, 1, RX5, TX5, tyX5, rfl, rfl, inX5, rfl, by decide, tyX5_ok, nmX5, rfl, tyX5_ok 6 (by decide), Or.inr ⟨"TurnThreads", by decide +kernel⟩⟩
theorem fX5_46 : FQ RX5 46 18 7 false .boolean := ⟨5, 13, 1, RX5, TX5, tyX5, rfl, rfl, inX5, rfl, by decide, tyX5_ok, nmX5, rfl, tyX5_ok 7 (by decide), Or.inl (by decide +kernel)⟩
theorem fX6_60 : FQ RX6 60 18 7 false .boolean := ⟨5, 13, 1, RX5, TX5, tyX5, rfl, rfl, inX5, rfl, by decide, tyX5_ok, nmX5, rfl, tyX5_ok 7 (by decide), Or.inr ⟨"TurnThreads", by decide +kernel⟩⟩
theorem fX5_49 : FQ RX5 49 18 8 false .int := ⟨5, 13, 1, RX5, TX5, tyX5, rfl, rfl, inX5, rfl, by decide, tyX5_ok, nmX5, rfl, tyX5_ok 8 (by decide), Or.inl (by decide +kernel)⟩
theorem fX5_52 : FQ RX5 52 18 9 false .int := ⟨5, 13, 1, RX5, TX5, tyX5, rfl, rfl, inX5, rfl, by decide, tyX5_ok, nmX5, rfl, tyX5_ok 9 (by decide), Or.inl (by decide +kernel)⟩
theorem fX6_77 : FQ RX6 77 18 9 false .int := ⟨5, 13, 1, RX5, TX5, tyX5, rfl, rfl, inX5, rfl, by decide, tyX5_ok, nmX5, rfl, tyX5_ok 9 (by decide), Or.inr ⟨"TurnThreads", by decide +kernel⟩⟩
theorem fX5_55 : FQ RX5 55 18 10 false .int := ⟨5, 13, 1, RX5, TX5, tyX5, rfl, rfl, inX5, rfl, by decide, tyX5_ok, nmX5, rfl, tyX5_ok 10 (by decide), Or.inl (by decide +kernel)⟩
theorem fX6_70 : FQ RX6 70 18 10 false .int := ⟨5, 13, 1, RX5, TX5, tyX5, rfl, rfl, inX5, rfl, by decide, tyX5_ok, nmX5, rfl, tyX5_ok 10 (by decide), Or.inr ⟨"TurnThreads", by decide +kernel⟩⟩
theorem fX5_58 : FQ RX5 58 18 11 false .int := ⟨5, 13, 1, RX5, TX5, tyX5, rfl, rfl, inX5, rfl, by decide, tyX5_ok, nmX5, rfl, tyX5_ok 11 (by decide), Or.inl (by decide +kernel)⟩
theorem fX6_92 : FQ RX6 92 18 11 false .int := ⟨5, 13, 1, RX5, TX5, tyX5, rfl, rfl, inX5, rfl, by decide, tyX5_ok, nmX5, rfl, tyX5_ok 11 (by decide), Or.inr ⟨"TurnThreads", by decide +kernel⟩⟩
theorem fX5_61 : FQ RX5 61 18 12 false .int := ⟨5, 13, 1, RX5, TX5, tyX5, rfl, rfl, inX5, rfl, by decide, tyX5_ok, nmX5, rfl, tyX5_ok 12 (by decide), Or.inl (by decide +kernel)⟩
theorem fX6_10 : FQ RX6 10 0 0 true (.object "TurnThreads$Programs") := ⟨6, 2, 1, RX6, TX6, tyX6, rfl, rfl, inX6, rfl, by decide, tyX6_ok, nmX6, rfl, tyX6_ok 0 (by decide), Or.inl (by decide +kernel)⟩
theorem fX6_21 : FQ RX6 21 0 1 true (.object "TurnThreads$Run") := ⟨6, 2, 1, RX6, TX6, tyX6, rfl, rfl, inX6, rfl, by decide, tyX6_ok, nmX6, rfl, tyX6_ok 1 (by decide), Or.inl (by decide +kernel)⟩
theorem fX7_77 : FQ RX7 77 20 0 false .int := ⟨7, 35, 1, RX7, TX7, tyX7, rfl, rfl, inX7, rfl, by decide, tyX7_ok, nmX7, rfl, tyX7_ok 0 (by decide), Or.inl (by decide +kernel)⟩
theorem fX7_81 : FQ RX7 81 20 1 false .int := ⟨7, 35, 1, RX7, TX7, tyX7, rfl, rfl, inX7, rfl, by decide, tyX7_ok, nmX7, rfl, tyX7_ok 1 (by decide), Or.inl (by decide +kernel)⟩
theorem fX7_7 : FQ RX7 7 20 2 true (.array .int) := ⟨7, 35, 1, RX7, TX7, tyX7, rfl, rfl, inX7, rfl, by decide, tyX7_ok, nmX7, rfl, tyX7_ok 2 (by decide), Or.inl (by decide +kernel)⟩
theorem fX7_13 : FQ RX7 13 20 3 true (.array .int) := ⟨7, 35, 1, RX7, TX7, tyX7, rfl, rfl, inX7, rfl, by decide, tyX7_ok, nmX7, rfl, tyX7_ok 3 (by decide), Or.inl (by decide +kernel)⟩
theorem fX7_16 : FQ RX7 16 20 4 true (.array .int) := ⟨7, 35, 1, RX7, TX7, tyX7, rfl, rfl, inX7, rfl, by decide, tyX7_ok, nmX7, rfl, tyX7_ok 4 (by decide), Or.inl (by decide +kernel)⟩
theorem fX7_102 : FQ RX7 102 20 5 false .boolean := ⟨7, 35, 1, RX7, TX7, tyX7, rfl, rfl, inX7, rfl, by decide, tyX7_ok, nmX7, rfl, tyX7_ok 5 (by decide), Or.inl (by decide +kernel)⟩
theorem fX7_106 : FQ RX7 106 20 6 false .boolean := ⟨7, 35, 1, RX7, TX7, tyX7, rfl, rfl, inX7, rfl, by decide, tyX7_ok, nmX7, rfl, tyX7_ok 6 (by decide), Or.inl (by decide +kernel)⟩
theorem fX7_109 : FQ RX7 109 20 7 false .int := ⟨7, 35, 1, RX7, TX7, tyX7, rfl, rfl, inX7, rfl, by decide, tyX7_ok, nmX7, rfl, tyX7_ok 7 (by decide), Or.inl (by decide +kernel)⟩
theorem fX7_112 : FQ RX7 112 20 8 false .int := ⟨7, 35, 1, RX7, TX7, tyX7, rfl, rfl, inX7, rfl, by decide, tyX7_ok, nmX7, rfl, tyX7_ok 8 (by decide), Or.inl (by decide +kernel)⟩
theorem fX7_115 : FQ RX7 115 20 9 false .int := ⟨7, 35, 1, RX7, TX7, tyX7, rfl, rfl, inX7, rfl, by decide, tyX7_ok, nmX7, rfl, tyX7_ok 9 (by decide), Or.inl (by decide +kernel)⟩
theorem fX7_118 : FQ RX7 118 20 10 false .int := ⟨7, 35, 1, RX7, TX7, tyX7, rfl, rfl, inX7, rfl, by decide, tyX7_ok, nmX7, rfl, tyX7_ok 10 (by decide), Or.inl (by decide +kernel)⟩
theorem fX7_92 : FQ RX7 92 20 11 false .int := ⟨7, 35, 1, RX7, TX7, tyX7, rfl, rfl, inX7, rfl, by decide, tyX7_ok, nmX7, rfl, tyX7_ok 11 (by decide), Or.inl (by decide +kernel)⟩
theorem fX7_19 : FQ RX7 19 20 12 true (.array .int) := ⟨7, 35, 1, RX7, TX7, tyX7, rfl, rfl, inX7, rfl, by decide, tyX7_ok, nmX7, rfl, tyX7_ok 12 (by decide), Or.inl (by decide +kernel)⟩
theorem fX7_22 : FQ RX7 22 20 13 true (.array .int) := ⟨7, 35, 1, RX7, TX7, tyX7, rfl, rfl, inX7, rfl, by decide, tyX7_ok, nmX7, rfl, tyX7_ok 13 (by decide), Or.inl (by decide +kernel)⟩
theorem fX7_25 : FQ RX7 25 20 14 true (.array .int) := ⟨7, 35, 1, RX7, TX7, tyX7, rfl, rfl, inX7, rfl, by decide, tyX7_ok, nmX7, rfl, tyX7_ok 14 (by decide), Or.inl (by decide +kernel)⟩
theorem fX7_28 : FQ RX7 28 20 15 true (.array .int) := ⟨7, 35, 1, RX7, TX7, tyX7, rfl, rfl, inX7, rfl, by decide, tyX7_ok, nmX7, rfl, tyX7_ok 15 (by decide), Or.inl (by decide +kernel)⟩
theorem fX7_31 : FQ RX7 31 20 16 true (.array .int) := ⟨7, 35, 1, RX7, TX7, tyX7, rfl, rfl, inX7, rfl, by decide, tyX7_ok, nmX7, rfl, tyX7_ok 16 (by decide), Or.inl (by decide +kernel)⟩
theorem fX7_34 : FQ RX7 34 20 17 true (.array .int) := ⟨7, 35, 1, RX7, TX7, tyX7, rfl, rfl, inX7, rfl, by decide, tyX7_ok, nmX7, rfl, tyX7_ok 17 (by decide), Or.inl (by decide +kernel)⟩
theorem fX7_37 : FQ RX7 37 20 18 true (.array .boolean) := ⟨7, 35, 1, RX7, TX7, tyX7, rfl, rfl, inX7, rfl, by decide, tyX7_ok, nmX7, rfl, tyX7_ok 18 (by decide), Or.inl (by decide +kernel)⟩
theorem fX7_41 : FQ RX7 41 20 19 true (.array .int) := ⟨7, 35, 1, RX7, TX7, tyX7, rfl, rfl, inX7, rfl, by decide, tyX7_ok, nmX7, rfl, tyX7_ok 19 (by decide), Or.inl (by decide +kernel)⟩
theorem fX7_44 : FQ RX7 44 20 20 true (.array .int) := ⟨7, 35, 1, RX7, TX7, tyX7, rfl, rfl, inX7, rfl, by decide, tyX7_ok, nmX7, rfl, tyX7_ok 20 (by decide), Or.inl (by decide +kernel)⟩
theorem fX7_47 : FQ RX7 47 20 21 true (.array .int) := ⟨7, 35, 1, RX7, TX7, tyX7, rfl, rfl, inX7, rfl, by decide, tyX7_ok, nmX7, rfl, tyX7_ok 21 (by decide), Or.inl (by decide +kernel)⟩
theorem fX7_50 : FQ RX7 50 20 22 true (.array .int) := ⟨7, 35, 1, RX7, TX7, tyX7, rfl, rfl, inX7, rfl, by decide, tyX7_ok, nmX7, rfl, tyX7_ok 22 (by decide), Or.inl (by decide +kernel)⟩
theorem fX7_53 : FQ RX7 53 20 23 true (.array .int) := ⟨7, 35, 1, RX7, TX7, tyX7, rfl, rfl, inX7, rfl, by decide, tyX7_ok, nmX7, rfl, tyX7_ok 23 (by decide), Or.inl (by decide +kernel)⟩
theorem fX7_56 : FQ RX7 56 20 24 true (.array .int) := ⟨7, 35, 1, RX7, TX7, tyX7, rfl, rfl, inX7, rfl, by decide, tyX7_ok, nmX7, rfl, tyX7_ok 24 (by decide), Or.inl (by decide +kernel)⟩
theorem fX7_59 : FQ RX7 59 20 25 true (.array .int) := ⟨7, 35, 1, RX7, TX7, tyX7, rfl, rfl, inX7, rfl, by decide, tyX7_ok, nmX7, rfl, tyX7_ok 25 (by decide), Or.inl (by decide +kernel)⟩
theorem fX7_124 : FQ RX7 124 20 26 false .int := ⟨7, 35, 1, RX7, TX7, tyX7, rfl, rfl, inX7, rfl, by decide, tyX7_ok, nmX7, rfl, tyX7_ok 26 (by decide), Or.inl (by decide +kernel)⟩
theorem fX7_99 : FQ RX7 99 20 27 false .int := ⟨7, 35, 1, RX7, TX7, tyX7, rfl, rfl, inX7, rfl, by decide, tyX7_ok, nmX7, rfl, tyX7_ok 27 (by decide), Or.inl (by decide +kernel)⟩
theorem fX7_62 : FQ RX7 62 20 28 true (.array .int) := ⟨7, 35, 1, RX7, TX7, tyX7, rfl, rfl, inX7, rfl, by decide, tyX7_ok, nmX7, rfl, tyX7_ok 28 (by decide), Or.inl (by decide +kernel)⟩
theorem fX7_65 : FQ RX7 65 20 29 true (.array .int) := ⟨7, 35, 1, RX7, TX7, tyX7, rfl, rfl, inX7, rfl, by decide, tyX7_ok, nmX7, rfl, tyX7_ok 29 (by decide), Or.inl (by decide +kernel)⟩
theorem fX7_68 : FQ RX7 68 20 30 true (.array .boolean) := ⟨7, 35, 1, RX7, TX7, tyX7, rfl, rfl, inX7, rfl, by decide, tyX7_ok, nmX7, rfl, tyX7_ok 30 (by decide), Or.inl (by decide +kernel)⟩
theorem fX7_121 : FQ RX7 121 20 31 false .int := ⟨7, 35, 1, RX7, TX7, tyX7, rfl, rfl, inX7, rfl, by decide, tyX7_ok, nmX7, rfl, tyX7_ok 31 (by decide), Or.inl (by decide +kernel)⟩
theorem fX7_71 : FQ RX7 71 20 32 true (.array .int) := ⟨7, 35, 1, RX7, TX7, tyX7, rfl, rfl, inX7, rfl, by decide, tyX7_ok, nmX7, rfl, tyX7_ok 32 (by decide), Or.inl (by decide +kernel)⟩
theorem fX7_74 : FQ RX7 74 20 33 true (.array .int) := ⟨7, 35, 1, RX7, TX7, tyX7, rfl, rfl, inX7, rfl, by decide, tyX7_ok, nmX7, rfl, tyX7_ok 33 (by decide), Or.inl (by decide +kernel)⟩
theorem fX7_163 : FQ RX7 163 20 34 false .boolean := ⟨7, 35, 1, RX7, TX7, tyX7, rfl, rfl, inX7, rfl, by decide, tyX7_ok, nmX7, rfl, tyX7_ok 34 (by decide), Or.inl (by decide +kernel)⟩
theorem kX6_init : Cond.code yX6_init cX6_init 1 none ∈ lw_tbl := by decide +kernel
theorem kX3_init : Cond.code yX3_init cX3_init 1 none ∈ lw_tbl := by decide +kernel
theorem kX5_init : Cond.code yX5_init cX5_init 3 none ∈ lw_tbl := by decide +kernel
theorem kX2_init : Cond.code yX2_init cX2_init 1 none ∈ lw_tbl := by decide +kernel
theorem kX0_init : Cond.code yX0_init cX0_init 1 none ∈ lw_tbl := by decide +kernel
theorem kX4_init : Cond.code yX4_init cX4_init 1 none ∈ lw_tbl := by decide +kernel
theorem kX1_init : Cond.code yX1_init cX1_init 2 none ∈ lw_tbl := by decide +kernel
theorem kX6_program : Cond.code yX6_program cX6_program 1 (some .int) ∈ lw_tbl := by decide +kernel
theorem kX3_addProgram : Cond.code yX3_addProgram cX3_addProgram 1 (some .int) ∈ lw_tbl := by decide +kernel
theorem kX6_act : Cond.code yX6_act cX6_act 3 (some .int) ∈ lw_tbl := by decide +kernel
theorem kX6_fits : Cond.code yX6_fits cX6_fits 2 (some .boolean) ∈ lw_tbl := by decide +kernel
theorem kX3_isEmpty : Cond.code yX3_isEmpty cX3_isEmpty 1 (some .boolean) ∈ lw_tbl := by decide +kernel
theorem kX3_addAct : Cond.code yX3_addAct cX3_addAct 5 (some .int) ∈ lw_tbl := by decide +kernel
theorem kX3_has : Cond.code yX3_has cX3_has 2 (some .boolean) ∈ lw_tbl := by decide +kernel
theorem kX6_begin : Cond.code yX6_begin cX6_begin 4 (some .int) ∈ lw_tbl := by decide +kernel
theorem kX5_start : Cond.code yX5_start cX5_start 5 none ∈ lw_tbl := by decide +kernel
theorem kX2_clear : Cond.code yX2_clear cX2_clear 1 none ∈ lw_tbl := by decide +kernel
theorem kX4_clear : Cond.code yX4_clear cX4_clear 1 none ∈ lw_tbl := by decide +kernel
theorem kX0_empty : Cond.code yX0_empty cX0_empty 2 none ∈ lw_tbl := by decide +kernel
theorem kX0_has : Cond.code yX0_has cX0_has 2 (some .boolean) ∈ lw_tbl := by decide +kernel
theorem kX5_startFiber : Cond.code yX5_startFiber cX5_startFiber 4 (some .int) ∈ lw_tbl := by decide +kernel
theorem kX1_reset : Cond.code yX1_reset cX1_reset 3 none ∈ lw_tbl := by decide +kernel
theorem kX2_add : Cond.code yX2_add cX2_add 2 none ∈ lw_tbl := by decide +kernel
theorem kX6_fill : Cond.code yX6_fill cX6_fill 3 (some .int) ∈ lw_tbl := by decide +kernel
theorem kX0_isFull : Cond.code yX0_isFull cX0_isFull 2 (some .boolean) ∈ lw_tbl := by decide +kernel
theorem kX5_bring : Cond.code yX5_bring cX5_bring 5 none ∈ lw_tbl := by decide +kernel
theorem kX5_firstWaiting : Cond.code yX5_firstWaiting cX5_firstWaiting 6 (some (.object "TurnThreads$Fiber")) ∈ lw_tbl := by decide +kernel
theorem kX1_waitsAt : Cond.code yX1_waitsAt cX1_waitsAt 3 (some .boolean) ∈ lw_tbl := by decide +kernel
theorem kX5_makeReady : Cond.code yX5_makeReady cX5_makeReady 2 none ∈ lw_tbl := by decide +kernel
theorem kX0_keep : Cond.code yX0_keep cX0_keep 3 none ∈ lw_tbl := by decide +kernel
theorem kX6_step : Cond.code yX6_step cX6_step 3 (some .int) ∈ lw_tbl := by decide +kernel
theorem kX5_takeTurn : Cond.code yX5_takeTurn cX5_takeTurn 4 (some .boolean) ∈ lw_tbl := by decide +kernel
theorem kX5_nextToRun : Cond.code yX5_nextToRun cX5_nextToRun 1 (some (.object "TurnThreads$Fiber")) ∈ lw_tbl := by decide +kernel
theorem kX5_wakeDelayed : Cond.code yX5_wakeDelayed cX5_wakeDelayed 3 none ∈ lw_tbl := by decide +kernel
theorem kX5_firstDelayed : Cond.code yX5_firstDelayed cX5_firstDelayed 4 (some (.object "TurnThreads$Fiber")) ∈ lw_tbl := by decide +kernel
theorem kX2_size : Cond.code yX2_size cX2_size 1 (some .int) ∈ lw_tbl := by decide +kernel
theorem kX5_endIdleness : Cond.code yX5_endIdleness cX5_endIdleness 2 none ∈ lw_tbl := by decide +kernel
theorem kX5_rescueWaiting : Cond.code yX5_rescueWaiting cX5_rescueWaiting 2 none ∈ lw_tbl := by decide +kernel
theorem kX1_waits : Cond.code yX1_waits cX1_waits 1 (some .boolean) ∈ lw_tbl := by decide +kernel
theorem kX5_raise : Cond.code yX5_raise cX5_raise 4 none ∈ lw_tbl := by decide +kernel
theorem kX1_isAway : Cond.code yX1_isAway cX1_isAway 1 (some .boolean) ∈ lw_tbl := by decide +kernel
theorem kX1_handles : Cond.code yX1_handles cX1_handles 2 (some .boolean) ∈ lw_tbl := by decide +kernel
theorem kX2_remove : Cond.code yX2_remove cX2_remove 4 none ∈ lw_tbl := by decide +kernel
theorem kX5_closeIfOver : Cond.code yX5_closeIfOver cX5_closeIfOver 2 none ∈ lw_tbl := by decide +kernel
theorem kX1_isDone : Cond.code yX1_isDone cX1_isDone 1 (some .boolean) ∈ lw_tbl := by decide +kernel
theorem kX2_removeFirst : Cond.code yX2_removeFirst cX2_removeFirst 2 (some (.object "TurnThreads$Fiber")) ∈ lw_tbl := by decide +kernel
theorem kX2_at : Cond.code yX2_at cX2_at 2 (some (.object "TurnThreads$Fiber")) ∈ lw_tbl := by decide +kernel
theorem kX3_kindAt : Cond.code yX3_kindAt cX3_kindAt 3 (some .int) ∈ lw_tbl := by decide +kernel
theorem kX3_hasAct : Cond.code yX3_hasAct cX3_hasAct 3 (some .boolean) ∈ lw_tbl := by decide +kernel
theorem kX3_operandAt : Cond.code yX3_operandAt cX3_operandAt 3 (some .int) ∈ lw_tbl := by decide +kernel
theorem kX5_doAct : Cond.code yX5_doAct cX5_doAct 5 none ∈ lw_tbl := by decide +kernel
theorem kX5_stateAfter : Cond.code yX5_stateAfter cX5_stateAfter 3 (some .int) ∈ lw_tbl := by decide +kernel
theorem kX5_perform : Cond.code yX5_perform cX5_perform 4 none ∈ lw_tbl := by decide +kernel
theorem kX5_takeFrom : Cond.code yX5_takeFrom cX5_takeFrom 4 none ∈ lw_tbl := by decide +kernel
theorem kX0_valueOf : Cond.code yX0_valueOf cX0_valueOf 2 (some .int) ∈ lw_tbl := by decide +kernel
theorem kX4_add : Cond.code yX4_add cX4_add 3 none ∈ lw_tbl := by decide +kernel
theorem kX5_fiberAt : Cond.code yX5_fiberAt cX5_fiberAt 2 (some (.object "TurnThreads$Fiber")) ∈ lw_tbl := by decide +kernel
theorem kX5_throwTo : Cond.code yX5_throwTo cX5_throwTo 4 none ∈ lw_tbl := by decide +kernel
theorem kX1_addPending : Cond.code yX1_addPending cX1_addPending 2 none ∈ lw_tbl := by decide +kernel
theorem kX1_addHandler : Cond.code yX1_addHandler cX1_addHandler 2 none ∈ lw_tbl := by decide +kernel
theorem kX1_dropHandler : Cond.code yX1_dropHandler cX1_dropHandler 1 none ∈ lw_tbl := by decide +kernel
theorem kX5_mask : Cond.code yX5_mask cX5_mask 4 none ∈ lw_tbl := by decide +kernel
theorem kX1_takeEldest : Cond.code yX1_takeEldest cX1_takeEldest 3 (some .int) ∈ lw_tbl := by decide +kernel
theorem kX5_pause : Cond.code yX5_pause cX5_pause 4 none ∈ lw_tbl := by decide +kernel
theorem kX6_told : Cond.code yX6_told cX6_told 2 (some .int) ∈ lw_tbl := by decide +kernel
theorem kX6_thread : Cond.code yX6_thread cX6_thread 4 (some .int) ∈ lw_tbl := by decide +kernel
theorem kX1_tell : Cond.code yX1_tell cX1_tell 2 (some .int) ∈ lw_tbl := by decide +kernel
theorem kX1_actToCome : Cond.code yX1_actToCome cX1_actToCome 1 (some .int) ∈ lw_tbl := by decide +kernel
theorem kX6_queued : Cond.code yX6_queued cX6_queued 3 (some .int) ∈ lw_tbl := by decide +kernel
theorem kX6_box : Cond.code yX6_box cX6_box 3 (some .int) ∈ lw_tbl := by decide +kernel
theorem kX5_countWaiting : Cond.code yX5_countWaiting cX5_countWaiting 5 (some .int) ∈ lw_tbl := by decide +kernel
theorem kX6_trace : Cond.code yX6_trace cX6_trace 4 (some .int) ∈ lw_tbl := by decide +kernel
theorem kX4_size : Cond.code yX4_size cX4_size 1 (some .int) ∈ lw_tbl := by decide +kernel
theorem kX4_numberAt : Cond.code yX4_numberAt cX4_numberAt 2 (some .int) ∈ lw_tbl := by decide +kernel
theorem kX4_registerAt : Cond.code yX4_registerAt cX4_registerAt 2 (some .int) ∈ lw_tbl := by decide +kernel
theorem kX6_share : Cond.code yX6_share cX6_share 3 (some .int) ∈ lw_tbl := by decide +kernel
theorem kX7_init : Cond.code yX7_init cX7_init 1 none ∈ lw_tbl := by decide +kernel
theorem kX7_thrown : Cond.code yX7_thrown cX7_thrown 1 (some .int) ∈ lw_tbl := by decide +kernel
theorem kX7_program : Cond.code yX7_program cX7_program 1 (some .int) ∈ lw_tbl := by decide +kernel
theorem kX7_act : Cond.code yX7_act cX7_act 4 (some .int) ∈ lw_tbl := by decide +kernel
theorem kX7_isGood : Cond.code yX7_isGood cX7_isGood 2 (some .boolean) ∈ lw_tbl := by decide +kernel
theorem kX7_in : Cond.code yX7_in cX7_in 3 (some .boolean) ∈ lw_tbl := by decide +kernel
theorem kX7_begin : Cond.code yX7_begin cX7_begin 5 (some .int) ∈ lw_tbl := by decide +kernel
theorem kX7_newThread : Cond.code yX7_newThread cX7_newThread 4 (some .int) ∈ lw_tbl := by decide +kernel
theorem kX7_enqueue : Cond.code yX7_enqueue cX7_enqueue 2 none ∈ lw_tbl := by decide +kernel
theorem kX7_fill : Cond.code yX7_fill cX7_fill 3 (some .int) ∈ lw_tbl := by decide +kernel
theorem kX7_comesIn : Cond.code yX7_comesIn cX7_comesIn 4 none ∈ lw_tbl := by decide +kernel
theorem kX7_firstAt : Cond.code yX7_firstAt cX7_firstAt 5 (some .int) ∈ lw_tbl := by decide +kernel
theorem kX7_goesOn : Cond.code yX7_goesOn cX7_goesOn 2 none ∈ lw_tbl := by decide +kernel
theorem kX7_step : Cond.code yX7_step cX7_step 3 (some .int) ∈ lw_tbl := by decide +kernel
theorem kX7_isTurn : Cond.code yX7_isTurn cX7_isTurn 3 (some .boolean) ∈ lw_tbl := by decide +kernel
theorem kX7_findReady : Cond.code yX7_findReady cX7_findReady 3 none ∈ lw_tbl := by decide +kernel
theorem kX7_wake : Cond.code yX7_wake cX7_wake 3 none ∈ lw_tbl := by decide +kernel
theorem kX7_except : Cond.code yX7_except cX7_except 4 none ∈ lw_tbl := by decide +kernel
theorem kX7_finish : Cond.code yX7_finish cX7_finish 4 none ∈ lw_tbl := by decide +kernel
theorem kX7_leaveQueue : Cond.code yX7_leaveQueue cX7_leaveQueue 4 none ∈ lw_tbl := by decide +kernel
theorem kX7_doAct : Cond.code yX7_doAct cX7_doAct 4 none ∈ lw_tbl := by decide +kernel
theorem kX7_waitAt : Cond.code yX7_waitAt cX7_waitAt 4 none ∈ lw_tbl := by decide +kernel
theorem kX7_popPending : Cond.code yX7_popPending cX7_popPending 4 none ∈ lw_tbl := by decide +kernel
theorem kX7_taken : Cond.code yX7_taken cX7_taken 4 none ∈ lw_tbl := by decide +kernel
theorem kX7_doOther : Cond.code yX7_doOther cX7_doOther 4 none ∈ lw_tbl := by decide +kernel
theorem kX7_throwTo : Cond.code yX7_throwTo cX7_throwTo 4 none ∈ lw_tbl := by decide +kernel
theorem kX7_told : Cond.code yX7_told cX7_told 2 (some .int) ∈ lw_tbl := by decide +kernel
theorem kX7_thread : Cond.code yX7_thread cX7_thread 3 (some .int) ∈ lw_tbl := by decide +kernel
theorem kX7_queued : Cond.code yX7_queued cX7_queued 2 (some .int) ∈ lw_tbl := by decide +kernel
theorem kX7_box : Cond.code yX7_box cX7_box 5 (some .int) ∈ lw_tbl := by decide +kernel
theorem kX7_trace : Cond.code yX7_trace cX7_trace 3 (some .int) ∈ lw_tbl := by decide +kernel
theorem kX7_share : Cond.code yX7_share cX7_share 2 (some .int) ∈ lw_tbl := by decide +kernel
theorem lX6_25 : CQ RX6 25 yX3_addProgram 0 := ⟨by decide +kernel, by decide +kernel, by decide +kernel, by decide +kernel, by decide, by decide, by decide +kernel⟩
theorem lX6_29 : SQ RX6 29 yX6_fits 2 := ⟨by decide +kernel, by decide +kernel, by decide +kernel, by decide, by decide, by decide +kernel⟩
theorem lX6_33 : CQ RX6 33 yX3_isEmpty 0 := ⟨by decide +kernel, by decide +kernel, by decide +kernel, by decide +kernel, by decide, by decide, by decide +kernel⟩
theorem lX6_37 : CQ RX6 37 yX3_addAct 2 := ⟨by decide +kernel, by decide +kernel, by decide +kernel, by decide +kernel, by decide, by decide, by decide +kernel⟩
theorem lX3_27 : CQ RX3 27 yX3_has 1 := ⟨by decide +kernel, by decide +kernel, by decide +kernel, by decide +kernel, by decide, by decide, by decide +kernel⟩
theorem lX6_41 : CQ RX6 41 yX3_has 1 := ⟨by decide +kernel, by decide +kernel, by decide +kernel, by decide +kernel, by decide, by decide, by decide +kernel⟩
theorem lX6_45 : CQ RX6 45 yX5_start 3 := ⟨by decide +kernel, by decide +kernel, by decide +kernel, by decide +kernel, by decide, by decide, by decide +kernel⟩
theorem lX5_71 : CQ RX5 71 yX2_clear 0 := ⟨by decide +kernel, by decide +kernel, by decide +kernel, by decide +kernel, by decide, by decide, by decide +kernel⟩
theorem lX5_74 : CQ RX5 74 yX4_clear 0 := ⟨by decide +kernel, by decide +kernel, by decide +kernel, by decide +kernel, by decide, by decide, by decide +kernel⟩
theorem lX5_75 : CQ RX5 75 yX0_empty 1 := ⟨by decide +kernel, by decide +kernel, by decide +kernel, by decide +kernel, by decide, by decide, by decide +kernel⟩
theorem lX0_19 : CQ RX0 19 yX0_has 1 := ⟨by decide +kernel, by decide +kernel, by decide +kernel, by decide +kernel, by decide, by decide, by decide +kernel⟩
theorem lX5_78 : CQ RX5 78 yX5_startFiber 2 := ⟨by decide +kernel, by decide +kernel, by decide +kernel, by decide +kernel, by decide, by decide, by decide +kernel⟩
theorem lX5_218 : CQ RX5 218 yX3_has 1 := ⟨by decide +kernel, by decide +kernel, by decide +kernel, by decide +kernel, by decide, by decide, by decide +kernel⟩
theorem lX5_221 : CQ RX5 221 yX1_reset 2 := ⟨by decide +kernel, by decide +kernel, by decide +kernel, by decide +kernel, by decide, by decide, by decide +kernel⟩
theorem lX5_115 : CQ RX5 115 yX2_add 1 := ⟨by decide +kernel, by decide +kernel, by decide +kernel, by decide +kernel, by decide, by decide, by decide +kernel⟩
theorem lX6_53 : CQ RX6 53 yX0_has 1 := ⟨by decide +kernel, by decide +kernel, by decide +kernel, by decide +kernel, by decide, by decide, by decide +kernel⟩
theorem lX6_63 : CQ RX6 63 yX0_isFull 1 := ⟨by decide +kernel, by decide +kernel, by decide +kernel, by decide +kernel, by decide, by decide, by decide +kernel⟩
theorem lX6_66 : CQ RX6 66 yX5_bring 2 := ⟨by decide +kernel, by decide +kernel, by decide +kernel, by decide +kernel, by decide, by decide, by decide +kernel⟩
theorem lX5_224 : CQ RX5 224 yX5_firstWaiting 2 := ⟨by decide +kernel, by decide +kernel, by decide +kernel, by decide +kernel, by decide, by decide, by decide +kernel⟩
theorem lX5_82 : CQ RX5 82 yX1_waitsAt 2 := ⟨by decide +kernel, by decide +kernel, by decide +kernel, by decide +kernel, by decide, by decide, by decide +kernel⟩
theorem lX5_138 : CQ RX5 138 yX5_makeReady 1 := ⟨by decide +kernel, by decide +kernel, by decide +kernel, by decide +kernel, by decide, by decide, by decide +kernel⟩
theorem lX5_228 : CQ RX5 228 yX0_keep 2 := ⟨by decide +kernel, by decide +kernel, by decide +kernel, by decide +kernel, by decide, by decide, by decide +kernel⟩
theorem lX6_74 : CQ RX6 74 yX5_takeTurn 0 := ⟨by decide +kernel, by decide +kernel, by decide +kernel, by decide +kernel, by decide, by decide, by decide +kernel⟩
theorem lX5_86 : CQ RX5 86 yX5_nextToRun 0 := ⟨by decide +kernel, by decide +kernel, by decide +kernel, by decide +kernel, by decide, by decide, by decide +kernel⟩
theorem lX5_119 : CQ RX5 119 yX5_wakeDelayed 0 := ⟨by decide +kernel, by decide +kernel, by decide +kernel, by decide +kernel, by decide, by decide, by decide +kernel⟩
theorem lX5_132 : CQ RX5 132 yX5_firstDelayed 0 := ⟨by decide +kernel, by decide +kernel, by decide +kernel, by decide +kernel, by decide, by decide, by decide +kernel⟩
theorem lX5_122 : CQ RX5 122 yX2_size 0 := ⟨by decide +kernel, by decide +kernel, by decide +kernel, by decide +kernel, by decide, by decide, by decide +kernel⟩
theorem lX5_126 : CQ RX5 126 yX5_endIdleness 0 := ⟨by decide +kernel, by decide +kernel, by decide +kernel, by decide +kernel, by decide, by decide, by decide +kernel⟩
theorem lX5_141 : CQ RX5 141 yX5_rescueWaiting 0 := ⟨by decide +kernel, by decide +kernel, by decide +kernel, by decide +kernel, by decide, by decide, by decide +kernel⟩
theorem lX5_144 : CQ RX5 144 yX1_waits 0 := ⟨by decide +kernel, by decide +kernel, by decide +kernel, by decide +kernel, by decide, by decide, by decide +kernel⟩
theorem lX5_148 : CQ RX5 148 yX5_raise 2 := ⟨by decide +kernel, by decide +kernel, by decide +kernel, by decide +kernel, by decide, by decide, by decide +kernel⟩
theorem lX5_231 : CQ RX5 231 yX1_isAway 0 := ⟨by decide +kernel, by decide +kernel, by decide +kernel, by decide +kernel, by decide, by decide, by decide +kernel⟩
theorem lX5_234 : CQ RX5 234 yX1_handles 1 := ⟨by decide +kernel, by decide +kernel, by decide +kernel, by decide +kernel, by decide, by decide, by decide +kernel⟩
theorem lX5_240 : CQ RX5 240 yX2_remove 1 := ⟨by decide +kernel, by decide +kernel, by decide +kernel, by decide +kernel, by decide, by decide, by decide +kernel⟩
theorem lX5_112 : CQ RX5 112 yX5_closeIfOver 0 := ⟨by decide +kernel, by decide +kernel, by decide +kernel, by decide +kernel, by decide, by decide, by decide +kernel⟩
theorem lX5_152 : CQ RX5 152 yX1_isDone 0 := ⟨by decide +kernel, by decide +kernel, by decide +kernel, by decide +kernel, by decide, by decide, by decide +kernel⟩
theorem lX5_129 : CQ RX5 129 yX2_removeFirst 0 := ⟨by decide +kernel, by decide +kernel, by decide +kernel, by decide +kernel, by decide, by decide, by decide +kernel⟩
theorem lX2_21 : CQ RX2 21 yX2_at 1 := ⟨by decide +kernel, by decide +kernel, by decide +kernel, by decide +kernel, by decide, by decide, by decide +kernel⟩
theorem lX2_25 : CQ RX2 25 yX2_remove 1 := ⟨by decide +kernel, by decide +kernel, by decide +kernel, by decide +kernel, by decide, by decide, by decide +kernel⟩
theorem lX5_100 : CQ RX5 100 yX3_kindAt 2 := ⟨by decide +kernel, by decide +kernel, by decide +kernel, by decide +kernel, by decide, by decide, by decide +kernel⟩
theorem lX3_31 : CQ RX3 31 yX3_hasAct 2 := ⟨by decide +kernel, by decide +kernel, by decide +kernel, by decide +kernel, by decide, by decide, by decide +kernel⟩
theorem lX5_105 : CQ RX5 105 yX3_operandAt 2 := ⟨by decide +kernel, by decide +kernel, by decide +kernel, by decide +kernel, by decide, by decide, by decide +kernel⟩
theorem lX5_108 : CQ RX5 108 yX5_doAct 3 := ⟨by decide +kernel, by decide +kernel, by decide +kernel, by decide +kernel, by decide, by decide, by decide +kernel⟩
theorem lX5_155 : CQ RX5 155 yX5_stateAfter 2 := ⟨by decide +kernel, by decide +kernel, by decide +kernel, by decide +kernel, by decide, by decide, by decide +kernel⟩
theorem lX5_170 : CQ RX5 170 yX0_isFull 1 := ⟨by decide +kernel, by decide +kernel, by decide +kernel, by decide +kernel, by decide, by decide, by decide +kernel⟩
theorem lX5_158 : CQ RX5 158 yX5_perform 3 := ⟨by decide +kernel, by decide +kernel, by decide +kernel, by decide +kernel, by decide, by decide, by decide +kernel⟩
theorem lX5_183 : CQ RX5 183 yX5_bring 2 := ⟨by decide +kernel, by decide +kernel, by decide +kernel, by decide +kernel, by decide, by decide, by decide +kernel⟩
theorem lX5_187 : CQ RX5 187 yX5_takeFrom 2 := ⟨by decide +kernel, by decide +kernel, by decide +kernel, by decide +kernel, by decide, by decide, by decide +kernel⟩
theorem lX5_191 : CQ RX5 191 yX0_valueOf 1 := ⟨by decide +kernel, by decide +kernel, by decide +kernel, by decide +kernel, by decide, by decide, by decide +kernel⟩
theorem lX5_198 : CQ RX5 198 yX4_add 2 := ⟨by decide +kernel, by decide +kernel, by decide +kernel, by decide +kernel, by decide, by decide, by decide +kernel⟩
theorem lX5_200 : CQ RX5 200 yX5_fiberAt 1 := ⟨by decide +kernel, by decide +kernel, by decide +kernel, by decide +kernel, by decide, by decide, by decide +kernel⟩
theorem lX5_204 : CQ RX5 204 yX5_throwTo 3 := ⟨by decide +kernel, by decide +kernel, by decide +kernel, by decide +kernel, by decide, by decide, by decide +kernel⟩
theorem lX5_246 : CQ RX5 246 yX1_addPending 1 := ⟨by decide +kernel, by decide +kernel, by decide +kernel, by decide +kernel, by decide, by decide, by decide +kernel⟩
theorem lX5_208 : CQ RX5 208 yX1_addHandler 1 := ⟨by decide +kernel, by decide +kernel, by decide +kernel, by decide +kernel, by decide, by decide, by decide +kernel⟩
theorem lX5_211 : CQ RX5 211 yX1_dropHandler 0 := ⟨by decide +kernel, by decide +kernel, by decide +kernel, by decide +kernel, by decide, by decide, by decide +kernel⟩
theorem lX5_214 : CQ RX5 214 yX5_mask 2 := ⟨by decide +kernel, by decide +kernel, by decide +kernel, by decide +kernel, by decide, by decide, by decide +kernel⟩
theorem lX5_164 : CQ RX5 164 yX1_takeEldest 0 := ⟨by decide +kernel, by decide +kernel, by decide +kernel, by decide +kernel, by decide, by decide, by decide +kernel⟩
theorem lX5_167 : CQ RX5 167 yX5_pause 3 := ⟨by decide +kernel, by decide +kernel, by decide +kernel, by decide +kernel, by decide, by decide, by decide +kernel⟩
theorem lX6_87 : CQ RX6 87 yX2_size 0 := ⟨by decide +kernel, by decide +kernel, by decide +kernel, by decide +kernel, by decide, by decide, by decide +kernel⟩
theorem lX6_95 : CQ RX6 95 yX5_fiberAt 1 := ⟨by decide +kernel, by decide +kernel, by decide +kernel, by decide +kernel, by decide, by decide, by decide +kernel⟩
theorem lX6_99 : CQ RX6 99 yX1_tell 1 := ⟨by decide +kernel, by decide +kernel, by decide +kernel, by decide +kernel, by decide, by decide, by decide +kernel⟩
theorem lX1_59 : CQ RX1 59 yX1_actToCome 0 := ⟨by decide +kernel, by decide +kernel, by decide +kernel, by decide +kernel, by decide, by decide, by decide +kernel⟩
theorem lX1_63 : CQ RX1 63 yX1_isDone 0 := ⟨by decide +kernel, by decide +kernel, by decide +kernel, by decide +kernel, by decide, by decide, by decide +kernel⟩
theorem lX1_67 : CQ RX1 67 yX1_waits 0 := ⟨by decide +kernel, by decide +kernel, by decide +kernel, by decide +kernel, by decide, by decide, by decide +kernel⟩
theorem lX6_105 : CQ RX6 105 yX2_at 1 := ⟨by decide +kernel, by decide +kernel, by decide +kernel, by decide +kernel, by decide, by decide, by decide +kernel⟩
theorem lX6_111 : CQ RX6 111 yX0_valueOf 1 := ⟨by decide +kernel, by decide +kernel, by decide +kernel, by decide +kernel, by decide, by decide, by decide +kernel⟩
theorem lX6_114 : CQ RX6 114 yX5_countWaiting 2 := ⟨by decide +kernel, by decide +kernel, by decide +kernel, by decide +kernel, by decide, by decide, by decide +kernel⟩
theorem lX6_121 : CQ RX6 121 yX4_size 0 := ⟨by decide +kernel, by decide +kernel, by decide +kernel, by decide +kernel, by decide, by decide, by decide +kernel⟩
theorem lX6_124 : CQ RX6 124 yX4_numberAt 1 := ⟨by decide +kernel, by decide +kernel, by decide +kernel, by decide +kernel, by decide, by decide, by decide +kernel⟩
theorem lX6_127 : CQ RX6 127 yX4_registerAt 1 := ⟨by decide +kernel, by decide +kernel, by decide +kernel, by decide +kernel, by decide, by decide, by decide +kernel⟩
theorem lX7_88 : SQ RX7 88 yX7_isGood 2 := ⟨by decide +kernel, by decide +kernel, by decide +kernel, by decide, by decide, by decide +kernel⟩
theorem lX7_84 : SQ RX7 84 yX7_in 3 := ⟨by decide +kernel, by decide +kernel, by decide +kernel, by decide, by decide, by decide +kernel⟩
theorem lX7_127 : CQ RX7 127 yX7_newThread 2 := ⟨by decide +kernel, by decide +kernel, by decide +kernel, by decide +kernel, by decide, by decide, by decide +kernel⟩
theorem lX7_95 : CQ RX7 95 yX7_enqueue 1 := ⟨by decide +kernel, by decide +kernel, by decide +kernel, by decide +kernel, by decide, by decide, by decide +kernel⟩
theorem lX7_137 : CQ RX7 137 yX7_comesIn 2 := ⟨by decide +kernel, by decide +kernel, by decide +kernel, by decide +kernel, by decide, by decide, by decide +kernel⟩
theorem lX7_131 : CQ RX7 131 yX7_firstAt 2 := ⟨by decide +kernel, by decide +kernel, by decide +kernel, by decide +kernel, by decide, by decide, by decide +kernel⟩
theorem lX7_134 : CQ RX7 134 yX7_goesOn 1 := ⟨by decide +kernel, by decide +kernel, by decide +kernel, by decide +kernel, by decide, by decide, by decide +kernel⟩
theorem lX7_178 : CQ RX7 178 yX7_isTurn 0 := ⟨by decide +kernel, by decide +kernel, by decide +kernel, by decide +kernel, by decide, by decide, by decide +kernel⟩
theorem lX7_172 : CQ RX7 172 yX7_findReady 0 := ⟨by decide +kernel, by decide +kernel, by decide +kernel, by decide +kernel, by decide, by decide, by decide +kernel⟩
theorem lX7_169 : CQ RX7 169 yX7_wake 0 := ⟨by decide +kernel, by decide +kernel, by decide +kernel, by decide +kernel, by decide, by decide, by decide +kernel⟩
theorem lX7_147 : CQ RX7 147 yX7_except 2 := ⟨by decide +kernel, by decide +kernel, by decide +kernel, by decide +kernel, by decide, by decide, by decide +kernel⟩
theorem lX7_141 : CQ RX7 141 yX7_finish 2 := ⟨by decide +kernel, by decide +kernel, by decide +kernel, by decide +kernel, by decide, by decide, by decide +kernel⟩
theorem lX7_144 : CQ RX7 144 yX7_leaveQueue 1 := ⟨by decide +kernel, by decide +kernel, by decide +kernel, by decide +kernel, by decide, by decide, by decide +kernel⟩
theorem lX7_175 : CQ RX7 175 yX7_doAct 1 := ⟨by decide +kernel, by decide +kernel, by decide +kernel, by decide +kernel, by decide, by decide, by decide +kernel⟩
theorem lX7_153 : CQ RX7 153 yX7_waitAt 3 := ⟨by decide +kernel, by decide +kernel, by decide +kernel, by decide +kernel, by decide, by decide, by decide +kernel⟩
theorem lX7_150 : CQ RX7 150 yX7_popPending 1 := ⟨by decide +kernel, by decide +kernel, by decide +kernel, by decide +kernel, by decide, by decide, by decide +kernel⟩
theorem lX7_157 : CQ RX7 157 yX7_taken 1 := ⟨by decide +kernel, by decide +kernel, by decide +kernel, by decide +kernel, by decide, by decide, by decide +kernel⟩
theorem lX7_160 : CQ RX7 160 yX7_doOther 3 := ⟨by decide +kernel, by decide +kernel, by decide +kernel, by decide +kernel, by decide, by decide, by decide +kernel⟩
theorem lX7_166 : CQ RX7 166 yX7_throwTo 2 := ⟨by decide +kernel, by decide +kernel, by decide +kernel, by decide +kernel, by decide, by decide, by decide +kernel⟩
end
section
/-! Shorter rows: fields with the family's size, calls by arity and kind of answer -/
abbrev Cn (y : MethodName) (cc : ByteArray) (maxL d : Nat) (as : List tV) (h h2 : tH) : Prop := Ct y cc maxL none d as h (fun r h' => r = none ∧ h' = h2)
abbrev Ci (y : MethodName) (cc : ByteArray) (maxL : Nat) (ty : FieldType) (d : Nat) (as : List tV) (h : tH) (x : Int32) (h2 : tH) : Prop := Ct y cc maxL (some ty) d as h (fun r h' => r = some (.inl x) ∧ h' = h2)
abbrev Cr (y : MethodName) (cc : ByteArray) (maxL : Nat) (ty : FieldType) (d : Nat) (as : List tV) (h : tH) (x : Option (Nat × Nat)) (h2 : tH) : Prop := Ct y cc maxL (some ty) d as h (fun r h' => r = some (.inr x) ∧ h' = h2)
section VwWrap
variable {own : String} {cc : ByteArray} {nL : Nat} {ret : Option FieldType} {d : Nat} {Q : Option tV → tH → Prop} {pc : Nat} {lv : List (Option tV)} {st : List tV} {h : tH}
theorem v_gi {c i k idx w : Nat} {fin : Bool} {ty : FieldType} (hf : FQ own idx c k fin ty) (hdg : decode cc pc = .ok (.getfield idx, 3)) (hw : (lay c).2.2.2 = w) (hs : sk c k = none) (hi : i < w) (kk : Vw own cc nL ret d Q (pc + 3) lv (.inl (h.1 c i k) :: st) h) : Vw own cc nL ret d Q pc lv (.inr (some (c, i)) :: st) h := v_geti hf hdg (by rw [hw]; exact hi) hs kk
theorem v_gr {c i k idx w c2 m2 : Nat} {fin : Bool} {ty : FieldType} (i2 : Nat) (hf : FQ own idx c k fin ty) (hdg : decode cc pc = .ok (.getfield idx, 3)) (hw : (lay c).2.2.2 = w) (hs : sk c k = some (c2, m2)) (hi2 : rfi i m2 = i2) (hi : i < w) (kk : Vw own cc nL ret d Q (pc + 3) lv (.inr (some (c2, i2)) :: st) h) : Vw own cc nL ret d Q pc lv (.inr (some (c, i)) :: st) h := v_getr i2 hf hdg (by rw [hw]; exact hi) hs hi2 kk
theorem v_pi {c i k idx w : Nat} {x : Int32} (hf : FQ own idx c k false .int) (hdg : decode cc pc = .ok (.putfield idx, 3)) (hw : (lay c).2.2.2 = w) (hs : sk c k = none) (hi : i < w) (kk : Vw own cc nL ret d Q (pc + 3) lv st (put h c i k x)) : Vw own cc nL ret d Q pc lv (.inl x :: .inr (some (c, i)) :: st) h := v_puti hf hdg (by rw [hw]; exact hi) hs kk
theorem v_pz {c i k idx w : Nat} {x : Int32} (hf : FQ own idx c k false .boolean) (hdg : decode cc pc = .ok (.putfield idx, 3)) (hw : (lay c).2.2.2 = w) (hs : sk c k = none) (hi : i < w) (hx : x = 0 ∨ x = 1) (kk : Vw own cc nL ret d Q (pc + 3) lv st (put h c i k x)) : Vw own cc nL ret d Q pc lv (.inl x :: .inr (some (c, i)) :: st) h := v_putz hf hdg (by rw [hw]; exact hi) hs hx kk
theorem v_call0 {y : MethodName} {cc' : ByteArray} {maxL' d' n idx ci N w c0 i : Nat} {T : u_T} {ret' : Option FieldType} {Q' : Option tV → tH → Prop} (hq : CQ own idx y n) (hcd : Cond.code y cc' maxL' ret' ∈ lw_tbl) (hC : Ct y cc' maxL' ret' d' (.inr (some (c0, i)) :: []) h Q') (hdg : decode cc pc = .ok (.invokevirtual idx, 3)) (hl0 : lay c0 = (0, ci, N, w)) (hcl : vwCl[ci]? = some (y.cls, T, N)) (hi : i < w) (hn : ([] : List tV).length = n) (hd : d' < d) (hm : maxL' ≤ 8) (hst : st.length ≤ 8) (kk : ∀ r h', Q' r h' → Vw own cc nL ret d Q (pc + 3) lv (r.toList ++ st) h') : Vw own cc nL ret d Q pc lv (.inr (some (c0, i)) :: st) h := v_callV (as := []) hq hcd hC hdg hl0 hcl hi hn hd hm hst kk
theorem v_call0n {y : MethodName} {cc' : ByteArray} {maxL' d' n idx ci N w c0 i : Nat} {T : u_T} {h2 : tH} (hq : CQ own idx y n) (hcd : Cond.code y cc' maxL' none ∈ lw_tbl) (hC : Cn y cc' maxL' d' (.inr (some (c0, i)) :: []) h h2) (hdg : decode cc pc = .ok (.invokevirtual idx, 3)) (hl0 : lay c0 = (0, ci, N, w)) (hcl : vwCl[ci]? = some (y.cls, T, N)) (hi : i < w) (hn : ([] : List tV).length = n) (hd : d' < d) (hm : maxL' ≤ 8) (hst : st.length ≤ 8) (kk : Vw own cc nL ret d Q (pc + 3) lv st h2) : Vw own cc nL ret d Q pc lv (.inr (some (c0, i)) :: st) h := v_callV (as := []) hq hcd hC hdg hl0 hcl hi hn hd hm hst (fun r h' hq => by obtain ⟨rfl, rfl⟩ := hq; exact kk)
theorem v_call0i {y : MethodName} {cc' : ByteArray} {maxL' d' n idx ci N w c0 i : Nat} {T : u_T} {h2 : tH} {x : Int32} {ty : FieldType} (hq : CQ own idx y n) (hcd : Cond.code y cc' maxL' (some ty) ∈ lw_tbl) (hC : Ci y cc' maxL' ty d' (.inr (some (c0, i)) :: []) h x h2) (hdg : decode cc pc = .ok (.invokevirtual idx, 3)) (hl0 : lay c0 = (0, ci, N, w)) (hcl : vwCl[ci]? = some (y.cls, T, N)) (hi : i < w) (hn : ([] : List tV).length = n) (hd : d' < d) (hm : maxL' ≤ 8) (hst : st.length ≤ 8) (kk : Vw own cc nL ret d Q (pc + 3) lv (.inl x :: st) h2) : Vw own cc nL ret d Q pc lv (.inr (some (c0, i)) :: st) h := v_callV (as := []) hq hcd hC hdg hl0 hcl hi hn hd hm hst (fun r h' hq => by obtain ⟨rfl, rfl⟩ := hq; exact kk)
theorem v_call0r {y : MethodName} {cc' : ByteArray} {maxL' d' n idx ci N w c0 i : Nat} {T : u_T} {h2 : tH} {x : Option (Nat × Nat)} {ty : FieldType} (hq : CQ own idx y n) (hcd : Cond.code y cc' maxL' (some ty) ∈ lw_tbl) (hC : Cr y cc' maxL' ty d' (.inr (some (c0, i)) :: []) h x h2) (hdg : decode cc pc = .ok (.invokevirtual idx, 3)) (hl0 : lay c0 = (0, ci, N, w)) (hcl : vwCl[ci]? = some (y.cls, T, N)) (hi : i < w) (hn : ([] : List tV).length = n) (hd : d' < d) (hm : maxL' ≤ 8) (hst : st.length ≤ 8) (kk : Vw own cc nL ret d Q (pc + 3) lv (.inr x :: st) h2) : Vw own cc nL ret d Q pc lv (.inr (some (c0, i)) :: st) h := v_callV (as := []) hq hcd hC hdg hl0 hcl hi hn hd hm hst (fun r h' hq => by obtain ⟨rfl, rfl⟩ := hq; exact kk)
theorem v_call1 {y : MethodName} {cc' : ByteArray} {maxL' d' n idx ci N w c0 i : Nat} {T : u_T} {a0 : tV} {ret' : Option FieldType} {Q' : Option tV → tH → Prop} (hq : CQ own idx y n) (hcd : Cond.code y cc' maxL' ret' ∈ lw_tbl) (hC : Ct y cc' maxL' ret' d' (.inr (some (c0, i)) :: [a0]) h Q') (hdg : decode cc pc = .ok (.invokevirtual idx, 3)) (hl0 : lay c0 = (0, ci, N, w)) (hcl : vwCl[ci]? = some (y.cls, T, N)) (hi : i < w) (hn : ([a0] : List tV).length = n) (hd : d' < d) (hm : maxL' ≤ 8) (hst : st.length ≤ 8) (kk : ∀ r h', Q' r h' → Vw own cc nL ret d Q (pc + 3) lv (r.toList ++ st) h') : Vw own cc nL ret d Q pc lv (a0 :: .inr (some (c0, i)) :: st) h := v_callV (as := [a0]) hq hcd hC hdg hl0 hcl hi hn hd hm hst kk
theorem v_call1n {y : MethodName} {cc' : ByteArray} {maxL' d' n idx ci N w c0 i : Nat} {T : u_T} {a0 : tV} {h2 : tH} (hq : CQ own idx y n) (hcd : Cond.code y cc' maxL' none ∈ lw_tbl) (hC : Cn y cc' maxL' d' (.inr (some (c0, i)) :: [a0]) h h2) (hdg : decode cc pc = .ok (.invokevirtual idx, 3)) (hl0 : lay c0 = (0, ci, N, w)) (hcl : vwCl[ci]? = some (y.cls, T, N)) (hi : i < w) (hn : ([a0] : List tV).length = n) (hd : d' < d) (hm : maxL' ≤ 8) (hst : st.length ≤ 8) (kk : Vw own cc nL ret d Q (pc + 3) lv st h2) : Vw own cc nL ret d Q pc lv (a0 :: .inr (some (c0, i)) :: st) h := v_callV (as := [a0]) hq hcd hC hdg hl0 hcl hi hn hd hm hst (fun r h' hq => by obtain ⟨rfl, rfl⟩ := hq; exact kk)
theorem v_call1i {y : MethodName} {cc' : ByteArray} {maxL' d' n idx ci N w c0 i : Nat} {T : u_T} {a0 : tV} {h2 : tH} {x : Int32} {ty : FieldType} (hq : CQ own idx y n) (hcd : Cond.code y cc' maxL' (some ty) ∈ lw_tbl) (hC : Ci y cc' maxL' ty d' (.inr (some (c0, i)) :: [a0]) h x h2) (hdg : decode cc pc = .ok (.invokevirtual idx, 3)) (hl0 : lay c0 = (0, ci, N, w)) (hcl : vwCl[ci]? = some (y.cls, T, N)) (hi : i < w) (hn : ([a0] : List tV).length = n) (hd : d' < d) (hm : maxL' ≤ 8) (hst : st.length ≤ 8) (kk : Vw own cc nL ret d Q (pc + 3) lv (.inl x :: st) h2) : Vw own cc nL ret d Q pc lv (a0 :: .inr (some (c0, i)) :: st) h := v_callV (as := [a0]) hq hcd hC hdg hl0 hcl hi hn hd hm hst (fun r h' hq => by obtain ⟨rfl, rfl⟩ := hq; exact kk)
theorem v_call1r {y : MethodName} {cc' : ByteArray} {maxL' d' n idx ci N w c0 i : Nat} {T : u_T} {a0 : tV} {h2 : tH} {x : Option (Nat × Nat)} {ty : FieldType} (hq : CQ own idx y n) (hcd : Cond.code y cc' maxL' (some ty) ∈ lw_tbl) (hC : Cr y cc' maxL' ty d' (.inr (some (c0, i)) :: [a0]) h x h2) (hdg : decode cc pc = .ok (.invokevirtual idx, 3)) (hl0 : lay c0 = (0, ci, N, w)) (hcl : vwCl[ci]? = some (y.cls, T, N)) (hi : i < w) (hn : ([a0] : List tV).length = n) (hd : d' < d) (hm : maxL' ≤ 8) (hst : st.length ≤ 8) (kk : Vw own cc nL ret d Q (pc + 3) lv (.inr x :: st) h2) : Vw own cc nL ret d Q pc lv (a0 :: .inr (some (c0, i)) :: st) h := v_callV (as := [a0]) hq hcd hC hdg hl0 hcl hi hn hd hm hst (fun r h' hq => by obtain ⟨rfl, rfl⟩ := hq; exact kk)
theorem v_calls1i {y : MethodName} {cc' : ByteArray} {maxL' d' n idx : Nat} {a0 : tV} {h2 : tH} {x : Int32} {ty : FieldType} (hq : SQ own idx y n) (hcd : Cond.code y cc' maxL' (some ty) ∈ lw_tbl) (hC : Ci y cc' maxL' ty d' [a0] h x h2) (hdg : decode cc pc = .ok (.invokestatic idx, 3)) (hn : ([a0] : List tV).length = n) (hd : d' < d) (hm : maxL' ≤ 8) (hst : st.length ≤ 8) (kk : Vw own cc nL ret d Q (pc + 3) lv (.inl x :: st) h2) : Vw own cc nL ret d Q pc lv (a0 :: st) h := v_callS (as := [a0]) hq hcd hC hdg hn hd hm hst (fun r h' hq => by obtain ⟨rfl, rfl⟩ := hq; exact kk)
theorem v_call2 {y : MethodName} {cc' : ByteArray} {maxL' d' n idx ci N w c0 i : Nat} {T : u_T} {a0 a1 : tV} {ret' : Option FieldType} {Q' : Option tV → tH → Prop} (hq : CQ own idx y n) (hcd : Cond.code y cc' maxL' ret' ∈ lw_tbl) (hC : Ct y cc' maxL' ret' d' (.inr (some (c0, i)) :: [a0, a1]) h Q') (hdg : decode cc pc = .ok (.invokevirtual idx, 3)) (hl0 : lay c0 = (0, ci, N, w)) (hcl : vwCl[ci]? = some (y.cls, T, N)) (hi : i < w) (hn : ([a0, a1] : List tV).length = n) (hd : d' < d) (hm : maxL' ≤ 8) (hst : st.length ≤ 8) (kk : ∀ r h', Q' r h' → Vw own cc nL ret d Q (pc + 3) lv (r.toList ++ st) h') : Vw own cc nL ret d Q pc lv (a1 :: a0 :: .inr (some (c0, i)) :: st) h := v_callV (as := [a0, a1]) hq hcd hC hdg hl0 hcl hi hn hd hm hst kk
theorem v_call2n {y : MethodName} {cc' : ByteArray} {maxL' d' n idx ci N w c0 i : Nat} {T : u_T} {a0 a1 : tV} {h2 : tH} (hq : CQ own idx y n) (hcd : Cond.code y cc' maxL' none ∈ lw_tbl) (hC : Cn y cc' maxL' d' (.inr (some (c0, i)) :: [a0, a1]) h h2) (hdg : decode cc pc = .ok (.invokevirtual idx, 3)) (hl0 : lay c0 = (0, ci, N, w)) (hcl : vwCl[ci]? = some (y.cls, T, N)) (hi : i < w) (hn : ([a0, a1] : List tV).length = n) (hd : d' < d) (hm : maxL' ≤ 8) (hst : st.length ≤ 8) (kk : Vw own cc nL ret d Q (pc + 3) lv st h2) : Vw own cc nL ret d Q pc lv (a1 :: a0 :: .inr (some (c0, i)) :: st) h := v_callV (as := [a0, a1]) hq hcd hC hdg hl0 hcl hi hn hd hm hst (fun r h' hq => by obtain ⟨rfl, rfl⟩ := hq; exact kk)
theorem v_call2i {y : MethodName} {cc' : ByteArray} {maxL' d' n idx ci N w c0 i : Nat} {T : u_T} {a0 a1 : tV} {h2 : tH} {x : Int32} {ty : FieldType} (hq : CQ own idx y n) (hcd : Cond.code y cc' maxL' (some ty) ∈ lw_tbl) (hC : Ci y cc' maxL' ty d' (.inr (some (c0, i)) :: [a0, a1]) h x h2) (hdg : decode cc pc = .ok (.invokevirtual idx, 3)) (hl0 : lay c0 = (0, ci, N, w)) (hcl : vwCl[ci]? = some (y.cls, T, N)) (hi : i < w) (hn : ([a0, a1] : List tV).length = n) (hd : d' < d) (hm : maxL' ≤ 8) (hst : st.length ≤ 8) (kk : Vw own cc nL ret d Q (pc + 3) lv (.inl x :: st) h2) : Vw own cc nL ret d Q pc lv (a1 :: a0 :: .inr (some (c0, i)) :: st) h := v_callV (as := [a0, a1]) hq hcd hC hdg hl0 hcl hi hn hd hm hst (fun r h' hq => by obtain ⟨rfl, rfl⟩ := hq; exact kk)
theorem v_call2r {y : MethodName} {cc' : ByteArray} {maxL' d' n idx ci N w c0 i : Nat} {T : u_T} {a0 a1 : tV} {h2 : tH} {x : Option (Nat × Nat)} {ty : FieldType} (hq : CQ own idx y n) (hcd : Cond.code y cc' maxL' (some ty) ∈ lw_tbl) (hC : Cr y cc' maxL' ty d' (.inr (some (c0, i)) :: [a0, a1]) h x h2) (hdg : decode cc pc = .ok (.invokevirtual idx, 3)) (hl0 : lay c0 = (0, ci, N, w)) (hcl : vwCl[ci]? = some (y.cls, T, N)) (hi : i < w) (hn : ([a0, a1] : List tV).length = n) (hd : d' < d) (hm : maxL' ≤ 8) (hst : st.length ≤ 8) (kk : Vw own cc nL ret d Q (pc + 3) lv (.inr x :: st) h2) : Vw own cc nL ret d Q pc lv (a1 :: a0 :: .inr (some (c0, i)) :: st) h := v_callV (as := [a0, a1]) hq hcd hC hdg hl0 hcl hi hn hd hm hst (fun r h' hq => by obtain ⟨rfl, rfl⟩ := hq; exact kk)
theorem v_calls2i {y : MethodName} {cc' : ByteArray} {maxL' d' n idx : Nat} {a0 a1 : tV} {h2 : tH} {x : Int32} {ty : FieldType} (hq : SQ own idx y n) (hcd : Cond.code y cc' maxL' (some ty) ∈ lw_tbl) (hC : Ci y cc' maxL' ty d' [a0, a1] h x h2) (hdg : decode cc pc = .ok (.invokestatic idx, 3)) (hn : ([a0, a1] : List tV).length = n) (hd : d' < d) (hm : maxL' ≤ 8) (hst : st.length ≤ 8) (kk : Vw own cc nL ret d Q (pc + 3) lv (.inl x :: st) h2) : Vw own cc nL ret d Q pc lv (a1 :: a0 :: st) h := v_callS (as := [a0, a1]) hq hcd hC hdg hn hd hm hst (fun r h' hq => by obtain ⟨rfl, rfl⟩ := hq; exact kk)
theorem v_call3 {y : MethodName} {cc' : ByteArray} {maxL' d' n idx ci N w c0 i : Nat} {T : u_T} {a0 a1 a2 : tV} {ret' : Option FieldType} {Q' : Option tV → tH → Prop} (hq : CQ own idx y n) (hcd : Cond.code y cc' maxL' ret' ∈ lw_tbl) (hC : Ct y cc' maxL' ret' d' (.inr (some (c0, i)) :: [a0, a1, a2]) h Q') (hdg : decode cc pc = .ok (.invokevirtual idx, 3)) (hl0 : lay c0 = (0, ci, N, w)) (hcl : vwCl[ci]? = some (y.cls, T, N)) (hi : i < w) (hn : ([a0, a1, a2] : List tV).length = n) (hd : d' < d) (hm : maxL' ≤ 8) (hst : st.length ≤ 8) (kk : ∀ r h', Q' r h' → Vw own cc nL ret d Q (pc + 3) lv (r.toList ++ st) h') : Vw own cc nL ret d Q pc lv (a2 :: a1 :: a0 :: .inr (some (c0, i)) :: st) h := v_callV (as := [a0, a1, a2]) hq hcd hC hdg hl0 hcl hi hn hd hm hst kk
theorem v_call3n {y : MethodName} {cc' : ByteArray} {maxL' d' n idx ci N w c0 i : Nat} {T : u_T} {a0 a1 a2 : tV} {h2 : tH} (hq : CQ own idx y n) (hcd : Cond.code y cc' maxL' none ∈ lw_tbl) (hC : Cn y cc' maxL' d' (.inr (some (c0, i)) :: [a0, a1, a2]) h h2) (hdg : decode cc pc = .ok (.invokevirtual idx, 3)) (hl0 : lay c0 = (0, ci, N, w)) (hcl : vwCl[ci]? = some (y.cls, T, N)) (hi : i < w) (hn : ([a0, a1, a2] : List tV).length = n) (hd : d' < d) (hm : maxL' ≤ 8) (hst : st.length ≤ 8) (kk : Vw own cc nL ret d Q (pc + 3) lv st h2) : Vw own cc nL ret d Q pc lv (a2 :: a1 :: a0 :: .inr (some (c0, i)) :: st) h := v_callV (as := [a0, a1, a2]) hq hcd hC hdg hl0 hcl hi hn hd hm hst (fun r h' hq => by obtain ⟨rfl, rfl⟩ := hq; exact kk)
theorem v_call3i {y : MethodName} {cc' : ByteArray} {maxL' d' n idx ci N w c0 i : Nat} {T : u_T} {a0 a1 a2 : tV} {h2 : tH} {x : Int32} {ty : FieldType} (hq : CQ own idx y n) (hcd : Cond.code y cc' maxL' (some ty) ∈ lw_tbl) (hC : Ci y cc' maxL' ty d' (.inr (some (c0, i)) :: [a0, a1, a2]) h x h2) (hdg : decode cc pc = .ok (.invokevirtual idx, 3)) (hl0 : lay c0 = (0, ci, N, w)) (hcl : vwCl[ci]? = some (y.cls, T, N)) (hi : i < w) (hn : ([a0, a1, a2] : List tV).length = n) (hd : d' < d) (hm : maxL' ≤ 8) (hst : st.length ≤ 8) (kk : Vw own cc nL ret d Q (pc + 3) lv (.inl x :: st) h2) : Vw own cc nL ret d Q pc lv (a2 :: a1 :: a0 :: .inr (some (c0, i)) :: st) h := v_callV (as := [a0, a1, a2]) hq hcd hC hdg hl0 hcl hi hn hd hm hst (fun r h' hq => by obtain ⟨rfl, rfl⟩ := hq; exact kk)
theorem v_call3r {y : MethodName} {cc' : ByteArray} {maxL' d' n idx ci N w c0 i : Nat} {T : u_T} {a0 a1 a2 : tV} {h2 : tH} {x : Option (Nat × Nat)} {ty : FieldType} (hq : CQ own idx y n) (hcd : Cond.code y cc' maxL' (some ty) ∈ lw_tbl) (hC : Cr y cc' maxL' ty d' (.inr (some (c0, i)) :: [a0, a1, a2]) h x h2) (hdg : decode cc pc = .ok (.invokevirtual idx, 3)) (hl0 : lay c0 = (0, ci, N, w)) (hcl : vwCl[ci]? = some (y.cls, T, N)) (hi : i < w) (hn : ([a0, a1, a2] : List tV).length = n) (hd : d' < d) (hm : maxL' ≤ 8) (hst : st.length ≤ 8) (kk : Vw own cc nL ret d Q (pc + 3) lv (.inr x :: st) h2) : Vw own cc nL ret d Q pc lv (a2 :: a1 :: a0 :: .inr (some (c0, i)) :: st) h := v_callV (as := [a0, a1, a2]) hq hcd hC hdg hl0 hcl hi hn hd hm hst (fun r h' hq => by obtain ⟨rfl, rfl⟩ := hq; exact kk)
theorem v_calls3i {y : MethodName} {cc' : ByteArray} {maxL' d' n idx : Nat} {a0 a1 a2 : tV} {h2 : tH} {x : Int32} {ty : FieldType} (hq : SQ own idx y n) (hcd : Cond.code y cc' maxL' (some ty) ∈ lw_tbl) (hC : Ci y cc' maxL' ty d' [a0, a1, a2] h x h2) (hdg : decode cc pc = .ok (.invokestatic idx, 3)) (hn : ([a0, a1, a2] : List tV).length = n) (hd : d' < d) (hm : maxL' ≤ 8) (hst : st.length ≤ 8) (kk : Vw own cc nL ret d Q (pc + 3) lv (.inl x :: st) h2) : Vw own cc nL ret d Q pc lv (a2 :: a1 :: a0 :: st) h := v_callS (as := [a0, a1, a2]) hq hcd hC hdg hn hd hm hst (fun r h' hq => by obtain ⟨rfl, rfl⟩ := hq; exact kk)
end VwWrap
theorem st8 {st : List tV} (hs : Nat.ble st.length 8 = true) : st.length ≤ 8 := Nat.le_of_ble_eq_true hs
end
section
/-! The heap in two halves: the class's families (below 20) and the reference's (from 20 on); each method writes its own half. -/
def mix (a b : tH) : tH := (fun c => if c < 20 then a.1 c else b.1 c, a.2)
theorem mix_lt {a b : tH} {c : Nat} (hc : c < 20) : (mix a b).1 c = a.1 c := if_pos hc
theorem mix_ge {a b : tH} {c : Nat} (hc : 20 ≤ c) : (mix a b).1 c = b.1 c := if_neg (Nat.not_lt.mpr hc)
theorem put_mixL {a b : tH} {c i k : Nat} {x : Int32} (hc : c < 20) : put (mix a b) c i k x = mix (put a c i k x) b := by
  refine Prod.ext (funext fun c' => funext fun i' => funext fun k' => ?_) rfl
  show (if c' = c ∧ i' = i ∧ k' = k then x else (if c' < 20 then a.1 c' else b.1 c') i' k') = (if c' < 20 then (put a c i k x).1 c' else b.1 c') i' k'
  by_cases h : c' < 20
  · simp only [h, if_true]; rfl
  · have : ¬ c' = c := fun e => h (by omega)
    simp only [h, this, if_false, false_and]
theorem put_mixR {a b : tH} {c i k : Nat} {x : Int32} (hc : 20 ≤ c) : put (mix a b) c i k x = mix a (put b c i k x) := by
  refine Prod.ext (funext fun c' => funext fun i' => funext fun k' => ?_) rfl
  show (if c' = c ∧ i' = i ∧ k' = k then x else (if c' < 20 then a.1 c' else b.1 c') i' k') = (if c' < 20 then a.1 c' else (put b c i k x).1 c') i' k'
  by_cases h : c' < 20
  · have : ¬ c' = c := fun e => absurd h (by omega)
    simp only [h, this, if_true, if_false, false_and]
  · simp only [h, if_false]; rfl
theorem putq_mix {a b : tH} {k : Nat} {r : Option Nat} : putq (mix a b) k r = mix (putq a k r) b := rfl
section VwMix
variable {own : String} {cc : ByteArray} {nL : Nat} {ret : Option FieldType} {d : Nat} {Q : Option tV → tH → Prop} {pc : Nat} {lv : List (Option tV)} {st : List tV} {a b : tH}
theorem x_gi {c i k idx w : Nat} {fin : Bool} {ty : FieldType} (hc : c < 20) (hf : FQ own idx c k fin ty) (hdg : decode cc pc = .ok (.getfield idx, 3)) (hw : (lay c).2.2.2 = w) (hs : sk c k = none) (hi : i < w) (kk : Vw own cc nL ret d Q (pc + 3) lv (.inl (a.1 c i k) :: st) (mix a b)) : Vw own cc nL ret d Q pc lv (.inr (some (c, i)) :: st) (mix a b) := v_gi hf hdg hw hs hi (by rw [mix_lt hc]; exact kk)
theorem x_gk {c i k idx w : Nat} {fin : Bool} {ty : FieldType} {x : Int32} (hv : a.1 c i k = x) (hc : c < 20) (hf : FQ own idx c k fin ty) (hdg : decode cc pc = .ok (.getfield idx, 3)) (hw : (lay c).2.2.2 = w) (hs : sk c k = none) (hi : i < w) (kk : Vw own cc nL ret d Q (pc + 3) lv (.inl x :: st) (mix a b)) : Vw own cc nL ret d Q pc lv (.inr (some (c, i)) :: st) (mix a b) := x_gi hc hf hdg hw hs hi (by rw [hv]; exact kk)
theorem x_pi {c i k idx w : Nat} {x : Int32} (hc : c < 20) (hf : FQ own idx c k false .int) (hdg : decode cc pc = .ok (.putfield idx, 3)) (hw : (lay c).2.2.2 = w) (hs : sk c k = none) (hi : i < w) (kk : Vw own cc nL ret d Q (pc + 3) lv st (mix (put a c i k x) b)) : Vw own cc nL ret d Q pc lv (.inl x :: .inr (some (c, i)) :: st) (mix a b) := v_pi hf hdg hw hs hi (by rw [put_mixL hc]; exact kk)
theorem x_pz {c i k idx w : Nat} {x : Int32} (hc : c < 20) (hf : FQ own idx c k false .boolean) (hdg : decode cc pc = .ok (.putfield idx, 3)) (hw : (lay c).2.2.2 = w) (hs : sk c k = none) (hi : i < w) (hx : x = 0 ∨ x = 1) (kk : Vw own cc nL ret d Q (pc + 3) lv st (mix (put a c i k x) b)) : Vw own cc nL ret d Q pc lv (.inl x :: .inr (some (c, i)) :: st) (mix a b) := v_pz hf hdg hw hs hi hx (by rw [put_mixL hc]; exact kk)
theorem x_iald {c i n e w : Nat} {j : Int32} (k : Nat) (hc : c < 20) (hl0 : lay c = (1, n, e, w)) (hdg : decode cc pc = .ok (.iaload, 1)) (hi : i < w) (hj : j = nI k) (hk : k < n) (kk : Vw own cc nL ret d Q (pc + 1) lv (.inl (a.1 c i k) :: st) (mix a b)) : Vw own cc nL ret d Q pc lv (.inl j :: .inr (some (c, i)) :: st) (mix a b) := v_iald k hl0 hdg hi hj hk (by rw [mix_lt hc]; exact kk)
theorem x_ialk {c i n e w : Nat} {j x : Int32} (k : Nat) (hv : a.1 c i k = x) (hc : c < 20) (hl0 : lay c = (1, n, e, w)) (hdg : decode cc pc = .ok (.iaload, 1)) (hi : i < w) (hj : j = nI k) (hk : k < n) (kk : Vw own cc nL ret d Q (pc + 1) lv (.inl x :: st) (mix a b)) : Vw own cc nL ret d Q pc lv (.inl j :: .inr (some (c, i)) :: st) (mix a b) := x_iald k hc hl0 hdg hi hj hk (by rw [hv]; exact kk)
theorem x_zald {c i n e w : Nat} {j : Int32} (k : Nat) (hc : c < 20) (hl0 : lay c = (2, n, e, w)) (hdg : decode cc pc = .ok (.baload, 1)) (hi : i < w) (hj : j = nI k) (hk : k < n) (kk : Vw own cc nL ret d Q (pc + 1) lv (.inl (a.1 c i k) :: st) (mix a b)) : Vw own cc nL ret d Q pc lv (.inl j :: .inr (some (c, i)) :: st) (mix a b) := v_zald k hl0 hdg hi hj hk (by rw [mix_lt hc]; exact kk)
theorem x_zalk {c i n e w : Nat} {j x : Int32} (k : Nat) (hv : a.1 c i k = x) (hc : c < 20) (hl0 : lay c = (2, n, e, w)) (hdg : decode cc pc = .ok (.baload, 1)) (hi : i < w) (hj : j = nI k) (hk : k < n) (kk : Vw own cc nL ret d Q (pc + 1) lv (.inl x :: st) (mix a b)) : Vw own cc nL ret d Q pc lv (.inl j :: .inr (some (c, i)) :: st) (mix a b) := x_zald k hc hl0 hdg hi hj hk (by rw [hv]; exact kk)
theorem x_iast {c i n e w : Nat} {j x : Int32} (k : Nat) (hc : c < 20) (hl0 : lay c = (1, n, e, w)) (hdg : decode cc pc = .ok (.iastore, 1)) (hi : i < w) (hj : j = nI k) (hk : k < n) (kk : Vw own cc nL ret d Q (pc + 1) lv st (mix (put a c i k x) b)) : Vw own cc nL ret d Q pc lv (.inl x :: .inl j :: .inr (some (c, i)) :: st) (mix a b) := v_iast k hl0 hdg hi hj hk (by rw [put_mixL hc]; exact kk)
theorem x_zast {c i n e w : Nat} {j x : Int32} (k : Nat) (hc : c < 20) (hl0 : lay c = (2, n, e, w)) (hdg : decode cc pc = .ok (.bastore, 1)) (hi : i < w) (hj : j = nI k) (hk : k < n) (hx : x = 0 ∨ x = 1) (kk : Vw own cc nL ret d Q (pc + 1) lv st (mix (put a c i k x) b)) : Vw own cc nL ret d Q pc lv (.inl x :: .inl j :: .inr (some (c, i)) :: st) (mix a b) := v_zast k hl0 hdg hi hj hk hx (by rw [put_mixL hc]; exact kk)
theorem m_gi {c i k idx w : Nat} {fin : Bool} {ty : FieldType} (hc : 20 ≤ c) (hf : FQ own idx c k fin ty) (hdg : decode cc pc = .ok (.getfield idx, 3)) (hw : (lay c).2.2.2 = w) (hs : sk c k = none) (hi : i < w) (kk : Vw own cc nL ret d Q (pc + 3) lv (.inl (b.1 c i k) :: st) (mix a b)) : Vw own cc nL ret d Q pc lv (.inr (some (c, i)) :: st) (mix a b) := v_gi hf hdg hw hs hi (by rw [mix_ge hc]; exact kk)
theorem m_gk {c i k idx w : Nat} {fin : Bool} {ty : FieldType} {x : Int32} (hv : b.1 c i k = x) (hc : 20 ≤ c) (hf : FQ own idx c k fin ty) (hdg : decode cc pc = .ok (.getfield idx, 3)) (hw : (lay c).2.2.2 = w) (hs : sk c k = none) (hi : i < w) (kk : Vw own cc nL ret d Q (pc + 3) lv (.inl x :: st) (mix a b)) : Vw own cc nL ret d Q pc lv (.inr (some (c, i)) :: st) (mix a b) := m_gi hc hf hdg hw hs hi (by rw [hv]; exact kk)
theorem m_pi {c i k idx w : Nat} {x : Int32} (hc : 20 ≤ c) (hf : FQ own idx c k false .int) (hdg : decode cc pc = .ok (.putfield idx, 3)) (hw : (lay c).2.2.2 = w) (hs : sk c k = none) (hi : i < w) (kk : Vw own cc nL ret d Q (pc + 3) lv st (mix a (put b c i k x))) : Vw own cc nL ret d Q pc lv (.inl x :: .inr (some (c, i)) :: st) (mix a b) := v_pi hf hdg hw hs hi (by rw [put_mixR hc]; exact kk)
theorem m_pz {c i k idx w : Nat} {x : Int32} (hc : 20 ≤ c) (hf : FQ own idx c k false .boolean) (hdg : decode cc pc = .ok (.putfield idx, 3)) (hw : (lay c).2.2.2 = w) (hs : sk c k = none) (hi : i < w) (hx : x = 0 ∨ x = 1) (kk : Vw own cc nL ret d Q (pc + 3) lv st (mix a (put b c i k x))) : Vw own cc nL ret d Q pc lv (.inl x :: .inr (some (c, i)) :: st) (mix a b) := v_pz hf hdg hw hs hi hx (by rw [put_mixR hc]; exact kk)
theorem m_iald {c i n e w : Nat} {j : Int32} (k : Nat) (hc : 20 ≤ c) (hl0 : lay c = (1, n, e, w)) (hdg : decode cc pc = .ok (.iaload, 1)) (hi : i < w) (hj : j = nI k) (hk : k < n) (kk : Vw own cc nL ret d Q (pc + 1) lv (.inl (b.1 c i k) :: st) (mix a b)) : Vw own cc nL ret d Q pc lv (.inl j :: .inr (some (c, i)) :: st) (mix a b) := v_iald k hl0 hdg hi hj hk (by rw [mix_ge hc]; exact kk)
theorem m_ialk {c i n e w : Nat} {j x : Int32} (k : Nat) (hv : b.1 c i k = x) (hc : 20 ≤ c) (hl0 : lay c = (1, n, e, w)) (hdg : decode cc pc = .ok (.iaload, 1)) (hi : i < w) (hj : j = nI k) (hk : k < n) (kk : Vw own cc nL ret d Q (pc + 1) lv (.inl x :: st) (mix a b)) : Vw own cc nL ret d Q pc lv (.inl j :: .inr (some (c, i)) :: st) (mix a b) := m_iald k hc hl0 hdg hi hj hk (by rw [hv]; exact kk)
theorem m_zald {c i n e w : Nat} {j : Int32} (k : Nat) (hc : 20 ≤ c) (hl0 : lay c = (2, n, e, w)) (hdg : decode cc pc = .ok (.baload, 1)) (hi : i < w) (hj : j = nI k) (hk : k < n) (kk : Vw own cc nL ret d Q (pc + 1) lv (.inl (b.1 c i k) :: st) (mix a b)) : Vw own cc nL ret d Q pc lv (.inl j :: .inr (some (c, i)) :: st) (mix a b) := v_zald k hl0 hdg hi hj hk (by rw [mix_ge hc]; exact kk)
theorem m_zalk {c i n e w : Nat} {j x : Int32} (k : Nat) (hv : b.1 c i k = x) (hc : 20 ≤ c) (hl0 : lay c = (2, n, e, w)) (hdg : decode cc pc = .ok (.baload, 1)) (hi : i < w) (hj : j = nI k) (hk : k < n) (kk : Vw own cc nL ret d Q (pc + 1) lv (.inl x :: st) (mix a b)) : Vw own cc nL ret d Q pc lv (.inl j :: .inr (some (c, i)) :: st) (mix a b) := m_zald k hc hl0 hdg hi hj hk (by rw [hv]; exact kk)
theorem m_iast {c i n e w : Nat} {j x : Int32} (k : Nat) (hc : 20 ≤ c) (hl0 : lay c = (1, n, e, w)) (hdg : decode cc pc = .ok (.iastore, 1)) (hi : i < w) (hj : j = nI k) (hk : k < n) (kk : Vw own cc nL ret d Q (pc + 1) lv st (mix a (put b c i k x))) : Vw own cc nL ret d Q pc lv (.inl x :: .inl j :: .inr (some (c, i)) :: st) (mix a b) := v_iast k hl0 hdg hi hj hk (by rw [put_mixR hc]; exact kk)
theorem m_zast {c i n e w : Nat} {j x : Int32} (k : Nat) (hc : 20 ≤ c) (hl0 : lay c = (2, n, e, w)) (hdg : decode cc pc = .ok (.bastore, 1)) (hi : i < w) (hj : j = nI k) (hk : k < n) (hx : x = 0 ∨ x = 1) (kk : Vw own cc nL ret d Q (pc + 1) lv st (mix a (put b c i k x))) : Vw own cc nL ret d Q pc lv (.inl x :: .inl j :: .inr (some (c, i)) :: st) (mix a b) := v_zast k hl0 hdg hi hj hk hx (by rw [put_mixR hc]; exact kk)
theorem x_aaldQ {j : Int32} (k : Nat) (hdg : decode cc pc = .ok (.aaload, 1)) (hj : j = nI k) (hk : k < 24) (kk : Vw own cc nL ret d Q (pc + 1) lv (.inr ((a.2 k).map (fun t => (7, t))) :: st) (mix a b)) : Vw own cc nL ret d Q pc lv (.inl j :: .inr (some (11, 0)) :: st) (mix a b) := v_aaldQ k hdg hj hk kk
theorem x_aastQ {j : Int32} {r : Option Nat} (k : Nat) (hdg : decode cc pc = .ok (.aastore, 1)) (hj : j = nI k) (hk : k < 24) (hr : ∀ t, r = some t → t < 24) (kk : Vw own cc nL ret d Q (pc + 1) lv st (mix (putq a k r) b)) : Vw own cc nL ret d Q pc lv (.inr (r.map (fun t => (7, t))) :: .inl j :: .inr (some (11, 0)) :: st) (mix a b) := v_aastQ k hdg hj hk hr kk
end VwMix
end
section
/-! Leaves of the class: contracts as the code says it -/
theorem put_rd (h : tH) (c i k : Nat) (x : Int32) (c' i' k' : Nat) : (put h c i k x).1 c' i' k' = if c' = c ∧ i' = i ∧ k' = k then x else h.1 c' i' k' := rfl
theorem put_eq {h : tH} {c i k : Nat} {x : Int32} : (put h c i k x).1 c i k = x := by rw [put_rd, if_pos ⟨rfl, rfl, rfl⟩]
theorem put_ne {h : tH} {c i k c' i' k' : Nat} {x : Int32} (hn : ¬ (c' = c ∧ i' = i ∧ k' = k)) : (put h c i k x).1 c' i' k' = h.1 c' i' k' := by rw [put_rd, if_neg hn]
theorem nlt_of {x : Int32} {n M : Nat} (hx : x = nI n) (hn : n < 2 ^ 31) (hM : M < 2 ^ 31) (h : ¬ nI M ≤ x) : n < M := by
  rcases Nat.lt_or_ge n M with q | q
  · exact q
  · exact absurd (by rw [hx]; exact nI_le q hn) h
theorem nle_of {x : Int32} {n M : Nat} (hx : x = nI n) (hn : n < 2 ^ 31) (hM : M < 2 ^ 31) (h : nI M ≤ x) : M ≤ n := by
  rcases Nat.lt_or_ge n M with q | q
  · exact absurd (by rw [hx] at h; exact h) (nI_ge q hM)
  · exact q
theorem i01 {p : Prop} [Decidable p] : ((if p then (0 : Int32) else 1) = 0) = p := by
  by_cases hp : p
  · simp only [hp, if_true]
  · simp only [hp, if_false]; exact propext ⟨fun h => absurd h (by decide), fun h => h.elim⟩
theorem i001 {p q : Prop} [Decidable p] [Decidable q] : ((if p then (0 : Int32) else if q then 0 else 1) = 0) = (p ∨ q) := by
  by_cases hp : p
  · simp only [hp, if_true, true_or]
  · simp only [hp, if_false, false_or]; exact i01
theorem i10 {p : Prop} [Decidable p] : ((if p then (1 : Int32) else 0) = 0) = ¬ p := by
  by_cases hp : p
  · simp only [hp, if_true, not_true]; exact propext ⟨fun h => absurd h (by decide), fun h => h.elim⟩
  · simp only [hp, if_false, not_false_iff]
theorem n10 : ¬ (1 : Int32) = 0 := by decide

set_option maxHeartbeats 4000000 in
set_option maxRecDepth 100000 in
theorem c_X1_waits {a b : tH} {t : Nat} (ht : t < 24) : Ci yX1_waits cX1_waits 1 .boolean 0 [.inr (some (7, t))] (mix a b) (if a.1 7 t 3 < 1 then 0 else if 3 < a.1 7 t 3 then 0 else 1) (mix (a) b) := by
  refine Ct.of (by decide) [_] rfl (Nat.le_of_ble_eq_true rfl) ?_
  refine v_aload_n dX1_waits_0 rfl ?_
  refine x_gi (by decide) fX1_18 dX1_waits_1 rfl rfl ht ?_
  refine v_iconst 1 dX1_waits_4 (by decide) ?_
  refine v_icmp_lt 20 dX1_waits_5 (by decide) (fun h_5 => ?_) (fun h_5 => ?_)
  · refine v_iconst 0 dX1_waits_20 (by decide) ?_
    exact v_zret dX1_waits_21 (by decide) ⟨by simp only [h_5, if_true, if_false], rfl⟩
  · refine v_aload_n dX1_waits_8 rfl ?_
    refine x_gi (by decide) fX1_18 dX1_waits_9 rfl rfl ht ?_
    refine v_iconst 3 dX1_waits_12 (by decide) ?_
    refine v_icmp_gt 20 dX1_waits_13 (by decide) (fun h_13 => ?_) (fun h_13 => ?_)
    · refine v_iconst 0 dX1_waits_20 (by decide) ?_
      exact v_zret dX1_waits_21 (by decide) ⟨by simp only [h_5, h_13, if_true, if_false], rfl⟩
    · refine v_iconst 1 dX1_waits_16 (by decide) ?_
      refine v_goto 21 dX1_waits_17 (by decide) ?_
      exact v_zret dX1_waits_21 (by decide) ⟨by simp only [h_5, h_13, if_true, if_false], rfl⟩
set_option maxHeartbeats 4000000 in
set_option maxRecDepth 100000 in
theorem c_X1_isAway {a b : tH} {t : Nat} (ht : t < 24) : Ci yX1_isAway cX1_isAway 1 .boolean 0 [.inr (some (7, t))] (mix a b) (if a.1 7 t 3 < 1 then 0 else if 4 < a.1 7 t 3 then 0 else 1) (mix (a) b) := by
  refine Ct.of (by decide) [_] rfl (Nat.le_of_ble_eq_true rfl) ?_
  refine v_aload_n dX1_isAway_0 rfl ?_
  refine x_gi (by decide) fX1_18 dX1_isAway_1 rfl rfl ht ?_
  refine v_iconst 1 dX1_isAway_4 (by decide) ?_
  refine v_icmp_lt 20 dX1_isAway_5 (by decide) (fun h_5 => ?_) (fun h_5 => ?_)
  · refine v_iconst 0 dX1_isAway_20 (by decide) ?_
    exact v_zret dX1_isAway_21 (by decide) ⟨by simp only [h_5, if_true, if_false], rfl⟩
  · refine v_aload_n dX1_isAway_8 rfl ?_
    refine x_gi (by decide) fX1_18 dX1_isAway_9 rfl rfl ht ?_
    refine v_iconst 4 dX1_isAway_12 (by decide) ?_
    refine v_icmp_gt 20 dX1_isAway_13 (by decide) (fun h_13 => ?_) (fun h_13 => ?_)
    · refine v_iconst 0 dX1_isAway_20 (by decide) ?_
      exact v_zret dX1_isAway_21 (by decide) ⟨by simp only [h_5, h_13, if_true, if_false], rfl⟩
    · refine v_iconst 1 dX1_isAway_16 (by decide) ?_
      refine v_goto 21 dX1_isAway_17 (by decide) ?_
      exact v_zret dX1_isAway_21 (by decide) ⟨by simp only [h_5, h_13, if_true, if_false], rfl⟩
set_option maxHeartbeats 4000000 in
set_option maxRecDepth 100000 in
theorem c_X1_isDone {a b : tH} {t : Nat} (ht : t < 24) : Ci yX1_isDone cX1_isDone 1 .boolean 0 [.inr (some (7, t))] (mix a b) (if a.1 7 t 3 < 5 then 0 else 1) (mix (a) b) := by
  refine Ct.of (by decide) [_] rfl (Nat.le_of_ble_eq_true rfl) ?_
  refine v_aload_n dX1_isDone_0 rfl ?_
  refine x_gi (by decide) fX1_18 dX1_isDone_1 rfl rfl ht ?_
  refine v_iconst 5 dX1_isDone_4 (by decide) ?_
  refine v_icmp_lt 12 dX1_isDone_5 (by decide) (fun h_5 => ?_) (fun h_5 => ?_)
  · refine v_iconst 0 dX1_isDone_12 (by decide) ?_
    exact v_zret dX1_isDone_13 (by decide) ⟨by simp only [h_5, if_true, if_false], rfl⟩
  · refine v_iconst 1 dX1_isDone_8 (by decide) ?_
    refine v_goto 13 dX1_isDone_9 (by decide) ?_
    exact v_zret dX1_isDone_13 (by decide) ⟨by simp only [h_5, if_true, if_false], rfl⟩
set_option maxHeartbeats 4000000 in
set_option maxRecDepth 100000 in
theorem c_X1_waitsAt {a b : tH} {t : Nat} (ht : t < 24) {x w : Int32} : Ci yX1_waitsAt cX1_waitsAt 3 .boolean 0 [.inr (some (7, t)), .inl x, .inl w] (mix a b) (if a.1 7 t 3 = w then if a.1 7 t 13 = x then 1 else 0 else 0) (mix (a) b) := by
  refine Ct.of (by decide) [_, _, _] rfl (Nat.le_of_ble_eq_true rfl) ?_
  refine v_aload_n dX1_waitsAt_0 rfl ?_
  refine x_gi (by decide) fX1_18 dX1_waitsAt_1 rfl rfl ht ?_
  refine v_iload_n dX1_waitsAt_4 rfl ?_
  refine v_icmp_ne 20 dX1_waitsAt_5 (by decide) (fun h_5 => ?_) (fun h_5 => ?_)
  · refine v_iconst 0 dX1_waitsAt_20 (by decide) ?_
    exact v_zret dX1_waitsAt_21 (by decide) ⟨by simp only [h_5, if_true, if_false], rfl⟩
  · refine v_aload_n dX1_waitsAt_8 rfl ?_
    refine x_gi (by decide) fX1_50 dX1_waitsAt_9 rfl rfl ht ?_
    refine v_iload_n dX1_waitsAt_12 rfl ?_
    refine v_icmp_ne 20 dX1_waitsAt_13 (by decide) (fun h_13 => ?_) (fun h_13 => ?_)
    · refine v_iconst 0 dX1_waitsAt_20 (by decide) ?_
      exact v_zret dX1_waitsAt_21 (by decide) ⟨by simp only [h_5, h_13, if_true, if_false], rfl⟩
    · refine v_iconst 1 dX1_waitsAt_16 (by decide) ?_
      refine v_goto 21 dX1_waitsAt_17 (by decide) ?_
      exact v_zret dX1_waitsAt_21 (by decide) ⟨by simp only [h_5, h_13, if_true, if_false], rfl⟩
set_option maxHeartbeats 4000000 in
set_option maxRecDepth 100000 in
theorem c_X1_reset {a b : tH} {t : Nat} (ht : t < 24) {x y : Int32} : Cn yX1_reset cX1_reset 3 0 [.inr (some (7, t)), .inl x, .inl y] (mix a b) (mix (put (put (put (put (put (put (put (put (put a 7 t 3 0) 7 t 4 x) 7 t 5 0) 7 t 6 y) 7 t 7 0) 7 t 8 0) 7 t 9 0) 7 t 10 0) 7 t 11 0) b) := by
  refine Ct.of (by decide) [_, _, _] rfl (Nat.le_of_ble_eq_true rfl) ?_
  refine v_aload_n dX1_reset_0 rfl ?_
  refine v_iconst 0 dX1_reset_1 (by decide) ?_
  refine x_pi (by decide) fX1_18 dX1_reset_2 rfl rfl ht ?_
  refine v_aload_n dX1_reset_5 rfl ?_
  refine v_iload_n dX1_reset_6 rfl ?_
  refine x_pi (by decide) fX1_22 dX1_reset_7 rfl rfl ht ?_
  refine v_aload_n dX1_reset_10 rfl ?_
  refine v_iconst 0 dX1_reset_11 (by decide) ?_
  refine x_pi (by decide) fX1_25 dX1_reset_12 rfl rfl ht ?_
  refine v_aload_n dX1_reset_15 rfl ?_
  refine v_iload_n dX1_reset_16 rfl ?_
  refine x_pi (by decide) fX1_28 dX1_reset_17 rfl rfl ht ?_
  refine v_aload_n dX1_reset_20 rfl ?_
  refine v_iconst 0 dX1_reset_21 (by decide) ?_
  refine x_pi (by decide) fX1_31 dX1_reset_22 rfl rfl ht ?_
  refine v_aload_n dX1_reset_25 rfl ?_
  refine v_iconst 0 dX1_reset_26 (by decide) ?_
  refine x_pi (by decide) fX1_34 dX1_reset_27 rfl rfl ht ?_
  refine v_aload_n dX1_reset_30 rfl ?_
  refine v_iconst 0 dX1_reset_31 (by decide) ?_
  refine x_pz (by decide) fX1_37 dX1_reset_32 rfl rfl ht (by decide) ?_
  refine v_aload_n dX1_reset_35 rfl ?_
  refine v_iconst 0 dX1_reset_36 (by decide) ?_
  refine x_pi (by decide) fX1_41 dX1_reset_37 rfl rfl ht ?_
  refine v_aload_n dX1_reset_40 rfl ?_
  refine v_iconst 0 dX1_reset_41 (by decide) ?_
  refine x_pi (by decide) fX1_44 dX1_reset_42 rfl rfl ht ?_
  exact v_vret dX1_reset_45 ⟨rfl, rfl⟩
set_option maxHeartbeats 4000000 in
set_option maxRecDepth 100000 in
theorem c_X1_addHandler {a b : tH} {t : Nat} (ht : t < 24) {x : Int32} {n : Nat} (hn : a.1 7 t 7 = nI n) (h4 : n ≤ 4) : Cn yX1_addHandler cX1_addHandler 2 0 [.inr (some (7, t)), .inl x] (mix a b) (mix (if 4 ≤ a.1 7 t 7 then a else put (put a 8 t n x) 7 t 7 (a.1 7 t 7 + 1)) b) := by
  refine Ct.of (by decide) [_, _] rfl (Nat.le_of_ble_eq_true rfl) ?_
  refine v_aload_n dX1_addHandler_0 rfl ?_
  refine x_gi (by decide) fX1_31 dX1_addHandler_1 rfl rfl ht ?_
  refine v_iconst 4 dX1_addHandler_4 (by decide) ?_
  refine v_icmp_ge 28 dX1_addHandler_5 (by decide) (fun h_5 => ?_) (fun h_5 => ?_)
  · exact v_vret dX1_addHandler_28 ⟨rfl, by simp only [h_5, if_true, if_false]; try rfl⟩
  · refine v_aload_n dX1_addHandler_8 rfl ?_
    refine v_gr t fX1_9 dX1_addHandler_9 rfl rfl rfl ht ?_
    refine v_aload_n dX1_addHandler_12 rfl ?_
    refine x_gi (by decide) fX1_31 dX1_addHandler_13 rfl rfl ht ?_
    refine v_iload_n dX1_addHandler_16 rfl ?_
    refine x_iast n (by decide) rfl dX1_addHandler_17 ht hn (nlt_of hn (by omega) (by decide) h_5) ?_
    refine v_aload_n dX1_addHandler_18 rfl ?_
    refine v_dup dX1_addHandler_19 ?_
    refine x_gi (by decide) fX1_31 dX1_addHandler_20 rfl rfl ht ?_
    refine v_iconst 1 dX1_addHandler_23 (by decide) ?_
    refine v_iadd dX1_addHandler_24 ?_
    refine x_pi (by decide) fX1_31 dX1_addHandler_25 rfl rfl ht ?_
    exact v_vret dX1_addHandler_28 ⟨rfl, by simp only [h_5, if_true, if_false]; try rfl⟩
set_option maxHeartbeats 4000000 in
set_option maxRecDepth 100000 in
theorem c_X1_dropHandler {a b : tH} {t : Nat} (ht : t < 24) : Cn yX1_dropHandler cX1_dropHandler 1 0 [.inr (some (7, t))] (mix a b) (mix (if a.1 7 t 7 ≤ 0 then a else put a 7 t 7 (a.1 7 t 7 - 1)) b) := by
  refine Ct.of (by decide) [_] rfl (Nat.le_of_ble_eq_true rfl) ?_
  refine v_aload_n dX1_dropHandler_0 rfl ?_
  refine x_gi (by decide) fX1_31 dX1_dropHandler_1 rfl rfl ht ?_
  refine v_if_le 17 dX1_dropHandler_4 (by decide) (fun h_4 => ?_) (fun h_4 => ?_)
  · exact v_vret dX1_dropHandler_17 ⟨rfl, by simp only [h_4, if_true, if_false]⟩
  · refine v_aload_n dX1_dropHandler_7 rfl ?_
    refine v_dup dX1_dropHandler_8 ?_
    refine x_gi (by decide) fX1_31 dX1_dropHandler_9 rfl rfl ht ?_
    refine v_iconst 1 dX1_dropHandler_12 (by decide) ?_
    refine v_isub dX1_dropHandler_13 ?_
    refine x_pi (by decide) fX1_31 dX1_dropHandler_14 rfl rfl ht ?_
    exact v_vret dX1_dropHandler_17 ⟨rfl, by simp only [h_4, if_true, if_false]⟩
set_option maxHeartbeats 4000000 in
set_option maxRecDepth 100000 in
theorem c_X1_handles0 {a b : tH} {t : Nat} (ht : t < 24) {e : Int32} (h0 : a.1 7 t 7 = 0) : Ci yX1_handles cX1_handles 2 .boolean 0 [.inr (some (7, t)), .inl e] (mix a b) (0) (mix (a) b) := by
  refine Ct.of (by decide) [_, _] rfl (Nat.le_of_ble_eq_true rfl) ?_
  refine v_aload_n dX1_handles_0 rfl ?_
  refine x_gi (by decide) fX1_31 dX1_handles_1 rfl rfl ht ?_
  refine v_if_gt 9 dX1_handles_4 (by decide) (fun h_4 => absurd h_4 (by rw [h0]; decide)) (fun h_4 => ?_)
  refine v_iconst 0 dX1_handles_7 (by decide) ?_
  exact v_zret dX1_handles_8 (by decide) ⟨rfl, rfl⟩
set_option maxHeartbeats 4000000 in
set_option maxRecDepth 100000 in
theorem c_X1_handles1 {a b : tH} {t : Nat} (ht : t < 24) {e : Int32} {n : Nat} (hn : a.1 7 t 7 = nI (n + 1)) (h4 : n < 4) : Ci yX1_handles cX1_handles 2 .boolean 0 [.inr (some (7, t)), .inl e] (mix a b) (1) (mix (put (put (put a 7 t 7 (nI n)) 7 t 5 (a.1 8 t n)) 7 t 6 e) b) := by
  refine Ct.of (by decide) [_, _] rfl (Nat.le_of_ble_eq_true rfl) ?_
  refine v_aload_n dX1_handles_0 rfl ?_
  refine x_gi (by decide) fX1_31 dX1_handles_1 rfl rfl ht ?_
  refine v_if_gt 9 dX1_handles_4 (by decide) (fun h_4 => ?_) (fun h_4 => absurd (by rw [hn]; exact nI_lt (a := 0) (by omega) (by omega)) h_4)
  refine v_aload_n dX1_handles_9 rfl ?_
  refine v_dup dX1_handles_10 ?_
  refine x_gi (by decide) fX1_31 dX1_handles_11 rfl rfl ht ?_
  refine v_iconst 1 dX1_handles_14 (by decide) ?_
  refine v_isub dX1_handles_15 ?_
  rw [hn, nI_pred]
  refine x_pi (by decide) fX1_31 dX1_handles_16 rfl rfl ht ?_
  refine v_aload_n dX1_handles_19 rfl ?_
  refine v_aload_n dX1_handles_20 rfl ?_
  refine v_gr t fX1_9 dX1_handles_21 rfl rfl rfl ht ?_
  refine v_aload_n dX1_handles_24 rfl ?_
  refine x_gi (by decide) fX1_31 dX1_handles_25 rfl rfl ht ?_
  refine x_iald n (by decide) rfl dX1_handles_28 ht put_eq h4 ?_
  rw [put_ne (by omega)]
  refine x_pi (by decide) fX1_25 dX1_handles_29 rfl rfl ht ?_
  refine v_aload_n dX1_handles_32 rfl ?_
  refine v_iload_n dX1_handles_33 rfl ?_
  refine x_pi (by decide) fX1_28 dX1_handles_34 rfl rfl ht ?_
  refine v_iconst 1 dX1_handles_37 (by decide) ?_
  exact v_zret dX1_handles_38 (by decide) ⟨rfl, rfl⟩
set_option maxHeartbeats 4000000 in
set_option maxRecDepth 100000 in
theorem c_X1_addPending {a b : tH} {t : Nat} (ht : t < 24) {x : Int32} {n : Nat} (hn : a.1 7 t 8 = nI n) (h4 : n ≤ 4) : Cn yX1_addPending cX1_addPending 2 0 [.inr (some (7, t)), .inl x] (mix a b) (mix (if 4 ≤ a.1 7 t 8 then a else put (put a 9 t n x) 7 t 8 (a.1 7 t 8 + 1)) b) := by
  refine Ct.of (by decide) [_, _] rfl (Nat.le_of_ble_eq_true rfl) ?_
  refine v_aload_n dX1_addPending_0 rfl ?_
  refine x_gi (by decide) fX1_34 dX1_addPending_1 rfl rfl ht ?_
  refine v_iconst 4 dX1_addPending_4 (by decide) ?_
  refine v_icmp_ge 28 dX1_addPending_5 (by decide) (fun h_5 => ?_) (fun h_5 => ?_)
  · exact v_vret dX1_addPending_28 ⟨rfl, by simp only [h_5, if_true, if_false]; try rfl⟩
  · refine v_aload_n dX1_addPending_8 rfl ?_
    refine v_gr t fX1_15 dX1_addPending_9 rfl rfl rfl ht ?_
    refine v_aload_n dX1_addPending_12 rfl ?_
    refine x_gi (by decide) fX1_34 dX1_addPending_13 rfl rfl ht ?_
    refine v_iload_n dX1_addPending_16 rfl ?_
    refine x_iast n (by decide) rfl dX1_addPending_17 ht hn (nlt_of hn (by omega) (by decide) h_5) ?_
    refine v_aload_n dX1_addPending_18 rfl ?_
    refine v_dup dX1_addPending_19 ?_
    refine x_gi (by decide) fX1_34 dX1_addPending_20 rfl rfl ht ?_
    refine v_iconst 1 dX1_addPending_23 (by decide) ?_
    refine v_iadd dX1_addPending_24 ?_
    refine x_pi (by decide) fX1_34 dX1_addPending_25 rfl rfl ht ?_
    exact v_vret dX1_addPending_28 ⟨rfl, by simp only [h_5, if_true, if_false]; try rfl⟩
set_option maxHeartbeats 4000000 in
set_option maxRecDepth 100000 in
theorem c_X1_actToCome {a b : tH} {t : Nat} (ht : t < 24) : Ci yX1_actToCome cX1_actToCome 1 .int 1 [.inr (some (7, t))] (mix a b) (if a.1 7 t 3 < 5 then if a.1 7 t 3 < 1 then a.1 7 t 5 else if 3 < a.1 7 t 3 then a.1 7 t 5 else a.1 7 t 5 - 1 else (-3)) (mix (a) b) := by
  refine Ct.of (by decide) [_] rfl (Nat.le_of_ble_eq_true rfl) ?_
  refine v_aload_n dX1_actToCome_0 rfl ?_
  refine v_call0i lX1_63 kX1_isDone (c_X1_isDone ht) dX1_actToCome_1 rfl rfl ht rfl (by decide) (by decide) (st8 rfl) ?_
  refine v_if_eq 10 dX1_actToCome_4 (by decide) (fun h_4 => ?_) (fun h_4 => ?_)
  · rw [i01] at h_4
    refine v_aload_n dX1_actToCome_10 rfl ?_
    refine v_call0i lX1_67 kX1_waits (c_X1_waits ht) dX1_actToCome_11 rfl rfl ht rfl (by decide) (by decide) (st8 rfl) ?_
    refine v_if_eq 26 dX1_actToCome_14 (by decide) (fun h_14 => ?_) (fun h_14 => ?_)
    · rw [i001] at h_14
      refine v_aload_n dX1_actToCome_26 rfl ?_
      refine x_gi (by decide) fX1_25 dX1_actToCome_27 rfl rfl ht ?_
      exact v_iret dX1_actToCome_30 ⟨by rw [if_pos h_4]; first | (rw [if_neg (fun q => h_14 (Or.inl q)), if_neg (fun q => h_14 (Or.inr q))]) | (rcases h_14 with q | q <;> simp only [q, if_true, ite_self]), rfl⟩
    · rw [i001] at h_14
      refine v_aload_n dX1_actToCome_17 rfl ?_
      refine x_gi (by decide) fX1_25 dX1_actToCome_18 rfl rfl ht ?_
      refine v_iconst 1 dX1_actToCome_21 (by decide) ?_
      refine v_isub dX1_actToCome_22 ?_
      refine v_goto 30 dX1_actToCome_23 (by decide) ?_
      exact v_iret dX1_actToCome_30 ⟨by rw [if_pos h_4]; first | (rw [if_neg (fun q => h_14 (Or.inl q)), if_neg (fun q => h_14 (Or.inr q))]) | (rcases h_14 with q | q <;> simp only [q, if_true, ite_self]), rfl⟩
  · rw [i01] at h_4
    refine v_bipush (-3) dX1_actToCome_7 (by decide) ?_
    exact v_iret dX1_actToCome_9 ⟨by rw [if_neg h_4], rfl⟩
set_option maxHeartbeats 4000000 in
set_option maxRecDepth 100000 in
theorem c_X0_has {a b : tH} {x : Int32} : Ci yX0_has cX0_has 2 .boolean 0 [.inr (some (12, 0)), .inl x] (mix a b) (if x < 0 then 0 else if 8 ≤ x then 0 else 1) (mix (a) b) := by
  refine Ct.of (by decide) [_, _] rfl (Nat.le_of_ble_eq_true rfl) ?_
  refine v_iload_n dX0_has_0 rfl ?_
  refine v_if_lt 14 dX0_has_1 (by decide) (fun h_1 => ?_) (fun h_1 => ?_)
  · refine v_iconst 0 dX0_has_14 (by decide) ?_
    exact v_zret dX0_has_15 (by decide) ⟨by simp only [h_1, if_true, if_false], rfl⟩
  · refine v_iload_n dX0_has_4 rfl ?_
    refine v_bipush 8 dX0_has_5 (by decide) ?_
    refine v_icmp_ge 14 dX0_has_7 (by decide) (fun h_7 => ?_) (fun h_7 => ?_)
    · refine v_iconst 0 dX0_has_14 (by decide) ?_
      exact v_zret dX0_has_15 (by decide) ⟨by simp only [h_1, h_7, if_true, if_false], rfl⟩
    · refine v_iconst 1 dX0_has_10 (by decide) ?_
      refine v_goto 15 dX0_has_11 (by decide) ?_
      exact v_zret dX0_has_15 (by decide) ⟨by simp only [h_1, h_7, if_true, if_false], rfl⟩
set_option maxHeartbeats 4000000 in
set_option maxRecDepth 100000 in
theorem c_X0_has_in {a b : tH} {k : Nat} (hk : k < 8) : Ci yX0_has cX0_has 2 .boolean 0 [.inr (some (12, 0)), .inl (nI k)] (mix a b) (1) (mix (a) b) := by
  refine Ct.of (by decide) [_, _] rfl (Nat.le_of_ble_eq_true rfl) ?_
  refine v_iload_n dX0_has_0 rfl ?_
  refine v_if_lt 14 dX0_has_1 (by decide) (fun h_1 => absurd h_1 (nI_pos (by omega))) (fun h_1 => ?_)
  refine v_iload_n dX0_has_4 rfl ?_
  refine v_bipush 8 dX0_has_5 (by decide) ?_
  refine v_icmp_ge 14 dX0_has_7 (by decide) (fun h_7 => absurd h_7 (nI_ge hk (by decide))) (fun h_7 => ?_)
  refine v_iconst 1 dX0_has_10 (by decide) ?_
  refine v_goto 15 dX0_has_11 (by decide) ?_
  exact v_zret dX0_has_15 (by decide) ⟨rfl, rfl⟩
set_option maxHeartbeats 4000000 in
set_option maxRecDepth 100000 in
theorem c_X0_isFull {a b : tH} {k : Nat} (hk : k < 8) : Ci yX0_isFull cX0_isFull 2 .boolean 1 [.inr (some (12, 0)), .inl (nI k)] (mix a b) (if a.1 13 0 k = 0 then 0 else 1) (mix (a) b) := by
  refine Ct.of (by decide) [_, _] rfl (Nat.le_of_ble_eq_true rfl) ?_
  refine v_aload_n dX0_isFull_0 rfl ?_
  refine v_iload_n dX0_isFull_1 rfl ?_
  refine v_call1i lX0_19 kX0_has (c_X0_has_in hk) dX0_isFull_2 rfl rfl Nat.zero_lt_one rfl (by decide) (by decide) (st8 rfl) ?_
  refine v_if_eq 21 dX0_isFull_5 (by decide) (fun h_5 => absurd h_5 n10) (fun h_5 => ?_)
  refine v_aload_n dX0_isFull_8 rfl ?_
  refine v_gr 0 fX0_9 dX0_isFull_9 rfl rfl rfl Nat.zero_lt_one ?_
  refine v_iload_n dX0_isFull_12 rfl ?_
  refine x_zald k (by decide) rfl dX0_isFull_13 Nat.zero_lt_one rfl hk ?_
  refine v_if_eq 21 dX0_isFull_14 (by decide) (fun h_14 => ?_) (fun h_14 => ?_)
  · refine v_iconst 0 dX0_isFull_21 (by decide) ?_
    exact v_zret dX0_isFull_22 (by decide) ⟨by simp only [h_5, h_14, if_true, if_false], rfl⟩
  · refine v_iconst 1 dX0_isFull_17 (by decide) ?_
    refine v_goto 22 dX0_isFull_18 (by decide) ?_
    exact v_zret dX0_isFull_22 (by decide) ⟨by simp only [h_5, h_14, if_true, if_false], rfl⟩
set_option maxHeartbeats 4000000 in
set_option maxRecDepth 100000 in
theorem c_X0_valueOf {a b : tH} {k : Nat} (hk : k < 8) : Ci yX0_valueOf cX0_valueOf 2 .int 1 [.inr (some (12, 0)), .inl (nI k)] (mix a b) (a.1 14 0 k) (mix (a) b) := by
  refine Ct.of (by decide) [_, _] rfl (Nat.le_of_ble_eq_true rfl) ?_
  refine v_aload_n dX0_valueOf_0 rfl ?_
  refine v_iload_n dX0_valueOf_1 rfl ?_
  refine v_call1i lX0_19 kX0_has (c_X0_has_in hk) dX0_valueOf_2 rfl rfl Nat.zero_lt_one rfl (by decide) (by decide) (st8 rfl) ?_
  refine v_if_eq 17 dX0_valueOf_5 (by decide) (fun h_5 => absurd h_5 n10) (fun h_5 => ?_)
  refine v_aload_n dX0_valueOf_8 rfl ?_
  refine v_gr 0 fX0_15 dX0_valueOf_9 rfl rfl rfl Nat.zero_lt_one ?_
  refine v_iload_n dX0_valueOf_12 rfl ?_
  refine x_iald k (by decide) rfl dX0_valueOf_13 Nat.zero_lt_one rfl hk ?_
  refine v_goto 18 dX0_valueOf_14 (by decide) ?_
  exact v_iret dX0_valueOf_18 ⟨rfl, rfl⟩
set_option maxHeartbeats 4000000 in
set_option maxRecDepth 100000 in
theorem c_X0_keep {a b : tH} {k : Nat} (hk : k < 8) {v : Int32} : Cn yX0_keep cX0_keep 3 1 [.inr (some (12, 0)), .inl (nI k), .inl v] (mix a b) (mix (put (put a 13 0 k 1) 14 0 k v) b) := by
  refine Ct.of (by decide) [_, _, _] rfl (Nat.le_of_ble_eq_true rfl) ?_
  refine v_aload_n dX0_keep_0 rfl ?_
  refine v_iload_n dX0_keep_1 rfl ?_
  refine v_call1i lX0_19 kX0_has (c_X0_has_in hk) dX0_keep_2 rfl rfl Nat.zero_lt_one rfl (by decide) (by decide) (st8 rfl) ?_
  refine v_if_eq 22 dX0_keep_5 (by decide) (fun h_5 => absurd h_5 n10) (fun h_5 => ?_)
  refine v_aload_n dX0_keep_8 rfl ?_
  refine v_gr 0 fX0_9 dX0_keep_9 rfl rfl rfl Nat.zero_lt_one ?_
  refine v_iload_n dX0_keep_12 rfl ?_
  refine v_iconst 1 dX0_keep_13 (by decide) ?_
  refine x_zast k (by decide) rfl dX0_keep_14 Nat.zero_lt_one rfl hk (by decide) ?_
  refine v_aload_n dX0_keep_15 rfl ?_
  refine v_gr 0 fX0_15 dX0_keep_16 rfl rfl rfl Nat.zero_lt_one ?_
  refine v_iload_n dX0_keep_19 rfl ?_
  refine v_iload_n dX0_keep_20 rfl ?_
  refine x_iast k (by decide) rfl dX0_keep_21 Nat.zero_lt_one rfl hk ?_
  exact v_vret dX0_keep_22 ⟨rfl, rfl⟩
set_option maxHeartbeats 4000000 in
set_option maxRecDepth 100000 in
theorem c_X0_empty {a b : tH} {k : Nat} (hk : k < 8) : Cn yX0_empty cX0_empty 2 1 [.inr (some (12, 0)), .inl (nI k)] (mix a b) (mix (put a 13 0 k 0) b) := by
  refine Ct.of (by decide) [_, _] rfl (Nat.le_of_ble_eq_true rfl) ?_
  refine v_aload_n dX0_empty_0 rfl ?_
  refine v_iload_n dX0_empty_1 rfl ?_
  refine v_call1i lX0_19 kX0_has (c_X0_has_in hk) dX0_empty_2 rfl rfl Nat.zero_lt_one rfl (by decide) (by decide) (st8 rfl) ?_
  refine v_if_eq 15 dX0_empty_5 (by decide) (fun h_5 => absurd h_5 n10) (fun h_5 => ?_)
  refine v_aload_n dX0_empty_8 rfl ?_
  refine v_gr 0 fX0_9 dX0_empty_9 rfl rfl rfl Nat.zero_lt_one ?_
  refine v_iload_n dX0_empty_12 rfl ?_
  refine v_iconst 0 dX0_empty_13 (by decide) ?_
  refine x_zast k (by decide) rfl dX0_empty_14 Nat.zero_lt_one rfl hk (by decide) ?_
  exact v_vret dX0_empty_15 ⟨rfl, rfl⟩
set_option maxHeartbeats 4000000 in
set_option maxRecDepth 100000 in
theorem c_X2_size {a b : tH}  : Ci yX2_size cX2_size 1 .int 0 [.inr (some (10, 0))] (mix a b) (a.1 10 0 1) (mix (a) b) := by
  refine Ct.of (by decide) [_] rfl (Nat.le_of_ble_eq_true rfl) ?_
  refine v_aload_n dX2_size_0 rfl ?_
  refine x_gi (by decide) fX2_17 dX2_size_1 rfl rfl Nat.zero_lt_one ?_
  exact v_iret dX2_size_4 ⟨rfl, rfl⟩
set_option maxHeartbeats 4000000 in
set_option maxRecDepth 100000 in
theorem c_X2_clear {a b : tH}  : Cn yX2_clear cX2_clear 1 0 [.inr (some (10, 0))] (mix a b) (mix (put a 10 0 1 0) b) := by
  refine Ct.of (by decide) [_] rfl (Nat.le_of_ble_eq_true rfl) ?_
  refine v_aload_n dX2_clear_0 rfl ?_
  refine v_iconst 0 dX2_clear_1 (by decide) ?_
  refine x_pi (by decide) fX2_17 dX2_clear_2 rfl rfl Nat.zero_lt_one ?_
  exact v_vret dX2_clear_5 ⟨rfl, rfl⟩
set_option maxHeartbeats 4000000 in
set_option maxRecDepth 100000 in
theorem c_X2_at_out {a b : tH} {i : Int32} (ho : i < 0 ∨ a.1 10 0 1 ≤ i) : Cr yX2_at cX2_at 2 (.object "TurnThreads$Fiber") 0 [.inr (some (10, 0)), .inl i] (mix a b) (none) (mix (a) b) := by
  refine Ct.of (by decide) [_, _] rfl (Nat.le_of_ble_eq_true rfl) ?_
  refine v_iload_n dX2_at_0 rfl ?_
  refine v_if_lt 21 dX2_at_1 (by decide) (fun h_1 => ?_) (fun h_1 => ?_)
  · refine v_null dX2_at_21 ?_
    exact v_aret dX2_at_22 ⟨rfl, rfl⟩
  · refine v_iload_n dX2_at_4 rfl ?_
    refine v_aload_n dX2_at_5 rfl ?_
    refine x_gi (by decide) fX2_17 dX2_at_6 rfl rfl Nat.zero_lt_one ?_
    refine v_icmp_ge 21 dX2_at_9 (by decide) (fun h_9 => ?_) (fun h_9 => (ho.elim (fun z => absurd z h_1) (fun z => absurd z h_9)))
    refine v_null dX2_at_21 ?_
    exact v_aret dX2_at_22 ⟨rfl, rfl⟩
set_option maxHeartbeats 4000000 in
set_option maxRecDepth 100000 in
theorem c_X2_at_in {a b : tH} {k n : Nat} (hn : a.1 10 0 1 = nI n) (hk : k < n) (h4 : n ≤ 24) : Cr yX2_at cX2_at 2 (.object "TurnThreads$Fiber") 0 [.inr (some (10, 0)), .inl (nI k)] (mix a b) ((a.2 k).map (fun t => (7, t))) (mix (a) b) := by
  refine Ct.of (by decide) [_, _] rfl (Nat.le_of_ble_eq_true rfl) ?_
  refine v_iload_n dX2_at_0 rfl ?_
  refine v_if_lt 21 dX2_at_1 (by decide) (fun h_1 => absurd h_1 (nI_pos (by omega))) (fun h_1 => ?_)
  refine v_iload_n dX2_at_4 rfl ?_
  refine v_aload_n dX2_at_5 rfl ?_
  refine x_gi (by decide) fX2_17 dX2_at_6 rfl rfl Nat.zero_lt_one ?_
  refine v_icmp_ge 21 dX2_at_9 (by decide) (fun h_9 => absurd h_9 (by rw [hn]; exact nI_ge hk (by omega))) (fun h_9 => ?_)
  refine v_aload_n dX2_at_12 rfl ?_
  refine v_gr 0 fX2_11 dX2_at_13 rfl rfl rfl Nat.zero_lt_one ?_
  refine v_iload_n dX2_at_16 rfl ?_
  refine x_aaldQ k dX2_at_17 rfl (by omega) ?_
  refine v_goto 22 dX2_at_18 (by decide) ?_
  exact v_aret dX2_at_22 ⟨rfl, rfl⟩
set_option maxHeartbeats 4000000 in
set_option maxRecDepth 100000 in
theorem c_X2_add {a b : tH} {t n : Nat} (ht : t < 24) (hn : a.1 10 0 1 = nI n) (h4 : n < 24) : Cn yX2_add cX2_add 2 0 [.inr (some (10, 0)), .inr (some (7, t))] (mix a b) (mix (put (putq a n (some t)) 10 0 1 (nI (n + 1))) b) := by
  refine Ct.of (by decide) [_, _] rfl (Nat.le_of_ble_eq_true rfl) ?_
  refine v_aload_n dX2_add_0 rfl ?_
  refine x_gi (by decide) fX2_17 dX2_add_1 rfl rfl Nat.zero_lt_one ?_
  refine v_bipush 24 dX2_add_4 (by decide) ?_
  refine v_icmp_ge 29 dX2_add_6 (by decide) (fun h_6 => absurd h_6 (by rw [hn]; exact nI_ge h4 (by decide))) (fun h_6 => ?_)
  refine v_aload_n dX2_add_9 rfl ?_
  refine v_gr 0 fX2_11 dX2_add_10 rfl rfl rfl Nat.zero_lt_one ?_
  refine v_aload_n dX2_add_13 rfl ?_
  refine x_gi (by decide) fX2_17 dX2_add_14 rfl rfl Nat.zero_lt_one ?_
  refine v_aload_n dX2_add_17 rfl ?_
  refine x_aastQ (r := some t) n dX2_add_18 hn h4 (fun _ e => by cases e; exact ht) ?_
  refine v_aload_n dX2_add_19 rfl ?_
  refine v_dup dX2_add_20 ?_
  refine x_gi (by decide) fX2_17 dX2_add_21 rfl rfl Nat.zero_lt_one ?_
  refine v_iconst 1 dX2_add_24 (by decide) ?_
  refine v_iadd dX2_add_25 ?_
  rw [show (putq a n (some t)).1 10 0 1 = nI n from hn, nI_1]
  refine x_pi (by decide) fX2_17 dX2_add_26 rfl rfl Nat.zero_lt_one ?_
  exact v_vret dX2_add_29 ⟨rfl, rfl⟩
set_option maxHeartbeats 4000000 in
set_option maxRecDepth 100000 in
theorem c_X3_isEmpty {a b : tH}  : Ci yX3_isEmpty cX3_isEmpty 1 .boolean 0 [.inr (some (1, 0))] (mix a b) (if a.1 1 0 3 = 0 then 1 else 0) (mix (a) b) := by
  refine Ct.of (by decide) [_] rfl (Nat.le_of_ble_eq_true rfl) ?_
  refine v_aload_n dX3_isEmpty_0 rfl ?_
  refine x_gi (by decide) fX3_23 dX3_isEmpty_1 rfl rfl Nat.zero_lt_one ?_
  refine v_if_ne 11 dX3_isEmpty_4 (by decide) (fun h_4 => ?_) (fun h_4 => ?_)
  · refine v_iconst 0 dX3_isEmpty_11 (by decide) ?_
    exact v_zret dX3_isEmpty_12 (by decide) ⟨by simp only [h_4, if_true, if_false], rfl⟩
  · refine v_iconst 1 dX3_isEmpty_7 (by decide) ?_
    refine v_goto 12 dX3_isEmpty_8 (by decide) ?_
    exact v_zret dX3_isEmpty_12 (by decide) ⟨by simp only [h_4, if_true, if_false], rfl⟩
set_option maxHeartbeats 4000000 in
set_option maxRecDepth 100000 in
theorem c_X3_has {a b : tH} {p : Int32} : Ci yX3_has cX3_has 2 .boolean 0 [.inr (some (1, 0)), .inl p] (mix a b) (if p < 0 then 0 else if a.1 1 0 3 ≤ p then 0 else 1) (mix (a) b) := by
  refine Ct.of (by decide) [_, _] rfl (Nat.le_of_ble_eq_true rfl) ?_
  refine v_iload_n dX3_has_0 rfl ?_
  refine v_if_lt 16 dX3_has_1 (by decide) (fun h_1 => ?_) (fun h_1 => ?_)
  · refine v_iconst 0 dX3_has_16 (by decide) ?_
    exact v_zret dX3_has_17 (by decide) ⟨by simp only [h_1, if_true, if_false], rfl⟩
  · refine v_iload_n dX3_has_4 rfl ?_
    refine v_aload_n dX3_has_5 rfl ?_
    refine x_gi (by decide) fX3_23 dX3_has_6 rfl rfl Nat.zero_lt_one ?_
    refine v_icmp_ge 16 dX3_has_9 (by decide) (fun h_9 => ?_) (fun h_9 => ?_)
    · refine v_iconst 0 dX3_has_16 (by decide) ?_
      exact v_zret dX3_has_17 (by decide) ⟨by simp only [h_1, h_9, if_true, if_false], rfl⟩
    · refine v_iconst 1 dX3_has_12 (by decide) ?_
      refine v_goto 17 dX3_has_13 (by decide) ?_
      exact v_zret dX3_has_17 (by decide) ⟨by simp only [h_1, h_9, if_true, if_false], rfl⟩
set_option maxHeartbeats 4000000 in
set_option maxRecDepth 100000 in
theorem c_X3_has_in {a b : tH} {p n : Nat} (hn : a.1 1 0 3 = nI n) (hp : p < n) (h12 : n ≤ 12) : Ci yX3_has cX3_has 2 .boolean 0 [.inr (some (1, 0)), .inl (nI p)] (mix a b) (1) (mix (a) b) := by
  refine Ct.of (by decide) [_, _] rfl (Nat.le_of_ble_eq_true rfl) ?_
  refine v_iload_n dX3_has_0 rfl ?_
  refine v_if_lt 16 dX3_has_1 (by decide) (fun h_1 => absurd h_1 (nI_pos (by omega))) (fun h_1 => ?_)
  refine v_iload_n dX3_has_4 rfl ?_
  refine v_aload_n dX3_has_5 rfl ?_
  refine x_gi (by decide) fX3_23 dX3_has_6 rfl rfl Nat.zero_lt_one ?_
  refine v_icmp_ge 16 dX3_has_9 (by decide) (fun h_9 => absurd h_9 (by rw [hn]; exact nI_ge hp (by omega))) (fun h_9 => ?_)
  refine v_iconst 1 dX3_has_12 (by decide) ?_
  refine v_goto 17 dX3_has_13 (by decide) ?_
  exact v_zret dX3_has_17 (by decide) ⟨rfl, rfl⟩
set_option maxHeartbeats 4000000 in
set_option maxRecDepth 100000 in
theorem c_X3_addProgram {a b : tH} {n : Nat} (hn : a.1 1 0 3 = nI n) (h12 : n ≤ 12) : Ci yX3_addProgram cX3_addProgram 1 .int 0 [.inr (some (1, 0))] (mix a b) (if n < 12 then nI n else (-4)) (mix (if n < 12 then put a 1 0 3 (nI (n + 1)) else a) b) := by
  refine Ct.of (by decide) [_] rfl (Nat.le_of_ble_eq_true rfl) ?_
  refine v_aload_n dX3_addProgram_0 rfl ?_
  refine x_gi (by decide) fX3_23 dX3_addProgram_1 rfl rfl Nat.zero_lt_one ?_
  refine v_bipush 12 dX3_addProgram_4 (by decide) ?_
  refine v_icmp_lt 12 dX3_addProgram_6 (by decide) (fun h_6 => ?_) (fun h_6 => ?_)
  · have g12 : n < 12 := by
      rcases Nat.lt_or_ge n 12 with q | q
      · exact q
      · exact absurd (by rw [← hn]; exact h_6) (nI_nlt q (by omega))
    refine v_aload_n dX3_addProgram_12 rfl ?_
    refine v_dup dX3_addProgram_13 ?_
    refine x_gi (by decide) fX3_23 dX3_addProgram_14 rfl rfl Nat.zero_lt_one ?_
    refine v_iconst 1 dX3_addProgram_17 (by decide) ?_
    refine v_iadd dX3_addProgram_18 ?_
    rw [hn, nI_1]
    refine x_pi (by decide) fX3_23 dX3_addProgram_19 rfl rfl Nat.zero_lt_one ?_
    refine v_aload_n dX3_addProgram_22 rfl ?_
    refine x_gi (by decide) fX3_23 dX3_addProgram_23 rfl rfl Nat.zero_lt_one ?_
    refine v_iconst 1 dX3_addProgram_26 (by decide) ?_
    refine v_isub dX3_addProgram_27 ?_
    exact v_iret dX3_addProgram_28 ⟨by rw [put_eq, if_pos g12, nI_pred], by rw [if_pos g12]⟩
  · have g12 : ¬ n < 12 := fun q => h_6 (by rw [hn]; exact nI_lt q (by decide))
    refine v_bipush (-4) dX3_addProgram_9 (by decide) ?_
    exact v_iret dX3_addProgram_11 ⟨by rw [if_neg g12], by rw [if_neg g12]⟩
set_option maxHeartbeats 4000000 in
set_option maxRecDepth 100000 in
theorem c_X3_addAct {a b : tH} {p z : Nat} {x y : Int32} (hn : a.1 1 0 3 = nI (p + 1)) (h12 : p < 12) (hz : a.1 2 0 p = nI z) (h20 : z ≤ 20) : Ci yX3_addAct cX3_addAct 5 .int 1 [.inr (some (1, 0)), .inl x, .inl y] (mix a b) (if z < 20 then nI (z + 1) else (-4)) (mix (if z < 20 then put (put (put a 4 p z x) 6 p z y) 2 0 p (nI (z + 1)) else a) b) := by
  refine Ct.of (by decide) [_, _, _, _, _] rfl (Nat.le_of_ble_eq_true rfl) ?_
  refine v_aload_n dX3_addAct_0 rfl ?_
  refine x_gi (by decide) fX3_23 dX3_addAct_1 rfl rfl Nat.zero_lt_one ?_
  refine v_iconst 1 dX3_addAct_4 (by decide) ?_
  refine v_isub dX3_addAct_5 ?_
  rw [hn, nI_pred]
  refine v_istore_n [_, _, _, _, _] dX3_addAct_6 rfl (by decide) ?_
  refine v_aload_n dX3_addAct_7 rfl ?_
  refine v_iload_n dX3_addAct_8 rfl ?_
  refine v_call1i lX3_27 kX3_has (c_X3_has_in hn (by omega) (by omega)) dX3_addAct_9 rfl rfl Nat.zero_lt_one rfl (by decide) (by decide) (st8 rfl) ?_
  refine v_if_eq 26 dX3_addAct_12 (by decide) (fun h_12 => absurd h_12 n10) (fun h_12 => ?_)
  refine v_aload_n dX3_addAct_15 rfl ?_
  refine v_gr 0 fX3_9 dX3_addAct_16 rfl rfl rfl Nat.zero_lt_one ?_
  refine v_iload_n dX3_addAct_19 rfl ?_
  refine x_iald p (by decide) rfl dX3_addAct_20 Nat.zero_lt_one rfl h12 ?_
  refine v_bipush 20 dX3_addAct_21 (by decide) ?_
  refine v_icmp_lt 29 dX3_addAct_23 (by decide) (fun h_23 => ?_) (fun h_23 => ?_)
  · have g : z < 20 := by
      rcases Nat.lt_or_ge z 20 with q | q
      · exact q
      · exact absurd (by rw [← hz]; exact h_23) (nI_nlt q (by omega))
    refine v_aload_n dX3_addAct_29 rfl ?_
    refine v_gr 0 fX3_9 dX3_addAct_30 rfl rfl rfl Nat.zero_lt_one ?_
    refine v_iload_n dX3_addAct_33 rfl ?_
    refine x_iald p (by decide) rfl dX3_addAct_34 Nat.zero_lt_one rfl h12 ?_
    rw [hz]
    refine v_istore [_, _, _, _, _] dX3_addAct_35 rfl (by decide) ?_
    refine v_aload_n dX3_addAct_37 rfl ?_
    refine v_gr 0 fX3_17 dX3_addAct_38 rfl rfl rfl Nat.zero_lt_one ?_
    refine v_iload_n dX3_addAct_41 rfl ?_
    refine v_aaldG p rfl dX3_addAct_42 Nat.zero_lt_one rfl h12 ?_
    refine v_iload dX3_addAct_43 rfl ?_
    refine v_iload_n dX3_addAct_45 rfl ?_
    refine x_iast z (by decide) rfl dX3_addAct_46 h12 rfl g ?_
    refine v_aload_n dX3_addAct_47 rfl ?_
    refine v_gr 0 fX3_20 dX3_addAct_48 rfl rfl rfl Nat.zero_lt_one ?_
    refine v_iload_n dX3_addAct_51 rfl ?_
    refine v_aaldG p rfl dX3_addAct_52 Nat.zero_lt_one rfl h12 ?_
    refine v_iload dX3_addAct_53 rfl ?_
    refine v_iload_n dX3_addAct_55 rfl ?_
    refine x_iast z (by decide) rfl dX3_addAct_56 h12 rfl g ?_
    refine v_aload_n dX3_addAct_57 rfl ?_
    refine v_gr 0 fX3_9 dX3_addAct_58 rfl rfl rfl Nat.zero_lt_one ?_
    refine v_iload_n dX3_addAct_61 rfl ?_
    refine v_iload dX3_addAct_62 rfl ?_
    refine v_iconst 1 dX3_addAct_64 (by decide) ?_
    refine v_iadd dX3_addAct_65 ?_
    rw [nI_1]
    refine x_iast p (by decide) rfl dX3_addAct_66 Nat.zero_lt_one rfl h12 ?_
    refine v_iload dX3_addAct_67 rfl ?_
    refine v_iconst 1 dX3_addAct_69 (by decide) ?_
    refine v_iadd dX3_addAct_70 ?_
    exact v_iret dX3_addAct_71 ⟨by rw [if_pos g, nI_1], by rw [if_pos g]⟩
  · have g : ¬ z < 20 := fun q => h_23 (by rw [hz]; exact nI_lt q (by decide))
    refine v_bipush (-4) dX3_addAct_26 (by decide) ?_
    exact v_iret dX3_addAct_28 ⟨by rw [if_neg g], by rw [if_neg g]⟩
set_option maxHeartbeats 4000000 in
set_option maxRecDepth 100000 in
theorem c_X3_hasAct {a b : tH} {p n : Nat} {i : Int32} (hn : a.1 1 0 3 = nI n) (hp : p < n) (h12 : n ≤ 12) : Ci yX3_hasAct cX3_hasAct 3 .boolean 1 [.inr (some (1, 0)), .inl (nI p), .inl i] (mix a b) (if i < 0 then 0 else if a.1 2 0 p ≤ i then 0 else 1) (mix (a) b) := by
  refine Ct.of (by decide) [_, _, _] rfl (Nat.le_of_ble_eq_true rfl) ?_
  refine v_aload_n dX3_hasAct_0 rfl ?_
  refine v_iload_n dX3_hasAct_1 rfl ?_
  refine v_call1i lX3_27 kX3_has (c_X3_has_in hn hp h12) dX3_hasAct_2 rfl rfl Nat.zero_lt_one rfl (by decide) (by decide) (st8 rfl) ?_
  refine v_if_eq 26 dX3_hasAct_5 (by decide) (fun h_5 => absurd h_5 n10) (fun h_5 => ?_)
  refine v_iload_n dX3_hasAct_8 rfl ?_
  refine v_if_lt 26 dX3_hasAct_9 (by decide) (fun h_9 => ?_) (fun h_9 => ?_)
  · refine v_iconst 0 dX3_hasAct_26 (by decide) ?_
    exact v_zret dX3_hasAct_27 (by decide) ⟨by simp only [h_9, if_true, if_false], rfl⟩
  · refine v_iload_n dX3_hasAct_12 rfl ?_
    refine v_aload_n dX3_hasAct_13 rfl ?_
    refine v_gr 0 fX3_9 dX3_hasAct_14 rfl rfl rfl Nat.zero_lt_one ?_
    refine v_iload_n dX3_hasAct_17 rfl ?_
    refine x_iald p (by decide) rfl dX3_hasAct_18 Nat.zero_lt_one rfl (by omega) ?_
    refine v_icmp_ge 26 dX3_hasAct_19 (by decide) (fun h_19 => ?_) (fun h_19 => ?_)
    · refine v_iconst 0 dX3_hasAct_26 (by decide) ?_
      exact v_zret dX3_hasAct_27 (by decide) ⟨by simp only [h_9, h_19, if_true, if_false], rfl⟩
    · refine v_iconst 1 dX3_hasAct_22 (by decide) ?_
      refine v_goto 27 dX3_hasAct_23 (by decide) ?_
      exact v_zret dX3_hasAct_27 (by decide) ⟨by simp only [h_9, h_19, if_true, if_false], rfl⟩
set_option maxHeartbeats 4000000 in
set_option maxRecDepth 100000 in
theorem c_X3_kindAt_in {a b : tH} {p n z i : Nat} (hn : a.1 1 0 3 = nI n) (hp : p < n) (h12 : n ≤ 12) (hz : a.1 2 0 p = nI z) (h20 : z ≤ 20) (hi : i < z) : Ci yX3_kindAt cX3_kindAt 3 .int 2 [.inr (some (1, 0)), .inl (nI p), .inl (nI i)] (mix a b) (a.1 4 p i) (mix (a) b) := by
  refine Ct.of (by decide) [_, _, _] rfl (Nat.le_of_ble_eq_true rfl) ?_
  refine v_aload_n dX3_kindAt_0 rfl ?_
  refine v_iload_n dX3_kindAt_1 rfl ?_
  refine v_iload_n dX3_kindAt_2 rfl ?_
  refine v_call2i lX3_31 kX3_hasAct (c_X3_hasAct hn hp h12) dX3_kindAt_3 rfl rfl Nat.zero_lt_one rfl (by decide) (by decide) (st8 rfl) ?_
  refine v_if_eq 20 dX3_kindAt_6 (by decide) (fun h_6 => absurd h_6 (by rw [hz, if_neg (nI_pos (by omega)), if_neg (nI_ge hi (by omega))]; decide)) (fun h_6 => ?_)
  refine v_aload_n dX3_kindAt_9 rfl ?_
  refine v_gr 0 fX3_17 dX3_kindAt_10 rfl rfl rfl Nat.zero_lt_one ?_
  refine v_iload_n dX3_kindAt_13 rfl ?_
  refine v_aaldG p rfl dX3_kindAt_14 Nat.zero_lt_one rfl (by omega) ?_
  refine v_iload_n dX3_kindAt_15 rfl ?_
  refine x_iald i (by decide) rfl dX3_kindAt_16 (by omega) rfl (by omega) ?_
  refine v_goto 21 dX3_kindAt_17 (by decide) ?_
  exact v_iret dX3_kindAt_21 ⟨rfl, rfl⟩
set_option maxHeartbeats 4000000 in
set_option maxRecDepth 100000 in
theorem c_X3_kindAt_out {a b : tH} {p n z i : Nat} (hn : a.1 1 0 3 = nI n) (hp : p < n) (h12 : n ≤ 12) (hz : a.1 2 0 p = nI z) (h20 : z ≤ 20) (hi : z ≤ i) (h31 : i < 2 ^ 31) : Ci yX3_kindAt cX3_kindAt 3 .int 2 [.inr (some (1, 0)), .inl (nI p), .inl (nI i)] (mix a b) ((-1)) (mix (a) b) := by
  refine Ct.of (by decide) [_, _, _] rfl (Nat.le_of_ble_eq_true rfl) ?_
  refine v_aload_n dX3_kindAt_0 rfl ?_
  refine v_iload_n dX3_kindAt_1 rfl ?_
  refine v_iload_n dX3_kindAt_2 rfl ?_
  refine v_call2i lX3_31 kX3_hasAct (c_X3_hasAct hn hp h12) dX3_kindAt_3 rfl rfl Nat.zero_lt_one rfl (by decide) (by decide) (st8 rfl) ?_
  refine v_if_eq 20 dX3_kindAt_6 (by decide) (fun h_6 => ?_) (fun h_6 => absurd (by rw [hz, if_neg (nI_pos (by omega)), if_pos (nI_le hi h31)]) h_6)
  refine v_iconst (-1) dX3_kindAt_20 (by decide) ?_
  exact v_iret dX3_kindAt_21 ⟨rfl, rfl⟩
set_option maxHeartbeats 4000000 in
set_option maxRecDepth 100000 in
theorem c_X3_operandAt_in {a b : tH} {p n z i : Nat} (hn : a.1 1 0 3 = nI n) (hp : p < n) (h12 : n ≤ 12) (hz : a.1 2 0 p = nI z) (h20 : z ≤ 20) (hi : i < z) : Ci yX3_operandAt cX3_operandAt 3 .int 2 [.inr (some (1, 0)), .inl (nI p), .inl (nI i)] (mix a b) (a.1 6 p i) (mix (a) b) := by
  refine Ct.of (by decide) [_, _, _] rfl (Nat.le_of_ble_eq_true rfl) ?_
  refine v_aload_n dX3_operandAt_0 rfl ?_
  refine v_iload_n dX3_operandAt_1 rfl ?_
  refine v_iload_n dX3_operandAt_2 rfl ?_
  refine v_call2i lX3_31 kX3_hasAct (c_X3_hasAct hn hp h12) dX3_operandAt_3 rfl rfl Nat.zero_lt_one rfl (by decide) (by decide) (st8 rfl) ?_
  refine v_if_eq 20 dX3_operandAt_6 (by decide) (fun h_6 => absurd h_6 (by rw [hz, if_neg (nI_pos (by omega)), if_neg (nI_ge hi (by omega))]; decide)) (fun h_6 => ?_)
  refine v_aload_n dX3_operandAt_9 rfl ?_
  refine v_gr 0 fX3_20 dX3_operandAt_10 rfl rfl rfl Nat.zero_lt_one ?_
  refine v_iload_n dX3_operandAt_13 rfl ?_
  refine v_aaldG p rfl dX3_operandAt_14 Nat.zero_lt_one rfl (by omega) ?_
  refine v_iload_n dX3_operandAt_15 rfl ?_
  refine x_iald i (by decide) rfl dX3_operandAt_16 (by omega) rfl (by omega) ?_
  refine v_goto 21 dX3_operandAt_17 (by decide) ?_
  exact v_iret dX3_operandAt_21 ⟨rfl, rfl⟩
set_option maxHeartbeats 4000000 in
set_option maxRecDepth 100000 in
theorem c_X3_operandAt_out {a b : tH} {p n z i : Nat} (hn : a.1 1 0 3 = nI n) (hp : p < n) (h12 : n ≤ 12) (hz : a.1 2 0 p = nI z) (h20 : z ≤ 20) (hi : z ≤ i) (h31 : i < 2 ^ 31) : Ci yX3_operandAt cX3_operandAt 3 .int 2 [.inr (some (1, 0)), .inl (nI p), .inl (nI i)] (mix a b) (0) (mix (a) b) := by
  refine Ct.of (by decide) [_, _, _] rfl (Nat.le_of_ble_eq_true rfl) ?_
  refine v_aload_n dX3_operandAt_0 rfl ?_
  refine v_iload_n dX3_operandAt_1 rfl ?_
  refine v_iload_n dX3_operandAt_2 rfl ?_
  refine v_call2i lX3_31 kX3_hasAct (c_X3_hasAct hn hp h12) dX3_operandAt_3 rfl rfl Nat.zero_lt_one rfl (by decide) (by decide) (st8 rfl) ?_
  refine v_if_eq 20 dX3_operandAt_6 (by decide) (fun h_6 => ?_) (fun h_6 => absurd (by rw [hz, if_neg (nI_pos (by omega)), if_pos (nI_le hi h31)]) h_6)
  refine v_iconst 0 dX3_operandAt_20 (by decide) ?_
  exact v_iret dX3_operandAt_21 ⟨rfl, rfl⟩
set_option maxHeartbeats 4000000 in
set_option maxRecDepth 100000 in
theorem c_X4_size {a b : tH}  : Ci yX4_size cX4_size 1 .int 0 [.inr (some (15, 0))] (mix a b) (a.1 15 0 2) (mix (a) b) := by
  refine Ct.of (by decide) [_] rfl (Nat.le_of_ble_eq_true rfl) ?_
  refine v_aload_n dX4_size_0 rfl ?_
  refine x_gi (by decide) fX4_18 dX4_size_1 rfl rfl Nat.zero_lt_one ?_
  exact v_iret dX4_size_4 ⟨rfl, rfl⟩
set_option maxHeartbeats 4000000 in
set_option maxRecDepth 100000 in
theorem c_X4_clear {a b : tH}  : Cn yX4_clear cX4_clear 1 0 [.inr (some (15, 0))] (mix a b) (mix (put a 15 0 2 0) b) := by
  refine Ct.of (by decide) [_] rfl (Nat.le_of_ble_eq_true rfl) ?_
  refine v_aload_n dX4_clear_0 rfl ?_
  refine v_iconst 0 dX4_clear_1 (by decide) ?_
  refine x_pi (by decide) fX4_18 dX4_clear_2 rfl rfl Nat.zero_lt_one ?_
  exact v_vret dX4_clear_5 ⟨rfl, rfl⟩
set_option maxHeartbeats 4000000 in
set_option maxRecDepth 100000 in
theorem c_X4_add {a b : tH} {n : Nat} {x y : Int32} (hn : a.1 15 0 2 = nI n) (h100 : n ≤ 100) : Cn yX4_add cX4_add 3 0 [.inr (some (15, 0)), .inl x, .inl y] (mix a b) (mix (if 100 ≤ a.1 15 0 2 then a else put (put (put a 16 0 n x) 17 0 n y) 15 0 2 (a.1 15 0 2 + 1)) b) := by
  refine Ct.of (by decide) [_, _, _] rfl (Nat.le_of_ble_eq_true rfl) ?_
  refine v_aload_n dX4_add_0 rfl ?_
  refine x_gi (by decide) fX4_18 dX4_add_1 rfl rfl Nat.zero_lt_one ?_
  refine v_bipush 100 dX4_add_4 (by decide) ?_
  refine v_icmp_ge 39 dX4_add_6 (by decide) (fun h_6 => ?_) (fun h_6 => ?_)
  · exact v_vret dX4_add_39 ⟨rfl, by simp only [h_6, if_true, if_false]; try rfl⟩
  · refine v_aload_n dX4_add_9 rfl ?_
    refine v_gr 0 fX4_9 dX4_add_10 rfl rfl rfl Nat.zero_lt_one ?_
    refine v_aload_n dX4_add_13 rfl ?_
    refine x_gi (by decide) fX4_18 dX4_add_14 rfl rfl Nat.zero_lt_one ?_
    refine v_iload_n dX4_add_17 rfl ?_
    refine x_iast n (by decide) rfl dX4_add_18 Nat.zero_lt_one hn (nlt_of hn (by omega) (by decide) h_6) ?_
    refine v_aload_n dX4_add_19 rfl ?_
    refine v_gr 0 fX4_15 dX4_add_20 rfl rfl rfl Nat.zero_lt_one ?_
    refine v_aload_n dX4_add_23 rfl ?_
    refine x_gi (by decide) fX4_18 dX4_add_24 rfl rfl Nat.zero_lt_one ?_
    refine v_iload_n dX4_add_27 rfl ?_
    refine x_iast n (by decide) rfl dX4_add_28 Nat.zero_lt_one hn (nlt_of hn (by omega) (by decide) h_6) ?_
    refine v_aload_n dX4_add_29 rfl ?_
    refine v_dup dX4_add_30 ?_
    refine x_gi (by decide) fX4_18 dX4_add_31 rfl rfl Nat.zero_lt_one ?_
    refine v_iconst 1 dX4_add_34 (by decide) ?_
    refine v_iadd dX4_add_35 ?_
    refine x_pi (by decide) fX4_18 dX4_add_36 rfl rfl Nat.zero_lt_one ?_
    exact v_vret dX4_add_39 ⟨rfl, by simp only [h_6, if_true, if_false]; try rfl⟩
set_option maxHeartbeats 4000000 in
set_option maxRecDepth 100000 in
theorem c_X4_numberAt {a b : tH} {k n : Nat} (hn : a.1 15 0 2 = nI n) (hk : k < n) (h100 : n ≤ 100) : Ci yX4_numberAt cX4_numberAt 2 .int 0 [.inr (some (15, 0)), .inl (nI k)] (mix a b) (a.1 16 0 k) (mix (a) b) := by
  refine Ct.of (by decide) [_, _] rfl (Nat.le_of_ble_eq_true rfl) ?_
  refine v_iload_n dX4_numberAt_0 rfl ?_
  refine v_if_lt 21 dX4_numberAt_1 (by decide) (fun h_1 => absurd h_1 (nI_pos (by omega))) (fun h_1 => ?_)
  refine v_iload_n dX4_numberAt_4 rfl ?_
  refine v_aload_n dX4_numberAt_5 rfl ?_
  refine x_gi (by decide) fX4_18 dX4_numberAt_6 rfl rfl Nat.zero_lt_one ?_
  refine v_icmp_ge 21 dX4_numberAt_9 (by decide) (fun h_9 => absurd h_9 (by rw [hn]; exact nI_ge hk (by omega))) (fun h_9 => ?_)
  refine v_aload_n dX4_numberAt_12 rfl ?_
  refine v_gr 0 fX4_9 dX4_numberAt_13 rfl rfl rfl Nat.zero_lt_one ?_
  refine v_iload_n dX4_numberAt_16 rfl ?_
  refine x_iald k (by decide) rfl dX4_numberAt_17 Nat.zero_lt_one rfl (by omega) ?_
  refine v_goto 22 dX4_numberAt_18 (by decide) ?_
  exact v_iret dX4_numberAt_22 ⟨rfl, rfl⟩
set_option maxHeartbeats 4000000 in
set_option maxRecDepth 100000 in
theorem c_X4_registerAt {a b : tH} {k n : Nat} (hn : a.1 15 0 2 = nI n) (hk : k < n) (h100 : n ≤ 100) : Ci yX4_registerAt cX4_registerAt 2 .int 0 [.inr (some (15, 0)), .inl (nI k)] (mix a b) (a.1 17 0 k) (mix (a) b) := by
  refine Ct.of (by decide) [_, _] rfl (Nat.le_of_ble_eq_true rfl) ?_
  refine v_iload_n dX4_registerAt_0 rfl ?_
  refine v_if_lt 21 dX4_registerAt_1 (by decide) (fun h_1 => absurd h_1 (nI_pos (by omega))) (fun h_1 => ?_)
  refine v_iload_n dX4_registerAt_4 rfl ?_
  refine v_aload_n dX4_registerAt_5 rfl ?_
  refine x_gi (by decide) fX4_18 dX4_registerAt_6 rfl rfl Nat.zero_lt_one ?_
  refine v_icmp_ge 21 dX4_registerAt_9 (by decide) (fun h_9 => absurd h_9 (by rw [hn]; exact nI_ge hk (by omega))) (fun h_9 => ?_)
  refine v_aload_n dX4_registerAt_12 rfl ?_
  refine v_gr 0 fX4_15 dX4_registerAt_13 rfl rfl rfl Nat.zero_lt_one ?_
  refine v_iload_n dX4_registerAt_16 rfl ?_
  refine x_iald k (by decide) rfl dX4_registerAt_17 Nat.zero_lt_one rfl (by omega) ?_
  refine v_goto 22 dX4_registerAt_18 (by decide) ?_
  exact v_iret dX4_registerAt_22 ⟨rfl, rfl⟩
end
section
/-! The first of those with the least key; how many there are -/
def nv (x : Int32) : Nat := x.toNatClampNeg
theorem nv_nI {n : Nat} (h : n < 2 ^ 31) : nv (nI n) = n := nI_clamp h
def enc (r : Option Nat) : Int32 := match r with
  | none => -1
  | some m => nI m
def mins (P : Nat → Bool) (key : Nat → Int32) : Nat → Option Nat
  | 0 => none
  | n + 1 => match mins P key n with
    | none => if P n then some n else none
    | some m => if P n && decide (key n < key m) then some n else some m
theorem mins_lt {P : Nat → Bool} {key : Nat → Int32} : ∀ {n m : Nat}, mins P key n = some m → m < n ∧ P m = true
  | 0, m, h => by cases h
  | n + 1, m, h => by
    unfold mins at h
    cases e : mins P key n with
    | none =>
      rw [e] at h
      dsimp only at h
      split at h
      · rename_i hp
        cases h
        exact ⟨Nat.lt_succ_self n, hp⟩
      · cases h
    | some j =>
      rw [e] at h
      dsimp only at h
      have ih := mins_lt e
      split at h
      · rename_i hp
        cases h
        exact ⟨Nat.lt_succ_self n, (Bool.and_eq_true_iff.mp hp).1⟩
      · cases h
        exact ⟨Nat.lt_succ_of_lt ih.1, ih.2⟩
theorem mins_none {P : Nat → Bool} {key : Nat → Int32} : ∀ {n : Nat}, mins P key n = none → ∀ j, j < n → P j = false
  | 0, _, j, hj => absurd hj (Nat.not_lt_zero j)
  | n + 1, h, j, hj => by
    unfold mins at h
    cases e : mins P key n with
    | none =>
      rw [e] at h
      dsimp only at h
      split at h
      · cases h
      · rename_i hp
        rcases Nat.lt_succ_iff_lt_or_eq.mp hj with q | q
        · exact mins_none e j q
        · subst q
          cases hb : P j with
          | true => exact absurd hb hp
          | false => rfl
    | some i =>
      rw [e] at h
      dsimp only at h
      split at h <;> cases h
/-- the key of the one found is no greater than any, and less than those of smaller numbers -/
theorem mins_le {P : Nat → Bool} {key : Nat → Int32} : ∀ {n m : Nat}, mins P key n = some m → ∀ j, j < n → P j = true → key m ≤ key j ∧ (j < m → key m < key j)
  | 0, m, h, j, hj, _ => by cases h
  | n + 1, m, h, j, hj, hp => by
    unfold mins at h
    cases e : mins P key n with
    | none =>
      rw [e] at h
      dsimp only at h
      split at h
      · cases h
        rcases Nat.lt_succ_iff_lt_or_eq.mp hj with q | q
        · rw [mins_none e j q] at hp; cases hp
        · subst q; exact ⟨Int32.le_refl _, fun z => absurd z (Nat.lt_irrefl _)⟩
      · cases h
    | some i =>
      rw [e] at h
      dsimp only at h
      have ih := mins_le e
      split at h
      · rename_i hq
        cases h
        have hk := of_decide_eq_true (Bool.and_eq_true_iff.mp hq).2
        rcases Nat.lt_succ_iff_lt_or_eq.mp hj with q | q
        · have h1 := (ih j q hp).1
          exact ⟨Int32.le_of_lt (Int32.lt_of_lt_of_le hk h1), fun _ => Int32.lt_of_lt_of_le hk h1⟩
        · subst q; exact ⟨Int32.le_refl _, fun z => absurd z (Nat.lt_irrefl _)⟩
      · rename_i hq
        cases h
        rcases Nat.lt_succ_iff_lt_or_eq.mp hj with q | q
        · exact ih j q hp
        · subst q
          have hk : ¬ key j < key m := fun z => hq (Bool.and_eq_true_iff.mpr ⟨hp, decide_eq_true z⟩)
          exact ⟨Int32.not_lt.mp hk, fun z => absurd z (Nat.not_lt.mpr (Nat.le_of_lt (mins_lt e).1))⟩
theorem mins_some {P : Nat → Bool} {key : Nat → Int32} {n m : Nat} (hm : m < n) (hp : P m = true) (hl : ∀ j, j < n → P j = true → key m ≤ key j ∧ (j < m → key m < key j)) : mins P key n = some m := by
  cases e : mins P key n with
  | none => rw [mins_none e m hm] at hp; cases hp
  | some i =>
    have h1 := mins_lt e
    have h2 := mins_le e m hm hp
    have h3 := hl i h1.1 h1.2
    rcases Nat.lt_trichotomy i m with q | q | q
    · exact absurd (h3.2 q) (Int32.not_lt.mpr h2.1)
    · rw [q]
    · exact absurd (h2.2 q) (Int32.not_lt.mpr h3.1)
theorem mins_no {P : Nat → Bool} {key : Nat → Int32} {n : Nat} (h : ∀ j, j < n → P j = false) : mins P key n = none := by
  cases e : mins P key n with
  | none => rfl
  | some i =>
    have h1 := mins_lt e
    rw [h i h1.1] at h1
    cases h1.2
theorem mins_congr {P P' : Nat → Bool} {key key' : Nat → Int32} {n : Nat} (hP : ∀ j, j < n → P' j = P j) (hk : ∀ j, j < n → P j = true → key' j = key j) : mins P' key' n = mins P key n := by
  cases e : mins P key n with
  | none => exact mins_no (fun j hj => by rw [hP j hj]; exact mins_none e j hj)
  | some i =>
    have h1 := mins_lt e
    refine mins_some h1.1 (by rw [hP i h1.1]; exact h1.2) (fun j hj hp => ?_)
    rw [hP j hj] at hp
    rw [hk i h1.1 h1.2, hk j hj hp]
    exact mins_le e j hj hp
def cnt (P : Nat → Bool) : Nat → Nat
  | 0 => 0
  | n + 1 => cnt P n + (if P n then 1 else 0)
theorem cnt_le (P : Nat → Bool) : ∀ n : Nat, cnt P n ≤ n
  | 0 => Nat.le_refl 0
  | n + 1 => by
    have := cnt_le P n
    unfold cnt
    split <;> omega
theorem cnt_congr {P P' : Nat → Bool} : ∀ {n : Nat}, (∀ j, j < n → P' j = P j) → cnt P' n = cnt P n
  | 0, _ => rfl
  | n + 1, h => by
    unfold cnt
    rw [cnt_congr (fun j hj => h j (Nat.lt_succ_of_lt hj)), h n (Nat.lt_succ_self n)]
theorem cnt_pos {P : Nat → Bool} : ∀ {n j : Nat}, j < n → P j = true → 0 < cnt P n
  | 0, j, hj, _ => absurd hj (Nat.not_lt_zero j)
  | n + 1, j, hj, hp => by
    unfold cnt
    rcases Nat.lt_succ_iff_lt_or_eq.mp hj with q | q
    · have := cnt_pos q hp; omega
    · subst q; rw [if_pos hp]; omega
theorem cnt_off {P P' : Nat → Bool} {t : Nat} (hp : P t = true) (hp' : P' t = false) : ∀ {n : Nat}, t < n → (∀ j, j < n → j ≠ t → P' j = P j) → cnt P n = cnt P' n + 1
  | 0, ht, _ => absurd ht (Nat.not_lt_zero t)
  | n + 1, ht, h => by
    unfold cnt
    rcases Nat.lt_succ_iff_lt_or_eq.mp ht with q | q
    · rw [cnt_off hp hp' q (fun j hj hn => h j (Nat.lt_succ_of_lt hj) hn), h n (Nat.lt_succ_self n) (by omega)]
      omega
    · subst q
      rw [cnt_congr (fun j hj => h j (Nat.lt_succ_of_lt hj) (by omega)), hp, hp']
      simp
theorem mins_of_cnt {P : Nat → Bool} {key : Nat → Int32} {n : Nat} (h : cnt P n = 0) : mins P key n = none :=
  mins_no (fun j hj => by
    cases e : P j with
    | false => rfl
    | true => exact absurd (cnt_pos hj e) (by omega))
theorem enc_neg {r : Option Nat} (hr : ∀ m, r = some m → m < 2 ^ 31) : (enc r < 0) ↔ r = none := by
  cases r with
  | none => exact ⟨fun _ => rfl, fun _ => by decide⟩
  | some m => exact ⟨fun h => absurd h (nI_pos (hr m rfl)), fun h => by cases h⟩
theorem mins_step0 {P : Nat → Bool} {key : Nat → Int32} {k : Nat} (hp : P k = false) : mins P key (k + 1) = mins P key k := by
  conv => lhs; unfold mins
  cases e : mins P key k <;> simp [hp]
theorem mins_stepN {P : Nat → Bool} {key : Nat → Int32} {k : Nat} (h : mins P key k = none) (hp : P k = true) : mins P key (k + 1) = some k := by
  conv => lhs; unfold mins
  rw [h]; simp [hp]
theorem mins_stepS {P : Nat → Bool} {key : Nat → Int32} {k j : Nat} (h : mins P key k = some j) (hp : P k = true) (hk : ¬ key j ≤ key k) : mins P key (k + 1) = some k := by
  conv => lhs; unfold mins
  rw [h]; simp [hp, Int32.not_le.mp hk]
theorem mins_stepK {P : Nat → Bool} {key : Nat → Int32} {k j : Nat} (h : mins P key k = some j) (hk : key j ≤ key k) : mins P key (k + 1) = mins P key k := by
  conv => lhs; unfold mins
  rw [h]; simp [Int32.not_lt.mpr hk]
theorem inc1 (k : Nat) : nI k + Int32.ofInt 1 = nI (k + 1) := nI_1 k
end
section
/-! Leaves of the reference, as its code says it -/
def mEnq (b : tH) (t : Nat) : tH := put (put (put b 24 0 t 0) 38 0 (nv (b.1 20 0 27)) (nI t)) 20 0 27 (b.1 20 0 27 + 1)
def mGo (b : tH) (t : Nat) : tH := mEnq (put (put b 26 0 t (b.1 26 0 t + 1)) 36 0 t (-1)) t
def mLvL (t : Nat) : Nat → Nat → Nat → tH → tH
  | 0, n, _, b => put b 20 0 27 (nI n)
  | m + 1, n, k, b => if b.1 38 0 k = nI t then mLvL t m n (k + 1) b else mLvL t m (n + 1) (k + 1) (put b 38 0 n (b.1 38 0 k))
def mLeave (b : tH) (t : Nat) : tH := mLvL t (nv (b.1 20 0 27)) 0 0 b
def mFirst (b : tH) (T : Nat) (x w : Int32) : Option Nat := mins (fun t => decide (b.1 24 0 t = w) && decide (b.1 36 0 t = x)) (fun t => b.1 37 0 t) T
def mNew (b : tH) (t : Nat) (p r : Int32) : tH := mEnq (put (put (put (put (put (put (put (put (put (put (put (put b 24 0 t 0) 25 0 t p) 26 0 t 0) 27 0 t r) 28 0 t 0) 30 0 t 0) 31 0 t 0) 33 0 t 0) 34 0 t 0) 35 0 t (-3)) 36 0 t (-1)) 20 0 11 (nI (t + 1))) t

set_option maxHeartbeats 4000000 in
set_option maxRecDepth 100000 in
theorem c_X7_thrown {a b : tH}  : Ci yX7_thrown cX7_thrown 1 .int 0 [.inr (some (20, 0))] (mix a b) (b.1 20 0 0) (mix a (b)) := by
  refine Ct.of (by decide) [_] rfl (Nat.le_of_ble_eq_true rfl) ?_
  refine v_aload_n dX7_thrown_0 rfl ?_
  refine m_gi (by decide) fX7_77 dX7_thrown_1 rfl rfl Nat.zero_lt_one ?_
  exact v_iret dX7_thrown_4 ⟨rfl, rfl⟩
set_option maxHeartbeats 4000000 in
set_option maxRecDepth 100000 in
theorem c_X7_in {a b : tH} {x y z : Int32} : Ci yX7_in cX7_in 3 .boolean 0 [.inl x, .inl y, .inl z] (mix a b) (if x < y then 0 else if z < x then 0 else 1) (mix a (b)) := by
  refine Ct.of (by decide) [_, _, _] rfl (Nat.le_of_ble_eq_true rfl) ?_
  refine v_iload_n dX7_in_0 rfl ?_
  refine v_iload_n dX7_in_1 rfl ?_
  refine v_icmp_lt 14 dX7_in_2 (by decide) (fun h_2 => ?_) (fun h_2 => ?_)
  · refine v_iconst 0 dX7_in_14 (by decide) ?_
    exact v_zret dX7_in_15 (by decide) ⟨by simp only [h_2, if_true, if_false], rfl⟩
  · refine v_iload_n dX7_in_5 rfl ?_
    refine v_iload_n dX7_in_6 rfl ?_
    refine v_icmp_gt 14 dX7_in_7 (by decide) (fun h_7 => ?_) (fun h_7 => ?_)
    · refine v_iconst 0 dX7_in_14 (by decide) ?_
      exact v_zret dX7_in_15 (by decide) ⟨by simp only [h_2, h_7, if_true, if_false], rfl⟩
    · refine v_iconst 1 dX7_in_10 (by decide) ?_
      refine v_goto 15 dX7_in_11 (by decide) ?_
      exact v_zret dX7_in_15 (by decide) ⟨by simp only [h_2, h_7, if_true, if_false], rfl⟩
set_option maxHeartbeats 4000000 in
set_option maxRecDepth 100000 in
theorem c_X7_enqueue {a b : tH} {t q : Nat} (ht : t < 24) (hq : b.1 20 0 27 = nI q) (h24 : q ≤ 24) : Cn yX7_enqueue cX7_enqueue 2 0 [.inr (some (20, 0)), .inl (nI t)] (mix a b) (mix a (mEnq b t)) := by
  refine Ct.of (by decide) [_, _] rfl (Nat.le_of_ble_eq_true rfl) ?_
  refine v_aload_n dX7_enqueue_0 rfl ?_
  refine v_gr 0 fX7_19 dX7_enqueue_1 rfl rfl rfl Nat.zero_lt_one ?_
  refine v_iload_n dX7_enqueue_4 rfl ?_
  refine v_iconst 0 dX7_enqueue_5 (by decide) ?_
  refine m_iast t (by decide) rfl dX7_enqueue_6 Nat.zero_lt_one rfl ht ?_
  refine v_aload_n dX7_enqueue_7 rfl ?_
  refine v_gr 0 fX7_62 dX7_enqueue_8 rfl rfl rfl Nat.zero_lt_one ?_
  refine v_aload_n dX7_enqueue_11 rfl ?_
  refine m_gi (by decide) fX7_99 dX7_enqueue_12 rfl rfl Nat.zero_lt_one ?_
  refine v_iload_n dX7_enqueue_15 rfl ?_
  refine m_iast q (by decide) rfl dX7_enqueue_16 Nat.zero_lt_one hq (by omega) ?_
  refine v_aload_n dX7_enqueue_17 rfl ?_
  refine v_dup dX7_enqueue_18 ?_
  refine m_gk (by exact hq) (by decide) fX7_99 dX7_enqueue_19 rfl rfl Nat.zero_lt_one ?_
  refine v_iconst 1 dX7_enqueue_22 (by decide) ?_
  refine v_iadd dX7_enqueue_23 ?_
  refine m_pi (by decide) fX7_99 dX7_enqueue_24 rfl rfl Nat.zero_lt_one ?_
  exact v_vret dX7_enqueue_27 ⟨rfl, by unfold mEnq; rw [hq, nv_nI (by omega)]⟩
set_option maxHeartbeats 4000000 in
set_option maxRecDepth 100000 in
theorem c_X7_goesOn {a b : tH} {t q : Nat} (ht : t < 24) (hq : b.1 20 0 27 = nI q) (h24 : q ≤ 24) : Cn yX7_goesOn cX7_goesOn 2 1 [.inr (some (20, 0)), .inl (nI t)] (mix a b) (mix a (mGo b t)) := by
  refine Ct.of (by decide) [_, _] rfl (Nat.le_of_ble_eq_true rfl) ?_
  refine v_aload_n dX7_goesOn_0 rfl ?_
  refine v_gr 0 fX7_25 dX7_goesOn_1 rfl rfl rfl Nat.zero_lt_one ?_
  refine v_iload_n dX7_goesOn_4 rfl ?_
  refine v_dup2 dX7_goesOn_5 ?_
  refine m_iald t (by decide) rfl dX7_goesOn_6 Nat.zero_lt_one rfl ht ?_
  refine v_iconst 1 dX7_goesOn_7 (by decide) ?_
  refine v_iadd dX7_goesOn_8 ?_
  refine m_iast t (by decide) rfl dX7_goesOn_9 Nat.zero_lt_one rfl ht ?_
  refine v_aload_n dX7_goesOn_10 rfl ?_
  refine v_gr 0 fX7_56 dX7_goesOn_11 rfl rfl rfl Nat.zero_lt_one ?_
  refine v_iload_n dX7_goesOn_14 rfl ?_
  refine v_iconst (-1) dX7_goesOn_15 (by decide) ?_
  refine m_iast t (by decide) rfl dX7_goesOn_16 Nat.zero_lt_one rfl ht ?_
  refine v_aload_n dX7_goesOn_17 rfl ?_
  refine v_iload_n dX7_goesOn_18 rfl ?_
  refine v_call1n lX7_95 kX7_enqueue (c_X7_enqueue (q := q) ht (by exact hq) h24) dX7_goesOn_19 rfl rfl Nat.zero_lt_one rfl (by decide) (by decide) (st8 rfl) ?_
  exact v_vret dX7_goesOn_22 ⟨rfl, rfl⟩
set_option maxHeartbeats 4000000 in
set_option maxRecDepth 100000 in
theorem l_X7_leaveQueue {a : tH} {t : Nat} : ∀ (m n k q : Nat) (b : tH), q = k + m → n ≤ k → q ≤ 25 → b.1 20 0 27 = nI q → Vw yX7_leaveQueue.cls cX7_leaveQueue 4 none 0 (fun r h' => r = none ∧ h' = mix a (mLvL t m n k b)) 4 [some (.inr (some (20, 0))), some (.inl (nI t)), some (.inl (nI n)), some (.inl (nI k))] [] (mix a b) := by
  intro m
  induction m with
  | zero =>
    intro n k q b hk hn h25 hq
    obtain rfl : q = k := hk
    refine v_iload_n dX7_leaveQueue_4 rfl ?_
    refine v_aload_n dX7_leaveQueue_5 rfl ?_
    refine m_gk hq (by decide) fX7_99 dX7_leaveQueue_6 rfl rfl Nat.zero_lt_one ?_
    refine v_icmp_ge 43 dX7_leaveQueue_9 (by decide) (fun h_9 => ?_) (fun h_9 => absurd (Int32.le_refl _) h_9)
    refine v_aload_n dX7_leaveQueue_43 rfl ?_
    refine v_iload_n dX7_leaveQueue_44 rfl ?_
    refine m_pi (by decide) fX7_99 dX7_leaveQueue_45 rfl rfl Nat.zero_lt_one ?_
    exact v_vret dX7_leaveQueue_48 ⟨rfl, rfl⟩
  | succ m ih =>
    intro n k q b hk hn h25 hq
    refine v_iload_n dX7_leaveQueue_4 rfl ?_
    refine v_aload_n dX7_leaveQueue_5 rfl ?_
    refine m_gk hq (by decide) fX7_99 dX7_leaveQueue_6 rfl rfl Nat.zero_lt_one ?_
    refine v_icmp_ge 43 dX7_leaveQueue_9 (by decide) (fun h_9 => absurd h_9 (nI_ge (by omega) (by omega))) (fun h_9 => ?_)
    refine v_aload_n dX7_leaveQueue_12 rfl ?_
    refine v_gr 0 fX7_62 dX7_leaveQueue_13 rfl rfl rfl Nat.zero_lt_one ?_
    refine v_iload_n dX7_leaveQueue_16 rfl ?_
    refine m_iald k (by decide) rfl dX7_leaveQueue_17 Nat.zero_lt_one rfl (by omega) ?_
    refine v_iload_n dX7_leaveQueue_18 rfl ?_
    refine v_icmp_eq 37 dX7_leaveQueue_19 (by decide) (fun h_19 => ?_) (fun h_19 => ?_)
    · refine v_iinc [_, _, _, _] dX7_leaveQueue_37 rfl (by first | exact inc1 _ | rfl) rfl (by decide) ?_
      refine v_goto 4 dX7_leaveQueue_40 (by decide) ?_
      first
        | (have hh : b.1 38 0 k = nI t := h_19
           have ee : mLvL t (m + 1) n k b = mLvL t m n (k + 1) b := if_pos hh
           rw [ee]
           exact ih n (k + 1) q b (by omega) (by omega) h25 hq)
        | (have hh : ¬ b.1 38 0 k = nI t := h_19
           have ee : mLvL t (m + 1) n k b = mLvL t m (n + 1) (k + 1) (put b 38 0 n (b.1 38 0 k)) := if_neg hh
           rw [ee]
           exact ih (n + 1) (k + 1) q (put b 38 0 n (b.1 38 0 k)) (by omega) (by omega) h25 hq)
    · refine v_aload_n dX7_leaveQueue_22 rfl ?_
      refine v_gr 0 fX7_62 dX7_leaveQueue_23 rfl rfl rfl Nat.zero_lt_one ?_
      refine v_iload_n dX7_leaveQueue_26 rfl ?_
      refine v_aload_n dX7_leaveQueue_27 rfl ?_
      refine v_gr 0 fX7_62 dX7_leaveQueue_28 rfl rfl rfl Nat.zero_lt_one ?_
      refine v_iload_n dX7_leaveQueue_31 rfl ?_
      refine m_iald k (by decide) rfl dX7_leaveQueue_32 Nat.zero_lt_one rfl (by omega) ?_
      refine m_iast n (by decide) rfl dX7_leaveQueue_33 Nat.zero_lt_one rfl (by omega) ?_
      refine v_iinc [_, _, _, _] dX7_leaveQueue_34 rfl (by first | exact inc1 _ | rfl) rfl (by decide) ?_
      refine v_iinc [_, _, _, _] dX7_leaveQueue_37 rfl (by first | exact inc1 _ | rfl) rfl (by decide) ?_
      refine v_goto 4 dX7_leaveQueue_40 (by decide) ?_
      first
        | (have hh : b.1 38 0 k = nI t := h_19
           have ee : mLvL t (m + 1) n k b = mLvL t m n (k + 1) b := if_pos hh
           rw [ee]
           exact ih n (k + 1) q b (by omega) (by omega) h25 hq)
        | (have hh : ¬ b.1 38 0 k = nI t := h_19
           have ee : mLvL t (m + 1) n k b = mLvL t m (n + 1) (k + 1) (put b 38 0 n (b.1 38 0 k)) := if_neg hh
           rw [ee]
           exact ih (n + 1) (k + 1) q (put b 38 0 n (b.1 38 0 k)) (by omega) (by omega) h25 hq)
set_option maxHeartbeats 4000000 in
set_option maxRecDepth 100000 in
theorem c_X7_leaveQueue {a b : tH} {t q : Nat} (hq : b.1 20 0 27 = nI q) (h25 : q ≤ 25) : Cn yX7_leaveQueue cX7_leaveQueue 4 0 [.inr (some (20, 0)), .inl (nI t)] (mix a b) (mix a (mLeave b t)) := by
  refine Ct.of (by decide) [_, _, _, _] rfl (Nat.le_of_ble_eq_true rfl) ?_
  refine v_iconst 0 dX7_leaveQueue_0 (by decide) ?_
  refine v_istore_n [_, _, _, _] dX7_leaveQueue_1 rfl (by decide) ?_
  refine v_iconst 0 dX7_leaveQueue_2 (by decide) ?_
  refine v_istore_n [_, _, _, _] dX7_leaveQueue_3 rfl (by decide) ?_
  have e1 : mLeave b t = mLvL t q 0 0 b := by unfold mLeave; rw [hq, nv_nI (by omega)]
  rw [e1]
  exact l_X7_leaveQueue q 0 0 q b (by omega) (by omega) h25 hq
set_option maxHeartbeats 4000000 in
set_option maxRecDepth 100000 in
theorem l_X7_firstAt {a b : tH} {x w : Int32} {T : Nat} (hT : b.1 20 0 11 = nI T) (h24 : T ≤ 24) : ∀ (m k : Nat), T = k + m → Vw yX7_firstAt.cls cX7_firstAt 5 (some .int) 0 (fun r h' => r = some (.inl (enc (mFirst b T x w))) ∧ h' = mix a b) 5 [some (.inr (some (20, 0))), some (.inl x), some (.inl w), some (.inl (enc (mins (fun t => decide (b.1 24 0 t = w) && decide (b.1 36 0 t = x)) (fun t => b.1 37 0 t) k))), some (.inl (nI k))] [] (mix a b) := by
  intro m
  induction m with
  | zero =>
    intro k hk
    obtain rfl : T = k := hk
    refine v_iload dX7_firstAt_5 rfl ?_
    refine v_aload_n dX7_firstAt_7 rfl ?_
    refine m_gk hT (by decide) fX7_92 dX7_firstAt_8 rfl rfl Nat.zero_lt_one ?_
    refine v_icmp_ge 69 dX7_firstAt_11 (by decide) (fun h_11 => ?_) (fun h_11 => absurd (Int32.le_refl _) h_11)
    refine v_iload_n dX7_firstAt_69 rfl ?_
    exact v_iret dX7_firstAt_70 ⟨rfl, rfl⟩
  | succ m ih =>
    intro k hk
    have hb : ∀ j, mins (fun t => decide (b.1 24 0 t = w) && decide (b.1 36 0 t = x)) (fun t => b.1 37 0 t) k = some j → j < 2 ^ 31 := fun j hj => by have := (mins_lt hj).1; omega
    refine v_iload dX7_firstAt_5 rfl ?_
    refine v_aload_n dX7_firstAt_7 rfl ?_
    refine m_gk hT (by decide) fX7_92 dX7_firstAt_8 rfl rfl Nat.zero_lt_one ?_
    refine v_icmp_ge 69 dX7_firstAt_11 (by decide) (fun h_11 => absurd h_11 (nI_ge (by omega) (by omega))) (fun h_11 => ?_)
    refine v_aload_n dX7_firstAt_14 rfl ?_
    refine v_gr 0 fX7_19 dX7_firstAt_15 rfl rfl rfl Nat.zero_lt_one ?_
    refine v_iload dX7_firstAt_18 rfl ?_
    refine m_iald k (by decide) rfl dX7_firstAt_20 Nat.zero_lt_one rfl (by omega) ?_
    refine v_iload_n dX7_firstAt_21 rfl ?_
    refine v_icmp_ne 61 dX7_firstAt_22 (by decide) (fun h_22 => ?_) (fun h_22 => ?_)
    · refine v_iload_n dX7_firstAt_61 rfl ?_
      refine v_istore_n [_, _, _, _, _] dX7_firstAt_62 rfl (by decide) ?_
      refine v_iinc [_, _, _, _, _] dX7_firstAt_63 rfl (by first | exact inc1 _ | rfl) rfl (by decide) ?_
      refine v_goto 5 dX7_firstAt_66 (by decide) ?_
      have q := ih (k + 1) (by omega)
      rw [mins_step0 (by simp only [h_22, decide_false, Bool.false_and])] at q
      exact q
    · refine v_aload_n dX7_firstAt_25 rfl ?_
      refine v_gr 0 fX7_56 dX7_firstAt_26 rfl rfl rfl Nat.zero_lt_one ?_
      refine v_iload dX7_firstAt_29 rfl ?_
      refine m_iald k (by decide) rfl dX7_firstAt_31 Nat.zero_lt_one rfl (by omega) ?_
      refine v_iload_n dX7_firstAt_32 rfl ?_
      refine v_icmp_ne 61 dX7_firstAt_33 (by decide) (fun h_33 => ?_) (fun h_33 => ?_)
      · refine v_iload_n dX7_firstAt_61 rfl ?_
        refine v_istore_n [_, _, _, _, _] dX7_firstAt_62 rfl (by decide) ?_
        refine v_iinc [_, _, _, _, _] dX7_firstAt_63 rfl (by first | exact inc1 _ | rfl) rfl (by decide) ?_
        refine v_goto 5 dX7_firstAt_66 (by decide) ?_
        have q := ih (k + 1) (by omega)
        rw [mins_step0 (by simp only [h_33, decide_false, Bool.and_false])] at q
        exact q
      · refine v_iload_n dX7_firstAt_36 rfl ?_
        refine v_if_lt 56 dX7_firstAt_37 (by decide) (fun h_37 => ?_) (fun h_37 => ?_)
        · have hj := (enc_neg hb).mp h_37
          refine v_iload dX7_firstAt_56 rfl ?_
          refine v_goto 62 dX7_firstAt_58 (by decide) ?_
          refine v_istore_n [_, _, _, _, _] dX7_firstAt_62 rfl (by decide) ?_
          refine v_iinc [_, _, _, _, _] dX7_firstAt_63 rfl (by first | exact inc1 _ | rfl) rfl (by decide) ?_
          refine v_goto 5 dX7_firstAt_66 (by decide) ?_
          have q := ih (k + 1) (by omega)
          rw [mins_stepN hj (by simp only [h_22, h_33, decide_true, Bool.and_self])] at q
          exact q
        · obtain ⟨j, hj⟩ : ∃ j, mins (fun t => decide (b.1 24 0 t = w) && decide (b.1 36 0 t = x)) (fun t => b.1 37 0 t) k = some j := by
            cases e : mins (fun t => decide (b.1 24 0 t = w) && decide (b.1 36 0 t = x)) (fun t => b.1 37 0 t) k with
            | none => exact absurd ((enc_neg hb).mpr e) h_37
            | some j => exact ⟨j, rfl⟩
          refine v_aload_n dX7_firstAt_40 rfl ?_
          refine v_gr 0 fX7_59 dX7_firstAt_41 rfl rfl rfl Nat.zero_lt_one ?_
          refine v_iload dX7_firstAt_44 rfl ?_
          refine m_iald k (by decide) rfl dX7_firstAt_46 Nat.zero_lt_one rfl (by omega) ?_
          refine v_aload_n dX7_firstAt_47 rfl ?_
          refine v_gr 0 fX7_59 dX7_firstAt_48 rfl rfl rfl Nat.zero_lt_one ?_
          refine v_iload_n dX7_firstAt_51 rfl ?_
          refine m_iald j (by decide) rfl dX7_firstAt_52 Nat.zero_lt_one (by rw [hj]; rfl) (by have := (mins_lt hj).1; omega) ?_
          refine v_icmp_ge 61 dX7_firstAt_53 (by decide) (fun h_53 => ?_) (fun h_53 => ?_)
          · refine v_iload_n dX7_firstAt_61 rfl ?_
            refine v_istore_n [_, _, _, _, _] dX7_firstAt_62 rfl (by decide) ?_
            refine v_iinc [_, _, _, _, _] dX7_firstAt_63 rfl (by first | exact inc1 _ | rfl) rfl (by decide) ?_
            refine v_goto 5 dX7_firstAt_66 (by decide) ?_
            have q := ih (k + 1) (by omega)
            rw [mins_stepK hj h_53] at q
            exact q
          · refine v_iload dX7_firstAt_56 rfl ?_
            refine v_goto 62 dX7_firstAt_58 (by decide) ?_
            refine v_istore_n [_, _, _, _, _] dX7_firstAt_62 rfl (by decide) ?_
            refine v_iinc [_, _, _, _, _] dX7_firstAt_63 rfl (by first | exact inc1 _ | rfl) rfl (by decide) ?_
            refine v_goto 5 dX7_firstAt_66 (by decide) ?_
            have q := ih (k + 1) (by omega)
            rw [mins_stepS hj (by simp only [h_22, h_33, decide_true, Bool.and_self]) h_53] at q
            exact q
set_option maxHeartbeats 4000000 in
set_option maxRecDepth 100000 in
theorem c_X7_firstAt {a b : tH} {x w : Int32} {T : Nat} (hT : b.1 20 0 11 = nI T) (h24 : T ≤ 24) : Ci yX7_firstAt cX7_firstAt 5 .int 0 [.inr (some (20, 0)), .inl x, .inl w] (mix a b) (enc (mFirst b T x w)) (mix a (b)) := by
  refine Ct.of (by decide) [_, _, _, _, _] rfl (Nat.le_of_ble_eq_true rfl) ?_
  refine v_iconst (-1) dX7_firstAt_0 (by decide) ?_
  refine v_istore_n [_, _, _, _, _] dX7_firstAt_1 rfl (by decide) ?_
  refine v_iconst 0 dX7_firstAt_2 (by decide) ?_
  refine v_istore [_, _, _, _, _] dX7_firstAt_3 rfl (by decide) ?_
  exact l_X7_firstAt hT h24 T 0 (by omega)
set_option maxHeartbeats 4000000 in
set_option maxRecDepth 100000 in
theorem c_X7_newThread {a b : tH} {p r : Int32} {t q : Nat} (hT : b.1 20 0 11 = nI t) (ht : t < 24) (hq : b.1 20 0 27 = nI q) (h24 : q ≤ 24) : Ci yX7_newThread cX7_newThread 4 .int 1 [.inr (some (20, 0)), .inl p, .inl r] (mix a b) (nI t) (mix a (mNew b t p r)) := by
  refine Ct.of (by decide) [_, _, _, _] rfl (Nat.le_of_ble_eq_true rfl) ?_
  refine v_aload_n dX7_newThread_0 rfl ?_
  refine m_gk hT (by decide) fX7_92 dX7_newThread_1 rfl rfl Nat.zero_lt_one ?_
  refine v_istore_n [_, _, _, _] dX7_newThread_4 rfl (by decide) ?_
  refine v_aload_n dX7_newThread_5 rfl ?_
  refine v_gr 0 fX7_19 dX7_newThread_6 rfl rfl rfl Nat.zero_lt_one ?_
  refine v_iload_n dX7_newThread_9 rfl ?_
  refine v_iconst 0 dX7_newThread_10 (by decide) ?_
  refine m_iast t (by decide) rfl dX7_newThread_11 Nat.zero_lt_one rfl ht ?_
  refine v_aload_n dX7_newThread_12 rfl ?_
  refine v_gr 0 fX7_22 dX7_newThread_13 rfl rfl rfl Nat.zero_lt_one ?_
  refine v_iload_n dX7_newThread_16 rfl ?_
  refine v_iload_n dX7_newThread_17 rfl ?_
  refine m_iast t (by decide) rfl dX7_newThread_18 Nat.zero_lt_one rfl ht ?_
  refine v_aload_n dX7_newThread_19 rfl ?_
  refine v_gr 0 fX7_25 dX7_newThread_20 rfl rfl rfl Nat.zero_lt_one ?_
  refine v_iload_n dX7_newThread_23 rfl ?_
  refine v_iconst 0 dX7_newThread_24 (by decide) ?_
  refine m_iast t (by decide) rfl dX7_newThread_25 Nat.zero_lt_one rfl ht ?_
  refine v_aload_n dX7_newThread_26 rfl ?_
  refine v_gr 0 fX7_28 dX7_newThread_27 rfl rfl rfl Nat.zero_lt_one ?_
  refine v_iload_n dX7_newThread_30 rfl ?_
  refine v_iload_n dX7_newThread_31 rfl ?_
  refine m_iast t (by decide) rfl dX7_newThread_32 Nat.zero_lt_one rfl ht ?_
  refine v_aload_n dX7_newThread_33 rfl ?_
  refine v_gr 0 fX7_31 dX7_newThread_34 rfl rfl rfl Nat.zero_lt_one ?_
  refine v_iload_n dX7_newThread_37 rfl ?_
  refine v_iconst 0 dX7_newThread_38 (by decide) ?_
  refine m_iast t (by decide) rfl dX7_newThread_39 Nat.zero_lt_one rfl ht ?_
  refine v_aload_n dX7_newThread_40 rfl ?_
  refine v_gr 0 fX7_37 dX7_newThread_41 rfl rfl rfl Nat.zero_lt_one ?_
  refine v_iload_n dX7_newThread_44 rfl ?_
  refine v_iconst 0 dX7_newThread_45 (by decide) ?_
  refine m_zast t (by decide) rfl dX7_newThread_46 Nat.zero_lt_one rfl ht (by decide) ?_
  refine v_aload_n dX7_newThread_47 rfl ?_
  refine v_gr 0 fX7_41 dX7_newThread_48 rfl rfl rfl Nat.zero_lt_one ?_
  refine v_iload_n dX7_newThread_51 rfl ?_
  refine v_iconst 0 dX7_newThread_52 (by decide) ?_
  refine m_iast t (by decide) rfl dX7_newThread_53 Nat.zero_lt_one rfl ht ?_
  refine v_aload_n dX7_newThread_54 rfl ?_
  refine v_gr 0 fX7_47 dX7_newThread_55 rfl rfl rfl Nat.zero_lt_one ?_
  refine v_iload_n dX7_newThread_58 rfl ?_
  refine v_iconst 0 dX7_newThread_59 (by decide) ?_
  refine m_iast t (by decide) rfl dX7_newThread_60 Nat.zero_lt_one rfl ht ?_
  refine v_aload_n dX7_newThread_61 rfl ?_
  refine v_gr 0 fX7_50 dX7_newThread_62 rfl rfl rfl Nat.zero_lt_one ?_
  refine v_iload_n dX7_newThread_65 rfl ?_
  refine v_iconst 0 dX7_newThread_66 (by decide) ?_
  refine m_iast t (by decide) rfl dX7_newThread_67 Nat.zero_lt_one rfl ht ?_
  refine v_aload_n dX7_newThread_68 rfl ?_
  refine v_gr 0 fX7_53 dX7_newThread_69 rfl rfl rfl Nat.zero_lt_one ?_
  refine v_iload_n dX7_newThread_72 rfl ?_
  refine v_bipush (-3) dX7_newThread_73 (by decide) ?_
  refine m_iast t (by decide) rfl dX7_newThread_75 Nat.zero_lt_one rfl ht ?_
  refine v_aload_n dX7_newThread_76 rfl ?_
  refine v_gr 0 fX7_56 dX7_newThread_77 rfl rfl rfl Nat.zero_lt_one ?_
  refine v_iload_n dX7_newThread_80 rfl ?_
  refine v_iconst (-1) dX7_newThread_81 (by decide) ?_
  refine m_iast t (by decide) rfl dX7_newThread_82 Nat.zero_lt_one rfl ht ?_
  refine v_aload_n dX7_newThread_83 rfl ?_
  refine v_dup dX7_newThread_84 ?_
  refine m_gk (by exact hT) (by decide) fX7_92 dX7_newThread_85 rfl rfl Nat.zero_lt_one ?_
  refine v_iconst 1 dX7_newThread_88 (by decide) ?_
  refine v_iadd dX7_newThread_89 ?_
  rw [nI_1]
  refine m_pi (by decide) fX7_92 dX7_newThread_90 rfl rfl Nat.zero_lt_one ?_
  refine v_aload_n dX7_newThread_93 rfl ?_
  refine v_iload_n dX7_newThread_94 rfl ?_
  refine v_call1n lX7_95 kX7_enqueue (c_X7_enqueue (q := q) ht (by exact hq) h24) dX7_newThread_95 rfl rfl Nat.zero_lt_one rfl (by decide) (by decide) (st8 rfl) ?_
  refine v_iload_n dX7_newThread_98 rfl ?_
  exact v_iret dX7_newThread_99 ⟨rfl, rfl⟩
end
section
/-! Leaves of the class with loops -/
theorem i11 {p q : Prop} [Decidable p] [Decidable q] : ((if p then if q then (1 : Int32) else 0 else 0) = 0) = ¬ (p ∧ q) := by
  by_cases hp : p
  · by_cases hq : q
    · simp only [hp, hq, if_true, and_self, not_true]; exact propext ⟨fun h => absurd h (by decide), fun h => h.elim⟩
    · simp only [hp, hq, if_true, if_false, and_false, not_false_iff]
  · simp only [hp, if_false, false_and, not_false_iff]
def xRmL (t : Nat) : Nat → Nat → Nat → tH → tH
  | 0, n, _, a => put a 10 0 1 (nI n)
  | m + 1, n, k, a => if a.2 k = some t then xRmL t m n (k + 1) a else xRmL t m (n + 1) (k + 1) (putq a n (a.2 k))
def xRemove (a : tH) (t : Nat) : tH := xRmL t (nv (a.1 10 0 1)) 0 0 a
def okq (a : tH) : Prop := ∀ j s : Nat, a.2 j = some s → s < 24
theorem okq_put {a : tH} {n : Nat} {r : Option Nat} (h : okq a) (hr : ∀ s, r = some s → s < 24) : okq (putq a n r) := by
  intro j s e
  by_cases hj : j = n
  · exact hr s (by simpa [putq, hj] using e)
  · exact h j s (by simpa [putq, hj] using e)
theorem okr_map {r : Option Nat} (hr : ∀ s, r = some s → s < 24) : okr (r.map (fun t => (7, t))) := by
  intro q hq
  cases r with
  | none => cases hq
  | some s => cases hq; exact hr s rfl
def xFirst (a : tH) (T : Nat) (x w : Int32) : Option Nat := mins (fun t => decide (a.1 7 t 3 = w) && decide (a.1 7 t 13 = x)) (fun t => a.1 7 t 14) T
def xDelayed (a : tH) (T : Nat) : Option Nat := mins (fun t => decide (a.1 7 t 3 = 4)) (fun t => a.1 7 t 12) T
def toF (r : Option Nat) : Option (Nat × Nat) := r.map (fun t => (7, t))

set_option maxHeartbeats 4000000 in
set_option maxRecDepth 100000 in
theorem c_X1_takeEldest {a b : tH} {t n : Nat} (ht : t < 24) (hn : a.1 7 t 8 = nI (n + 1)) (h4 : n < 4) : Ci yX1_takeEldest cX1_takeEldest 3 .int 0 [.inr (some (7, t))] (mix a b) (a.1 9 t 0) (mix (put (put (put (put a 9 t 0 (a.1 9 t 1)) 9 t 1 (a.1 9 t 2)) 9 t 2 (a.1 9 t 3)) 7 t 8 (nI n)) b) := by
  refine Ct.of (by decide) [_, _, _] rfl (Nat.le_of_ble_eq_true rfl) ?_
  refine v_aload_n dX1_takeEldest_0 rfl ?_
  refine v_gr t fX1_15 dX1_takeEldest_1 rfl rfl rfl ht ?_
  refine v_iconst 0 dX1_takeEldest_4 (by decide) ?_
  refine x_iald 0 (by decide) rfl dX1_takeEldest_5 ht (by decide) (by decide) ?_
  refine v_istore_n [_, _, _] dX1_takeEldest_6 rfl (by decide) ?_
  refine v_iconst 1 dX1_takeEldest_7 (by decide) ?_
  refine v_istore_n [_, _, _] dX1_takeEldest_8 rfl (by decide) ?_
  refine v_iload_n dX1_takeEldest_9 rfl ?_
  refine v_iconst 4 dX1_takeEldest_10 (by decide) ?_
  refine v_icmp_ge 34 dX1_takeEldest_11 (by decide) (fun h_11 => absurd h_11 (by decide)) (fun h_11 => ?_)
  refine v_aload_n dX1_takeEldest_14 rfl ?_
  refine v_gr t fX1_15 dX1_takeEldest_15 rfl rfl rfl ht ?_
  refine v_iload_n dX1_takeEldest_18 rfl ?_
  refine v_iconst 1 dX1_takeEldest_19 (by decide) ?_
  refine v_isub dX1_takeEldest_20 ?_
  refine v_aload_n dX1_takeEldest_21 rfl ?_
  refine v_gr t fX1_15 dX1_takeEldest_22 rfl rfl rfl ht ?_
  refine v_iload_n dX1_takeEldest_25 rfl ?_
  refine x_iald 1 (by decide) rfl dX1_takeEldest_26 ht (by decide) (by decide) ?_
  refine x_iast 0 (by decide) rfl dX1_takeEldest_27 ht (by decide) (by decide) ?_
  refine v_iinc [_, _, _] dX1_takeEldest_28 rfl (by first | exact inc1 _ | rfl) rfl (by decide) ?_
  refine v_goto 9 dX1_takeEldest_31 (by decide) ?_
  refine v_iload_n dX1_takeEldest_9 rfl ?_
  refine v_iconst 4 dX1_takeEldest_10 (by decide) ?_
  refine v_icmp_ge 34 dX1_takeEldest_11 (by decide) (fun h_11_1 => absurd h_11_1 (by decide)) (fun h_11_1 => ?_)
  refine v_aload_n dX1_takeEldest_14 rfl ?_
  refine v_gr t fX1_15 dX1_takeEldest_15 rfl rfl rfl ht ?_
  refine v_iload_n dX1_takeEldest_18 rfl ?_
  refine v_iconst 1 dX1_takeEldest_19 (by decide) ?_
  refine v_isub dX1_takeEldest_20 ?_
  refine v_aload_n dX1_takeEldest_21 rfl ?_
  refine v_gr t fX1_15 dX1_takeEldest_22 rfl rfl rfl ht ?_
  refine v_iload_n dX1_takeEldest_25 rfl ?_
  refine x_ialk 2 (put_ne (by omega)) (by decide) rfl dX1_takeEldest_26 ht (by decide) (by decide) ?_
  refine x_iast 1 (by decide) rfl dX1_takeEldest_27 ht (by decide) (by decide) ?_
  refine v_iinc [_, _, _] dX1_takeEldest_28 rfl (by first | exact inc1 _ | rfl) rfl (by decide) ?_
  refine v_goto 9 dX1_takeEldest_31 (by decide) ?_
  refine v_iload_n dX1_takeEldest_9 rfl ?_
  refine v_iconst 4 dX1_takeEldest_10 (by decide) ?_
  refine v_icmp_ge 34 dX1_takeEldest_11 (by decide) (fun h_11_2 => absurd h_11_2 (by decide)) (fun h_11_2 => ?_)
  refine v_aload_n dX1_takeEldest_14 rfl ?_
  refine v_gr t fX1_15 dX1_takeEldest_15 rfl rfl rfl ht ?_
  refine v_iload_n dX1_takeEldest_18 rfl ?_
  refine v_iconst 1 dX1_takeEldest_19 (by decide) ?_
  refine v_isub dX1_takeEldest_20 ?_
  refine v_aload_n dX1_takeEldest_21 rfl ?_
  refine v_gr t fX1_15 dX1_takeEldest_22 rfl rfl rfl ht ?_
  refine v_iload_n dX1_takeEldest_25 rfl ?_
  refine x_ialk 3 ((put_ne (by omega)).trans (put_ne (by omega))) (by decide) rfl dX1_takeEldest_26 ht (by decide) (by decide) ?_
  refine x_iast 2 (by decide) rfl dX1_takeEldest_27 ht (by decide) (by decide) ?_
  refine v_iinc [_, _, _] dX1_takeEldest_28 rfl (by first | exact inc1 _ | rfl) rfl (by decide) ?_
  refine v_goto 9 dX1_takeEldest_31 (by decide) ?_
  refine v_iload_n dX1_takeEldest_9 rfl ?_
  refine v_iconst 4 dX1_takeEldest_10 (by decide) ?_
  refine v_icmp_ge 34 dX1_takeEldest_11 (by decide) (fun h_11_3 => ?_) (fun h_11_3 => absurd (by decide) h_11_3)
  refine v_aload_n dX1_takeEldest_34 rfl ?_
  refine x_gk (by exact hn) (by decide) fX1_34 dX1_takeEldest_35 rfl rfl ht ?_
  refine v_if_le 51 dX1_takeEldest_38 (by decide) (fun h_38 => absurd h_38 (nI_nle (n := n + 1) (by omega) (by omega))) (fun h_38 => ?_)
  refine v_aload_n dX1_takeEldest_41 rfl ?_
  refine v_dup dX1_takeEldest_42 ?_
  refine x_gk (by exact hn) (by decide) fX1_34 dX1_takeEldest_43 rfl rfl ht ?_
  refine v_iconst 1 dX1_takeEldest_46 (by decide) ?_
  refine v_isub dX1_takeEldest_47 ?_
  rw [nI_pred]
  refine x_pi (by decide) fX1_34 dX1_takeEldest_48 rfl rfl ht ?_
  refine v_iload_n dX1_takeEldest_51 rfl ?_
  exact v_iret dX1_takeEldest_52 ⟨rfl, rfl⟩
set_option maxHeartbeats 4000000 in
set_option maxRecDepth 100000 in
theorem l_X2_remove {b : tH} {t : Nat} (ht : t < 24) : ∀ (m n k q : Nat) (a : tH), q = k + m → n ≤ k → q ≤ 24 → a.1 10 0 1 = nI q → okq a → Vw yX2_remove.cls cX2_remove 4 none 0 (fun r h' => r = none ∧ h' = mix (xRmL t m n k a) b) 4 [some (.inr (some (10, 0))), some (.inr (some (7, t))), some (.inl (nI n)), some (.inl (nI k))] [] (mix a b) := by
  intro m
  induction m with
  | zero =>
    intro n k q a hk hn h24 hq hok
    obtain rfl : q = k := hk
    refine v_iload_n dX2_remove_4 rfl ?_
    refine v_aload_n dX2_remove_5 rfl ?_
    refine x_gk hq (by decide) fX2_17 dX2_remove_6 rfl rfl Nat.zero_lt_one ?_
    refine v_icmp_ge 43 dX2_remove_9 (by decide) (fun h_9 => ?_) (fun h_9 => absurd (Int32.le_refl _) h_9)
    refine v_aload_n dX2_remove_43 rfl ?_
    refine v_iload_n dX2_remove_44 rfl ?_
    refine x_pi (by decide) fX2_17 dX2_remove_45 rfl rfl Nat.zero_lt_one ?_
    exact v_vret dX2_remove_48 ⟨rfl, rfl⟩
  | succ m ih =>
    intro n k q a hk hn h24 hq hok
    refine v_iload_n dX2_remove_4 rfl ?_
    refine v_aload_n dX2_remove_5 rfl ?_
    refine x_gk hq (by decide) fX2_17 dX2_remove_6 rfl rfl Nat.zero_lt_one ?_
    refine v_icmp_ge 43 dX2_remove_9 (by decide) (fun h_9 => absurd h_9 (nI_ge (by omega) (by omega))) (fun h_9 => ?_)
    refine v_aload_n dX2_remove_12 rfl ?_
    refine v_gr 0 fX2_11 dX2_remove_13 rfl rfl rfl Nat.zero_lt_one ?_
    refine v_iload_n dX2_remove_16 rfl ?_
    refine x_aaldQ k dX2_remove_17 rfl (by omega) ?_
    refine v_aload_n dX2_remove_18 rfl ?_
    refine v_acmpeq 37 dX2_remove_19 (by decide) (okr_map (hok k)) (fun z e => by cases e; exact ht) (fun h_19 => ?_) (fun h_19 => ?_)
    · refine v_iinc [_, _, _, _] dX2_remove_37 rfl (by first | exact inc1 _ | rfl) rfl (by decide) ?_
      refine v_goto 4 dX2_remove_40 (by decide) ?_
      have hh : a.2 k = some t := by
        cases e : a.2 k with
        | none => rw [e] at h_19; cases h_19
        | some s => rw [e] at h_19; cases h_19; rfl
      have ee : xRmL t (m + 1) n k a = xRmL t m n (k + 1) a := if_pos hh
      rw [ee]
      exact ih n (k + 1) q a (by omega) (by omega) h24 hq hok
    · refine v_aload_n dX2_remove_22 rfl ?_
      refine v_gr 0 fX2_11 dX2_remove_23 rfl rfl rfl Nat.zero_lt_one ?_
      refine v_iload_n dX2_remove_26 rfl ?_
      refine v_aload_n dX2_remove_27 rfl ?_
      refine v_gr 0 fX2_11 dX2_remove_28 rfl rfl rfl Nat.zero_lt_one ?_
      refine v_iload_n dX2_remove_31 rfl ?_
      refine x_aaldQ k dX2_remove_32 rfl (by omega) ?_
      refine x_aastQ (r := a.2 k) n dX2_remove_33 rfl (by omega) (hok k) ?_
      refine v_iinc [_, _, _, _] dX2_remove_34 rfl (by first | exact inc1 _ | rfl) rfl (by decide) ?_
      refine v_iinc [_, _, _, _] dX2_remove_37 rfl (by first | exact inc1 _ | rfl) rfl (by decide) ?_
      refine v_goto 4 dX2_remove_40 (by decide) ?_
      have hh : ¬ a.2 k = some t := fun e => h_19 (by rw [e]; rfl)
      have ee : xRmL t (m + 1) n k a = xRmL t m (n + 1) (k + 1) (putq a n (a.2 k)) := if_neg hh
      rw [ee]
      exact ih (n + 1) (k + 1) q (putq a n (a.2 k)) (by omega) (by omega) h24 hq (okq_put hok (hok k))
set_option maxHeartbeats 4000000 in
set_option maxRecDepth 100000 in
theorem c_X2_remove {a b : tH} {t q : Nat} (ht : t < 24) (hq : a.1 10 0 1 = nI q) (h24 : q ≤ 24) (hok : okq a) : Cn yX2_remove cX2_remove 4 0 [.inr (some (10, 0)), .inr (some (7, t))] (mix a b) (mix (xRemove a t) b) := by
  refine Ct.of (by decide) [_, _, _, _] rfl (Nat.le_of_ble_eq_true rfl) ?_
  refine v_iconst 0 dX2_remove_0 (by decide) ?_
  refine v_istore_n [_, _, _, _] dX2_remove_1 rfl (by decide) ?_
  refine v_iconst 0 dX2_remove_2 (by decide) ?_
  refine v_istore_n [_, _, _, _] dX2_remove_3 rfl (by decide) ?_
  have e1 : xRemove a t = xRmL t q 0 0 a := by unfold xRemove; rw [hq, nv_nI (by omega)]
  rw [e1]
  exact l_X2_remove ht q 0 0 q a (by omega) (by omega) h24 hq hok
set_option maxHeartbeats 4000000 in
set_option maxRecDepth 100000 in
theorem c_X2_remove0 {a b : tH} (hq : a.1 10 0 1 = 0) : Cn yX2_remove cX2_remove 4 0 [.inr (some (10, 0)), .inr none] (mix a b) (mix (put a 10 0 1 0) b) := by
  refine Ct.of (by decide) [_, _, _, _] rfl (Nat.le_of_ble_eq_true rfl) ?_
  refine v_iconst 0 dX2_remove_0 (by decide) ?_
  refine v_istore_n [_, _, _, _] dX2_remove_1 rfl (by decide) ?_
  refine v_iconst 0 dX2_remove_2 (by decide) ?_
  refine v_istore_n [_, _, _, _] dX2_remove_3 rfl (by decide) ?_
  refine v_iload_n dX2_remove_4 rfl ?_
  refine v_aload_n dX2_remove_5 rfl ?_
  refine x_gk hq (by decide) fX2_17 dX2_remove_6 rfl rfl Nat.zero_lt_one ?_
  refine v_icmp_ge 43 dX2_remove_9 (by decide) (fun h_9 => ?_) (fun h_9 => absurd (Int32.le_refl _) h_9)
  refine v_aload_n dX2_remove_43 rfl ?_
  refine v_iload_n dX2_remove_44 rfl ?_
  refine x_pi (by decide) fX2_17 dX2_remove_45 rfl rfl Nat.zero_lt_one ?_
  exact v_vret dX2_remove_48 ⟨rfl, rfl⟩
set_option maxHeartbeats 4000000 in
set_option maxRecDepth 100000 in
theorem c_X2_removeFirst {a b : tH} {t q : Nat} (ht : t < 24) (hq : a.1 10 0 1 = nI (q + 1)) (h24 : q < 24) (h0 : a.2 0 = some t) (hok : okq a) : Cr yX2_removeFirst cX2_removeFirst 2 (.object "TurnThreads$Fiber") 1 [.inr (some (10, 0))] (mix a b) (some (7, t)) (mix (xRemove a t) b) := by
  refine Ct.of (by decide) [_, _] rfl (Nat.le_of_ble_eq_true rfl) ?_
  refine v_aload_n dX2_removeFirst_0 rfl ?_
  refine v_iconst 0 dX2_removeFirst_1 (by decide) ?_
  refine v_call1r lX2_21 kX2_at (c_X2_at_in (k := 0) hq (by omega) (by omega)) dX2_removeFirst_2 rfl rfl Nat.zero_lt_one rfl (by decide) (by decide) (st8 rfl) ?_
  rw [h0]
  refine v_astore_n [_, _] dX2_removeFirst_5 rfl (by decide) ?_
  refine v_aload_n dX2_removeFirst_6 rfl ?_
  refine v_aload_n dX2_removeFirst_7 rfl ?_
  refine v_call1n lX2_25 kX2_remove (c_X2_remove ht hq (by omega) hok) dX2_removeFirst_8 rfl rfl Nat.zero_lt_one rfl (by decide) (by decide) (st8 rfl) ?_
  refine v_aload_n dX2_removeFirst_11 rfl ?_
  exact v_aret dX2_removeFirst_12 ⟨rfl, rfl⟩
set_option maxHeartbeats 4000000 in
set_option maxRecDepth 100000 in
theorem c_X2_removeFirst0 {a b : tH} (hq : a.1 10 0 1 = 0) : Cr yX2_removeFirst cX2_removeFirst 2 (.object "TurnThreads$Fiber") 1 [.inr (some (10, 0))] (mix a b) (none) (mix (put a 10 0 1 0) b) := by
  refine Ct.of (by decide) [_, _] rfl (Nat.le_of_ble_eq_true rfl) ?_
  refine v_aload_n dX2_removeFirst_0 rfl ?_
  refine v_iconst 0 dX2_removeFirst_1 (by decide) ?_
  refine v_call1r lX2_21 kX2_at (c_X2_at_out (Or.inr (by rw [hq]; exact Int32.le_refl _))) dX2_removeFirst_2 rfl rfl Nat.zero_lt_one rfl (by decide) (by decide) (st8 rfl) ?_
  refine v_astore_n [_, _] dX2_removeFirst_5 rfl (by decide) ?_
  refine v_aload_n dX2_removeFirst_6 rfl ?_
  refine v_aload_n dX2_removeFirst_7 rfl ?_
  refine v_call1n lX2_25 kX2_remove (c_X2_remove0 hq) dX2_removeFirst_8 rfl rfl Nat.zero_lt_one rfl (by decide) (by decide) (st8 rfl) ?_
  refine v_aload_n dX2_removeFirst_11 rfl ?_
  exact v_aret dX2_removeFirst_12 ⟨rfl, rfl⟩
set_option maxHeartbeats 4000000 in
set_option maxRecDepth 100000 in
theorem l_X5_firstWaiting {a b : tH} {x w : Int32} {T : Nat} (hT : a.1 18 0 5 = nI T) (h24 : T ≤ 24) : ∀ (m k : Nat) (L5 : Option tV), T = k + m → Vw yX5_firstWaiting.cls cX5_firstWaiting 6 (some (.object "TurnThreads$Fiber")) 1 (fun r h' => r = some (.inr (toF (xFirst a T x w))) ∧ h' = mix a b) 5 [some (.inr (some (18, 0))), some (.inl x), some (.inl w), some (.inr (toF (mins (fun t => decide (a.1 7 t 3 = w) && decide (a.1 7 t 13 = x)) (fun t => a.1 7 t 14) k))), some (.inl (nI k)), L5] [] (mix a b) := by
  intro m
  induction m with
  | zero =>
    intro k L5 hk
    obtain rfl : T = k := hk
    refine v_iload dX5_firstWaiting_5 rfl ?_
    refine v_aload_n dX5_firstWaiting_7 rfl ?_
    refine x_gk hT (by decide) fX5_38 dX5_firstWaiting_8 rfl rfl Nat.zero_lt_one ?_
    refine v_icmp_ge 58 dX5_firstWaiting_11 (by decide) (fun h_11 => ?_) (fun h_11 => absurd (Int32.le_refl _) h_11)
    refine v_aload_n dX5_firstWaiting_58 rfl ?_
    exact v_aret dX5_firstWaiting_59 ⟨rfl, rfl⟩
  | succ m ih =>
    intro k L5 hk
    refine v_iload dX5_firstWaiting_5 rfl ?_
    refine v_aload_n dX5_firstWaiting_7 rfl ?_
    refine x_gk hT (by decide) fX5_38 dX5_firstWaiting_8 rfl rfl Nat.zero_lt_one ?_
    refine v_icmp_ge 58 dX5_firstWaiting_11 (by decide) (fun h_11 => absurd h_11 (nI_ge (by omega) (by omega))) (fun h_11 => ?_)
    refine v_aload_n dX5_firstWaiting_14 rfl ?_
    refine v_gr 0 fX5_11 dX5_firstWaiting_15 rfl rfl rfl Nat.zero_lt_one ?_
    refine v_iload dX5_firstWaiting_18 rfl ?_
    refine v_aaldF k rfl dX5_firstWaiting_20 Nat.zero_lt_one rfl (by omega) ?_
    refine v_astore [_, _, _, _, _, _] dX5_firstWaiting_21 rfl (by decide) ?_
    refine v_aload dX5_firstWaiting_23 rfl ?_
    refine v_iload_n dX5_firstWaiting_25 rfl ?_
    refine v_iload_n dX5_firstWaiting_26 rfl ?_
    refine v_call2i lX5_82 kX1_waitsAt (c_X1_waitsAt (t := k) (by omega)) dX5_firstWaiting_27 rfl rfl (show k < 24 by omega) rfl (by decide) (by decide) (st8 rfl) ?_
    refine v_if_eq 52 dX5_firstWaiting_30 (by decide) (fun h_30 => ?_) (fun h_30 => ?_)
    · rw [i11] at h_30
      refine v_iinc [_, _, _, _, _, _] dX5_firstWaiting_52 rfl (by first | exact inc1 _ | rfl) rfl (by decide) ?_
      refine v_goto 5 dX5_firstWaiting_55 (by decide) ?_
      have e0 : (decide (a.1 7 k 3 = w) && decide (a.1 7 k 13 = x)) = false := by
        rw [Bool.and_eq_false_iff]
        by_cases hz : a.1 7 k 3 = w
        · exact Or.inr (decide_eq_false (fun y => h_30 ⟨hz, y⟩))
        · exact Or.inl (decide_eq_false hz)
      have q := ih (k + 1) (some (.inr (some (7, k)))) (by omega)
      rw [mins_step0 e0] at q
      exact q
    · rw [i11, Classical.not_not] at h_30
      refine v_aload_n dX5_firstWaiting_33 rfl ?_
      refine v_ifnull 49 dX5_firstWaiting_34 (by decide) (fun h_34 => ?_) (fun q_34 h_34 => ?_)
      · have hj : mins (fun t => decide (a.1 7 t 3 = w) && decide (a.1 7 t 13 = x)) (fun t => a.1 7 t 14) k = none := by
          cases e : mins (fun t => decide (a.1 7 t 3 = w) && decide (a.1 7 t 13 = x)) (fun t => a.1 7 t 14) k with
          | none => rfl
          | some j => rw [e] at h_34; cases h_34
        refine v_aload dX5_firstWaiting_49 rfl ?_
        refine v_astore_n [_, _, _, _, _, _] dX5_firstWaiting_51 rfl (by decide) ?_
        refine v_iinc [_, _, _, _, _, _] dX5_firstWaiting_52 rfl (by first | exact inc1 _ | rfl) rfl (by decide) ?_
        refine v_goto 5 dX5_firstWaiting_55 (by decide) ?_
        have q := ih (k + 1) (some (.inr (some (7, k)))) (by omega)
        rw [mins_stepN hj (by simp only [h_30.1, h_30.2, decide_true, Bool.and_self])] at q
        exact q
      · obtain ⟨j, hj⟩ : ∃ j, mins (fun t => decide (a.1 7 t 3 = w) && decide (a.1 7 t 13 = x)) (fun t => a.1 7 t 14) k = some j := by
          cases e : mins (fun t => decide (a.1 7 t 3 = w) && decide (a.1 7 t 13 = x)) (fun t => a.1 7 t 14) k with
          | none => rw [e] at h_34; cases h_34
          | some j => exact ⟨j, rfl⟩
        have hj24 : j < 24 := by have := (mins_lt hj).1; omega
        rw [hj]
        refine v_aload dX5_firstWaiting_37 rfl ?_
        refine x_gi (by decide) fX5_177 dX5_firstWaiting_39 rfl rfl (show k < 24 by omega) ?_
        refine v_aload_n dX5_firstWaiting_42 rfl ?_
        refine x_gi (by decide) fX5_177 dX5_firstWaiting_43 rfl rfl hj24 ?_
        refine v_icmp_ge 52 dX5_firstWaiting_46 (by decide) (fun h_46 => ?_) (fun h_46 => ?_)
        · refine v_iinc [_, _, _, _, _, _] dX5_firstWaiting_52 rfl (by first | exact inc1 _ | rfl) rfl (by decide) ?_
          refine v_goto 5 dX5_firstWaiting_55 (by decide) ?_
          have q := ih (k + 1) (some (.inr (some (7, k)))) (by omega)
          rw [mins_stepK hj h_46, hj] at q
          exact q
        · refine v_aload dX5_firstWaiting_49 rfl ?_
          refine v_astore_n [_, _, _, _, _, _] dX5_firstWaiting_51 rfl (by decide) ?_
          refine v_iinc [_, _, _, _, _, _] dX5_firstWaiting_52 rfl (by first | exact inc1 _ | rfl) rfl (by decide) ?_
          refine v_goto 5 dX5_firstWaiting_55 (by decide) ?_
          have q := ih (k + 1) (some (.inr (some (7, k)))) (by omega)
          rw [mins_stepS hj (by simp only [h_30.1, h_30.2, decide_true, Bool.and_self]) h_46] at q
          exact q
set_option maxHeartbeats 4000000 in
set_option maxRecDepth 100000 in
theorem c_X5_firstWaiting {a b : tH} {x w : Int32} {T : Nat} (hT : a.1 18 0 5 = nI T) (h24 : T ≤ 24) : Cr yX5_firstWaiting cX5_firstWaiting 6 (.object "TurnThreads$Fiber") 1 [.inr (some (18, 0)), .inl x, .inl w] (mix a b) (toF (xFirst a T x w)) (mix (a) b) := by
  refine Ct.of (by decide) [_, _, _, _, _, _] rfl (Nat.le_of_ble_eq_true rfl) ?_
  refine v_null dX5_firstWaiting_0 ?_
  refine v_astore_n [_, _, _, _, _, _] dX5_firstWaiting_1 rfl (by decide) ?_
  refine v_iconst 0 dX5_firstWaiting_2 (by decide) ?_
  refine v_istore [_, _, _, _, _, _] dX5_firstWaiting_3 rfl (by decide) ?_
  exact l_X5_firstWaiting hT h24 T 0 none (by omega)
set_option maxHeartbeats 4000000 in
set_option maxRecDepth 100000 in
theorem l_X5_firstDelayed {a b : tH} {T : Nat} (hT : a.1 18 0 5 = nI T) (h24 : T ≤ 24) : ∀ (m k : Nat) (L3 : Option tV), T = k + m → Vw yX5_firstDelayed.cls cX5_firstDelayed 4 (some (.object "TurnThreads$Fiber")) 0 (fun r h' => r = some (.inr (toF (xDelayed a T))) ∧ h' = mix a b) 4 [some (.inr (some (18, 0))), some (.inr (toF (mins (fun t => decide (a.1 7 t 3 = 4)) (fun t => a.1 7 t 12) k))), some (.inl (nI k)), L3] [] (mix a b) := by
  intro m
  induction m with
  | zero =>
    intro k L3 hk
    obtain rfl : T = k := hk
    refine v_iload_n dX5_firstDelayed_4 rfl ?_
    refine v_aload_n dX5_firstDelayed_5 rfl ?_
    refine x_gk hT (by decide) fX5_38 dX5_firstDelayed_6 rfl rfl Nat.zero_lt_one ?_
    refine v_icmp_ge 50 dX5_firstDelayed_9 (by decide) (fun h_9 => ?_) (fun h_9 => absurd (Int32.le_refl _) h_9)
    refine v_aload_n dX5_firstDelayed_50 rfl ?_
    exact v_aret dX5_firstDelayed_51 ⟨rfl, rfl⟩
  | succ m ih =>
    intro k L3 hk
    refine v_iload_n dX5_firstDelayed_4 rfl ?_
    refine v_aload_n dX5_firstDelayed_5 rfl ?_
    refine x_gk hT (by decide) fX5_38 dX5_firstDelayed_6 rfl rfl Nat.zero_lt_one ?_
    refine v_icmp_ge 50 dX5_firstDelayed_9 (by decide) (fun h_9 => absurd h_9 (nI_ge (by omega) (by omega))) (fun h_9 => ?_)
    refine v_aload_n dX5_firstDelayed_12 rfl ?_
    refine v_gr 0 fX5_11 dX5_firstDelayed_13 rfl rfl rfl Nat.zero_lt_one ?_
    refine v_iload_n dX5_firstDelayed_16 rfl ?_
    refine v_aaldF k rfl dX5_firstDelayed_17 Nat.zero_lt_one rfl (by omega) ?_
    refine v_astore_n [_, _, _, _] dX5_firstDelayed_18 rfl (by decide) ?_
    refine v_aload_n dX5_firstDelayed_19 rfl ?_
    refine x_gi (by decide) fX5_91 dX5_firstDelayed_20 rfl rfl (show k < 24 by omega) ?_
    refine v_iconst 4 dX5_firstDelayed_23 (by decide) ?_
    refine v_icmp_ne 44 dX5_firstDelayed_24 (by decide) (fun h_24 => ?_) (fun h_24 => ?_)
    · refine v_iinc [_, _, _, _] dX5_firstDelayed_44 rfl (by first | exact inc1 _ | rfl) rfl (by decide) ?_
      refine v_goto 4 dX5_firstDelayed_47 (by decide) ?_
      have q := ih (k + 1) (some (.inr (some (7, k)))) (by omega)
      rw [mins_step0 (by simp only [h_24, decide_false])] at q
      exact q
    · refine v_aload_n dX5_firstDelayed_27 rfl ?_
      refine v_ifnull 42 dX5_firstDelayed_28 (by decide) (fun h_28 => ?_) (fun q_28 h_28 => ?_)
      · have hj : mins (fun t => decide (a.1 7 t 3 = 4)) (fun t => a.1 7 t 12) k = none := by
          cases e : mins (fun t => decide (a.1 7 t 3 = 4)) (fun t => a.1 7 t 12) k with
          | none => rfl
          | some j => rw [e] at h_28; cases h_28
        refine v_aload_n dX5_firstDelayed_42 rfl ?_
        refine v_astore_n [_, _, _, _] dX5_firstDelayed_43 rfl (by decide) ?_
        refine v_iinc [_, _, _, _] dX5_firstDelayed_44 rfl (by first | exact inc1 _ | rfl) rfl (by decide) ?_
        refine v_goto 4 dX5_firstDelayed_47 (by decide) ?_
        have q := ih (k + 1) (some (.inr (some (7, k)))) (by omega)
        rw [mins_stepN hj (by simp only [h_24, decide_true])] at q
        exact q
      · obtain ⟨j, hj⟩ : ∃ j, mins (fun t => decide (a.1 7 t 3 = 4)) (fun t => a.1 7 t 12) k = some j := by
          cases e : mins (fun t => decide (a.1 7 t 3 = 4)) (fun t => a.1 7 t 12) k with
          | none => rw [e] at h_28; cases h_28
          | some j => exact ⟨j, rfl⟩
        have hj24 : j < 24 := by have := (mins_lt hj).1; omega
        rw [hj]
        refine v_aload_n dX5_firstDelayed_31 rfl ?_
        refine x_gi (by decide) fX5_135 dX5_firstDelayed_32 rfl rfl (show k < 24 by omega) ?_
        refine v_aload_n dX5_firstDelayed_35 rfl ?_
        refine x_gi (by decide) fX5_135 dX5_firstDelayed_36 rfl rfl hj24 ?_
        refine v_icmp_ge 44 dX5_firstDelayed_39 (by decide) (fun h_39 => ?_) (fun h_39 => ?_)
        · refine v_iinc [_, _, _, _] dX5_firstDelayed_44 rfl (by first | exact inc1 _ | rfl) rfl (by decide) ?_
          refine v_goto 4 dX5_firstDelayed_47 (by decide) ?_
          have q := ih (k + 1) (some (.inr (some (7, k)))) (by omega)
          rw [mins_stepK hj h_39, hj] at q
          exact q
        · refine v_aload_n dX5_firstDelayed_42 rfl ?_
          refine v_astore_n [_, _, _, _] dX5_firstDelayed_43 rfl (by decide) ?_
          refine v_iinc [_, _, _, _] dX5_firstDelayed_44 rfl (by first | exact inc1 _ | rfl) rfl (by decide) ?_
          refine v_goto 4 dX5_firstDelayed_47 (by decide) ?_
          have q := ih (k + 1) (some (.inr (some (7, k)))) (by omega)
          rw [mins_stepS hj (by simp only [h_24, decide_true]) h_39] at q
          exact q
set_option maxHeartbeats 4000000 in
set_option maxRecDepth 100000 in
theorem c_X5_firstDelayed {a b : tH} {T : Nat} (hT : a.1 18 0 5 = nI T) (h24 : T ≤ 24) : Cr yX5_firstDelayed cX5_firstDelayed 4 (.object "TurnThreads$Fiber") 0 [.inr (some (18, 0))] (mix a b) (toF (xDelayed a T)) (mix (a) b) := by
  refine Ct.of (by decide) [_, _, _, _] rfl (Nat.le_of_ble_eq_true rfl) ?_
  refine v_null dX5_firstDelayed_0 ?_
  refine v_astore_n [_, _, _, _] dX5_firstDelayed_1 rfl (by decide) ?_
  refine v_iconst 0 dX5_firstDelayed_2 (by decide) ?_
  refine v_istore_n [_, _, _, _] dX5_firstDelayed_3 rfl (by decide) ?_
  exact l_X5_firstDelayed hT h24 T 0 none (by omega)
set_option maxHeartbeats 4000000 in
set_option maxRecDepth 100000 in
theorem l_X5_countWaiting {a b : tH} {x w : Int32} {T : Nat} (hT : a.1 18 0 5 = nI T) (h24 : T ≤ 24) : ∀ (m k : Nat), T = k + m → Vw yX5_countWaiting.cls cX5_countWaiting 5 (some .int) 1 (fun r h' => r = some (.inl (nI (cnt (fun t => decide (a.1 7 t 3 = w) && decide (a.1 7 t 13 = x)) T))) ∧ h' = mix a b) 5 [some (.inr (some (18, 0))), some (.inl x), some (.inl w), some (.inl (nI (cnt (fun t => decide (a.1 7 t 3 = w) && decide (a.1 7 t 13 = x)) k))), some (.inl (nI k))] [] (mix a b) := by
  intro m
  induction m with
  | zero =>
    intro k hk
    obtain rfl : T = k := hk
    refine v_iload dX5_countWaiting_5 rfl ?_
    refine v_aload_n dX5_countWaiting_7 rfl ?_
    refine x_gk hT (by decide) fX5_38 dX5_countWaiting_8 rfl rfl Nat.zero_lt_one ?_
    refine v_icmp_ge 38 dX5_countWaiting_11 (by decide) (fun h_11 => ?_) (fun h_11 => absurd (Int32.le_refl _) h_11)
    refine v_iload_n dX5_countWaiting_38 rfl ?_
    exact v_iret dX5_countWaiting_39 ⟨rfl, rfl⟩
  | succ m ih =>
    intro k hk
    refine v_iload dX5_countWaiting_5 rfl ?_
    refine v_aload_n dX5_countWaiting_7 rfl ?_
    refine x_gk hT (by decide) fX5_38 dX5_countWaiting_8 rfl rfl Nat.zero_lt_one ?_
    refine v_icmp_ge 38 dX5_countWaiting_11 (by decide) (fun h_11 => absurd h_11 (nI_ge (by omega) (by omega))) (fun h_11 => ?_)
    refine v_aload_n dX5_countWaiting_14 rfl ?_
    refine v_gr 0 fX5_11 dX5_countWaiting_15 rfl rfl rfl Nat.zero_lt_one ?_
    refine v_iload dX5_countWaiting_18 rfl ?_
    refine v_aaldF k rfl dX5_countWaiting_20 Nat.zero_lt_one rfl (by omega) ?_
    refine v_iload_n dX5_countWaiting_21 rfl ?_
    refine v_iload_n dX5_countWaiting_22 rfl ?_
    refine v_call2i lX5_82 kX1_waitsAt (c_X1_waitsAt (t := k) (by omega)) dX5_countWaiting_23 rfl rfl (show k < 24 by omega) rfl (by decide) (by decide) (st8 rfl) ?_
    refine v_if_eq 32 dX5_countWaiting_26 (by decide) (fun h_26 => ?_) (fun h_26 => ?_)
    · rw [i11] at h_26
      refine v_iinc [_, _, _, _, _] dX5_countWaiting_32 rfl (by first | exact inc1 _ | rfl) rfl (by decide) ?_
      refine v_goto 5 dX5_countWaiting_35 (by decide) ?_
      have e0 : (decide (a.1 7 k 3 = w) && decide (a.1 7 k 13 = x)) = false := by
        rw [Bool.and_eq_false_iff]
        by_cases hz : a.1 7 k 3 = w
        · exact Or.inr (decide_eq_false (fun y => h_26 ⟨hz, y⟩))
        · exact Or.inl (decide_eq_false hz)
      have q := ih (k + 1) (by omega)
      rw [show cnt (fun t => decide (a.1 7 t 3 = w) && decide (a.1 7 t 13 = x)) (k + 1) = cnt (fun t => decide (a.1 7 t 3 = w) && decide (a.1 7 t 13 = x)) k by show cnt (fun t => decide (a.1 7 t 3 = w) && decide (a.1 7 t 13 = x)) k + (if (decide (a.1 7 k 3 = w) && decide (a.1 7 k 13 = x)) = true then 1 else 0) = _; rw [e0]; simp] at q
      exact q
    · rw [i11, Classical.not_not] at h_26
      refine v_iinc [_, _, _, _, _] dX5_countWaiting_29 rfl (by first | exact inc1 _ | rfl) rfl (by decide) ?_
      refine v_iinc [_, _, _, _, _] dX5_countWaiting_32 rfl (by first | exact inc1 _ | rfl) rfl (by decide) ?_
      refine v_goto 5 dX5_countWaiting_35 (by decide) ?_
      have e0 : (decide (a.1 7 k 3 = w) && decide (a.1 7 k 13 = x)) = true := by simp only [h_26.1, h_26.2, decide_true, Bool.and_self]
      have q := ih (k + 1) (by omega)
      rw [show cnt (fun t => decide (a.1 7 t 3 = w) && decide (a.1 7 t 13 = x)) (k + 1) = cnt (fun t => decide (a.1 7 t 3 = w) && decide (a.1 7 t 13 = x)) k + 1 by show cnt (fun t => decide (a.1 7 t 3 = w) && decide (a.1 7 t 13 = x)) k + (if (decide (a.1 7 k 3 = w) && decide (a.1 7 k 13 = x)) = true then 1 else 0) = _; rw [e0]; simp] at q
      exact q
set_option maxHeartbeats 4000000 in
set_option maxRecDepth 100000 in
theorem c_X5_countWaiting {a b : tH} {x w : Int32} {T : Nat} (hT : a.1 18 0 5 = nI T) (h24 : T ≤ 24) : Ci yX5_countWaiting cX5_countWaiting 5 .int 1 [.inr (some (18, 0)), .inl x, .inl w] (mix a b) (nI (cnt (fun t => decide (a.1 7 t 3 = w) && decide (a.1 7 t 13 = x)) T)) (mix (a) b) := by
  refine Ct.of (by decide) [_, _, _, _, _] rfl (Nat.le_of_ble_eq_true rfl) ?_
  refine v_iconst 0 dX5_countWaiting_0 (by decide) ?_
  refine v_istore_n [_, _, _, _, _] dX5_countWaiting_1 rfl (by decide) ?_
  refine v_iconst 0 dX5_countWaiting_2 (by decide) ?_
  refine v_istore [_, _, _, _, _] dX5_countWaiting_3 rfl (by decide) ?_
  exact l_X5_countWaiting hT h24 T 0 (by omega)
set_option maxHeartbeats 4000000 in
set_option maxRecDepth 100000 in
theorem c_X5_fiberAt_out {a b : tH} {i : Int32} (ho : i < 0 ∨ a.1 18 0 5 ≤ i) : Cr yX5_fiberAt cX5_fiberAt 2 (.object "TurnThreads$Fiber") 0 [.inr (some (18, 0)), .inl i] (mix a b) (none) (mix (a) b) := by
  refine Ct.of (by decide) [_, _] rfl (Nat.le_of_ble_eq_true rfl) ?_
  refine v_iload_n dX5_fiberAt_0 rfl ?_
  refine v_if_lt 21 dX5_fiberAt_1 (by decide) (fun h_1 => ?_) (fun h_1 => ?_)
  · refine v_null dX5_fiberAt_21 ?_
    exact v_aret dX5_fiberAt_22 ⟨rfl, rfl⟩
  · refine v_iload_n dX5_fiberAt_4 rfl ?_
    refine v_aload_n dX5_fiberAt_5 rfl ?_
    refine x_gi (by decide) fX5_38 dX5_fiberAt_6 rfl rfl Nat.zero_lt_one ?_
    refine v_icmp_ge 21 dX5_fiberAt_9 (by decide) (fun h_9 => ?_) (fun h_9 => (ho.elim (fun z => absurd z h_1) (fun z => absurd z h_9)))
    refine v_null dX5_fiberAt_21 ?_
    exact v_aret dX5_fiberAt_22 ⟨rfl, rfl⟩
set_option maxHeartbeats 4000000 in
set_option maxRecDepth 100000 in
theorem c_X5_fiberAt_in {a b : tH} {t T : Nat} (hT : a.1 18 0 5 = nI T) (ht : t < T) (h24 : T ≤ 24) : Cr yX5_fiberAt cX5_fiberAt 2 (.object "TurnThreads$Fiber") 0 [.inr (some (18, 0)), .inl (nI t)] (mix a b) (some (7, t)) (mix (a) b) := by
  refine Ct.of (by decide) [_, _] rfl (Nat.le_of_ble_eq_true rfl) ?_
  refine v_iload_n dX5_fiberAt_0 rfl ?_
  refine v_if_lt 21 dX5_fiberAt_1 (by decide) (fun h_1 => absurd h_1 (nI_pos (by omega))) (fun h_1 => ?_)
  refine v_iload_n dX5_fiberAt_4 rfl ?_
  refine v_aload_n dX5_fiberAt_5 rfl ?_
  refine x_gi (by decide) fX5_38 dX5_fiberAt_6 rfl rfl Nat.zero_lt_one ?_
  refine v_icmp_ge 21 dX5_fiberAt_9 (by decide) (fun h_9 => absurd h_9 (by rw [hT]; exact nI_ge ht (by omega))) (fun h_9 => ?_)
  refine v_aload_n dX5_fiberAt_12 rfl ?_
  refine v_gr 0 fX5_11 dX5_fiberAt_13 rfl rfl rfl Nat.zero_lt_one ?_
  refine v_iload_n dX5_fiberAt_16 rfl ?_
  refine v_aaldF t rfl dX5_fiberAt_17 Nat.zero_lt_one rfl (by omega) ?_
  refine v_goto 22 dX5_fiberAt_18 (by decide) ?_
  exact v_aret dX5_fiberAt_22 ⟨rfl, rfl⟩
end
section
/-! The queue as a list: the reference's and the class's -/
def neb (t : Nat) : Nat → Bool := fun s => !(s == t)
theorem neb_eq {t : Nat} : neb t t = false := by simp [neb]
theorem neb_ne {t s : Nat} (h : s ≠ t) : neb t s = true := by simp [neb, h]
/-- the same but for the queue's rows and length -/
def offQ (b b' : tH) : Prop := (∀ c i k, c ≠ 38 → ¬ (c = 20 ∧ i = 0 ∧ k = 27) → b'.1 c i k = b.1 c i k) ∧ b'.2 = b.2
theorem mLvL_spec {t : Nat} (ht : t < 2 ^ 31) : ∀ (S K : List Nat) (k : Nat) (b : tH), K.length ≤ k → (∀ j s, K[j]? = some s → b.1 38 0 j = nI s) → (∀ j s, S[j]? = some s → b.1 38 0 (k + j) = nI s) → (∀ s ∈ S, s < 2 ^ 31) →
    (mLvL t S.length K.length k b).1 20 0 27 = nI (K ++ S.filter (neb t)).length ∧ (∀ j s, (K ++ S.filter (neb t))[j]? = some s → (mLvL t S.length K.length k b).1 38 0 j = nI s) ∧ offQ b (mLvL t S.length K.length k b) := by
  intro S
  induction S with
  | nil =>
    intro K k b hk h1 h2 h3
    have e : mLvL t ([] : List Nat).length K.length k b = put b 20 0 27 (nI K.length) := rfl
    rw [e]
    refine ⟨by rw [put_eq]; simp, fun j s hj => ?_, fun c i k' hc hn => put_ne (fun z => hn z), rfl⟩
    rw [put_ne (by omega)]
    exact h1 j s (by simpa using hj)
  | cons x S ih =>
    intro K k b hk h1 h2 h3
    have hx : b.1 38 0 k = nI x := h2 0 x rfl
    have hx3 : x < 2 ^ 31 := h3 x List.mem_cons_self
    by_cases hxt : x = t
    · subst hxt
      have e : mLvL x (x :: S).length K.length k b = mLvL x S.length K.length (k + 1) b := if_pos hx
      have ef : (x :: S).filter (neb x) = S.filter (neb x) := by rw [List.filter_cons, neb_eq]; simp
      rw [e, ef]
      exact ih K (k + 1) b (by omega) h1 (fun j s hj => by have := h2 (j + 1) s (by simpa using hj); rw [show k + 1 + j = k + (j + 1) by omega]; exact this) (fun s hs => h3 s (List.mem_cons_of_mem _ hs))
    · have hne : ¬ b.1 38 0 k = nI t := by
        rw [hx]
        exact fun z => hxt ((nI_eq hx3 ht).mp z)
      have e : mLvL t (x :: S).length K.length k b = mLvL t S.length (K ++ [x]).length (k + 1) (put b 38 0 K.length (b.1 38 0 k)) := by
        rw [show (K ++ [x]).length = K.length + 1 by simp]
        exact if_neg hne
      have ef : K ++ (x :: S).filter (neb t) = (K ++ [x]) ++ S.filter (neb t) := by rw [List.filter_cons, neb_ne hxt]; simp
      rw [e, ef]
      obtain ⟨r1, r2, r3, r4⟩ := ih (K ++ [x]) (k + 1) (put b 38 0 K.length (b.1 38 0 k)) (by simp; omega)
        (fun j s hj => by
          by_cases hjk : j = K.length
          · subst hjk
            rw [put_eq, hx]
            simp at hj
            rw [hj]
          · rw [put_ne (by omega)]
            refine h1 j s ?_
            rcases Nat.lt_or_ge j K.length with q | q
            · rwa [List.getElem?_append_left q] at hj
            · rw [List.getElem?_append_right q] at hj
              have hz : j - K.length < 1 := (List.getElem?_eq_some_iff.mp hj).1
              omega)
        (fun j s hj => by
          rw [put_ne (by omega), show k + 1 + j = k + (j + 1) by omega]
          exact h2 (j + 1) s (by simpa using hj))
        (fun s hs => h3 s (List.mem_cons_of_mem _ hs))
      refine ⟨r1, r2, fun c i k' hc hn => ?_, r4⟩
      rw [r3 c i k' hc hn, put_ne (by omega)]
/-- what the class's part is the same in -/
def offL (a a' : tH) : Prop := ∀ c i k, ¬ (c = 10 ∧ i = 0 ∧ k = 1) → a'.1 c i k = a.1 c i k
theorem xRmL_spec {t : Nat} : ∀ (S K : List Nat) (k : Nat) (a : tH), K.length ≤ k → (∀ j s, K[j]? = some s → a.2 j = some s) → (∀ j s, S[j]? = some s → a.2 (k + j) = some s) → okq a →
    (xRmL t S.length K.length k a).1 10 0 1 = nI (K ++ S.filter (neb t)).length ∧ (∀ j s, (K ++ S.filter (neb t))[j]? = some s → (xRmL t S.length K.length k a).2 j = some s) ∧ offL a (xRmL t S.length K.length k a) ∧ okq (xRmL t S.length K.length k a) := by
  intro S
  induction S with
  | nil =>
    intro K k a hk h1 h2 h3
    have e : xRmL t ([] : List Nat).length K.length k a = put a 10 0 1 (nI K.length) := rfl
    rw [e]
    exact ⟨by rw [put_eq]; simp, fun j s hj => h1 j s (by simpa using hj), fun c i k' hn => put_ne (fun z => hn z), h3⟩
  | cons x S ih =>
    intro K k a hk h1 h2 h3
    have hx : a.2 k = some x := h2 0 x rfl
    by_cases hxt : x = t
    · subst hxt
      have e : xRmL x (x :: S).length K.length k a = xRmL x S.length K.length (k + 1) a := if_pos hx
      have ef : (x :: S).filter (neb x) = S.filter (neb x) := by rw [List.filter_cons, neb_eq]; simp
      rw [e, ef]
      exact ih K (k + 1) a (by omega) h1 (fun j s hj => by have := h2 (j + 1) s (by simpa using hj); rw [show k + 1 + j = k + (j + 1) by omega]; exact this) h3
    · have hne : ¬ a.2 k = some t := by
        rw [hx]
        exact fun z => hxt (Option.some.inj z)
      have e : xRmL t (x :: S).length K.length k a = xRmL t S.length (K ++ [x]).length (k + 1) (putq a K.length (a.2 k)) := by
        rw [show (K ++ [x]).length = K.length + 1 by simp]
        exact if_neg hne
      have ef : K ++ (x :: S).filter (neb t) = (K ++ [x]) ++ S.filter (neb t) := by rw [List.filter_cons, neb_ne hxt]; simp
      rw [e, ef]
      have pq : ∀ j, (putq a K.length (a.2 k)).2 j = if j = K.length then a.2 k else a.2 j := fun j => rfl
      obtain ⟨r1, r2, r3, r4⟩ := ih (K ++ [x]) (k + 1) (putq a K.length (a.2 k)) (by simp; omega)
        (fun j s hj => by
          by_cases hjk : j = K.length
          · subst hjk
            rw [pq, if_pos rfl, hx]
            simp at hj
            rw [hj]
          · rw [pq, if_neg hjk]
            refine h1 j s ?_
            rcases Nat.lt_or_ge j K.length with q | q
            · rwa [List.getElem?_append_left q] at hj
            · rw [List.getElem?_append_right q] at hj
              have hz : j - K.length < 1 := (List.getElem?_eq_some_iff.mp hj).1
              omega)
        (fun j s hj => by
          rw [pq, if_neg (by omega), show k + 1 + j = k + (j + 1) by omega]
          exact h2 (j + 1) s (by simpa using hj))
        (okq_put h3 (h3 k))
      exact ⟨r1, r2, fun c i k' hn => r3 c i k' hn, r4⟩
/-- a list without repetition of numbers below n is no longer than n -/
theorem nodup_len : ∀ (n : Nat) (L : List Nat), L.Nodup → (∀ t ∈ L, t < n) → L.length ≤ n
  | 0, L, _, h => by
    cases L with
    | nil => exact Nat.le_refl 0
    | cons x L => exact absurd (h x List.mem_cons_self) (Nat.not_lt_zero x)
  | n + 1, L, hd, h => by
    have h1 := nodup_len n (L.filter (neb n)) (hd.filter _) (fun t ht => by
      have hm := List.mem_filter.mp ht
      have := h t hm.1
      have hne : t ≠ n := fun e => by rw [e, neb_eq] at hm; cases hm.2
      omega)
    have h2 : L.length ≤ (L.filter (neb n)).length + 1 := by
      clear h1 h
      induction L with
      | nil => simp
      | cons x L ih =>
        have hd' := List.nodup_cons.mp hd
        by_cases hx : x = n
        · subst hx
          have : L.filter (neb x) = L := List.filter_eq_self.mpr (fun s hs => neb_ne (fun e => hd'.1 (by rw [← e]; exact hs)))
          rw [List.filter_cons, neb_eq]
          simp [this]
        · rw [List.filter_cons, neb_ne hx]
          have := ih hd'.2
          simp
          omega
    omega
def IQ (b : tH) (ρ : Option Nat) (T : Nat) (L : List Nat) : Prop := b.1 20 0 11 = nI T ∧ T ≤ 24 ∧ b.1 20 0 27 = nI L.length ∧ (∀ j s, L[j]? = some s → b.1 38 0 j = nI s) ∧ L.Nodup ∧ ∀ t ∈ L, t < T ∧ b.1 24 0 t = 0 ∧ ρ ≠ some t
theorem IQ.len {b : tH} {ρ : Option Nat} {T : Nat} {L : List Nat} (h : IQ b ρ T L) : L.length ≤ 24 := Nat.le_trans (nodup_len T L h.2.2.2.2.1 (fun t ht => (h.2.2.2.2.2 t ht).1)) h.2.1
theorem IQ.lenr {b : tH} {T r : Nat} {L : List Nat} (h : IQ b (some r) T L) (hr : r < T) : L.length < 24 := by
  have h1 := nodup_len T (L ++ [r]) (by
    refine List.nodup_append.mpr ⟨h.2.2.2.2.1, by simp, fun x hx y hy => ?_⟩
    simp at hy
    subst hy
    exact fun e => (h.2.2.2.2.2 x hx).2.2 (by rw [e])) (fun t ht => by
    rcases List.mem_append.mp ht with q | q
    · exact (h.2.2.2.2.2 t q).1
    · simp at q; rw [q]; exact hr)
  have h2 := h.2.1
  simp at h1
  omega
theorem IQ.lenn {b : tH} {ρ : Option Nat} {T t : Nat} {L : List Nat} (h : IQ b ρ T L) (ht : t < T) (hn : t ∉ L) : L.length < 24 := by
  have h1 := nodup_len T (L ++ [t]) (by
    refine List.nodup_append.mpr ⟨h.2.2.2.2.1, by simp, fun x hx y hy => ?_⟩
    simp at hy
    subst hy
    exact fun e => hn (by rw [← e]; exact hx)) (fun s hs => by
    rcases List.mem_append.mp hs with q | q
    · exact (h.2.2.2.2.2 s q).1
    · simp at q; rw [q]; exact ht)
  have h2 := h.2.1
  simp at h1
  omega
theorem IQ.cg {b b' : tH} {ρ : Option Nat} {T : Nat} {L : List Nat} (h : IQ b ρ T L) (e1 : b'.1 20 0 11 = b.1 20 0 11) (e2 : b'.1 20 0 27 = b.1 20 0 27) (e3 : b'.1 38 0 = b.1 38 0) (e4 : ∀ t ∈ L, b'.1 24 0 t = b.1 24 0 t) : IQ b' ρ T L :=
  ⟨e1.trans h.1, h.2.1, e2.trans h.2.2.1, fun j s hj => by rw [e3]; exact h.2.2.2.1 j s hj, h.2.2.2.2.1, fun t ht => ⟨(h.2.2.2.2.2 t ht).1, by rw [e4 t ht]; exact (h.2.2.2.2.2 t ht).2.1, (h.2.2.2.2.2 t ht).2.2⟩⟩
theorem IQ.st {b : tH} {ρ : Option Nat} {T t : Nat} {L : List Nat} {x : Int32} (h : IQ b ρ T L) (hn : t ∉ L) : IQ (put b 24 0 t x) ρ T L :=
  h.cg rfl rfl rfl (fun s hs => put_ne (fun z => hn (by rw [← z.2.2]; exact hs)))
theorem IQ.notin {b : tH} {ρ : Option Nat} {T t : Nat} {L : List Nat} (h : IQ b ρ T L) (hs : b.1 24 0 t ≠ 0) : t ∉ L := fun z => hs (h.2.2.2.2.2 t z).2.1
theorem IQ.notrun {b : tH} {T t : Nat} {L : List Nat} (h : IQ b (some t) T L) : t ∉ L := fun z => (h.2.2.2.2.2 t z).2.2 rfl
theorem IQ.enq {b : tH} {ρ : Option Nat} {T t : Nat} {L : List Nat} (h : IQ b ρ T L) (ht : t < T) (hn : t ∉ L) (hρ : ρ ≠ some t) : IQ (mEnq b t) ρ T (L ++ [t]) := by
  have hl := h.len
  obtain ⟨h1, h2, h3, h4, h5, h6⟩ := h
  have e0 : nv (b.1 20 0 27) = L.length := by rw [h3, nv_nI (by omega)]
  unfold mEnq
  rw [e0, h3, nI_1]
  refine ⟨h1, h2, by rw [put_eq]; simp, fun j s hj => ?_, ?_, fun s hs => ?_⟩
  · rw [put_ne (by omega)]
    by_cases hjl : j = L.length
    · subst hjl
      rw [put_eq]
      simp at hj
      rw [hj]
    · rw [put_ne (by omega), put_ne (by omega)]
      refine h4 j s ?_
      rcases Nat.lt_or_ge j L.length with q | q
      · rwa [List.getElem?_append_left q] at hj
      · rw [List.getElem?_append_right q] at hj
        have hz : j - L.length < 1 := (List.getElem?_eq_some_iff.mp hj).1
        omega
  · refine List.nodup_append.mpr ⟨h5, by simp, fun x hx y hy => ?_⟩
    simp at hy
    subst hy
    exact fun e => hn (by rw [← e]; exact hx)
  · rw [put_ne (by omega), put_ne (by omega)]
    rcases List.mem_append.mp hs with q | q
    · have := h6 s q
      refine ⟨this.1, ?_, this.2.2⟩
      by_cases e : s = t
      · rw [e, put_eq]
      · rw [put_ne (by omega)]; exact this.2.1
    · simp at q
      subst q
      exact ⟨ht, put_eq, hρ⟩
theorem IQ.leave {b : tH} {ρ : Option Nat} {T t : Nat} {L : List Nat} (h : IQ b ρ T L) (ht : t < 24) : IQ (mLeave b t) ρ T (L.filter (neb t)) ∧ offQ b (mLeave b t) := by
  have hl := h.len
  obtain ⟨h1, h2, h3, h4, h5, h6⟩ := h
  have e0 : mLeave b t = mLvL t L.length ([] : List Nat).length 0 b := by unfold mLeave; rw [h3, nv_nI (by omega)]; rfl
  obtain ⟨r1, r2, r3⟩ := mLvL_spec (t := t) (by omega) L [] 0 b (by simp) (fun j s hj => by simp at hj) (fun j s hj => by rw [Nat.zero_add]; exact h4 j s hj) (fun s hs => by have := (h6 s hs).1; omega)
  rw [e0]
  refine ⟨⟨(r3.1 20 0 11 (by omega) (by omega)).trans h1, h2, by simpa using r1, fun j s hj => r2 j s (by simpa using hj), h5.filter _, fun s hs => ?_⟩, r3⟩
  have hm := (List.mem_filter.mp hs).1
  exact ⟨(h6 s hm).1, (r3.1 24 0 s (by omega) (by omega)).trans (h6 s hm).2.1, (h6 s hm).2.2⟩
theorem IQ.ro {b : tH} {ρ : Option Nat} {T : Nat} {L : List Nat} (h : IQ b ρ T L) {ρ' : Option Nat} (hr : ∀ t ∈ L, ρ' ≠ some t) : IQ b ρ' T L := ⟨h.1, h.2.1, h.2.2.1, h.2.2.2.1, h.2.2.2.2.1, fun t ht => ⟨(h.2.2.2.2.2 t ht).1, (h.2.2.2.2.2 t ht).2.1, hr t ht⟩⟩
end
section
/-! The reference's inner methods: boxes, ends, exceptions -/
def mClS (b : tH) (k : Nat) : tH := put (put (put b 24 0 k (if 5 ≤ b.1 24 0 k then b.1 24 0 k else 7)) 36 0 k (-1)) 35 0 k (-3)
def mClL : Nat → Nat → tH → tH
  | 0, _, b => b
  | m + 1, k, b => mClL m (k + 1) (mClS b k)
def mClose (b : tH) (T : Nat) : tH := mClL T 0 (put (put b 20 0 6 1) 20 0 27 0)
def mFinN (b : tH) (t : Nat) (s : Int32) : tH := mLeave (put b 24 0 t s) t
def mFin (b : tH) (T t : Nat) (s : Int32) : tH := if t = 0 then mClose (mFinN b t s) T else mFinN b t s
def mExB (b : tH) (t : Nat) (n : Int32) (hc : Nat) : tH := put (put (put (put (put b 36 0 t (-1)) 35 0 t (-3)) 28 0 t (nI hc)) 26 0 t (b.1 29 0 (4 * t + hc))) 27 0 t n
def mExE (b : tH) (t : Nat) (n : Int32) : tH := put (put (put b 36 0 t (-1)) 35 0 t (-3)) 33 0 t n
def mExc (b : tH) (T t : Nat) (n : Int32) : tH := match nv (b.1 28 0 t) with
  | 0 => mFin (mExE b t n) T t 6
  | hc + 1 => if b.1 24 0 t = 0 then mExB b t n hc else mEnq (mExB b t n hc) t
theorem mExc_0 {b : tH} {T t : Nat} {n : Int32} (h : b.1 28 0 t = 0) : mExc b T t n = mFin (mExE b t n) T t 6 := by
  unfold mExc; rw [h]; rfl
theorem mExc_1 {b : tH} {T t hc : Nat} {n : Int32} (h : b.1 28 0 t = nI (hc + 1)) (h4 : hc < 4) : mExc b T t n = if b.1 24 0 t = 0 then mExB b t n hc else mEnq (mExB b t n hc) t := by
  unfold mExc; rw [h, nv_nI (by omega)]
def mShL (t : Nat) : Nat → Nat → tH → tH
  | 0, _, b => b
  | m + 1, k, b => mShL t m (k + 1) (put b 32 0 (4 * t + k) (b.1 32 0 (4 * t + k + 1)))
def mPopS (b : tH) (t : Nat) : tH := mShL t (nv (b.1 31 0 t) - 1) 0 (put b 31 0 t (b.1 31 0 t - 1))
def mPop (b : tH) (T t : Nat) : tH := mExc (mPopS b t) T t (b.1 32 0 (4 * t))
theorem mPopS_1 {b : tH} {t pc : Nat} (h : b.1 31 0 t = nI (pc + 1)) (h4 : pc < 4) : mPopS b t = mShL t pc 0 (put b 31 0 t (nI pc)) := by
  unfold mPopS; rw [h, nv_nI (by omega), nI_pred]; rfl
def mWaitS (b : tH) (t : Nat) (x w : Int32) : tH := put (put (put (put b 24 0 t w) 36 0 t x) 37 0 t (b.1 20 0 26)) 20 0 26 (b.1 20 0 26 + 1)
def mWait (b : tH) (T t : Nat) (x w : Int32) : tH := if b.1 31 0 t = 0 then mWaitS b t x w else mPop b T t
def mRd (T x : Nat) (v : Int32) : Nat → tH → tH
  | 0, b => b
  | f + 1, b => match mFirst b T (nI x) 3 with
    | none => b
    | some t => mRd T x v f (mGo (put b 27 0 t v) t)
def mCom2 (b : tH) (T x : Nat) (v : Int32) : tH := match mFirst b T (nI x) 2 with
  | none => put (put b 40 0 x 1) 39 0 x v
  | some t => mGo (put b 27 0 t v) t
def mComes (b : tH) (T x : Nat) (v : Int32) : tH := mCom2 (mRd T x v 24 b) T x v
def mTaken (b : tH) (T x : Nat) : tH := match mFirst (put b 40 0 x 0) T (nI x) 1 with
  | none => put b 40 0 x 0
  | some t => mComes (mGo (put b 40 0 x 0) t) T x (b.1 27 0 t)
def IH (b : tH) (T : Nat) : Prop := ∀ t, t < T → ∃ hc pc, hc ≤ 4 ∧ pc ≤ 4 ∧ b.1 28 0 t = nI hc ∧ b.1 31 0 t = nI pc
theorem mGo_st {b : tH} {t s : Nat} : (mGo b t).1 24 0 s = if s = t then 0 else b.1 24 0 s := by
  by_cases h : s = t <;> simp [mGo, mEnq, put_rd, h]
theorem mGo_wa {b : tH} {t s : Nat} : (mGo b t).1 36 0 s = if s = t then -1 else b.1 36 0 s := by
  by_cases h : s = t <;> simp [mGo, mEnq, put_rd, h]
theorem mGo_ca {b : tH} {t s : Nat} : (mGo b t).1 37 0 s = b.1 37 0 s := by simp [mGo, mEnq, put_rd]
theorem IQ.go {b : tH} {ρ : Option Nat} {T t : Nat} {L : List Nat} (h : IQ b ρ T L) (ht : t < T) (hs : b.1 24 0 t ≠ 0) (hρ : ρ ≠ some t) : IQ (mGo b t) ρ T (L ++ [t]) :=
  IQ.enq (b := put (put b 26 0 t (b.1 26 0 t + 1)) 36 0 t (-1)) h ht (h.notin hs) hρ
theorem mFirst_st {b : tH} {T t : Nat} {x w : Int32} (h : mFirst b T x w = some t) : t < T ∧ b.1 24 0 t = w ∧ b.1 36 0 t = x := by
  have h1 := mins_lt h
  have h2 := Bool.and_eq_true_iff.mp h1.2
  exact ⟨h1.1, of_decide_eq_true h2.1, of_decide_eq_true h2.2⟩

theorem mLvL_off {t : Nat} : ∀ (m n k : Nat) (b : tH), offQ b (mLvL t m n k b)
  | 0, n, k, b => ⟨fun c i k' hc hn => put_ne (fun z => hn z), rfl⟩
  | m + 1, n, k, b => by
    unfold mLvL
    split
    · exact mLvL_off m n (k + 1) b
    · obtain ⟨h1, h2⟩ := mLvL_off (t := t) m (n + 1) (k + 1) (put b 38 0 n (b.1 38 0 k))
      exact ⟨fun c i k' hc hn => by rw [h1 c i k' hc hn, put_ne (by omega)], h2⟩
theorem mLeave_off {b : tH} {t : Nat} : offQ b (mLeave b t) := mLvL_off _ _ _ _
set_option maxHeartbeats 4000000 in
set_option maxRecDepth 100000 in
theorem l_X7_finish {a : tH} {s : Int32} {T : Nat} (h24 : T ≤ 24) : ∀ (m k : Nat) (b : tH), T = k + m → b.1 20 0 11 = nI T → Vw yX7_finish.cls cX7_finish 4 none 1 (fun r h' => r = none ∧ h' = mix a (mClL m k b)) 28 [some (.inr (some (20, 0))), some (.inl (nI 0)), some (.inl s), some (.inl (nI k))] [] (mix a b) := by
  intro m
  induction m with
  | zero =>
    intro k b hk hT
    obtain rfl : T = k := hk
    refine v_iload_n dX7_finish_28 rfl ?_
    refine v_aload_n dX7_finish_29 rfl ?_
    refine m_gk hT (by decide) fX7_92 dX7_finish_30 rfl rfl Nat.zero_lt_one ?_
    refine v_icmp_ge 84 dX7_finish_33 (by decide) (fun h_33 => ?_) (fun h_33 => absurd (Int32.le_refl _) h_33)
    exact v_vret dX7_finish_84 ⟨rfl, rfl⟩
  | succ m ih =>
    intro k b hk hT
    have hk24 : k < 24 := by omega
    refine v_iload_n dX7_finish_28 rfl ?_
    refine v_aload_n dX7_finish_29 rfl ?_
    refine m_gk hT (by decide) fX7_92 dX7_finish_30 rfl rfl Nat.zero_lt_one ?_
    refine v_icmp_ge 84 dX7_finish_33 (by decide) (fun h_33 => absurd h_33 (nI_ge (by omega) (by omega))) (fun h_33 => ?_)
    refine v_aload_n dX7_finish_36 rfl ?_
    refine v_gr 0 fX7_19 dX7_finish_37 rfl rfl rfl Nat.zero_lt_one ?_
    refine v_iload_n dX7_finish_40 rfl ?_
    refine v_aload_n dX7_finish_41 rfl ?_
    refine v_gr 0 fX7_19 dX7_finish_42 rfl rfl rfl Nat.zero_lt_one ?_
    refine v_iload_n dX7_finish_45 rfl ?_
    refine m_iald k (by decide) rfl dX7_finish_46 Nat.zero_lt_one rfl hk24 ?_
    refine v_iconst 5 dX7_finish_47 (by decide) ?_
    refine v_icmp_ge 56 dX7_finish_48 (by decide) (fun h_48 => ?_) (fun h_48 => ?_)
    · refine v_aload_n dX7_finish_56 rfl ?_
      refine v_gr 0 fX7_19 dX7_finish_57 rfl rfl rfl Nat.zero_lt_one ?_
      refine v_iload_n dX7_finish_60 rfl ?_
      refine m_iald k (by decide) rfl dX7_finish_61 Nat.zero_lt_one rfl hk24 ?_
      refine m_iast k (by decide) rfl dX7_finish_62 Nat.zero_lt_one rfl hk24 ?_
      refine v_aload_n dX7_finish_63 rfl ?_
      refine v_gr 0 fX7_56 dX7_finish_64 rfl rfl rfl Nat.zero_lt_one ?_
      refine v_iload_n dX7_finish_67 rfl ?_
      refine v_iconst (-1) dX7_finish_68 (by decide) ?_
      refine m_iast k (by decide) rfl dX7_finish_69 Nat.zero_lt_one rfl hk24 ?_
      refine v_aload_n dX7_finish_70 rfl ?_
      refine v_gr 0 fX7_53 dX7_finish_71 rfl rfl rfl Nat.zero_lt_one ?_
      refine v_iload_n dX7_finish_74 rfl ?_
      refine v_bipush (-3) dX7_finish_75 (by decide) ?_
      refine m_iast k (by decide) rfl dX7_finish_77 Nat.zero_lt_one rfl hk24 ?_
      refine v_iinc [_, _, _, _] dX7_finish_78 rfl (by first | exact inc1 _ | rfl) rfl (by decide) ?_
      refine v_goto 28 dX7_finish_81 (by decide) ?_
      have e1 : mClS b k = put (put (put b 24 0 k (b.1 24 0 k)) 36 0 k (-1)) 35 0 k (-3) := by unfold mClS; rw [if_pos h_48]
      have q := ih (k + 1) (mClS b k) (by omega) hT
      rw [e1] at q
      have e2 : mClL (m + 1) k b = mClL m (k + 1) (mClS b k) := rfl
      rw [e2, e1]
      exact q
    · refine v_bipush 7 dX7_finish_51 (by decide) ?_
      refine v_goto 62 dX7_finish_53 (by decide) ?_
      refine m_iast k (by decide) rfl dX7_finish_62 Nat.zero_lt_one rfl hk24 ?_
      refine v_aload_n dX7_finish_63 rfl ?_
      refine v_gr 0 fX7_56 dX7_finish_64 rfl rfl rfl Nat.zero_lt_one ?_
      refine v_iload_n dX7_finish_67 rfl ?_
      refine v_iconst (-1) dX7_finish_68 (by decide) ?_
      refine m_iast k (by decide) rfl dX7_finish_69 Nat.zero_lt_one rfl hk24 ?_
      refine v_aload_n dX7_finish_70 rfl ?_
      refine v_gr 0 fX7_53 dX7_finish_71 rfl rfl rfl Nat.zero_lt_one ?_
      refine v_iload_n dX7_finish_74 rfl ?_
      refine v_bipush (-3) dX7_finish_75 (by decide) ?_
      refine m_iast k (by decide) rfl dX7_finish_77 Nat.zero_lt_one rfl hk24 ?_
      refine v_iinc [_, _, _, _] dX7_finish_78 rfl (by first | exact inc1 _ | rfl) rfl (by decide) ?_
      refine v_goto 28 dX7_finish_81 (by decide) ?_
      have e1 : mClS b k = put (put (put b 24 0 k 7) 36 0 k (-1)) 35 0 k (-3) := by unfold mClS; rw [if_neg h_48]
      have q := ih (k + 1) (mClS b k) (by omega) hT
      rw [e1] at q
      have e2 : mClL (m + 1) k b = mClL m (k + 1) (mClS b k) := rfl
      rw [e2, e1]
      exact q
set_option maxHeartbeats 4000000 in
set_option maxRecDepth 100000 in
theorem c_X7_finish {a b : tH} {T : Nat} {t : Nat} {s : Int32} (ht : t < T) {ρ : Option Nat} {L : List Nat} (Z : IQ b ρ T L) {q : Nat} (hq : b.1 20 0 27 = nI q) (h24 : q ≤ 25) : Cn yX7_finish cX7_finish 4 1 [.inr (some (20, 0)), .inl (nI t), .inl s] (mix a b) (mix a (mFin b T t s)) := by
  refine Ct.of (by decide) [_, _, _, _] rfl (Nat.le_of_ble_eq_true rfl) ?_
  refine v_aload_n dX7_finish_0 rfl ?_
  refine v_gr 0 fX7_19 dX7_finish_1 rfl rfl rfl Nat.zero_lt_one ?_
  refine v_iload_n dX7_finish_4 rfl ?_
  refine v_iload_n dX7_finish_5 rfl ?_
  refine m_iast t (by decide) rfl dX7_finish_6 Nat.zero_lt_one rfl (by have := Z.2.1; omega) ?_
  refine v_aload_n dX7_finish_7 rfl ?_
  refine v_iload_n dX7_finish_8 rfl ?_
  refine v_call1n lX7_144 kX7_leaveQueue (c_X7_leaveQueue (q := q) (by exact hq) h24) dX7_finish_9 rfl rfl Nat.zero_lt_one rfl (by decide) (by decide) (st8 rfl) ?_
  refine v_iload_n dX7_finish_12 rfl ?_
  refine v_if_ne 84 dX7_finish_13 (by decide) (fun h_13 => ?_) (fun h_13 => ?_)
  · have ht0 : ¬ t = 0 := fun e => h_13 (by rw [e]; rfl)
    exact v_vret dX7_finish_84 ⟨rfl, by unfold mFin; rw [if_neg ht0]; rfl⟩
  · have ht0 : t = 0 := by
      rcases Nat.eq_zero_or_pos t with e | e
      · exact e
      · exact absurd h_13 (nI_ne0 e (by have := Z.2.1; omega))
    subst ht0
    refine v_aload_n dX7_finish_16 rfl ?_
    refine v_iconst 1 dX7_finish_17 (by decide) ?_
    refine m_pz (by decide) fX7_106 dX7_finish_18 rfl rfl Nat.zero_lt_one (by decide) ?_
    refine v_aload_n dX7_finish_21 rfl ?_
    refine v_iconst 0 dX7_finish_22 (by decide) ?_
    refine m_pi (by decide) fX7_99 dX7_finish_23 rfl rfl Nat.zero_lt_one ?_
    refine v_iconst 0 dX7_finish_26 (by decide) ?_
    refine v_istore_n [_, _, _, _] dX7_finish_27 rfl (by decide) ?_
    have e1 : mFin b T 0 s = mClL T 0 (put (put (mLeave (put b 24 0 0 s) 0) 20 0 6 1) 20 0 27 0) := if_pos rfl
    rw [e1]
    refine l_X7_finish Z.2.1 T 0 _ (by omega) ?_
    have h1 := (mLeave_off (b := put b 24 0 0 s) (t := 0)).1 20 0 11 (by omega) (by omega)
    exact h1.trans Z.1
set_option maxHeartbeats 4000000 in
set_option maxRecDepth 100000 in
theorem c_X7_except0 {a b : tH} {T : Nat} {t : Nat} {n : Int32} (ht : t < T) {ρ : Option Nat} {L : List Nat} (Z : IQ b ρ T L) (h0 : b.1 28 0 t = 0) : Cn yX7_except cX7_except 4 2 [.inr (some (20, 0)), .inl (nI t), .inl n] (mix a b) (mix a (mExc b T t n)) := by
  refine Ct.of (by decide) [_, _, _, _] rfl (Nat.le_of_ble_eq_true rfl) ?_
  refine v_aload_n dX7_except_0 rfl ?_
  refine v_gr 0 fX7_19 dX7_except_1 rfl rfl rfl Nat.zero_lt_one ?_
  refine v_iload_n dX7_except_4 rfl ?_
  refine m_iald t (by decide) rfl dX7_except_5 Nat.zero_lt_one rfl (by have := Z.2.1; omega) ?_
  refine v_if_eq 13 dX7_except_6 (by decide) (fun h_6 => ?_) (fun h_6 => ?_)
  · refine v_iconst 0 dX7_except_13 (by decide) ?_
    refine v_istore_n [_, _, _, _] dX7_except_14 rfl (by decide) ?_
    refine v_aload_n dX7_except_15 rfl ?_
    refine v_gr 0 fX7_56 dX7_except_16 rfl rfl rfl Nat.zero_lt_one ?_
    refine v_iload_n dX7_except_19 rfl ?_
    refine v_iconst (-1) dX7_except_20 (by decide) ?_
    refine m_iast t (by decide) rfl dX7_except_21 Nat.zero_lt_one rfl (by have := Z.2.1; omega) ?_
    refine v_aload_n dX7_except_22 rfl ?_
    refine v_gr 0 fX7_53 dX7_except_23 rfl rfl rfl Nat.zero_lt_one ?_
    refine v_iload_n dX7_except_26 rfl ?_
    refine v_bipush (-3) dX7_except_27 (by decide) ?_
    refine m_iast t (by decide) rfl dX7_except_29 Nat.zero_lt_one rfl (by have := Z.2.1; omega) ?_
    refine v_aload_n dX7_except_30 rfl ?_
    refine v_gr 0 fX7_31 dX7_except_31 rfl rfl rfl Nat.zero_lt_one ?_
    refine v_iload_n dX7_except_34 rfl ?_
    refine m_ialk t (by exact h0) (by decide) rfl dX7_except_35 Nat.zero_lt_one rfl (by have := Z.2.1; omega) ?_
    refine v_if_le 89 dX7_except_36 (by decide) (fun h_36 => ?_) (fun h_36 => absurd (Int32.le_refl 0) h_36)
    refine v_aload_n dX7_except_89 rfl ?_
    refine v_gr 0 fX7_47 dX7_except_90 rfl rfl rfl Nat.zero_lt_one ?_
    refine v_iload_n dX7_except_93 rfl ?_
    refine v_iload_n dX7_except_94 rfl ?_
    refine m_iast t (by decide) rfl dX7_except_95 Nat.zero_lt_one rfl (by have := Z.2.1; omega) ?_
    refine v_aload_n dX7_except_96 rfl ?_
    refine v_iload_n dX7_except_97 rfl ?_
    refine v_bipush 6 dX7_except_98 (by decide) ?_
    refine v_call2n lX7_141 kX7_finish (c_X7_finish (T := T) (ρ := ρ) (L := L) (q := L.length) ht (by exact Z) (by exact Z.2.2.1) (by have := Z.len; omega)) dX7_except_100 rfl rfl Nat.zero_lt_one rfl (by decide) (by decide) (st8 rfl) ?_
    exact v_vret dX7_except_103 ⟨rfl, by rw [mExc_0 h0]; rfl⟩
  · refine v_iconst 1 dX7_except_9 (by decide) ?_
    refine v_goto 14 dX7_except_10 (by decide) ?_
    refine v_istore_n [_, _, _, _] dX7_except_14 rfl (by decide) ?_
    refine v_aload_n dX7_except_15 rfl ?_
    refine v_gr 0 fX7_56 dX7_except_16 rfl rfl rfl Nat.zero_lt_one ?_
    refine v_iload_n dX7_except_19 rfl ?_
    refine v_iconst (-1) dX7_except_20 (by decide) ?_
    refine m_iast t (by decide) rfl dX7_except_21 Nat.zero_lt_one rfl (by have := Z.2.1; omega) ?_
    refine v_aload_n dX7_except_22 rfl ?_
    refine v_gr 0 fX7_53 dX7_except_23 rfl rfl rfl Nat.zero_lt_one ?_
    refine v_iload_n dX7_except_26 rfl ?_
    refine v_bipush (-3) dX7_except_27 (by decide) ?_
    refine m_iast t (by decide) rfl dX7_except_29 Nat.zero_lt_one rfl (by have := Z.2.1; omega) ?_
    refine v_aload_n dX7_except_30 rfl ?_
    refine v_gr 0 fX7_31 dX7_except_31 rfl rfl rfl Nat.zero_lt_one ?_
    refine v_iload_n dX7_except_34 rfl ?_
    refine m_ialk t (by exact h0) (by decide) rfl dX7_except_35 Nat.zero_lt_one rfl (by have := Z.2.1; omega) ?_
    refine v_if_le 89 dX7_except_36 (by decide) (fun h_36 => ?_) (fun h_36 => absurd (Int32.le_refl 0) h_36)
    refine v_aload_n dX7_except_89 rfl ?_
    refine v_gr 0 fX7_47 dX7_except_90 rfl rfl rfl Nat.zero_lt_one ?_
    refine v_iload_n dX7_except_93 rfl ?_
    refine v_iload_n dX7_except_94 rfl ?_
    refine m_iast t (by decide) rfl dX7_except_95 Nat.zero_lt_one rfl (by have := Z.2.1; omega) ?_
    refine v_aload_n dX7_except_96 rfl ?_
    refine v_iload_n dX7_except_97 rfl ?_
    refine v_bipush 6 dX7_except_98 (by decide) ?_
    refine v_call2n lX7_141 kX7_finish (c_X7_finish (T := T) (ρ := ρ) (L := L) (q := L.length) ht (by exact Z) (by exact Z.2.2.1) (by have := Z.len; omega)) dX7_except_100 rfl rfl Nat.zero_lt_one rfl (by decide) (by decide) (st8 rfl) ?_
    exact v_vret dX7_except_103 ⟨rfl, by rw [mExc_0 h0]; rfl⟩
set_option maxHeartbeats 4000000 in
set_option maxRecDepth 100000 in
theorem c_X7_except1 {a b : tH} {T : Nat} {t hc : Nat} {n : Int32} (ht : t < T) {ρ : Option Nat} {L : List Nat} (Z : IQ b ρ T L) (hn : b.1 28 0 t = nI (hc + 1)) (h4 : hc < 4) : Cn yX7_except cX7_except 4 2 [.inr (some (20, 0)), .inl (nI t), .inl n] (mix a b) (mix a (mExc b T t n)) := by
  refine Ct.of (by decide) [_, _, _, _] rfl (Nat.le_of_ble_eq_true rfl) ?_
  refine v_aload_n dX7_except_0 rfl ?_
  refine v_gr 0 fX7_19 dX7_except_1 rfl rfl rfl Nat.zero_lt_one ?_
  refine v_iload_n dX7_except_4 rfl ?_
  refine m_iald t (by decide) rfl dX7_except_5 Nat.zero_lt_one rfl (by have := Z.2.1; omega) ?_
  refine v_if_eq 13 dX7_except_6 (by decide) (fun h_6 => ?_) (fun h_6 => ?_)
  · refine v_iconst 0 dX7_except_13 (by decide) ?_
    refine v_istore_n [_, _, _, _] dX7_except_14 rfl (by decide) ?_
    refine v_aload_n dX7_except_15 rfl ?_
    refine v_gr 0 fX7_56 dX7_except_16 rfl rfl rfl Nat.zero_lt_one ?_
    refine v_iload_n dX7_except_19 rfl ?_
    refine v_iconst (-1) dX7_except_20 (by decide) ?_
    refine m_iast t (by decide) rfl dX7_except_21 Nat.zero_lt_one rfl (by have := Z.2.1; omega) ?_
    refine v_aload_n dX7_except_22 rfl ?_
    refine v_gr 0 fX7_53 dX7_except_23 rfl rfl rfl Nat.zero_lt_one ?_
    refine v_iload_n dX7_except_26 rfl ?_
    refine v_bipush (-3) dX7_except_27 (by decide) ?_
    refine m_iast t (by decide) rfl dX7_except_29 Nat.zero_lt_one rfl (by have := Z.2.1; omega) ?_
    refine v_aload_n dX7_except_30 rfl ?_
    refine v_gr 0 fX7_31 dX7_except_31 rfl rfl rfl Nat.zero_lt_one ?_
    refine v_iload_n dX7_except_34 rfl ?_
    refine m_ialk t (by exact hn) (by decide) rfl dX7_except_35 Nat.zero_lt_one rfl (by have := Z.2.1; omega) ?_
    refine v_if_le 89 dX7_except_36 (by decide) (fun h_36 => absurd h_36 (nI_nle (by omega) (by omega))) (fun h_36 => ?_)
    refine v_aload_n dX7_except_39 rfl ?_
    refine v_gr 0 fX7_31 dX7_except_40 rfl rfl rfl Nat.zero_lt_one ?_
    refine v_iload_n dX7_except_43 rfl ?_
    refine v_dup2 dX7_except_44 ?_
    refine m_ialk t (by exact hn) (by decide) rfl dX7_except_45 Nat.zero_lt_one rfl (by have := Z.2.1; omega) ?_
    refine v_iconst 1 dX7_except_46 (by decide) ?_
    refine v_isub dX7_except_47 ?_
    rw [nI_pred]
    refine m_iast t (by decide) rfl dX7_except_48 Nat.zero_lt_one rfl (by have := Z.2.1; omega) ?_
    refine v_aload_n dX7_except_49 rfl ?_
    refine v_gr 0 fX7_25 dX7_except_50 rfl rfl rfl Nat.zero_lt_one ?_
    refine v_iload_n dX7_except_53 rfl ?_
    refine v_aload_n dX7_except_54 rfl ?_
    refine v_gr 0 fX7_34 dX7_except_55 rfl rfl rfl Nat.zero_lt_one ?_
    refine v_iconst 4 dX7_except_58 (by decide) ?_
    refine v_iload_n dX7_except_59 rfl ?_
    refine v_imul dX7_except_60 ?_
    refine v_aload_n dX7_except_61 rfl ?_
    refine v_gr 0 fX7_31 dX7_except_62 rfl rfl rfl Nat.zero_lt_one ?_
    refine v_iload_n dX7_except_65 rfl ?_
    refine m_ialk t put_eq (by decide) rfl dX7_except_66 Nat.zero_lt_one rfl (by have := Z.2.1; omega) ?_
    refine v_iadd dX7_except_67 ?_
    refine m_ialk (4 * t + hc) (by exact rfl) (by decide) rfl dX7_except_68 Nat.zero_lt_one (by rw [show (4 : Int32) = nI 4 from rfl, pk_mul, nI_add]) (by have := Z.2.1; omega) ?_
    refine m_iast t (by decide) rfl dX7_except_69 Nat.zero_lt_one rfl (by have := Z.2.1; omega) ?_
    refine v_aload_n dX7_except_70 rfl ?_
    refine v_gr 0 fX7_28 dX7_except_71 rfl rfl rfl Nat.zero_lt_one ?_
    refine v_iload_n dX7_except_74 rfl ?_
    refine v_iload_n dX7_except_75 rfl ?_
    refine m_iast t (by decide) rfl dX7_except_76 Nat.zero_lt_one rfl (by have := Z.2.1; omega) ?_
    refine v_iload_n dX7_except_77 rfl ?_
    refine v_if_eq 103 dX7_except_78 (by decide) (fun h_78 => ?_) (fun h_78 => ?_)
    exact v_vret dX7_except_103 ⟨rfl, by first | exact absurd h_78 n10 | exact absurd rfl h_78 | (rw [mExc_1 hn h4, if_pos h_6]; rfl) | (rw [mExc_1 hn h4, if_neg h_6]; rfl)⟩
    · refine v_aload_n dX7_except_81 rfl ?_
      refine v_iload_n dX7_except_82 rfl ?_
      refine v_call1n lX7_95 kX7_enqueue (c_X7_enqueue (q := L.length) (by have := Z.2.1; omega) (by exact Z.2.2.1) Z.len) dX7_except_83 rfl rfl Nat.zero_lt_one rfl (by decide) (by decide) (st8 rfl) ?_
      refine v_goto 103 dX7_except_86 (by decide) ?_
      exact v_vret dX7_except_103 ⟨rfl, by first | exact absurd h_78 n10 | exact absurd rfl h_78 | (rw [mExc_1 hn h4, if_pos h_6]; rfl) | (rw [mExc_1 hn h4, if_neg h_6]; rfl)⟩
  · refine v_iconst 1 dX7_except_9 (by decide) ?_
    refine v_goto 14 dX7_except_10 (by decide) ?_
    refine v_istore_n [_, _, _, _] dX7_except_14 rfl (by decide) ?_
    refine v_aload_n dX7_except_15 rfl ?_
    refine v_gr 0 fX7_56 dX7_except_16 rfl rfl rfl Nat.zero_lt_one ?_
    refine v_iload_n dX7_except_19 rfl ?_
    refine v_iconst (-1) dX7_except_20 (by decide) ?_
    refine m_iast t (by decide) rfl dX7_except_21 Nat.zero_lt_one rfl (by have := Z.2.1; omega) ?_
    refine v_aload_n dX7_except_22 rfl ?_
    refine v_gr 0 fX7_53 dX7_except_23 rfl rfl rfl Nat.zero_lt_one ?_
    refine v_iload_n dX7_except_26 rfl ?_
    refine v_bipush (-3) dX7_except_27 (by decide) ?_
    refine m_iast t (by decide) rfl dX7_except_29 Nat.zero_lt_one rfl (by have := Z.2.1; omega) ?_
    refine v_aload_n dX7_except_30 rfl ?_
    refine v_gr 0 fX7_31 dX7_except_31 rfl rfl rfl Nat.zero_lt_one ?_
    refine v_iload_n dX7_except_34 rfl ?_
    refine m_ialk t (by exact hn) (by decide) rfl dX7_except_35 Nat.zero_lt_one rfl (by have := Z.2.1; omega) ?_
    refine v_if_le 89 dX7_except_36 (by decide) (fun h_36 => absurd h_36 (nI_nle (by omega) (by omega))) (fun h_36 => ?_)
    refine v_aload_n dX7_except_39 rfl ?_
    refine v_gr 0 fX7_31 dX7_except_40 rfl rfl rfl Nat.zero_lt_one ?_
    refine v_iload_n dX7_except_43 rfl ?_
    refine v_dup2 dX7_except_44 ?_
    refine m_ialk t (by exact hn) (by decide) rfl dX7_except_45 Nat.zero_lt_one rfl (by have := Z.2.1; omega) ?_
    refine v_iconst 1 dX7_except_46 (by decide) ?_
    refine v_isub dX7_except_47 ?_
    rw [nI_pred]
    refine m_iast t (by decide) rfl dX7_except_48 Nat.zero_lt_one rfl (by have := Z.2.1; omega) ?_
    refine v_aload_n dX7_except_49 rfl ?_
    refine v_gr 0 fX7_25 dX7_except_50 rfl rfl rfl Nat.zero_lt_one ?_
    refine v_iload_n dX7_except_53 rfl ?_
    refine v_aload_n dX7_except_54 rfl ?_
    refine v_gr 0 fX7_34 dX7_except_55 rfl rfl rfl Nat.zero_lt_one ?_
    refine v_iconst 4 dX7_except_58 (by decide) ?_
    refine v_iload_n dX7_except_59 rfl ?_
    refine v_imul dX7_except_60 ?_
    refine v_aload_n dX7_except_61 rfl ?_
    refine v_gr 0 fX7_31 dX7_except_62 rfl rfl rfl Nat.zero_lt_one ?_
    refine v_iload_n dX7_except_65 rfl ?_
    refine m_ialk t put_eq (by decide) rfl dX7_except_66 Nat.zero_lt_one rfl (by have := Z.2.1; omega) ?_
    refine v_iadd dX7_except_67 ?_
    refine m_ialk (4 * t + hc) (by exact rfl) (by decide) rfl dX7_except_68 Nat.zero_lt_one (by rw [show (4 : Int32) = nI 4 from rfl, pk_mul, nI_add]) (by have := Z.2.1; omega) ?_
    refine m_iast t (by decide) rfl dX7_except_69 Nat.zero_lt_one rfl (by have := Z.2.1; omega) ?_
    refine v_aload_n dX7_except_70 rfl ?_
    refine v_gr 0 fX7_28 dX7_except_71 rfl rfl rfl Nat.zero_lt_one ?_
    refine v_iload_n dX7_except_74 rfl ?_
    refine v_iload_n dX7_except_75 rfl ?_
    refine m_iast t (by decide) rfl dX7_except_76 Nat.zero_lt_one rfl (by have := Z.2.1; omega) ?_
    refine v_iload_n dX7_except_77 rfl ?_
    refine v_if_eq 103 dX7_except_78 (by decide) (fun h_78 => ?_) (fun h_78 => ?_)
    exact v_vret dX7_except_103 ⟨rfl, by first | exact absurd h_78 n10 | exact absurd rfl h_78 | (rw [mExc_1 hn h4, if_pos h_6]; rfl) | (rw [mExc_1 hn h4, if_neg h_6]; rfl)⟩
    · refine v_aload_n dX7_except_81 rfl ?_
      refine v_iload_n dX7_except_82 rfl ?_
      refine v_call1n lX7_95 kX7_enqueue (c_X7_enqueue (q := L.length) (by have := Z.2.1; omega) (by exact Z.2.2.1) Z.len) dX7_except_83 rfl rfl Nat.zero_lt_one rfl (by decide) (by decide) (st8 rfl) ?_
      refine v_goto 103 dX7_except_86 (by decide) ?_
      exact v_vret dX7_except_103 ⟨rfl, by first | exact absurd h_78 n10 | exact absurd rfl h_78 | (rw [mExc_1 hn h4, if_pos h_6]; rfl) | (rw [mExc_1 hn h4, if_neg h_6]; rfl)⟩
theorem nI_z {n : Nat} (h : n = 0) : nI n = 0 := by rw [h]; rfl
theorem c_X7_except {a b : tH} {T t : Nat} {n : Int32} (ht : t < T) {ρ : Option Nat} {L : List Nat} (Z : IQ b ρ T L) (I : ∃ hc, hc ≤ 4 ∧ b.1 28 0 t = nI hc) : Cn yX7_except cX7_except 4 2 [.inr (some (20, 0)), .inl (nI t), .inl n] (mix a b) (mix a (mExc b T t n)) := by
  obtain ⟨hc, h4, he⟩ := I
  cases hc with
  | zero => exact c_X7_except0 ht Z he
  | succ hc => exact c_X7_except1 ht Z he (by omega)
set_option maxHeartbeats 4000000 in
set_option maxRecDepth 100000 in
theorem l_X7_popPending {a : tH} {t T : Nat} {n : Int32} (ht : t < T) {ρ : Option Nat} {L : List Nat} {pc : Nat} (h4 : pc < 4) : ∀ (m k : Nat) (b : tH), pc = k + m → IQ b ρ T L → (∃ hc, hc ≤ 4 ∧ b.1 28 0 t = nI hc) → b.1 31 0 t = nI pc → Vw yX7_popPending.cls cX7_popPending 4 none 3 (fun r h' => r = none ∧ h' = mix a (mExc (mShL t m k b) T t n)) 21 [some (.inr (some (20, 0))), some (.inl (nI t)), some (.inl n), some (.inl (nI k))] [] (mix a b) := by
  intro m
  induction m with
  | zero =>
    intro k b hk Z I hp
    obtain rfl : pc = k := hk
    refine v_iload_n dX7_popPending_21 rfl ?_
    refine v_aload_n dX7_popPending_22 rfl ?_
    refine v_gr 0 fX7_41 dX7_popPending_23 rfl rfl rfl Nat.zero_lt_one ?_
    refine v_iload_n dX7_popPending_26 rfl ?_
    refine m_ialk t (by exact hp) (by decide) rfl dX7_popPending_27 Nat.zero_lt_one rfl (by have := Z.2.1; omega) ?_
    refine v_icmp_ge 59 dX7_popPending_28 (by decide) (fun h_28 => ?_) (fun h_28 => absurd (Int32.le_refl _) h_28)
    refine v_aload_n dX7_popPending_59 rfl ?_
    refine v_iload_n dX7_popPending_60 rfl ?_
    refine v_iload_n dX7_popPending_61 rfl ?_
    refine v_call2n lX7_147 kX7_except (c_X7_except (T := T) ht Z I) dX7_popPending_62 rfl rfl Nat.zero_lt_one rfl (by decide) (by decide) (st8 rfl) ?_
    exact v_vret dX7_popPending_65 ⟨rfl, rfl⟩
  | succ m ih =>
    intro k b hk Z I hp
    have ht24 : t < 24 := by have := Z.2.1; omega
    refine v_iload_n dX7_popPending_21 rfl ?_
    refine v_aload_n dX7_popPending_22 rfl ?_
    refine v_gr 0 fX7_41 dX7_popPending_23 rfl rfl rfl Nat.zero_lt_one ?_
    refine v_iload_n dX7_popPending_26 rfl ?_
    refine m_ialk t (by exact hp) (by decide) rfl dX7_popPending_27 Nat.zero_lt_one rfl ht24 ?_
    refine v_icmp_ge 59 dX7_popPending_28 (by decide) (fun h_28 => absurd h_28 (nI_ge (by omega) (by omega))) (fun h_28 => ?_)
    refine v_aload_n dX7_popPending_31 rfl ?_
    refine v_gr 0 fX7_44 dX7_popPending_32 rfl rfl rfl Nat.zero_lt_one ?_
    refine v_iconst 4 dX7_popPending_35 (by decide) ?_
    refine v_iload_n dX7_popPending_36 rfl ?_
    refine v_imul dX7_popPending_37 ?_
    refine v_iload_n dX7_popPending_38 rfl ?_
    refine v_iadd dX7_popPending_39 ?_
    refine v_aload_n dX7_popPending_40 rfl ?_
    refine v_gr 0 fX7_44 dX7_popPending_41 rfl rfl rfl Nat.zero_lt_one ?_
    refine v_iconst 4 dX7_popPending_44 (by decide) ?_
    refine v_iload_n dX7_popPending_45 rfl ?_
    refine v_imul dX7_popPending_46 ?_
    refine v_iload_n dX7_popPending_47 rfl ?_
    refine v_iadd dX7_popPending_48 ?_
    refine v_iconst 1 dX7_popPending_49 (by decide) ?_
    refine v_iadd dX7_popPending_50 ?_
    refine m_iald (4 * t + k + 1) (by decide) rfl dX7_popPending_51 Nat.zero_lt_one (by rw [show (4 : Int32) = nI 4 from rfl, pk_mul, nI_add, nI_1]) (by omega) ?_
    refine m_iast (4 * t + k) (by decide) rfl dX7_popPending_52 Nat.zero_lt_one (by rw [show (4 : Int32) = nI 4 from rfl, pk_mul, nI_add]) (by omega) ?_
    refine v_iinc [_, _, _, _] dX7_popPending_53 rfl (by first | exact inc1 _ | rfl) rfl (by decide) ?_
    refine v_goto 21 dX7_popPending_56 (by decide) ?_
    exact ih (k + 1) (put b 32 0 (4 * t + k) (b.1 32 0 (4 * t + k + 1))) (by omega) Z I hp
set_option maxHeartbeats 4000000 in
set_option maxRecDepth 100000 in
theorem c_X7_popPending {a b : tH} {T : Nat} {t pc : Nat} (ht : t < T) {ρ : Option Nat} {L : List Nat} (Z : IQ b ρ T L) (I : ∃ hc, hc ≤ 4 ∧ b.1 28 0 t = nI hc) (hp : b.1 31 0 t = nI (pc + 1)) (h4 : pc < 4) : Cn yX7_popPending cX7_popPending 4 3 [.inr (some (20, 0)), .inl (nI t)] (mix a b) (mix a (mPop b T t)) := by
  have ht24 : t < 24 := by have := Z.2.1; omega
  refine Ct.of (by decide) [_, _, _, _] rfl (Nat.le_of_ble_eq_true rfl) ?_
  refine v_aload_n dX7_popPending_0 rfl ?_
  refine v_gr 0 fX7_44 dX7_popPending_1 rfl rfl rfl Nat.zero_lt_one ?_
  refine v_iconst 4 dX7_popPending_4 (by decide) ?_
  refine v_iload_n dX7_popPending_5 rfl ?_
  refine v_imul dX7_popPending_6 ?_
  refine m_iald (4 * t) (by decide) rfl dX7_popPending_7 Nat.zero_lt_one (by rw [show (4 : Int32) = nI 4 from rfl, pk_mul]) (by omega) ?_
  refine v_istore_n [_, _, _, _] dX7_popPending_8 rfl (by decide) ?_
  refine v_aload_n dX7_popPending_9 rfl ?_
  refine v_gr 0 fX7_41 dX7_popPending_10 rfl rfl rfl Nat.zero_lt_one ?_
  refine v_iload_n dX7_popPending_13 rfl ?_
  refine v_dup2 dX7_popPending_14 ?_
  refine m_ialk t hp (by decide) rfl dX7_popPending_15 Nat.zero_lt_one rfl ht24 ?_
  refine v_iconst 1 dX7_popPending_16 (by decide) ?_
  refine v_isub dX7_popPending_17 ?_
  rw [nI_pred]
  refine m_iast t (by decide) rfl dX7_popPending_18 Nat.zero_lt_one rfl ht24 ?_
  refine v_iconst 0 dX7_popPending_19 (by decide) ?_
  refine v_istore_n [_, _, _, _] dX7_popPending_20 rfl (by decide) ?_
  have e1 : mPop b T t = mExc (mShL t pc 0 (put b 31 0 t (nI pc))) T t (b.1 32 0 (4 * t)) := by unfold mPop; rw [mPopS_1 hp h4]
  rw [e1]
  exact l_X7_popPending ht h4 pc 0 (put b 31 0 t (nI pc)) (by omega) Z I put_eq
set_option maxHeartbeats 4000000 in
set_option maxRecDepth 100000 in
theorem c_X7_waitAt0 {a b : tH} {T : Nat} {t : Nat} {x w : Int32} (ht : t < T) {ρ : Option Nat} {L : List Nat} (Z : IQ b ρ T L) (hp : b.1 31 0 t = 0) : Cn yX7_waitAt cX7_waitAt 4 4 [.inr (some (20, 0)), .inl (nI t), .inl x, .inl w] (mix a b) (mix a (mWait b T t x w)) := by
  have ht24 : t < 24 := by have := Z.2.1; omega
  refine Ct.of (by decide) [_, _, _, _] rfl (Nat.le_of_ble_eq_true rfl) ?_
  refine v_aload_n dX7_waitAt_0 rfl ?_
  refine v_gr 0 fX7_41 dX7_waitAt_1 rfl rfl rfl Nat.zero_lt_one ?_
  refine v_iload_n dX7_waitAt_4 rfl ?_
  refine m_ialk t hp (by decide) rfl dX7_waitAt_5 Nat.zero_lt_one rfl ht24 ?_
  refine v_if_le 15 dX7_waitAt_6 (by decide) (fun h_6 => ?_) (fun h_6 => absurd (Int32.le_refl 0) h_6)
  refine v_aload_n dX7_waitAt_15 rfl ?_
  refine v_gr 0 fX7_19 dX7_waitAt_16 rfl rfl rfl Nat.zero_lt_one ?_
  refine v_iload_n dX7_waitAt_19 rfl ?_
  refine v_iload_n dX7_waitAt_20 rfl ?_
  refine m_iast t (by decide) rfl dX7_waitAt_21 Nat.zero_lt_one rfl ht24 ?_
  refine v_aload_n dX7_waitAt_22 rfl ?_
  refine v_gr 0 fX7_56 dX7_waitAt_23 rfl rfl rfl Nat.zero_lt_one ?_
  refine v_iload_n dX7_waitAt_26 rfl ?_
  refine v_iload_n dX7_waitAt_27 rfl ?_
  refine m_iast t (by decide) rfl dX7_waitAt_28 Nat.zero_lt_one rfl ht24 ?_
  refine v_aload_n dX7_waitAt_29 rfl ?_
  refine v_gr 0 fX7_59 dX7_waitAt_30 rfl rfl rfl Nat.zero_lt_one ?_
  refine v_iload_n dX7_waitAt_33 rfl ?_
  refine v_aload_n dX7_waitAt_34 rfl ?_
  refine m_gi (by decide) fX7_124 dX7_waitAt_35 rfl rfl Nat.zero_lt_one ?_
  refine m_iast t (by decide) rfl dX7_waitAt_38 Nat.zero_lt_one rfl ht24 ?_
  refine v_aload_n dX7_waitAt_39 rfl ?_
  refine v_dup dX7_waitAt_40 ?_
  refine m_gi (by decide) fX7_124 dX7_waitAt_41 rfl rfl Nat.zero_lt_one ?_
  refine v_iconst 1 dX7_waitAt_44 (by decide) ?_
  refine v_iadd dX7_waitAt_45 ?_
  refine m_pi (by decide) fX7_124 dX7_waitAt_46 rfl rfl Nat.zero_lt_one ?_
  exact v_vret dX7_waitAt_49 ⟨rfl, by unfold mWait; rw [if_pos hp]; rfl⟩
set_option maxHeartbeats 4000000 in
set_option maxRecDepth 100000 in
theorem c_X7_waitAt1 {a b : tH} {T : Nat} {t : Nat} {x w : Int32} (ht : t < T) {ρ : Option Nat} {L : List Nat} (Z : IQ b ρ T L) {pc : Nat} (I : ∃ hc, hc ≤ 4 ∧ b.1 28 0 t = nI hc) (hp : b.1 31 0 t = nI (pc + 1)) (h4 : pc < 4) : Cn yX7_waitAt cX7_waitAt 4 4 [.inr (some (20, 0)), .inl (nI t), .inl x, .inl w] (mix a b) (mix a (mWait b T t x w)) := by
  have ht24 : t < 24 := by have := Z.2.1; omega
  refine Ct.of (by decide) [_, _, _, _] rfl (Nat.le_of_ble_eq_true rfl) ?_
  refine v_aload_n dX7_waitAt_0 rfl ?_
  refine v_gr 0 fX7_41 dX7_waitAt_1 rfl rfl rfl Nat.zero_lt_one ?_
  refine v_iload_n dX7_waitAt_4 rfl ?_
  refine m_ialk t hp (by decide) rfl dX7_waitAt_5 Nat.zero_lt_one rfl ht24 ?_
  refine v_if_le 15 dX7_waitAt_6 (by decide) (fun h_6 => absurd h_6 (nI_nle (by omega) (by omega))) (fun h_6 => ?_)
  refine v_aload_n dX7_waitAt_9 rfl ?_
  refine v_iload_n dX7_waitAt_10 rfl ?_
  refine v_call1n lX7_150 kX7_popPending (c_X7_popPending (T := T) ht Z I hp h4) dX7_waitAt_11 rfl rfl Nat.zero_lt_one rfl (by decide) (by decide) (st8 rfl) ?_
  exact v_vret dX7_waitAt_14 ⟨rfl, by unfold mWait; rw [hp, if_neg (nI_ne0 (by omega) (by omega))]⟩
set_option maxHeartbeats 4000000 in
set_option maxRecDepth 100000 in
theorem l2_X7_comesIn {a b : tH} {T x : Nat} {v : Int32} {L3 : Option tV} (hx : x < 8) {ρ : Option Nat} {L : List Nat} (Z : IQ b ρ T L) : Vw yX7_comesIn.cls cX7_comesIn 4 none 2 (fun r h' => r = none ∧ h' = mix a (mCom2 b T x v)) 33 [some (.inr (some (20, 0))), some (.inl (nI x)), some (.inl v), L3] [] (mix a b) := by
  refine v_aload_n dX7_comesIn_33 rfl ?_
  refine v_iload_n dX7_comesIn_34 rfl ?_
  refine v_iconst 2 dX7_comesIn_35 (by decide) ?_
  refine v_call2i lX7_131 kX7_firstAt (c_X7_firstAt (T := T) (by exact Z.1) Z.2.1) dX7_comesIn_36 rfl rfl Nat.zero_lt_one rfl (by decide) (by decide) (st8 rfl) ?_
  refine v_istore_n [_, _, _, _] dX7_comesIn_39 rfl (by decide) ?_
  refine v_iload_n dX7_comesIn_40 rfl ?_
  refine v_if_lt 59 dX7_comesIn_41 (by decide) (fun h_41 => ?_) (fun h_41 => ?_)
  · have hj : mFirst b T (nI x) 2 = none := by
      cases e : mFirst b T (nI x) 2 with
      | none => rfl
      | some t => rw [e] at h_41; exact absurd h_41 (nI_pos (by have := (mFirst_st e).1; have := Z.2.1; omega))
    refine v_aload_n dX7_comesIn_59 rfl ?_
    refine v_gr 0 fX7_68 dX7_comesIn_60 rfl rfl rfl Nat.zero_lt_one ?_
    refine v_iload_n dX7_comesIn_63 rfl ?_
    refine v_iconst 1 dX7_comesIn_64 (by decide) ?_
    refine m_zast x (by decide) rfl dX7_comesIn_65 Nat.zero_lt_one rfl hx (by decide) ?_
    refine v_aload_n dX7_comesIn_66 rfl ?_
    refine v_gr 0 fX7_65 dX7_comesIn_67 rfl rfl rfl Nat.zero_lt_one ?_
    refine v_iload_n dX7_comesIn_70 rfl ?_
    refine v_iload_n dX7_comesIn_71 rfl ?_
    refine m_iast x (by decide) rfl dX7_comesIn_72 Nat.zero_lt_one rfl hx ?_
    exact v_vret dX7_comesIn_73 ⟨rfl, by unfold mCom2; rw [hj]⟩
  · obtain ⟨t, hj⟩ : ∃ t, mFirst b T (nI x) 2 = some t := by
      cases e : mFirst b T (nI x) 2 with
      | none => rw [e] at h_41; exact absurd (by decide) h_41
      | some t => exact ⟨t, rfl⟩
    have hs := mFirst_st hj
    have ht24 : t < 24 := by have := Z.2.1; omega
    rw [hj]
    refine v_aload_n dX7_comesIn_44 rfl ?_
    refine v_gr 0 fX7_28 dX7_comesIn_45 rfl rfl rfl Nat.zero_lt_one ?_
    refine v_iload_n dX7_comesIn_48 rfl ?_
    refine v_iload_n dX7_comesIn_49 rfl ?_
    refine m_iast t (by decide) rfl dX7_comesIn_50 Nat.zero_lt_one rfl ht24 ?_
    refine v_aload_n dX7_comesIn_51 rfl ?_
    refine v_iload_n dX7_comesIn_52 rfl ?_
    refine v_call1n lX7_134 kX7_goesOn (c_X7_goesOn (q := L.length) ht24 (by exact Z.2.2.1) Z.len) dX7_comesIn_53 rfl rfl Nat.zero_lt_one rfl (by decide) (by decide) (st8 rfl) ?_
    refine v_goto 73 dX7_comesIn_56 (by decide) ?_
    exact v_vret dX7_comesIn_73 ⟨rfl, by unfold mCom2; rw [hj]⟩
theorem cnt_go {b : tH} {T x t : Nat} {w v : Int32} (hx : x < 8) (hs : t < T ∧ b.1 24 0 t = w ∧ b.1 36 0 t = nI x) (hw : w ≠ 0) : cnt (fun s => decide (b.1 24 0 s = w) && decide (b.1 36 0 s = nI x)) T = cnt (fun s => decide ((mGo (put b 27 0 t v) t).1 24 0 s = w) && decide ((mGo (put b 27 0 t v) t).1 36 0 s = nI x)) T + 1 := by
  refine cnt_off (t := t) ?_ ?_ hs.1 (fun j hj hne => ?_)
  · simp only [hs.2.1, hs.2.2, decide_true, Bool.and_self]
  · rw [mGo_st, if_pos rfl, decide_eq_false (fun e => hw e.symm)]; rfl
  · rw [mGo_st, if_neg hne, mGo_wa, if_neg hne]; rfl
theorem mRd_none {T x : Nat} {v : Int32} {f : Nat} {b : tH} (h : mFirst b T (nI x) 3 = none) : mRd T x v f b = b := by
  cases f with
  | zero => rfl
  | succ f => unfold mRd; rw [h]
theorem mRd_some {T x t : Nat} {v : Int32} {f : Nat} {b : tH} (h : mFirst b T (nI x) 3 = some t) : mRd T x v (f + 1) b = mRd T x v f (mGo (put b 27 0 t v) t) := by
  conv => lhs; unfold mRd
  rw [h]
set_option maxHeartbeats 4000000 in
set_option maxRecDepth 100000 in
theorem l_X7_comesIn {a : tH} {T x : Nat} {v : Int32} (hx : x < 8) {ρ : Option Nat} : ∀ (f : Nat) (b : tH) (L : List Nat), IQ b ρ T L → (∀ r, ρ = some r → b.1 24 0 r = 0) → cnt (fun t => decide (b.1 24 0 t = 3) && decide (b.1 36 0 t = nI x)) T ≤ f → Vw yX7_comesIn.cls cX7_comesIn 4 none 2 (fun r h' => r = none ∧ h' = mix a (mCom2 (mRd T x v f b) T x v)) 7 [some (.inr (some (20, 0))), some (.inl (nI x)), some (.inl v), some (.inl (enc (mFirst b T (nI x) 3)))] [] (mix a b) := by
  intro f
  induction f with
  | zero =>
    intro b L Z hr hc
    have hj : mFirst b T (nI x) 3 = none := mins_of_cnt (by omega)
    rw [hj]
    refine v_iload_n dX7_comesIn_7 rfl ?_
    refine v_if_lt 33 dX7_comesIn_8 (by decide) (fun h_8 => ?_) (fun h_8 => absurd (by decide) h_8)
    exact l2_X7_comesIn hx Z
  | succ f ih =>
    intro b L Z hr hc
    cases hj : mFirst b T (nI x) 3 with
    | none =>
      refine v_iload_n dX7_comesIn_7 rfl ?_
      refine v_if_lt 33 dX7_comesIn_8 (by decide) (fun h_8 => ?_) (fun h_8 => absurd (by decide) h_8)
      rw [mRd_none hj]
      exact l2_X7_comesIn hx Z
    | some t =>
      have hs := mFirst_st hj
      have ht24 : t < 24 := by have := Z.2.1; omega
      have Z2 : IQ (put b 27 0 t v) ρ T L := Z
      have h0 : b.1 24 0 t ≠ 0 := by rw [hs.2.1]; decide
      have Z3 := Z2.go hs.1 h0 (fun e => h0 (hr t e))
      refine v_iload_n dX7_comesIn_7 rfl ?_
      refine v_if_lt 33 dX7_comesIn_8 (by decide) (fun h_8 => absurd h_8 (nI_pos (by omega))) (fun h_8 => ?_)
      refine v_aload_n dX7_comesIn_11 rfl ?_
      refine v_gr 0 fX7_28 dX7_comesIn_12 rfl rfl rfl Nat.zero_lt_one ?_
      refine v_iload_n dX7_comesIn_15 rfl ?_
      refine v_iload_n dX7_comesIn_16 rfl ?_
      refine m_iast t (by decide) rfl dX7_comesIn_17 Nat.zero_lt_one rfl ht24 ?_
      refine v_aload_n dX7_comesIn_18 rfl ?_
      refine v_iload_n dX7_comesIn_19 rfl ?_
      refine v_call1n lX7_134 kX7_goesOn (c_X7_goesOn (q := L.length) ht24 (by exact Z.2.2.1) Z.len) dX7_comesIn_20 rfl rfl Nat.zero_lt_one rfl (by decide) (by decide) (st8 rfl) ?_
      refine v_aload_n dX7_comesIn_23 rfl ?_
      refine v_iload_n dX7_comesIn_24 rfl ?_
      refine v_iconst 3 dX7_comesIn_25 (by decide) ?_
      refine v_call2i lX7_131 kX7_firstAt (c_X7_firstAt (T := T) (by exact Z3.1) Z3.2.1) dX7_comesIn_26 rfl rfl Nat.zero_lt_one rfl (by decide) (by decide) (st8 rfl) ?_
      refine v_istore_n [_, _, _, _] dX7_comesIn_29 rfl (by decide) ?_
      refine v_goto 7 dX7_comesIn_30 (by decide) ?_
      rw [mRd_some hj]
      refine ih (mGo (put b 27 0 t v) t) (L ++ [t]) Z3 (fun r e => ?_) ?_
      · rw [mGo_st]
        split
        · rfl
        · exact hr r e
      · have := cnt_go (v := v) hx hs (by decide)
        omega
set_option maxHeartbeats 4000000 in
set_option maxRecDepth 100000 in
theorem c_X7_comesIn {a b : tH} {T : Nat} {x : Nat} {v : Int32} (hx : x < 8) {ρ : Option Nat} {L : List Nat} (Z : IQ b ρ T L) (hr : ∀ r, ρ = some r → b.1 24 0 r = 0) : Cn yX7_comesIn cX7_comesIn 4 2 [.inr (some (20, 0)), .inl (nI x), .inl v] (mix a b) (mix a (mComes b T x v)) := by
  refine Ct.of (by decide) [_, _, _, _] rfl (Nat.le_of_ble_eq_true rfl) ?_
  refine v_aload_n dX7_comesIn_0 rfl ?_
  refine v_iload_n dX7_comesIn_1 rfl ?_
  refine v_iconst 3 dX7_comesIn_2 (by decide) ?_
  refine v_call2i lX7_131 kX7_firstAt (c_X7_firstAt (T := T) (by exact Z.1) Z.2.1) dX7_comesIn_3 rfl rfl Nat.zero_lt_one rfl (by decide) (by decide) (st8 rfl) ?_
  refine v_istore_n [_, _, _, _] dX7_comesIn_6 rfl (by decide) ?_
  exact l_X7_comesIn hx 24 b L Z hr (Nat.le_trans (cnt_le _ T) Z.2.1)
set_option maxHeartbeats 4000000 in
set_option maxRecDepth 100000 in
theorem c_X7_taken {a b : tH} {T : Nat} {x : Nat} (hx : x < 8) {ρ : Option Nat} {L : List Nat} (Z : IQ b ρ T L) (hr : ∀ r, ρ = some r → b.1 24 0 r = 0) : Cn yX7_taken cX7_taken 4 3 [.inr (some (20, 0)), .inl (nI x)] (mix a b) (mix a (mTaken b T x)) := by
  have Z0 : IQ (put b 40 0 x 0) ρ T L := Z
  refine Ct.of (by decide) [_, _, _, _] rfl (Nat.le_of_ble_eq_true rfl) ?_
  refine v_aload_n dX7_taken_0 rfl ?_
  refine v_gr 0 fX7_68 dX7_taken_1 rfl rfl rfl Nat.zero_lt_one ?_
  refine v_iload_n dX7_taken_4 rfl ?_
  refine v_iconst 0 dX7_taken_5 (by decide) ?_
  refine m_zast x (by decide) rfl dX7_taken_6 Nat.zero_lt_one rfl hx (by decide) ?_
  refine v_aload_n dX7_taken_7 rfl ?_
  refine v_iload_n dX7_taken_8 rfl ?_
  refine v_iconst 1 dX7_taken_9 (by decide) ?_
  refine v_call2i lX7_131 kX7_firstAt (c_X7_firstAt (T := T) (by exact Z.1) Z.2.1) dX7_taken_10 rfl rfl Nat.zero_lt_one rfl (by decide) (by decide) (st8 rfl) ?_
  refine v_istore_n [_, _, _, _] dX7_taken_13 rfl (by decide) ?_
  refine v_iload_n dX7_taken_14 rfl ?_
  refine v_if_lt 36 dX7_taken_15 (by decide) (fun h_15 => ?_) (fun h_15 => ?_)
  · have hj : mFirst (put b 40 0 x 0) T (nI x) 1 = none := by
      cases e : mFirst (put b 40 0 x 0) T (nI x) 1 with
      | none => rfl
      | some t => rw [e] at h_15; exact absurd h_15 (nI_pos (by have := (mFirst_st e).1; have := Z.2.1; omega))
    exact v_vret dX7_taken_36 ⟨rfl, by unfold mTaken; rw [hj]; try rfl⟩
  · obtain ⟨t, hj⟩ : ∃ t, mFirst (put b 40 0 x 0) T (nI x) 1 = some t := by
      cases e : mFirst (put b 40 0 x 0) T (nI x) 1 with
      | none => rw [e] at h_15; exact absurd (by decide) h_15
      | some t => exact ⟨t, rfl⟩
    have hs := mFirst_st hj
    have ht24 : t < 24 := by have := Z.2.1; omega
    rw [hj]
    have h0 : b.1 24 0 t ≠ 0 := by rw [show b.1 24 0 t = 1 from hs.2.1]; decide
    have Z3 := Z0.go hs.1 h0 (fun e => h0 (hr t e))
    have hr3 : ∀ r, ρ = some r → (mGo (put b 40 0 x 0) t).1 24 0 r = 0 := fun r e => by rw [mGo_st]; split <;> first | rfl | exact hr r e
    refine v_aload_n dX7_taken_18 rfl ?_
    refine v_gr 0 fX7_28 dX7_taken_19 rfl rfl rfl Nat.zero_lt_one ?_
    refine v_iload_n dX7_taken_22 rfl ?_
    refine m_iald t (by decide) rfl dX7_taken_23 Nat.zero_lt_one rfl ht24 ?_
    refine v_istore_n [_, _, _, _] dX7_taken_24 rfl (by decide) ?_
    refine v_aload_n dX7_taken_25 rfl ?_
    refine v_iload_n dX7_taken_26 rfl ?_
    refine v_call1n lX7_134 kX7_goesOn (c_X7_goesOn (q := L.length) ht24 (by exact Z.2.2.1) Z.len) dX7_taken_27 rfl rfl Nat.zero_lt_one rfl (by decide) (by decide) (st8 rfl) ?_
    refine v_aload_n dX7_taken_30 rfl ?_
    refine v_iload_n dX7_taken_31 rfl ?_
    refine v_iload_n dX7_taken_32 rfl ?_
    refine v_call2n lX7_137 kX7_comesIn (c_X7_comesIn (T := T) hx Z3 hr3) dX7_taken_33 rfl rfl Nat.zero_lt_one rfl (by decide) (by decide) (st8 rfl) ?_
    exact v_vret dX7_taken_36 ⟨rfl, by unfold mTaken; rw [hj]; try rfl⟩
end
section
/-! The reference's acts -/
theorem nI_sub1 {T : Nat} (h : 0 < T) : nI T - 1 = nI (T - 1) := by
  cases T with
  | zero => exact absurd h (Nat.lt_irrefl 0)
  | succ T => exact nI_pred T
def offC (b b' : tH) : Prop := (∀ c i k, c ≠ 24 → c ≠ 35 → c ≠ 36 → b'.1 c i k = b.1 c i k) ∧ b'.2 = b.2
theorem mClS_off {b : tH} {k : Nat} : offC b (mClS b k) := ⟨fun c i k' h1 h2 h3 => by unfold mClS; rw [put_ne (by omega), put_ne (by omega), put_ne (by omega)], rfl⟩
theorem mClL_off : ∀ (m k : Nat) (b : tH), offC b (mClL m k b)
  | 0, _, b => ⟨fun _ _ _ _ _ _ => rfl, rfl⟩
  | m + 1, k, b => by
    obtain ⟨h1, h2⟩ := mClL_off m (k + 1) (mClS b k)
    obtain ⟨h3, h4⟩ := mClS_off (b := b) (k := k)
    exact ⟨fun c i k' q1 q2 q3 => (h1 c i k' q1 q2 q3).trans (h3 c i k' q1 q2 q3), h2.trans h4⟩
theorem IQ.finN {b : tH} {ρ : Option Nat} {T t : Nat} {s : Int32} {L : List Nat} (h : IQ b ρ T L) (ht : t < 24) : IQ (mFinN b t s) ρ T (L.filter (neb t)) := by
  have hl := h.len
  obtain ⟨h1, h2, h3, h4, h5, h6⟩ := h
  have e0 : mFinN b t s = mLvL t L.length ([] : List Nat).length 0 (put b 24 0 t s) := by
    unfold mFinN mLeave
    rw [show (put b 24 0 t s).1 20 0 27 = nI L.length from h3, nv_nI (by omega)]
    rfl
  obtain ⟨r1, r2, r3⟩ := mLvL_spec (t := t) (by omega) L [] 0 (put b 24 0 t s) (by simp) (fun j s hj => by simp at hj) (fun j s hj => by rw [Nat.zero_add]; exact h4 j s hj) (fun s hs => by have := (h6 s hs).1; omega)
  rw [e0]
  refine ⟨(r3.1 20 0 11 (by omega) (by omega)).trans h1, h2, by simpa using r1, fun j s hj => r2 j s (by simpa using hj), h5.filter _, fun s hs => ?_⟩
  have hm := List.mem_filter.mp hs
  have hne : s ≠ t := fun e => by rw [e, neb_eq] at hm; cases hm.2
  exact ⟨(h6 s hm.1).1, (r3.1 24 0 s (by omega) (by omega)).trans ((put_ne (by omega)).trans (h6 s hm.1).2.1), (h6 s hm.1).2.2⟩
theorem IQ.close {b : tH} {ρ : Option Nat} {T : Nat} {L : List Nat} (h : IQ b ρ T L) : IQ (mClose b T) ρ T [] := by
  have e := (mClL_off T 0 (put (put b 20 0 6 1) 20 0 27 0)).1
  exact ⟨(e 20 0 11 (by omega) (by omega) (by omega)).trans h.1, h.2.1, e 20 0 27 (by omega) (by omega) (by omega), fun j s hj => by simp at hj, by simp, fun t ht => by simp at ht⟩
theorem mFin_rd {b : tH} {T t c i k : Nat} {s : Int32} (hc : 25 ≤ c) (h1 : c ≠ 35) (h2 : c ≠ 36) (h3 : c ≠ 38) : (mFin b T t s).1 c i k = b.1 c i k := by
  have e1 : (mFinN b t s).1 c i k = b.1 c i k := ((mLeave_off (b := put b 24 0 t s) (t := t)).1 c i k h3 (by omega)).trans (put_ne (by omega))
  unfold mFin
  split
  · exact (((mClL_off T 0 (put (put (mFinN b t s) 20 0 6 1) 20 0 27 0)).1 c i k (by omega) h1 h2).trans ((put_ne (by omega)).trans (put_ne (by omega)))).trans e1
  · exact e1
/-- what an exception keeps of the queue and of the counts -/
theorem IM_exc {b : tH} {ρ : Option Nat} {T t : Nat} {n : Int32} {L : List Nat} (Z : IQ b ρ T L) (I : IH b T) (ht : t < T) (hρ : ρ = some t → b.1 24 0 t = 0) : (∃ L', IQ (mExc b T t n) ρ T L') ∧ IH (mExc b T t n) T ∧ (mExc b T t n).1 31 0 t = b.1 31 0 t ∧ (mExc b T t n).1 30 0 t = b.1 30 0 t := by
  have ht24 : t < 24 := by have := Z.2.1; omega
  obtain ⟨hc, pc, h4, p4, e1, e2⟩ := I t ht
  cases hc with
  | zero =>
    rw [mExc_0 e1]
    have Z1 : IQ (mFinN (mExE b t n) t 6) ρ T (L.filter (neb t)) := IQ.finN (b := mExE b t n) Z ht24
    refine ⟨?_, fun s hs => ?_, ?_, ?_⟩
    · unfold mFin
      split
      · exact ⟨_, Z1.close⟩
      · exact ⟨_, Z1⟩
    · obtain ⟨hc, pc, g4, q4, f1, f2⟩ := I s hs
      exact ⟨hc, pc, g4, q4, (mFin_rd (by omega) (by omega) (by omega) (by omega)).trans f1, (mFin_rd (by omega) (by omega) (by omega) (by omega)).trans f2⟩
    · exact mFin_rd (by omega) (by omega) (by omega) (by omega)
    · exact mFin_rd (by omega) (by omega) (by omega) (by omega)
  | succ hc =>
    rw [mExc_1 e1 (by omega)]
    have ih : ∀ s, s < T → ∃ hc' pc', hc' ≤ 4 ∧ pc' ≤ 4 ∧ (mExB b t n hc).1 28 0 s = nI hc' ∧ (mExB b t n hc).1 31 0 s = nI pc' := by
      intro s hs
      obtain ⟨hc', pc', g4, q4, f1, f2⟩ := I s hs
      by_cases e : s = t
      · subst e
        exact ⟨hc, pc', by omega, q4, by simp [mExB, put_rd], f2⟩
      · refine ⟨hc', pc', g4, q4, ?_, f2⟩
        simp [mExB, put_rd, e]
        exact f1
    split
    · exact ⟨⟨L, Z⟩, ih, rfl, rfl⟩
    · rename_i hs
      have hn : t ∉ L := Z.notin hs
      exact ⟨⟨_, IQ.enq (b := mExB b t n hc) Z ht hn (fun e => hs (hρ e))⟩, ih, rfl, rfl⟩
def mTgt (b : tH) (t : Nat) : Option Nat := if b.1 27 0 t < 0 then none else if b.1 20 0 11 ≤ b.1 27 0 t then none else some (nv (b.1 27 0 t))
def mThr (b : tH) (T u : Nat) (n : Int32) : tH := if 5 ≤ b.1 24 0 u then b else if b.1 30 0 u = 0 ∨ ¬ b.1 24 0 u = 0 then mExc b T u n else if 4 ≤ b.1 31 0 u then b else put (put b 32 0 (4 * u + nv (b.1 31 0 u)) n) 31 0 u (b.1 31 0 u + 1)
def mThrow (b : tH) (T t : Nat) (n : Int32) : tH := if b.1 27 0 t = nI t then mExc b T t n else match mTgt b t with
  | none => b
  | some u => mThr b T u n
def mMkL (T t : Nat) : Nat → tH → tH
  | 0, b => b
  | f + 1, b => if b.1 30 0 t = 0 ∧ ¬ b.1 31 0 t = 0 ∧ b.1 24 0 t = 0 then mMkL T t f (mPop b T t) else b
def mMask (b : tH) (T t : Nat) (x : Int32) : tH := mMkL T t 4 (put b 30 0 t (if x = 1 then 1 else 0))
def mDelay (b : tH) (T t : Nat) (x : Int32) : tH := if b.1 31 0 t = 0 then put (put b 24 0 t 4) 35 0 t (b.1 20 0 8 + x) else mPop b T t
def mFork (b : tH) (T t : Nat) (x : Int32) : tH := if b.1 20 0 11 = 24 ∨ b.1 20 0 1 ≤ x then put b 27 0 t (-1) else put (mNew b T x (b.1 27 0 t)) 27 0 t (nI T)
def mLog (b : tH) (t : Nat) : tH := if 100 ≤ b.1 20 0 31 then b else put (put (put b 41 0 (nv (b.1 20 0 31)) (nI t)) 42 0 (nv (b.1 20 0 31)) (b.1 27 0 t)) 20 0 31 (b.1 20 0 31 + 1)
def mCatch (b : tH) (t : Nat) (x : Int32) : tH := if 4 ≤ b.1 28 0 t then b else put (put b 29 0 (4 * t + nv (b.1 28 0 t)) x) 28 0 t (b.1 28 0 t + 1)
def mDrop (b : tH) (t : Nat) : tH := put b 28 0 t (b.1 28 0 t - (if b.1 28 0 t ≤ 0 then 0 else 1))

set_option maxHeartbeats 4000000 in
set_option maxRecDepth 100000 in
theorem c_X7_throwTo {a b : tH} {T : Nat} {t : Nat} {n : Int32} (ht : t < T) {ρ : Option Nat} {L : List Nat} (Z : IQ b ρ T L) (I : IH b T) : Cn yX7_throwTo cX7_throwTo 4 3 [.inr (some (20, 0)), .inl (nI t), .inl n] (mix a b) (mix a (mThrow b T t n)) := by
  have hT24 := Z.2.1
  have ht24 : t < 24 := by omega
  refine Ct.of (by decide) [_, _, _, _] rfl (Nat.le_of_ble_eq_true rfl) ?_
  refine v_aload_n dX7_throwTo_0 rfl ?_
  refine v_gr 0 fX7_28 dX7_throwTo_1 rfl rfl rfl Nat.zero_lt_one ?_
  refine v_iload_n dX7_throwTo_4 rfl ?_
  refine m_iald t (by decide) rfl dX7_throwTo_5 Nat.zero_lt_one rfl ht24 ?_
  refine v_istore_n [_, _, _, _] dX7_throwTo_6 rfl (by decide) ?_
  refine v_iload_n dX7_throwTo_7 rfl ?_
  refine v_iload_n dX7_throwTo_8 rfl ?_
  refine v_icmp_ne 21 dX7_throwTo_9 (by decide) (fun h_9 => ?_) (fun h_9 => ?_)
  · refine v_iload_n dX7_throwTo_21 rfl ?_
    refine v_iconst 0 dX7_throwTo_22 (by decide) ?_
    refine v_aload_n dX7_throwTo_23 rfl ?_
    refine m_gi (by decide) fX7_92 dX7_throwTo_24 rfl rfl Nat.zero_lt_one ?_
    refine v_iconst 1 dX7_throwTo_27 (by decide) ?_
    refine v_isub dX7_throwTo_28 ?_
    refine v_calls3i lX7_84 kX7_in (c_X7_in) dX7_throwTo_29 rfl (by decide) (by decide) (st8 rfl) ?_
    refine v_if_eq 108 dX7_throwTo_32 (by decide) (fun h_32 => ?_) (fun h_32 => ?_)
    · have eM : mThrow b T t n = b := by
        rw [i001] at h_32
        unfold mThrow
        rw [if_neg h_9]
        have eT : mTgt b t = none := by
          unfold mTgt
          rcases h_32 with z | z
          · rw [if_pos z]
          · by_cases z0 : b.1 27 0 t < 0
            · rw [if_pos z0]
            · rw [if_neg z0, if_pos ?_]
              obtain ⟨u, hu31, hu⟩ := nI_of z0
              rw [hu, Z.1, nI_sub1 (by omega)] at z
              rw [hu, Z.1]
              have z2 := (nI_ltI (by omega) hu31).mp z
              exact nI_le (by omega) hu31
        rw [eT]
      rw [eM]
      exact v_vret dX7_throwTo_108 ⟨rfl, by first | (unfold mThrow; rw [if_pos h_9]; done) | rfl | (unfold mThr; rw [if_pos h_42]; done) | (unfold mThr; rw [if_neg h_42, if_pos (Or.inl h_51)]; done) | (unfold mThr; rw [if_neg h_42, if_pos (Or.inr h_60)]; done) | (unfold mThr; rw [if_neg h_42, if_neg (fun z => z.elim h_51 (fun y => y h_60)), if_pos h_79]; done) | (unfold mThr; rw [if_neg h_42, if_neg (fun z => z.elim h_51 (fun y => y h_60)), if_neg h_79, e2, nv_nI (by omega)])⟩
    · obtain ⟨u, hu, hu2⟩ : ∃ u, u < T ∧ b.1 27 0 t = nI u := by
        rw [i001] at h_32
        obtain ⟨u, hu31, hu⟩ := nI_of (fun z => h_32 (Or.inl z))
        refine ⟨u, ?_, hu⟩
        rcases Nat.lt_or_ge u T with q | q
        · exact q
        · exfalso
          refine h_32 (Or.inr ?_)
          rw [hu, Z.1, nI_sub1 (by omega)]
          exact nI_lt (by omega) (by omega)
      have hu24 : u < 24 := by have := Z.2.1; omega
      have eT : mTgt b t = some u := by
        unfold mTgt
        rw [hu2, Z.1, if_neg (nI_pos (by omega)), if_neg (nI_ge hu (by omega)), nv_nI (by omega)]
      have eM : mThrow b T t n = mThr b T u n := by unfold mThrow; rw [if_neg h_9, eT]
      rw [eM, hu2]
      refine v_aload_n dX7_throwTo_35 rfl ?_
      refine v_gr 0 fX7_19 dX7_throwTo_36 rfl rfl rfl Nat.zero_lt_one ?_
      refine v_iload_n dX7_throwTo_39 rfl ?_
      refine m_iald u (by decide) rfl dX7_throwTo_40 Nat.zero_lt_one rfl hu24 ?_
      refine v_iconst 5 dX7_throwTo_41 (by decide) ?_
      refine v_icmp_ge 108 dX7_throwTo_42 (by decide) (fun h_42 => ?_) (fun h_42 => ?_)
      · exact v_vret dX7_throwTo_108 ⟨rfl, by first | (unfold mThrow; rw [if_pos h_9]; done) | rfl | (unfold mThr; rw [if_pos h_42]; done) | (unfold mThr; rw [if_neg h_42, if_pos (Or.inl h_51)]; done) | (unfold mThr; rw [if_neg h_42, if_pos (Or.inr h_60)]; done) | (unfold mThr; rw [if_neg h_42, if_neg (fun z => z.elim h_51 (fun y => y h_60)), if_pos h_79]; done) | (unfold mThr; rw [if_neg h_42, if_neg (fun z => z.elim h_51 (fun y => y h_60)), if_neg h_79, e2, nv_nI (by omega)])⟩
      · refine v_aload_n dX7_throwTo_45 rfl ?_
        refine v_gr 0 fX7_37 dX7_throwTo_46 rfl rfl rfl Nat.zero_lt_one ?_
        refine v_iload_n dX7_throwTo_49 rfl ?_
        refine m_zald u (by decide) rfl dX7_throwTo_50 Nat.zero_lt_one rfl hu24 ?_
        refine v_if_eq 63 dX7_throwTo_51 (by decide) (fun h_51 => ?_) (fun h_51 => ?_)
        · refine v_aload_n dX7_throwTo_63 rfl ?_
          refine v_iload_n dX7_throwTo_64 rfl ?_
          refine v_iload_n dX7_throwTo_65 rfl ?_
          refine v_call2n lX7_147 kX7_except (c_X7_except (T := T) hu Z (by obtain ⟨hc, pc, h4, p4, e1, e2⟩ := I u hu; exact ⟨hc, h4, e1⟩)) dX7_throwTo_66 rfl rfl Nat.zero_lt_one rfl (by decide) (by decide) (st8 rfl) ?_
          refine v_goto 108 dX7_throwTo_69 (by decide) ?_
          exact v_vret dX7_throwTo_108 ⟨rfl, by first | (unfold mThrow; rw [if_pos h_9]; done) | rfl | (unfold mThr; rw [if_pos h_42]; done) | (unfold mThr; rw [if_neg h_42, if_pos (Or.inl h_51)]; done) | (unfold mThr; rw [if_neg h_42, if_pos (Or.inr h_60)]; done) | (unfold mThr; rw [if_neg h_42, if_neg (fun z => z.elim h_51 (fun y => y h_60)), if_pos h_79]; done) | (unfold mThr; rw [if_neg h_42, if_neg (fun z => z.elim h_51 (fun y => y h_60)), if_neg h_79, e2, nv_nI (by omega)])⟩
        · refine v_aload_n dX7_throwTo_54 rfl ?_
          refine v_gr 0 fX7_19 dX7_throwTo_55 rfl rfl rfl Nat.zero_lt_one ?_
          refine v_iload_n dX7_throwTo_58 rfl ?_
          refine m_iald u (by decide) rfl dX7_throwTo_59 Nat.zero_lt_one rfl hu24 ?_
          refine v_if_eq 72 dX7_throwTo_60 (by decide) (fun h_60 => ?_) (fun h_60 => ?_)
          · refine v_aload_n dX7_throwTo_72 rfl ?_
            refine v_gr 0 fX7_41 dX7_throwTo_73 rfl rfl rfl Nat.zero_lt_one ?_
            refine v_iload_n dX7_throwTo_76 rfl ?_
            refine m_iald u (by decide) rfl dX7_throwTo_77 Nat.zero_lt_one rfl hu24 ?_
            refine v_iconst 4 dX7_throwTo_78 (by decide) ?_
            refine v_icmp_ge 108 dX7_throwTo_79 (by decide) (fun h_79 => ?_) (fun h_79 => ?_)
            · exact v_vret dX7_throwTo_108 ⟨rfl, by first | (unfold mThrow; rw [if_pos h_9]; done) | rfl | (unfold mThr; rw [if_pos h_42]; done) | (unfold mThr; rw [if_neg h_42, if_pos (Or.inl h_51)]; done) | (unfold mThr; rw [if_neg h_42, if_pos (Or.inr h_60)]; done) | (unfold mThr; rw [if_neg h_42, if_neg (fun z => z.elim h_51 (fun y => y h_60)), if_pos h_79]; done) | (unfold mThr; rw [if_neg h_42, if_neg (fun z => z.elim h_51 (fun y => y h_60)), if_neg h_79, e2, nv_nI (by omega)])⟩
            · obtain ⟨hc, pc, h4, p4, e1, e2⟩ := I u hu
              have p4n : pc < 4 := nlt_of e2 (by omega) (by decide) h_79
              refine v_aload_n dX7_throwTo_82 rfl ?_
              refine v_gr 0 fX7_44 dX7_throwTo_83 rfl rfl rfl Nat.zero_lt_one ?_
              refine v_iconst 4 dX7_throwTo_86 (by decide) ?_
              refine v_iload_n dX7_throwTo_87 rfl ?_
              refine v_imul dX7_throwTo_88 ?_
              refine v_aload_n dX7_throwTo_89 rfl ?_
              refine v_gr 0 fX7_41 dX7_throwTo_90 rfl rfl rfl Nat.zero_lt_one ?_
              refine v_iload_n dX7_throwTo_93 rfl ?_
              refine m_ialk u e2 (by decide) rfl dX7_throwTo_94 Nat.zero_lt_one rfl hu24 ?_
              refine v_iadd dX7_throwTo_95 ?_
              refine v_iload_n dX7_throwTo_96 rfl ?_
              refine m_iast (4 * u + pc) (by decide) rfl dX7_throwTo_97 Nat.zero_lt_one (by rw [show (4 : Int32) = nI 4 from rfl, pk_mul, nI_add]) (by omega) ?_
              refine v_aload_n dX7_throwTo_98 rfl ?_
              refine v_gr 0 fX7_41 dX7_throwTo_99 rfl rfl rfl Nat.zero_lt_one ?_
              refine v_iload_n dX7_throwTo_102 rfl ?_
              refine v_dup2 dX7_throwTo_103 ?_
              refine m_ialk u (by exact e2) (by decide) rfl dX7_throwTo_104 Nat.zero_lt_one rfl hu24 ?_
              refine v_iconst 1 dX7_throwTo_105 (by decide) ?_
              refine v_iadd dX7_throwTo_106 ?_
              refine m_iast u (by decide) rfl dX7_throwTo_107 Nat.zero_lt_one rfl hu24 ?_
              exact v_vret dX7_throwTo_108 ⟨rfl, by first | (unfold mThrow; rw [if_pos h_9]; done) | rfl | (unfold mThr; rw [if_pos h_42]; done) | (unfold mThr; rw [if_neg h_42, if_pos (Or.inl h_51)]; done) | (unfold mThr; rw [if_neg h_42, if_pos (Or.inr h_60)]; done) | (unfold mThr; rw [if_neg h_42, if_neg (fun z => z.elim h_51 (fun y => y h_60)), if_pos h_79]; done) | (unfold mThr; rw [if_neg h_42, if_neg (fun z => z.elim h_51 (fun y => y h_60)), if_neg h_79, e2, nv_nI (by omega)])⟩
          · refine v_aload_n dX7_throwTo_63 rfl ?_
            refine v_iload_n dX7_throwTo_64 rfl ?_
            refine v_iload_n dX7_throwTo_65 rfl ?_
            refine v_call2n lX7_147 kX7_except (c_X7_except (T := T) hu Z (by obtain ⟨hc, pc, h4, p4, e1, e2⟩ := I u hu; exact ⟨hc, h4, e1⟩)) dX7_throwTo_66 rfl rfl Nat.zero_lt_one rfl (by decide) (by decide) (st8 rfl) ?_
            refine v_goto 108 dX7_throwTo_69 (by decide) ?_
            exact v_vret dX7_throwTo_108 ⟨rfl, by first | (unfold mThrow; rw [if_pos h_9]; done) | rfl | (unfold mThr; rw [if_pos h_42]; done) | (unfold mThr; rw [if_neg h_42, if_pos (Or.inl h_51)]; done) | (unfold mThr; rw [if_neg h_42, if_pos (Or.inr h_60)]; done) | (unfold mThr; rw [if_neg h_42, if_neg (fun z => z.elim h_51 (fun y => y h_60)), if_pos h_79]; done) | (unfold mThr; rw [if_neg h_42, if_neg (fun z => z.elim h_51 (fun y => y h_60)), if_neg h_79, e2, nv_nI (by omega)])⟩
  · refine v_aload_n dX7_throwTo_12 rfl ?_
    refine v_iload_n dX7_throwTo_13 rfl ?_
    refine v_iload_n dX7_throwTo_14 rfl ?_
    refine v_call2n lX7_147 kX7_except (c_X7_except (T := T) ht Z (by obtain ⟨hc, pc, h4, p4, e1, e2⟩ := I t ht; exact ⟨hc, h4, e1⟩)) dX7_throwTo_15 rfl rfl Nat.zero_lt_one rfl (by decide) (by decide) (st8 rfl) ?_
    refine v_goto 108 dX7_throwTo_18 (by decide) ?_
    exact v_vret dX7_throwTo_108 ⟨rfl, by first | (unfold mThrow; rw [if_pos h_9]; done) | rfl | (unfold mThr; rw [if_pos h_42]; done) | (unfold mThr; rw [if_neg h_42, if_pos (Or.inl h_51)]; done) | (unfold mThr; rw [if_neg h_42, if_pos (Or.inr h_60)]; done) | (unfold mThr; rw [if_neg h_42, if_neg (fun z => z.elim h_51 (fun y => y h_60)), if_pos h_79]; done) | (unfold mThr; rw [if_neg h_42, if_neg (fun z => z.elim h_51 (fun y => y h_60)), if_neg h_79, e2, nv_nI (by omega)])⟩
set_option maxHeartbeats 4000000 in
set_option maxRecDepth 100000 in
theorem c_X7_oth3 {a b : tH} {T : Nat} {t : Nat} {x : Int32} (ht : t < T) {ρ : Option Nat} {L : List Nat} (Z : IQ b ρ T L) : Cn yX7_doOther cX7_doOther 4 4 [.inr (some (20, 0)), .inl (nI t), .inl 3, .inl x] (mix a b) (mix a (put b 27 0 t x)) := by
  have hT24 := Z.2.1
  have ht24 : t < 24 := by omega
  refine Ct.of (by decide) [_, _, _, _] rfl (Nat.le_of_ble_eq_true rfl) ?_
  refine v_iload_n dX7_doOther_0 rfl ?_
  refine v_tsIn (off := 67) 68 3 dX7_doOther_1 rfl (by decide) (by decide) (by decide) (by decide) ?_
  refine v_aload_n dX7_doOther_68 rfl ?_
  refine v_gr 0 fX7_28 dX7_doOther_69 rfl rfl rfl Nat.zero_lt_one ?_
  refine v_iload_n dX7_doOther_72 rfl ?_
  refine v_iload_n dX7_doOther_73 rfl ?_
  refine m_iast t (by decide) rfl dX7_doOther_74 Nat.zero_lt_one rfl ht24 ?_
  refine v_goto 367 dX7_doOther_75 (by decide) ?_
  exact v_vret dX7_doOther_367 ⟨rfl, rfl⟩
set_option maxHeartbeats 4000000 in
set_option maxRecDepth 100000 in
theorem c_X7_oth4 {a b : tH} {T : Nat} {t : Nat} {x : Int32} (ht : t < T) {ρ : Option Nat} {L : List Nat} (Z : IQ b ρ T L) : Cn yX7_doOther cX7_doOther 4 4 [.inr (some (20, 0)), .inl (nI t), .inl 4, .inl x] (mix a b) (mix a (put b 27 0 t (b.1 27 0 t + x))) := by
  have hT24 := Z.2.1
  have ht24 : t < 24 := by omega
  refine Ct.of (by decide) [_, _, _, _] rfl (Nat.le_of_ble_eq_true rfl) ?_
  refine v_iload_n dX7_doOther_0 rfl ?_
  refine v_tsIn (off := 77) 78 4 dX7_doOther_1 rfl (by decide) (by decide) (by decide) (by decide) ?_
  refine v_aload_n dX7_doOther_78 rfl ?_
  refine v_gr 0 fX7_28 dX7_doOther_79 rfl rfl rfl Nat.zero_lt_one ?_
  refine v_iload_n dX7_doOther_82 rfl ?_
  refine v_dup2 dX7_doOther_83 ?_
  refine m_iald t (by decide) rfl dX7_doOther_84 Nat.zero_lt_one rfl ht24 ?_
  refine v_iload_n dX7_doOther_85 rfl ?_
  refine v_iadd dX7_doOther_86 ?_
  refine m_iast t (by decide) rfl dX7_doOther_87 Nat.zero_lt_one rfl ht24 ?_
  refine v_goto 367 dX7_doOther_88 (by decide) ?_
  exact v_vret dX7_doOther_367 ⟨rfl, rfl⟩
set_option maxHeartbeats 4000000 in
set_option maxRecDepth 100000 in
theorem c_X7_oth6 {a b : tH} {T : Nat} {t : Nat} {x : Int32} (ht : t < T) {ρ : Option Nat} {L : List Nat} (Z : IQ b ρ T L) : Cn yX7_doOther cX7_doOther 4 4 [.inr (some (20, 0)), .inl (nI t), .inl 6, .inl x] (mix a b) (mix a (put b 20 0 34 1)) := by
  have hT24 := Z.2.1
  have ht24 : t < 24 := by omega
  refine Ct.of (by decide) [_, _, _, _] rfl (Nat.le_of_ble_eq_true rfl) ?_
  refine v_iload_n dX7_doOther_0 rfl ?_
  refine v_tsIn (off := 131) 132 6 dX7_doOther_1 rfl (by decide) (by decide) (by decide) (by decide) ?_
  refine v_aload_n dX7_doOther_132 rfl ?_
  refine v_iconst 1 dX7_doOther_133 (by decide) ?_
  refine m_pz (by decide) fX7_163 dX7_doOther_134 rfl rfl Nat.zero_lt_one (by decide) ?_
  refine v_goto 367 dX7_doOther_137 (by decide) ?_
  exact v_vret dX7_doOther_367 ⟨rfl, rfl⟩
set_option maxHeartbeats 4000000 in
set_option maxRecDepth 100000 in
theorem c_X7_oth16 {a b : tH} {T : Nat} {t : Nat} {x : Int32} (ht : t < T) {ρ : Option Nat} {L : List Nat} (Z : IQ b ρ T L) : Cn yX7_doOther cX7_doOther 4 4 [.inr (some (20, 0)), .inl (nI t), .inl 16, .inl x] (mix a b) (mix a (put b 27 0 t (nI t))) := by
  have hT24 := Z.2.1
  have ht24 : t < 24 := by omega
  refine Ct.of (by decide) [_, _, _, _] rfl (Nat.le_of_ble_eq_true rfl) ?_
  refine v_iload_n dX7_doOther_0 rfl ?_
  refine v_tsOut 360 dX7_doOther_1 (Or.inr (by decide)) (by decide) ?_
  refine v_aload_n dX7_doOther_360 rfl ?_
  refine v_gr 0 fX7_28 dX7_doOther_361 rfl rfl rfl Nat.zero_lt_one ?_
  refine v_iload_n dX7_doOther_364 rfl ?_
  refine v_iload_n dX7_doOther_365 rfl ?_
  refine m_iast t (by decide) rfl dX7_doOther_366 Nat.zero_lt_one rfl ht24 ?_
  exact v_vret dX7_doOther_367 ⟨rfl, rfl⟩
set_option maxHeartbeats 4000000 in
set_option maxRecDepth 100000 in
theorem c_X7_oth11 {a b : tH} {T : Nat} {t : Nat} {x : Int32} (ht : t < T) {ρ : Option Nat} {L : List Nat} (Z : IQ b ρ T L) (I : IH b T) : Cn yX7_doOther cX7_doOther 4 4 [.inr (some (20, 0)), .inl (nI t), .inl 11, .inl x] (mix a b) (mix a (mExc b T t x)) := by
  have hT24 := Z.2.1
  have ht24 : t < 24 := by omega
  refine Ct.of (by decide) [_, _, _, _] rfl (Nat.le_of_ble_eq_true rfl) ?_
  refine v_iload_n dX7_doOther_0 rfl ?_
  refine v_tsIn (off := 225) 226 11 dX7_doOther_1 rfl (by decide) (by decide) (by decide) (by decide) ?_
  refine v_aload_n dX7_doOther_226 rfl ?_
  refine v_iload_n dX7_doOther_227 rfl ?_
  refine v_iload_n dX7_doOther_228 rfl ?_
  refine v_call2n lX7_147 kX7_except (c_X7_except (T := T) ht Z (by obtain ⟨hc, pc, h4, p4, e1, e2⟩ := I t ht; exact ⟨hc, h4, e1⟩)) dX7_doOther_229 rfl rfl Nat.zero_lt_one rfl (by decide) (by decide) (st8 rfl) ?_
  refine v_goto 367 dX7_doOther_232 (by decide) ?_
  exact v_vret dX7_doOther_367 ⟨rfl, rfl⟩
set_option maxHeartbeats 4000000 in
set_option maxRecDepth 100000 in
theorem c_X7_oth12 {a b : tH} {T : Nat} {t : Nat} {x : Int32} (ht : t < T) {ρ : Option Nat} {L : List Nat} (Z : IQ b ρ T L) (I : IH b T) : Cn yX7_doOther cX7_doOther 4 4 [.inr (some (20, 0)), .inl (nI t), .inl 12, .inl x] (mix a b) (mix a (mThrow b T t x)) := by
  have hT24 := Z.2.1
  have ht24 : t < 24 := by omega
  refine Ct.of (by decide) [_, _, _, _] rfl (Nat.le_of_ble_eq_true rfl) ?_
  refine v_iload_n dX7_doOther_0 rfl ?_
  refine v_tsIn (off := 234) 235 12 dX7_doOther_1 rfl (by decide) (by decide) (by decide) (by decide) ?_
  refine v_aload_n dX7_doOther_235 rfl ?_
  refine v_iload_n dX7_doOther_236 rfl ?_
  refine v_iload_n dX7_doOther_237 rfl ?_
  refine v_call2n lX7_166 kX7_throwTo (c_X7_throwTo (T := T) ht Z I) dX7_doOther_238 rfl rfl Nat.zero_lt_one rfl (by decide) (by decide) (st8 rfl) ?_
  refine v_goto 367 dX7_doOther_241 (by decide) ?_
  exact v_vret dX7_doOther_367 ⟨rfl, rfl⟩
set_option maxHeartbeats 4000000 in
set_option maxRecDepth 100000 in
theorem c_X7_oth13 {a b : tH} {T : Nat} {t : Nat} {x : Int32} (ht : t < T) {ρ : Option Nat} {L : List Nat} (Z : IQ b ρ T L) {hc : Nat} (h4 : hc ≤ 4) (e1 : b.1 28 0 t = nI hc) : Cn yX7_doOther cX7_doOther 4 4 [.inr (some (20, 0)), .inl (nI t), .inl 13, .inl x] (mix a b) (mix a (mCatch b t x)) := by
  have hT24 := Z.2.1
  have ht24 : t < 24 := by omega
  refine Ct.of (by decide) [_, _, _, _] rfl (Nat.le_of_ble_eq_true rfl) ?_
  refine v_iload_n dX7_doOther_0 rfl ?_
  refine v_tsIn (off := 243) 244 13 dX7_doOther_1 rfl (by decide) (by decide) (by decide) (by decide) ?_
  refine v_aload_n dX7_doOther_244 rfl ?_
  refine v_gr 0 fX7_31 dX7_doOther_245 rfl rfl rfl Nat.zero_lt_one ?_
  refine v_iload_n dX7_doOther_248 rfl ?_
  refine m_iald t (by decide) rfl dX7_doOther_249 Nat.zero_lt_one rfl ht24 ?_
  refine v_iconst 4 dX7_doOther_250 (by decide) ?_
  refine v_icmp_ge 367 dX7_doOther_251 (by decide) (fun h_251 => ?_) (fun h_251 => ?_)
  · exact v_vret dX7_doOther_367 ⟨rfl, by unfold mCatch; first | (rw [if_pos h_251]; done) | (rw [if_neg h_251, e1, nv_nI (by omega)])⟩
  · have h4n : hc < 4 := nlt_of e1 (by omega) (by decide) h_251
    refine v_aload_n dX7_doOther_254 rfl ?_
    refine v_gr 0 fX7_34 dX7_doOther_255 rfl rfl rfl Nat.zero_lt_one ?_
    refine v_iconst 4 dX7_doOther_258 (by decide) ?_
    refine v_iload_n dX7_doOther_259 rfl ?_
    refine v_imul dX7_doOther_260 ?_
    refine v_aload_n dX7_doOther_261 rfl ?_
    refine v_gr 0 fX7_31 dX7_doOther_262 rfl rfl rfl Nat.zero_lt_one ?_
    refine v_iload_n dX7_doOther_265 rfl ?_
    refine m_ialk t e1 (by decide) rfl dX7_doOther_266 Nat.zero_lt_one rfl ht24 ?_
    refine v_iadd dX7_doOther_267 ?_
    refine v_iload_n dX7_doOther_268 rfl ?_
    refine m_iast (4 * t + hc) (by decide) rfl dX7_doOther_269 Nat.zero_lt_one (by rw [show (4 : Int32) = nI 4 from rfl, pk_mul, nI_add]) (by omega) ?_
    refine v_aload_n dX7_doOther_270 rfl ?_
    refine v_gr 0 fX7_31 dX7_doOther_271 rfl rfl rfl Nat.zero_lt_one ?_
    refine v_iload_n dX7_doOther_274 rfl ?_
    refine v_dup2 dX7_doOther_275 ?_
    refine m_ialk t (by exact e1) (by decide) rfl dX7_doOther_276 Nat.zero_lt_one rfl ht24 ?_
    refine v_iconst 1 dX7_doOther_277 (by decide) ?_
    refine v_iadd dX7_doOther_278 ?_
    refine m_iast t (by decide) rfl dX7_doOther_279 Nat.zero_lt_one rfl ht24 ?_
    refine v_goto 367 dX7_doOther_280 (by decide) ?_
    exact v_vret dX7_doOther_367 ⟨rfl, by unfold mCatch; first | (rw [if_pos h_251]; done) | (rw [if_neg h_251, e1, nv_nI (by omega)])⟩
set_option maxHeartbeats 4000000 in
set_option maxRecDepth 100000 in
theorem c_X7_oth14 {a b : tH} {T : Nat} {t : Nat} {x : Int32} (ht : t < T) {ρ : Option Nat} {L : List Nat} (Z : IQ b ρ T L) : Cn yX7_doOther cX7_doOther 4 4 [.inr (some (20, 0)), .inl (nI t), .inl 14, .inl x] (mix a b) (mix a (mDrop b t)) := by
  have hT24 := Z.2.1
  have ht24 : t < 24 := by omega
  refine Ct.of (by decide) [_, _, _, _] rfl (Nat.le_of_ble_eq_true rfl) ?_
  refine v_iload_n dX7_doOther_0 rfl ?_
  refine v_tsIn (off := 282) 283 14 dX7_doOther_1 rfl (by decide) (by decide) (by decide) (by decide) ?_
  refine v_aload_n dX7_doOther_283 rfl ?_
  refine v_gr 0 fX7_31 dX7_doOther_284 rfl rfl rfl Nat.zero_lt_one ?_
  refine v_iload_n dX7_doOther_287 rfl ?_
  refine v_dup2 dX7_doOther_288 ?_
  refine m_iald t (by decide) rfl dX7_doOther_289 Nat.zero_lt_one rfl ht24 ?_
  refine v_aload_n dX7_doOther_290 rfl ?_
  refine v_gr 0 fX7_31 dX7_doOther_291 rfl rfl rfl Nat.zero_lt_one ?_
  refine v_iload_n dX7_doOther_294 rfl ?_
  refine m_iald t (by decide) rfl dX7_doOther_295 Nat.zero_lt_one rfl ht24 ?_
  refine v_if_le 303 dX7_doOther_296 (by decide) (fun h_296 => ?_) (fun h_296 => ?_)
  · refine v_iconst 0 dX7_doOther_303 (by decide) ?_
    refine v_isub dX7_doOther_304 ?_
    refine m_iast t (by decide) rfl dX7_doOther_305 Nat.zero_lt_one rfl ht24 ?_
    refine v_goto 367 dX7_doOther_306 (by decide) ?_
    exact v_vret dX7_doOther_367 ⟨rfl, by unfold mDrop; first | (rw [if_pos h_296]; done) | (rw [if_neg h_296])⟩
  · refine v_iconst 1 dX7_doOther_299 (by decide) ?_
    refine v_goto 304 dX7_doOther_300 (by decide) ?_
    refine v_isub dX7_doOther_304 ?_
    refine m_iast t (by decide) rfl dX7_doOther_305 Nat.zero_lt_one rfl ht24 ?_
    refine v_goto 367 dX7_doOther_306 (by decide) ?_
    exact v_vret dX7_doOther_367 ⟨rfl, by unfold mDrop; first | (rw [if_pos h_296]; done) | (rw [if_neg h_296])⟩
set_option maxHeartbeats 4000000 in
set_option maxRecDepth 100000 in
theorem c_X7_oth10 {a b : tH} {T : Nat} {t : Nat} {x : Int32} (ht : t < T) {ρ : Option Nat} {L : List Nat} (Z : IQ b ρ T L) {r : Nat} (hr : b.1 20 0 31 = nI r) (h100 : r ≤ 100) : Cn yX7_doOther cX7_doOther 4 4 [.inr (some (20, 0)), .inl (nI t), .inl 10, .inl x] (mix a b) (mix a (mLog b t)) := by
  have hT24 := Z.2.1
  have ht24 : t < 24 := by omega
  refine Ct.of (by decide) [_, _, _, _] rfl (Nat.le_of_ble_eq_true rfl) ?_
  refine v_iload_n dX7_doOther_0 rfl ?_
  refine v_tsIn (off := 178) 179 10 dX7_doOther_1 rfl (by decide) (by decide) (by decide) (by decide) ?_
  refine v_aload_n dX7_doOther_179 rfl ?_
  refine m_gi (by decide) fX7_121 dX7_doOther_180 rfl rfl Nat.zero_lt_one ?_
  refine v_bipush 100 dX7_doOther_183 (by decide) ?_
  refine v_icmp_ge 367 dX7_doOther_185 (by decide) (fun h_185 => ?_) (fun h_185 => ?_)
  · exact v_vret dX7_doOther_367 ⟨rfl, by unfold mLog; first | (rw [if_pos h_185]; done) | (rw [if_neg h_185, hr, nv_nI (by omega)]; try rfl)⟩
  · have r1 : r < 100 := nlt_of hr (by omega) (by decide) h_185
    refine v_aload_n dX7_doOther_188 rfl ?_
    refine v_gr 0 fX7_71 dX7_doOther_189 rfl rfl rfl Nat.zero_lt_one ?_
    refine v_aload_n dX7_doOther_192 rfl ?_
    refine m_gk hr (by decide) fX7_121 dX7_doOther_193 rfl rfl Nat.zero_lt_one ?_
    refine v_iload_n dX7_doOther_196 rfl ?_
    refine m_iast r (by decide) rfl dX7_doOther_197 Nat.zero_lt_one rfl r1 ?_
    refine v_aload_n dX7_doOther_198 rfl ?_
    refine v_gr 0 fX7_74 dX7_doOther_199 rfl rfl rfl Nat.zero_lt_one ?_
    refine v_aload_n dX7_doOther_202 rfl ?_
    refine m_gk (by exact hr) (by decide) fX7_121 dX7_doOther_203 rfl rfl Nat.zero_lt_one ?_
    refine v_aload_n dX7_doOther_206 rfl ?_
    refine v_gr 0 fX7_28 dX7_doOther_207 rfl rfl rfl Nat.zero_lt_one ?_
    refine v_iload_n dX7_doOther_210 rfl ?_
    refine m_iald t (by decide) rfl dX7_doOther_211 Nat.zero_lt_one rfl ht24 ?_
    refine m_iast r (by decide) rfl dX7_doOther_212 Nat.zero_lt_one rfl r1 ?_
    refine v_aload_n dX7_doOther_213 rfl ?_
    refine v_dup dX7_doOther_214 ?_
    refine m_gk (by exact hr) (by decide) fX7_121 dX7_doOther_215 rfl rfl Nat.zero_lt_one ?_
    refine v_iconst 1 dX7_doOther_218 (by decide) ?_
    refine v_iadd dX7_doOther_219 ?_
    refine m_pi (by decide) fX7_121 dX7_doOther_220 rfl rfl Nat.zero_lt_one ?_
    refine v_goto 367 dX7_doOther_223 (by decide) ?_
    exact v_vret dX7_doOther_367 ⟨rfl, by unfold mLog; first | (rw [if_pos h_185]; done) | (rw [if_neg h_185, hr, nv_nI (by omega)]; try rfl)⟩
set_option maxHeartbeats 4000000 in
set_option maxRecDepth 100000 in
theorem c_X7_oth7a {a b : tH} {T : Nat} {t : Nat} {x : Int32} (ht : t < T) {ρ : Option Nat} {L : List Nat} (Z : IQ b ρ T L) (hp : b.1 31 0 t = 0) : Cn yX7_doOther cX7_doOther 4 4 [.inr (some (20, 0)), .inl (nI t), .inl 7, .inl x] (mix a b) (mix a (mDelay b T t x)) := by
  have hT24 := Z.2.1
  have ht24 : t < 24 := by omega
  refine Ct.of (by decide) [_, _, _, _] rfl (Nat.le_of_ble_eq_true rfl) ?_
  refine v_iload_n dX7_doOther_0 rfl ?_
  refine v_tsIn (off := 139) 140 7 dX7_doOther_1 rfl (by decide) (by decide) (by decide) (by decide) ?_
  refine v_aload_n dX7_doOther_140 rfl ?_
  refine v_gr 0 fX7_41 dX7_doOther_141 rfl rfl rfl Nat.zero_lt_one ?_
  refine v_iload_n dX7_doOther_144 rfl ?_
  refine m_ialk t hp (by decide) rfl dX7_doOther_145 Nat.zero_lt_one rfl ht24 ?_
  refine v_if_le 157 dX7_doOther_146 (by decide) (fun h_146 => ?_) (fun h_146 => absurd (Int32.le_refl 0) h_146)
  refine v_aload_n dX7_doOther_157 rfl ?_
  refine v_gr 0 fX7_19 dX7_doOther_158 rfl rfl rfl Nat.zero_lt_one ?_
  refine v_iload_n dX7_doOther_161 rfl ?_
  refine v_iconst 4 dX7_doOther_162 (by decide) ?_
  refine m_iast t (by decide) rfl dX7_doOther_163 Nat.zero_lt_one rfl ht24 ?_
  refine v_aload_n dX7_doOther_164 rfl ?_
  refine v_gr 0 fX7_53 dX7_doOther_165 rfl rfl rfl Nat.zero_lt_one ?_
  refine v_iload_n dX7_doOther_168 rfl ?_
  refine v_aload_n dX7_doOther_169 rfl ?_
  refine m_gi (by decide) fX7_112 dX7_doOther_170 rfl rfl Nat.zero_lt_one ?_
  refine v_iload_n dX7_doOther_173 rfl ?_
  refine v_iadd dX7_doOther_174 ?_
  refine m_iast t (by decide) rfl dX7_doOther_175 Nat.zero_lt_one rfl ht24 ?_
  refine v_goto 367 dX7_doOther_176 (by decide) ?_
  exact v_vret dX7_doOther_367 ⟨rfl, by unfold mDelay; rw [if_pos hp]; rfl⟩
set_option maxHeartbeats 4000000 in
set_option maxRecDepth 100000 in
theorem c_X7_oth7b {a b : tH} {T : Nat} {t : Nat} {x : Int32} (ht : t < T) {ρ : Option Nat} {L : List Nat} (Z : IQ b ρ T L) {pc : Nat} (I : ∃ hc, hc ≤ 4 ∧ b.1 28 0 t = nI hc) (hp : b.1 31 0 t = nI (pc + 1)) (h4 : pc < 4) : Cn yX7_doOther cX7_doOther 4 4 [.inr (some (20, 0)), .inl (nI t), .inl 7, .inl x] (mix a b) (mix a (mDelay b T t x)) := by
  have hT24 := Z.2.1
  have ht24 : t < 24 := by omega
  refine Ct.of (by decide) [_, _, _, _] rfl (Nat.le_of_ble_eq_true rfl) ?_
  refine v_iload_n dX7_doOther_0 rfl ?_
  refine v_tsIn (off := 139) 140 7 dX7_doOther_1 rfl (by decide) (by decide) (by decide) (by decide) ?_
  refine v_aload_n dX7_doOther_140 rfl ?_
  refine v_gr 0 fX7_41 dX7_doOther_141 rfl rfl rfl Nat.zero_lt_one ?_
  refine v_iload_n dX7_doOther_144 rfl ?_
  refine m_ialk t hp (by decide) rfl dX7_doOther_145 Nat.zero_lt_one rfl ht24 ?_
  refine v_if_le 157 dX7_doOther_146 (by decide) (fun h_146 => absurd h_146 (nI_nle (by omega) (by omega))) (fun h_146 => ?_)
  refine v_aload_n dX7_doOther_149 rfl ?_
  refine v_iload_n dX7_doOther_150 rfl ?_
  refine v_call1n lX7_150 kX7_popPending (c_X7_popPending (T := T) ht Z I hp h4) dX7_doOther_151 rfl rfl Nat.zero_lt_one rfl (by decide) (by decide) (st8 rfl) ?_
  refine v_goto 367 dX7_doOther_154 (by decide) ?_
  exact v_vret dX7_doOther_367 ⟨rfl, by unfold mDelay; rw [hp, if_neg (nI_ne0 (by omega) (by omega))]⟩
set_option maxHeartbeats 4000000 in
set_option maxRecDepth 100000 in
theorem c_X7_oth5 {a b : tH} {T : Nat} {t P : Nat} {x : Int32} (ht : t < T) {ρ : Option Nat} {L : List Nat} (Z : IQ b ρ T L) (hP : b.1 20 0 1 = nI P) : Cn yX7_doOther cX7_doOther 4 4 [.inr (some (20, 0)), .inl (nI t), .inl 5, .inl x] (mix a b) (mix a (mFork b T t x)) := by
  have hT24 := Z.2.1
  have ht24 : t < 24 := by omega
  refine Ct.of (by decide) [_, _, _, _] rfl (Nat.le_of_ble_eq_true rfl) ?_
  refine v_iload_n dX7_doOther_0 rfl ?_
  refine v_tsIn (off := 90) 91 5 dX7_doOther_1 rfl (by decide) (by decide) (by decide) (by decide) ?_
  refine v_aload_n dX7_doOther_91 rfl ?_
  refine v_gr 0 fX7_28 dX7_doOther_92 rfl rfl rfl Nat.zero_lt_one ?_
  refine v_iload_n dX7_doOther_95 rfl ?_
  refine v_aload_n dX7_doOther_96 rfl ?_
  refine m_gi (by decide) fX7_92 dX7_doOther_97 rfl rfl Nat.zero_lt_one ?_
  refine v_bipush 24 dX7_doOther_100 (by decide) ?_
  refine v_icmp_eq 113 dX7_doOther_102 (by decide) (fun h_102 => ?_) (fun h_102 => ?_)
  · refine v_iconst (-1) dX7_doOther_113 (by decide) ?_
    refine v_goto 128 dX7_doOther_114 (by decide) ?_
    refine m_iast t (by decide) rfl dX7_doOther_128 Nat.zero_lt_one rfl ht24 ?_
    refine v_goto 367 dX7_doOther_129 (by decide) ?_
    exact v_vret dX7_doOther_367 ⟨rfl, by unfold mFork; first | (rw [if_pos (Or.inl h_102)]; done) | (rw [if_pos (Or.inr (Int32.not_lt.mp h_110))]; done) | (rw [if_neg (fun z => z.elim h_102 (fun y => absurd h_110 (Int32.not_lt.mpr y)))])⟩
  · have hTn : T < 24 := by
      have h2 : T ≠ 24 := fun e => h_102 (by rw [Z.1, e]; rfl)
      omega
    refine v_iload_n dX7_doOther_105 rfl ?_
    refine v_aload_n dX7_doOther_106 rfl ?_
    refine m_gi (by decide) fX7_81 dX7_doOther_107 rfl rfl Nat.zero_lt_one ?_
    refine v_icmp_lt 117 dX7_doOther_110 (by decide) (fun h_110 => ?_) (fun h_110 => ?_)
    · refine v_aload_n dX7_doOther_117 rfl ?_
      refine v_iload_n dX7_doOther_118 rfl ?_
      refine v_aload_n dX7_doOther_119 rfl ?_
      refine v_gr 0 fX7_28 dX7_doOther_120 rfl rfl rfl Nat.zero_lt_one ?_
      refine v_iload_n dX7_doOther_123 rfl ?_
      refine m_iald t (by decide) rfl dX7_doOther_124 Nat.zero_lt_one rfl ht24 ?_
      refine v_call2i lX7_127 kX7_newThread (c_X7_newThread (q := L.length) (by exact Z.1) hTn (by exact Z.2.2.1) Z.len) dX7_doOther_125 rfl rfl Nat.zero_lt_one rfl (by decide) (by decide) (st8 rfl) ?_
      refine m_iast t (by decide) rfl dX7_doOther_128 Nat.zero_lt_one rfl ht24 ?_
      refine v_goto 367 dX7_doOther_129 (by decide) ?_
      exact v_vret dX7_doOther_367 ⟨rfl, by unfold mFork; first | (rw [if_pos (Or.inl h_102)]; done) | (rw [if_pos (Or.inr (Int32.not_lt.mp h_110))]; done) | (rw [if_neg (fun z => z.elim h_102 (fun y => absurd h_110 (Int32.not_lt.mpr y)))])⟩
    · refine v_iconst (-1) dX7_doOther_113 (by decide) ?_
      refine v_goto 128 dX7_doOther_114 (by decide) ?_
      refine m_iast t (by decide) rfl dX7_doOther_128 Nat.zero_lt_one rfl ht24 ?_
      refine v_goto 367 dX7_doOther_129 (by decide) ?_
      exact v_vret dX7_doOther_367 ⟨rfl, by unfold mFork; first | (rw [if_pos (Or.inl h_102)]; done) | (rw [if_pos (Or.inr (Int32.not_lt.mp h_110))]; done) | (rw [if_neg (fun z => z.elim h_102 (fun y => absurd h_110 (Int32.not_lt.mpr y)))])⟩
theorem mShL_off {t : Nat} : ∀ (m k : Nat) (b : tH), (∀ c i k', c ≠ 32 → (mShL t m k b).1 c i k' = b.1 c i k') ∧ (mShL t m k b).2 = b.2
  | 0, _, b => ⟨fun _ _ _ _ => rfl, rfl⟩
  | m + 1, k, b => by
    obtain ⟨h1, h2⟩ := mShL_off (t := t) m (k + 1) (put b 32 0 (4 * t + k) (b.1 32 0 (4 * t + k + 1)))
    exact ⟨fun c i k' hc => (h1 c i k' hc).trans (put_ne (by omega)), h2⟩
theorem IQ.sh {b : tH} {ρ : Option Nat} {T t m k : Nat} {L : List Nat} (h : IQ b ρ T L) : IQ (mShL t m k b) ρ T L :=
  h.cg ((mShL_off m k b).1 _ _ _ (by omega)) ((mShL_off m k b).1 _ _ _ (by omega)) (funext fun j => (mShL_off m k b).1 _ _ _ (by omega)) (fun t _ => (mShL_off m k b).1 _ _ _ (by omega))
theorem IM_pop {b : tH} {ρ : Option Nat} {T t pc : Nat} {L : List Nat} (Z : IQ b ρ T L) (I : IH b T) (ht : t < T) (hρ : ρ = some t → b.1 24 0 t = 0) (hp : b.1 31 0 t = nI (pc + 1)) (h4 : pc < 4) : (∃ L', IQ (mPop b T t) ρ T L') ∧ IH (mPop b T t) T ∧ (mPop b T t).1 31 0 t = nI pc ∧ (mPop b T t).1 30 0 t = b.1 30 0 t := by
  have e0 : mPop b T t = mExc (mShL t pc 0 (put b 31 0 t (nI pc))) T t (b.1 32 0 (4 * t)) := by unfold mPop; rw [mPopS_1 hp h4]
  rw [e0]
  have off := (mShL_off (t := t) pc 0 (put b 31 0 t (nI pc))).1
  have Z1 : IQ (mShL t pc 0 (put b 31 0 t (nI pc))) ρ T L := IQ.sh (b := put b 31 0 t (nI pc)) Z
  have I1 : IH (mShL t pc 0 (put b 31 0 t (nI pc))) T := by
    intro s hs
    obtain ⟨hc, pc', g4, q4, f1, f2⟩ := I s hs
    by_cases e : s = t
    · subst e
      exact ⟨hc, pc, g4, by omega, (off 28 0 s (by omega)).trans f1, (off 31 0 s (by omega)).trans put_eq⟩
    · exact ⟨hc, pc', g4, q4, (off 28 0 s (by omega)).trans f1, (off 31 0 s (by omega)).trans ((put_ne (by omega)).trans f2)⟩
  obtain ⟨r1, r2, r3, r4⟩ := IM_exc (n := b.1 32 0 (4 * t)) Z1 I1 ht (fun e => (off 24 0 t (by omega)).trans (hρ e))
  exact ⟨r1, r2, r3.trans ((off 31 0 t (by omega)).trans put_eq), r4.trans (off 30 0 t (by omega))⟩
set_option maxHeartbeats 4000000 in
set_option maxRecDepth 100000 in
theorem l_X7_mask {a : tH} {T t : Nat} {x : Int32} (ht : t < T) {ρ : Option Nat} : ∀ (f : Nat) (b : tH) (L : List Nat), f ≤ 4 → IQ b ρ T L → IH b T → (ρ = some t → b.1 24 0 t = 0) → (∃ pc, pc ≤ f ∧ b.1 31 0 t = nI pc) → Vw yX7_doOther.cls cX7_doOther 4 none 4 (fun r h' => r = none ∧ h' = mix a (mMkL T t f b)) 325 [some (.inr (some (20, 0))), some (.inl (nI t)), some (.inl 15), some (.inl x)] [] (mix a b) := by
  intro f
  induction f with
  | zero =>
    intro b L hf Z I hρ hp
    have hT24 := Z.2.1
    have ht24 : t < 24 := by omega
    obtain ⟨pc, p0, hp⟩ := hp
    obtain rfl : pc = 0 := by omega
    refine v_aload_n dX7_doOther_325 rfl ?_
    refine v_gr 0 fX7_37 dX7_doOther_326 rfl rfl rfl Nat.zero_lt_one ?_
    refine v_iload_n dX7_doOther_329 rfl ?_
    refine m_zald t (by decide) rfl dX7_doOther_330 Nat.zero_lt_one rfl ht24 ?_
    refine v_if_ne 367 dX7_doOther_331 (by decide) (fun h_331 => ?_) (fun h_331 => ?_)
    · exact v_vret dX7_doOther_367 ⟨rfl, rfl⟩
    · refine v_aload_n dX7_doOther_334 rfl ?_
      refine v_gr 0 fX7_41 dX7_doOther_335 rfl rfl rfl Nat.zero_lt_one ?_
      refine v_iload_n dX7_doOther_338 rfl ?_
      refine m_ialk t hp (by decide) rfl dX7_doOther_339 Nat.zero_lt_one rfl ht24 ?_
      refine v_if_le 367 dX7_doOther_340 (by decide) (fun h_340 => ?_) (fun h_340 => absurd (Int32.le_refl 0) h_340)
      exact v_vret dX7_doOther_367 ⟨rfl, rfl⟩
  | succ f ih =>
    intro b L hf Z I hρ hp
    have hT24 := Z.2.1
    have ht24 : t < 24 := by omega
    obtain ⟨pc, p0, hp⟩ := hp
    by_cases hc : b.1 30 0 t = 0 ∧ ¬ b.1 31 0 t = 0 ∧ b.1 24 0 t = 0
    · have e1 : mMkL T t (f + 1) b = mMkL T t f (mPop b T t) := if_pos hc
      rw [e1]
      cases pc with
      | zero => exact absurd hp hc.2.1
      | succ pc =>
        have IM := IM_pop Z I ht hρ hp (by omega)
        obtain ⟨L', Z'⟩ := IM.1
        obtain ⟨hh, _, hh4, _, ehh, _⟩ := I t ht
        by_cases hs : (mPop b T t).1 24 0 t = 0
        · refine v_aload_n dX7_doOther_325 rfl ?_
          refine v_gr 0 fX7_37 dX7_doOther_326 rfl rfl rfl Nat.zero_lt_one ?_
          refine v_iload_n dX7_doOther_329 rfl ?_
          refine m_zalk t hc.1 (by decide) rfl dX7_doOther_330 Nat.zero_lt_one rfl ht24 ?_
          refine v_if_ne 367 dX7_doOther_331 (by decide) (fun h_331 => absurd rfl h_331) (fun h_331 => ?_)
          refine v_aload_n dX7_doOther_334 rfl ?_
          refine v_gr 0 fX7_41 dX7_doOther_335 rfl rfl rfl Nat.zero_lt_one ?_
          refine v_iload_n dX7_doOther_338 rfl ?_
          refine m_ialk t hp (by decide) rfl dX7_doOther_339 Nat.zero_lt_one rfl ht24 ?_
          refine v_if_le 367 dX7_doOther_340 (by decide) (fun h_340 => absurd h_340 (nI_nle (by omega) (by omega))) (fun h_340 => ?_)
          refine v_aload_n dX7_doOther_343 rfl ?_
          refine v_gr 0 fX7_19 dX7_doOther_344 rfl rfl rfl Nat.zero_lt_one ?_
          refine v_iload_n dX7_doOther_347 rfl ?_
          refine m_ialk t hc.2.2 (by decide) rfl dX7_doOther_348 Nat.zero_lt_one rfl ht24 ?_
          refine v_if_ne 367 dX7_doOther_349 (by decide) (fun h_349 => absurd rfl h_349) (fun h_349 => ?_)
          refine v_aload_n dX7_doOther_352 rfl ?_
          refine v_iload_n dX7_doOther_353 rfl ?_
          refine v_call1n lX7_150 kX7_popPending (c_X7_popPending (T := T) ht Z ⟨hh, hh4, ehh⟩ hp (by omega)) dX7_doOther_354 rfl rfl Nat.zero_lt_one rfl (by decide) (by decide) (st8 rfl) ?_
          refine v_goto 325 dX7_doOther_357 (by decide) ?_
          exact ih (mPop b T t) L' (by omega) Z' IM.2.1 (fun _ => hs) ⟨pc, by omega, IM.2.2.1⟩
        · have e2 : mMkL T t f (mPop b T t) = mPop b T t := by
            cases f with
            | zero => rfl
            | succ f => exact if_neg (fun z => hs z.2.2)
          rw [e2]
          refine v_aload_n dX7_doOther_325 rfl ?_
          refine v_gr 0 fX7_37 dX7_doOther_326 rfl rfl rfl Nat.zero_lt_one ?_
          refine v_iload_n dX7_doOther_329 rfl ?_
          refine m_zalk t hc.1 (by decide) rfl dX7_doOther_330 Nat.zero_lt_one rfl ht24 ?_
          refine v_if_ne 367 dX7_doOther_331 (by decide) (fun h_331 => absurd rfl h_331) (fun h_331 => ?_)
          refine v_aload_n dX7_doOther_334 rfl ?_
          refine v_gr 0 fX7_41 dX7_doOther_335 rfl rfl rfl Nat.zero_lt_one ?_
          refine v_iload_n dX7_doOther_338 rfl ?_
          refine m_ialk t hp (by decide) rfl dX7_doOther_339 Nat.zero_lt_one rfl ht24 ?_
          refine v_if_le 367 dX7_doOther_340 (by decide) (fun h_340 => absurd h_340 (nI_nle (by omega) (by omega))) (fun h_340 => ?_)
          refine v_aload_n dX7_doOther_343 rfl ?_
          refine v_gr 0 fX7_19 dX7_doOther_344 rfl rfl rfl Nat.zero_lt_one ?_
          refine v_iload_n dX7_doOther_347 rfl ?_
          refine m_ialk t hc.2.2 (by decide) rfl dX7_doOther_348 Nat.zero_lt_one rfl ht24 ?_
          refine v_if_ne 367 dX7_doOther_349 (by decide) (fun h_349 => absurd rfl h_349) (fun h_349 => ?_)
          refine v_aload_n dX7_doOther_352 rfl ?_
          refine v_iload_n dX7_doOther_353 rfl ?_
          refine v_call1n lX7_150 kX7_popPending (c_X7_popPending (T := T) ht Z ⟨hh, hh4, ehh⟩ hp (by omega)) dX7_doOther_354 rfl rfl Nat.zero_lt_one rfl (by decide) (by decide) (st8 rfl) ?_
          refine v_goto 325 dX7_doOther_357 (by decide) ?_
          refine v_aload_n dX7_doOther_325 rfl ?_
          refine v_gr 0 fX7_37 dX7_doOther_326 rfl rfl rfl Nat.zero_lt_one ?_
          refine v_iload_n dX7_doOther_329 rfl ?_
          refine m_zald t (by decide) rfl dX7_doOther_330 Nat.zero_lt_one rfl ht24 ?_
          refine v_if_ne 367 dX7_doOther_331 (by decide) (fun h_331_3 => ?_) (fun h_331_3 => ?_)
          · exact v_vret dX7_doOther_367 ⟨rfl, rfl⟩
          · refine v_aload_n dX7_doOther_334 rfl ?_
            refine v_gr 0 fX7_41 dX7_doOther_335 rfl rfl rfl Nat.zero_lt_one ?_
            refine v_iload_n dX7_doOther_338 rfl ?_
            refine m_iald t (by decide) rfl dX7_doOther_339 Nat.zero_lt_one rfl ht24 ?_
            refine v_if_le 367 dX7_doOther_340 (by decide) (fun h_340_4 => ?_) (fun h_340_4 => ?_)
            · exact v_vret dX7_doOther_367 ⟨rfl, rfl⟩
            · refine v_aload_n dX7_doOther_343 rfl ?_
              refine v_gr 0 fX7_19 dX7_doOther_344 rfl rfl rfl Nat.zero_lt_one ?_
              refine v_iload_n dX7_doOther_347 rfl ?_
              refine m_iald t (by decide) rfl dX7_doOther_348 Nat.zero_lt_one rfl ht24 ?_
              refine v_if_ne 367 dX7_doOther_349 (by decide) (fun h_349_5 => ?_) (fun h_349_5 => absurd h_349_5 hs)
              exact v_vret dX7_doOther_367 ⟨rfl, rfl⟩
    · have e1 : mMkL T t (f + 1) b = b := if_neg hc
      rw [e1]
      refine v_aload_n dX7_doOther_325 rfl ?_
      refine v_gr 0 fX7_37 dX7_doOther_326 rfl rfl rfl Nat.zero_lt_one ?_
      refine v_iload_n dX7_doOther_329 rfl ?_
      refine m_zald t (by decide) rfl dX7_doOther_330 Nat.zero_lt_one rfl ht24 ?_
      refine v_if_ne 367 dX7_doOther_331 (by decide) (fun h_331 => ?_) (fun h_331 => ?_)
      · exact v_vret dX7_doOther_367 ⟨rfl, rfl⟩
      · refine v_aload_n dX7_doOther_334 rfl ?_
        refine v_gr 0 fX7_41 dX7_doOther_335 rfl rfl rfl Nat.zero_lt_one ?_
        refine v_iload_n dX7_doOther_338 rfl ?_
        refine m_iald t (by decide) rfl dX7_doOther_339 Nat.zero_lt_one rfl ht24 ?_
        refine v_if_le 367 dX7_doOther_340 (by decide) (fun h_340 => ?_) (fun h_340 => ?_)
        · exact v_vret dX7_doOther_367 ⟨rfl, rfl⟩
        · have g340 : ¬ b.1 31 0 t = 0 := fun z => h_340 (by rw [z]; exact Int32.le_refl 0)
          refine v_aload_n dX7_doOther_343 rfl ?_
          refine v_gr 0 fX7_19 dX7_doOther_344 rfl rfl rfl Nat.zero_lt_one ?_
          refine v_iload_n dX7_doOther_347 rfl ?_
          refine m_iald t (by decide) rfl dX7_doOther_348 Nat.zero_lt_one rfl ht24 ?_
          refine v_if_ne 367 dX7_doOther_349 (by decide) (fun h_349 => ?_) (fun h_349 => absurd ⟨h_331, g340, h_349⟩ hc)
          exact v_vret dX7_doOther_367 ⟨rfl, rfl⟩
set_option maxHeartbeats 4000000 in
set_option maxRecDepth 100000 in
theorem c_X7_oth15 {a b : tH} {T : Nat} {t : Nat} {x : Int32} (ht : t < T) {ρ : Option Nat} {L : List Nat} (Z : IQ b ρ T L) (I : IH b T) (hρ : ρ = some t → b.1 24 0 t = 0) : Cn yX7_doOther cX7_doOther 4 4 [.inr (some (20, 0)), .inl (nI t), .inl 15, .inl x] (mix a b) (mix a (mMask b T t x)) := by
  have hT24 := Z.2.1
  have ht24 : t < 24 := by omega
  refine Ct.of (by decide) [_, _, _, _] rfl (Nat.le_of_ble_eq_true rfl) ?_
  refine v_iload_n dX7_doOther_0 rfl ?_
  refine v_tsIn (off := 308) 309 15 dX7_doOther_1 rfl (by decide) (by decide) (by decide) (by decide) ?_
  refine v_aload_n dX7_doOther_309 rfl ?_
  refine v_gr 0 fX7_37 dX7_doOther_310 rfl rfl rfl Nat.zero_lt_one ?_
  refine v_iload_n dX7_doOther_313 rfl ?_
  refine v_iload_n dX7_doOther_314 rfl ?_
  refine v_iconst 1 dX7_doOther_315 (by decide) ?_
  refine v_icmp_ne 323 dX7_doOther_316 (by decide) (fun h_316 => ?_) (fun h_316 => ?_)
  · refine v_iconst 0 dX7_doOther_323 (by decide) ?_
    refine m_zast t (by decide) rfl dX7_doOther_324 Nat.zero_lt_one rfl ht24 (by decide) ?_
    have e0 : mMask b T t x = mMkL T t 4 (put b 30 0 t 0) := by unfold mMask; rw [if_neg h_316]
    rw [e0]
    obtain ⟨hc, pc, h4, p4, e1, e2⟩ := I t ht
    exact l_X7_mask (x := x) (ρ := ρ) ht 4 _ L (Nat.le_refl 4) Z I hρ ⟨pc, p4, e2⟩
  · refine v_iconst 1 dX7_doOther_319 (by decide) ?_
    refine v_goto 324 dX7_doOther_320 (by decide) ?_
    refine m_zast t (by decide) rfl dX7_doOther_324 Nat.zero_lt_one rfl ht24 (by decide) ?_
    have e0 : mMask b T t x = mMkL T t 4 (put b 30 0 t 1) := by unfold mMask; rw [if_pos h_316]
    rw [e0]
    obtain ⟨hc, pc, h4, p4, e1, e2⟩ := I t ht
    exact l_X7_mask (x := x) (ρ := ρ) ht 4 _ L (Nat.le_refl 4) Z I hρ ⟨pc, p4, e2⟩
end
section
/-! The reference: an act, waking, what is ready -/
def mNx (b : tH) (t : Nat) : tH := put b 26 0 t (b.1 26 0 t + 1)
def mPut (b : tH) (T t : Nat) (x : Int32) : tH := if b.1 40 0 (nv x) = 0 then mComes (mNx b t) T (nv x) (b.1 27 0 t) else mWait b T t x 1
def mTake (b : tH) (T t : Nat) (x : Int32) : tH := if b.1 40 0 (nv x) = 0 then mWait b T t x 2 else mTaken (put (mNx b t) 27 0 t (b.1 39 0 (nv x))) T (nv x)
def mRead (b : tH) (T t : Nat) (x : Int32) : tH := if b.1 40 0 (nv x) = 0 then mWait b T t x 3 else put (mNx b t) 27 0 t (b.1 39 0 (nv x))
def mDo (j : Nat) (x : Int32) (b : tH) (T t : Nat) : tH := match j with
  | 0 => mPut b T t x
  | 1 => mTake b T t x
  | 2 => mRead b T t x
  | 3 => put (mNx b t) 27 0 t x
  | 4 => put (mNx b t) 27 0 t (b.1 27 0 t + x)
  | 5 => mFork (mNx b t) T t x
  | 6 => put (mNx b t) 20 0 34 1
  | 7 => mDelay (mNx b t) T t x
  | 8 => put b 26 0 t x
  | 9 => put b 26 0 t (if b.1 27 0 t = 0 then x else b.1 26 0 t + 1)
  | 10 => mLog (mNx b t) t
  | 11 => mExc (mNx b t) T t x
  | 12 => mThrow (mNx b t) T t x
  | 13 => mCatch (mNx b t) t x
  | 14 => mDrop (mNx b t) t
  | 15 => mMask (mNx b t) T t x
  | _ => put (mNx b t) 27 0 t (nI t)
def mKx (b : tH) (t : Nat) : Nat := 20 * nv (b.1 25 0 t) + nv (b.1 26 0 t)
def mAct (b : tH) (T t : Nat) : tH := mDo (nv (b.1 22 0 (mKx b t))) (b.1 23 0 (mKx b t)) b T t

set_option maxHeartbeats 4000000 in
set_option maxRecDepth 100000 in
theorem c_X7_act3 {a b : tH} {T : Nat} {t p n : Nat} {x : Int32} (ht : t < T) {ρ : Option Nat} {L : List Nat} (Z : IQ b ρ T L) (I : IH b T) (hr : ∀ r, ρ = some r → b.1 24 0 r = 0) (ep : b.1 25 0 t = nI p) (en : b.1 26 0 t = nI n) (hk : 20 * p + n < 240) (ex : b.1 23 0 (20 * p + n) = x) (ek : b.1 22 0 (20 * p + n) = 3) : Cn yX7_doAct cX7_doAct 4 5 [.inr (some (20, 0)), .inl (nI t)] (mix a b) (mix a (put (mNx b t) 27 0 t x)) := by
  have hT24 := Z.2.1
  have ht24 : t < 24 := by omega
  refine Ct.of (by decide) [_, _, _, _] rfl (Nat.le_of_ble_eq_true rfl) ?_
  refine v_bipush 20 dX7_doAct_0 (by decide) ?_
  refine v_aload_n dX7_doAct_2 rfl ?_
  refine v_gr 0 fX7_22 dX7_doAct_3 rfl rfl rfl Nat.zero_lt_one ?_
  refine v_iload_n dX7_doAct_6 rfl ?_
  refine m_ialk t ep (by decide) rfl dX7_doAct_7 Nat.zero_lt_one rfl ht24 ?_
  refine v_imul dX7_doAct_8 ?_
  refine v_aload_n dX7_doAct_9 rfl ?_
  refine v_gr 0 fX7_25 dX7_doAct_10 rfl rfl rfl Nat.zero_lt_one ?_
  refine v_iload_n dX7_doAct_13 rfl ?_
  refine m_ialk t en (by decide) rfl dX7_doAct_14 Nat.zero_lt_one rfl ht24 ?_
  refine v_iadd dX7_doAct_15 ?_
  rw [show (20 : Int32) = nI 20 from rfl, pk_mul, nI_add]
  refine v_istore_n [_, _, _, _] dX7_doAct_16 rfl (by decide) ?_
  refine v_aload_n dX7_doAct_17 rfl ?_
  refine v_gr 0 fX7_16 dX7_doAct_18 rfl rfl rfl Nat.zero_lt_one ?_
  refine v_iload_n dX7_doAct_21 rfl ?_
  refine m_ialk (20 * p + n) ex (by decide) rfl dX7_doAct_22 Nat.zero_lt_one rfl hk ?_
  refine v_istore_n [_, _, _, _] dX7_doAct_23 rfl (by decide) ?_
  refine v_aload_n dX7_doAct_24 rfl ?_
  refine v_gr 0 fX7_13 dX7_doAct_25 rfl rfl rfl Nat.zero_lt_one ?_
  refine v_iload_n dX7_doAct_28 rfl ?_
  refine m_ialk (20 * p + n) ek (by decide) rfl dX7_doAct_29 Nat.zero_lt_one rfl hk ?_
  refine v_tsIn (off := 214) 244 3 dX7_doAct_30 rfl (by decide) (by decide) (by decide) (by decide) ?_
  refine v_aload_n dX7_doAct_244 rfl ?_
  refine v_gr 0 fX7_25 dX7_doAct_245 rfl rfl rfl Nat.zero_lt_one ?_
  refine v_iload_n dX7_doAct_248 rfl ?_
  refine v_dup2 dX7_doAct_249 ?_
  refine m_iald t (by decide) rfl dX7_doAct_250 Nat.zero_lt_one rfl ht24 ?_
  refine v_iconst 1 dX7_doAct_251 (by decide) ?_
  refine v_iadd dX7_doAct_252 ?_
  refine m_iast t (by decide) rfl dX7_doAct_253 Nat.zero_lt_one rfl ht24 ?_
  refine v_aload_n dX7_doAct_254 rfl ?_
  refine v_iload_n dX7_doAct_255 rfl ?_
  refine v_aload_n dX7_doAct_256 rfl ?_
  refine v_gr 0 fX7_13 dX7_doAct_257 rfl rfl rfl Nat.zero_lt_one ?_
  refine v_iload_n dX7_doAct_260 rfl ?_
  refine m_ialk (20 * p + n) (by exact ek) (by decide) rfl dX7_doAct_261 Nat.zero_lt_one rfl hk ?_
  refine v_iload_n dX7_doAct_262 rfl ?_
  refine v_call3n lX7_160 kX7_doOther (c_X7_oth3 (T := T) ht (by exact Z)) dX7_doAct_263 rfl rfl Nat.zero_lt_one rfl (by decide) (by decide) (st8 rfl) ?_
  exact v_vret dX7_doAct_266 ⟨rfl, rfl⟩
set_option maxHeartbeats 4000000 in
set_option maxRecDepth 100000 in
theorem c_X7_act4 {a b : tH} {T : Nat} {t p n : Nat} {x : Int32} (ht : t < T) {ρ : Option Nat} {L : List Nat} (Z : IQ b ρ T L) (I : IH b T) (hr : ∀ r, ρ = some r → b.1 24 0 r = 0) (ep : b.1 25 0 t = nI p) (en : b.1 26 0 t = nI n) (hk : 20 * p + n < 240) (ex : b.1 23 0 (20 * p + n) = x) (ek : b.1 22 0 (20 * p + n) = 4) : Cn yX7_doAct cX7_doAct 4 5 [.inr (some (20, 0)), .inl (nI t)] (mix a b) (mix a (put (mNx b t) 27 0 t (b.1 27 0 t + x))) := by
  have hT24 := Z.2.1
  have ht24 : t < 24 := by omega
  refine Ct.of (by decide) [_, _, _, _] rfl (Nat.le_of_ble_eq_true rfl) ?_
  refine v_bipush 20 dX7_doAct_0 (by decide) ?_
  refine v_aload_n dX7_doAct_2 rfl ?_
  refine v_gr 0 fX7_22 dX7_doAct_3 rfl rfl rfl Nat.zero_lt_one ?_
  refine v_iload_n dX7_doAct_6 rfl ?_
  refine m_ialk t ep (by decide) rfl dX7_doAct_7 Nat.zero_lt_one rfl ht24 ?_
  refine v_imul dX7_doAct_8 ?_
  refine v_aload_n dX7_doAct_9 rfl ?_
  refine v_gr 0 fX7_25 dX7_doAct_10 rfl rfl rfl Nat.zero_lt_one ?_
  refine v_iload_n dX7_doAct_13 rfl ?_
  refine m_ialk t en (by decide) rfl dX7_doAct_14 Nat.zero_lt_one rfl ht24 ?_
  refine v_iadd dX7_doAct_15 ?_
  rw [show (20 : Int32) = nI 20 from rfl, pk_mul, nI_add]
  refine v_istore_n [_, _, _, _] dX7_doAct_16 rfl (by decide) ?_
  refine v_aload_n dX7_doAct_17 rfl ?_
  refine v_gr 0 fX7_16 dX7_doAct_18 rfl rfl rfl Nat.zero_lt_one ?_
  refine v_iload_n dX7_doAct_21 rfl ?_
  refine m_ialk (20 * p + n) ex (by decide) rfl dX7_doAct_22 Nat.zero_lt_one rfl hk ?_
  refine v_istore_n [_, _, _, _] dX7_doAct_23 rfl (by decide) ?_
  refine v_aload_n dX7_doAct_24 rfl ?_
  refine v_gr 0 fX7_13 dX7_doAct_25 rfl rfl rfl Nat.zero_lt_one ?_
  refine v_iload_n dX7_doAct_28 rfl ?_
  refine m_ialk (20 * p + n) ek (by decide) rfl dX7_doAct_29 Nat.zero_lt_one rfl hk ?_
  refine v_tsIn (off := 214) 244 4 dX7_doAct_30 rfl (by decide) (by decide) (by decide) (by decide) ?_
  refine v_aload_n dX7_doAct_244 rfl ?_
  refine v_gr 0 fX7_25 dX7_doAct_245 rfl rfl rfl Nat.zero_lt_one ?_
  refine v_iload_n dX7_doAct_248 rfl ?_
  refine v_dup2 dX7_doAct_249 ?_
  refine m_iald t (by decide) rfl dX7_doAct_250 Nat.zero_lt_one rfl ht24 ?_
  refine v_iconst 1 dX7_doAct_251 (by decide) ?_
  refine v_iadd dX7_doAct_252 ?_
  refine m_iast t (by decide) rfl dX7_doAct_253 Nat.zero_lt_one rfl ht24 ?_
  refine v_aload_n dX7_doAct_254 rfl ?_
  refine v_iload_n dX7_doAct_255 rfl ?_
  refine v_aload_n dX7_doAct_256 rfl ?_
  refine v_gr 0 fX7_13 dX7_doAct_257 rfl rfl rfl Nat.zero_lt_one ?_
  refine v_iload_n dX7_doAct_260 rfl ?_
  refine m_ialk (20 * p + n) (by exact ek) (by decide) rfl dX7_doAct_261 Nat.zero_lt_one rfl hk ?_
  refine v_iload_n dX7_doAct_262 rfl ?_
  refine v_call3n lX7_160 kX7_doOther (c_X7_oth4 (T := T) ht (by exact Z)) dX7_doAct_263 rfl rfl Nat.zero_lt_one rfl (by decide) (by decide) (st8 rfl) ?_
  exact v_vret dX7_doAct_266 ⟨rfl, rfl⟩
set_option maxHeartbeats 4000000 in
set_option maxRecDepth 100000 in
theorem c_X7_act5 {a b : tH} {T : Nat} {t p n : Nat} {x : Int32} (ht : t < T) {ρ : Option Nat} {L : List Nat} (Z : IQ b ρ T L) (I : IH b T) (hr : ∀ r, ρ = some r → b.1 24 0 r = 0) (ep : b.1 25 0 t = nI p) (en : b.1 26 0 t = nI n) (hk : 20 * p + n < 240) (ex : b.1 23 0 (20 * p + n) = x) (ek : b.1 22 0 (20 * p + n) = 5) {P : Nat} (eP : b.1 20 0 1 = nI P) : Cn yX7_doAct cX7_doAct 4 5 [.inr (some (20, 0)), .inl (nI t)] (mix a b) (mix a (mFork (mNx b t) T t x)) := by
  have hT24 := Z.2.1
  have ht24 : t < 24 := by omega
  refine Ct.of (by decide) [_, _, _, _] rfl (Nat.le_of_ble_eq_true rfl) ?_
  refine v_bipush 20 dX7_doAct_0 (by decide) ?_
  refine v_aload_n dX7_doAct_2 rfl ?_
  refine v_gr 0 fX7_22 dX7_doAct_3 rfl rfl rfl Nat.zero_lt_one ?_
  refine v_iload_n dX7_doAct_6 rfl ?_
  refine m_ialk t ep (by decide) rfl dX7_doAct_7 Nat.zero_lt_one rfl ht24 ?_
  refine v_imul dX7_doAct_8 ?_
  refine v_aload_n dX7_doAct_9 rfl ?_
  refine v_gr 0 fX7_25 dX7_doAct_10 rfl rfl rfl Nat.zero_lt_one ?_
  refine v_iload_n dX7_doAct_13 rfl ?_
  refine m_ialk t en (by decide) rfl dX7_doAct_14 Nat.zero_lt_one rfl ht24 ?_
  refine v_iadd dX7_doAct_15 ?_
  rw [show (20 : Int32) = nI 20 from rfl, pk_mul, nI_add]
  refine v_istore_n [_, _, _, _] dX7_doAct_16 rfl (by decide) ?_
  refine v_aload_n dX7_doAct_17 rfl ?_
  refine v_gr 0 fX7_16 dX7_doAct_18 rfl rfl rfl Nat.zero_lt_one ?_
  refine v_iload_n dX7_doAct_21 rfl ?_
  refine m_ialk (20 * p + n) ex (by decide) rfl dX7_doAct_22 Nat.zero_lt_one rfl hk ?_
  refine v_istore_n [_, _, _, _] dX7_doAct_23 rfl (by decide) ?_
  refine v_aload_n dX7_doAct_24 rfl ?_
  refine v_gr 0 fX7_13 dX7_doAct_25 rfl rfl rfl Nat.zero_lt_one ?_
  refine v_iload_n dX7_doAct_28 rfl ?_
  refine m_ialk (20 * p + n) ek (by decide) rfl dX7_doAct_29 Nat.zero_lt_one rfl hk ?_
  refine v_tsIn (off := 214) 244 5 dX7_doAct_30 rfl (by decide) (by decide) (by decide) (by decide) ?_
  refine v_aload_n dX7_doAct_244 rfl ?_
  refine v_gr 0 fX7_25 dX7_doAct_245 rfl rfl rfl Nat.zero_lt_one ?_
  refine v_iload_n dX7_doAct_248 rfl ?_
  refine v_dup2 dX7_doAct_249 ?_
  refine m_iald t (by decide) rfl dX7_doAct_250 Nat.zero_lt_one rfl ht24 ?_
  refine v_iconst 1 dX7_doAct_251 (by decide) ?_
  refine v_iadd dX7_doAct_252 ?_
  refine m_iast t (by decide) rfl dX7_doAct_253 Nat.zero_lt_one rfl ht24 ?_
  refine v_aload_n dX7_doAct_254 rfl ?_
  refine v_iload_n dX7_doAct_255 rfl ?_
  refine v_aload_n dX7_doAct_256 rfl ?_
  refine v_gr 0 fX7_13 dX7_doAct_257 rfl rfl rfl Nat.zero_lt_one ?_
  refine v_iload_n dX7_doAct_260 rfl ?_
  refine m_ialk (20 * p + n) (by exact ek) (by decide) rfl dX7_doAct_261 Nat.zero_lt_one rfl hk ?_
  refine v_iload_n dX7_doAct_262 rfl ?_
  refine v_call3n lX7_160 kX7_doOther (c_X7_oth5 (T := T) (P := P) ht (by exact Z) (by exact eP)) dX7_doAct_263 rfl rfl Nat.zero_lt_one rfl (by decide) (by decide) (st8 rfl) ?_
  exact v_vret dX7_doAct_266 ⟨rfl, rfl⟩
set_option maxHeartbeats 4000000 in
set_option maxRecDepth 100000 in
theorem c_X7_act6 {a b : tH} {T : Nat} {t p n : Nat} {x : Int32} (ht : t < T) {ρ : Option Nat} {L : List Nat} (Z : IQ b ρ T L) (I : IH b T) (hr : ∀ r, ρ = some r → b.1 24 0 r = 0) (ep : b.1 25 0 t = nI p) (en : b.1 26 0 t = nI n) (hk : 20 * p + n < 240) (ex : b.1 23 0 (20 * p + n) = x) (ek : b.1 22 0 (20 * p + n) = 6) : Cn yX7_doAct cX7_doAct 4 5 [.inr (some (20, 0)), .inl (nI t)] (mix a b) (mix a (put (mNx b t) 20 0 34 1)) := by
  have hT24 := Z.2.1
  have ht24 : t < 24 := by omega
  refine Ct.of (by decide) [_, _, _, _] rfl (Nat.le_of_ble_eq_true rfl) ?_
  refine v_bipush 20 dX7_doAct_0 (by decide) ?_
  refine v_aload_n dX7_doAct_2 rfl ?_
  refine v_gr 0 fX7_22 dX7_doAct_3 rfl rfl rfl Nat.zero_lt_one ?_
  refine v_iload_n dX7_doAct_6 rfl ?_
  refine m_ialk t ep (by decide) rfl dX7_doAct_7 Nat.zero_lt_one rfl ht24 ?_
  refine v_imul dX7_doAct_8 ?_
  refine v_aload_n dX7_doAct_9 rfl ?_
  refine v_gr 0 fX7_25 dX7_doAct_10 rfl rfl rfl Nat.zero_lt_one ?_
  refine v_iload_n dX7_doAct_13 rfl ?_
  refine m_ialk t en (by decide) rfl dX7_doAct_14 Nat.zero_lt_one rfl ht24 ?_
  refine v_iadd dX7_doAct_15 ?_
  rw [show (20 : Int32) = nI 20 from rfl, pk_mul, nI_add]
  refine v_istore_n [_, _, _, _] dX7_doAct_16 rfl (by decide) ?_
  refine v_aload_n dX7_doAct_17 rfl ?_
  refine v_gr 0 fX7_16 dX7_doAct_18 rfl rfl rfl Nat.zero_lt_one ?_
  refine v_iload_n dX7_doAct_21 rfl ?_
  refine m_ialk (20 * p + n) ex (by decide) rfl dX7_doAct_22 Nat.zero_lt_one rfl hk ?_
  refine v_istore_n [_, _, _, _] dX7_doAct_23 rfl (by decide) ?_
  refine v_aload_n dX7_doAct_24 rfl ?_
  refine v_gr 0 fX7_13 dX7_doAct_25 rfl rfl rfl Nat.zero_lt_one ?_
  refine v_iload_n dX7_doAct_28 rfl ?_
  refine m_ialk (20 * p + n) ek (by decide) rfl dX7_doAct_29 Nat.zero_lt_one rfl hk ?_
  refine v_tsIn (off := 214) 244 6 dX7_doAct_30 rfl (by decide) (by decide) (by decide) (by decide) ?_
  refine v_aload_n dX7_doAct_244 rfl ?_
  refine v_gr 0 fX7_25 dX7_doAct_245 rfl rfl rfl Nat.zero_lt_one ?_
  refine v_iload_n dX7_doAct_248 rfl ?_
  refine v_dup2 dX7_doAct_249 ?_
  refine m_iald t (by decide) rfl dX7_doAct_250 Nat.zero_lt_one rfl ht24 ?_
  refine v_iconst 1 dX7_doAct_251 (by decide) ?_
  refine v_iadd dX7_doAct_252 ?_
  refine m_iast t (by decide) rfl dX7_doAct_253 Nat.zero_lt_one rfl ht24 ?_
  refine v_aload_n dX7_doAct_254 rfl ?_
  refine v_iload_n dX7_doAct_255 rfl ?_
  refine v_aload_n dX7_doAct_256 rfl ?_
  refine v_gr 0 fX7_13 dX7_doAct_257 rfl rfl rfl Nat.zero_lt_one ?_
  refine v_iload_n dX7_doAct_260 rfl ?_
  refine m_ialk (20 * p + n) (by exact ek) (by decide) rfl dX7_doAct_261 Nat.zero_lt_one rfl hk ?_
  refine v_iload_n dX7_doAct_262 rfl ?_
  refine v_call3n lX7_160 kX7_doOther (c_X7_oth6 (T := T) ht (by exact Z)) dX7_doAct_263 rfl rfl Nat.zero_lt_one rfl (by decide) (by decide) (st8 rfl) ?_
  exact v_vret dX7_doAct_266 ⟨rfl, rfl⟩
set_option maxHeartbeats 4000000 in
set_option maxRecDepth 100000 in
theorem c_X7_act7a {a b : tH} {T : Nat} {t p n : Nat} {x : Int32} (ht : t < T) {ρ : Option Nat} {L : List Nat} (Z : IQ b ρ T L) (I : IH b T) (hr : ∀ r, ρ = some r → b.1 24 0 r = 0) (ep : b.1 25 0 t = nI p) (en : b.1 26 0 t = nI n) (hk : 20 * p + n < 240) (ex : b.1 23 0 (20 * p + n) = x) (ek : b.1 22 0 (20 * p + n) = 7) (hp : b.1 31 0 t = 0) : Cn yX7_doAct cX7_doAct 4 5 [.inr (some (20, 0)), .inl (nI t)] (mix a b) (mix a (mDelay (mNx b t) T t x)) := by
  have hT24 := Z.2.1
  have ht24 : t < 24 := by omega
  refine Ct.of (by decide) [_, _, _, _] rfl (Nat.le_of_ble_eq_true rfl) ?_
  refine v_bipush 20 dX7_doAct_0 (by decide) ?_
  refine v_aload_n dX7_doAct_2 rfl ?_
  refine v_gr 0 fX7_22 dX7_doAct_3 rfl rfl rfl Nat.zero_lt_one ?_
  refine v_iload_n dX7_doAct_6 rfl ?_
  refine m_ialk t ep (by decide) rfl dX7_doAct_7 Nat.zero_lt_one rfl ht24 ?_
  refine v_imul dX7_doAct_8 ?_
  refine v_aload_n dX7_doAct_9 rfl ?_
  refine v_gr 0 fX7_25 dX7_doAct_10 rfl rfl rfl Nat.zero_lt_one ?_
  refine v_iload_n dX7_doAct_13 rfl ?_
  refine m_ialk t en (by decide) rfl dX7_doAct_14 Nat.zero_lt_one rfl ht24 ?_
  refine v_iadd dX7_doAct_15 ?_
  rw [show (20 : Int32) = nI 20 from rfl, pk_mul, nI_add]
  refine v_istore_n [_, _, _, _] dX7_doAct_16 rfl (by decide) ?_
  refine v_aload_n dX7_doAct_17 rfl ?_
  refine v_gr 0 fX7_16 dX7_doAct_18 rfl rfl rfl Nat.zero_lt_one ?_
  refine v_iload_n dX7_doAct_21 rfl ?_
  refine m_ialk (20 * p + n) ex (by decide) rfl dX7_doAct_22 Nat.zero_lt_one rfl hk ?_
  refine v_istore_n [_, _, _, _] dX7_doAct_23 rfl (by decide) ?_
  refine v_aload_n dX7_doAct_24 rfl ?_
  refine v_gr 0 fX7_13 dX7_doAct_25 rfl rfl rfl Nat.zero_lt_one ?_
  refine v_iload_n dX7_doAct_28 rfl ?_
  refine m_ialk (20 * p + n) ek (by decide) rfl dX7_doAct_29 Nat.zero_lt_one rfl hk ?_
  refine v_tsIn (off := 214) 244 7 dX7_doAct_30 rfl (by decide) (by decide) (by decide) (by decide) ?_
  refine v_aload_n dX7_doAct_244 rfl ?_
  refine v_gr 0 fX7_25 dX7_doAct_245 rfl rfl rfl Nat.zero_lt_one ?_
  refine v_iload_n dX7_doAct_248 rfl ?_
  refine v_dup2 dX7_doAct_249 ?_
  refine m_iald t (by decide) rfl dX7_doAct_250 Nat.zero_lt_one rfl ht24 ?_
  refine v_iconst 1 dX7_doAct_251 (by decide) ?_
  refine v_iadd dX7_doAct_252 ?_
  refine m_iast t (by decide) rfl dX7_doAct_253 Nat.zero_lt_one rfl ht24 ?_
  refine v_aload_n dX7_doAct_254 rfl ?_
  refine v_iload_n dX7_doAct_255 rfl ?_
  refine v_aload_n dX7_doAct_256 rfl ?_
  refine v_gr 0 fX7_13 dX7_doAct_257 rfl rfl rfl Nat.zero_lt_one ?_
  refine v_iload_n dX7_doAct_260 rfl ?_
  refine m_ialk (20 * p + n) (by exact ek) (by decide) rfl dX7_doAct_261 Nat.zero_lt_one rfl hk ?_
  refine v_iload_n dX7_doAct_262 rfl ?_
  refine v_call3n lX7_160 kX7_doOther (c_X7_oth7a (T := T) ht (by exact Z) (by exact hp)) dX7_doAct_263 rfl rfl Nat.zero_lt_one rfl (by decide) (by decide) (st8 rfl) ?_
  exact v_vret dX7_doAct_266 ⟨rfl, rfl⟩
set_option maxHeartbeats 4000000 in
set_option maxRecDepth 100000 in
theorem c_X7_act7b {a b : tH} {T : Nat} {t p n : Nat} {x : Int32} (ht : t < T) {ρ : Option Nat} {L : List Nat} (Z : IQ b ρ T L) (I : IH b T) (hr : ∀ r, ρ = some r → b.1 24 0 r = 0) (ep : b.1 25 0 t = nI p) (en : b.1 26 0 t = nI n) (hk : 20 * p + n < 240) (ex : b.1 23 0 (20 * p + n) = x) (ek : b.1 22 0 (20 * p + n) = 7) {pc : Nat} (hp : b.1 31 0 t = nI (pc + 1)) (h4p : pc < 4) : Cn yX7_doAct cX7_doAct 4 5 [.inr (some (20, 0)), .inl (nI t)] (mix a b) (mix a (mDelay (mNx b t) T t x)) := by
  have hT24 := Z.2.1
  have ht24 : t < 24 := by omega
  refine Ct.of (by decide) [_, _, _, _] rfl (Nat.le_of_ble_eq_true rfl) ?_
  refine v_bipush 20 dX7_doAct_0 (by decide) ?_
  refine v_aload_n dX7_doAct_2 rfl ?_
  refine v_gr 0 fX7_22 dX7_doAct_3 rfl rfl rfl Nat.zero_lt_one ?_
  refine v_iload_n dX7_doAct_6 rfl ?_
  refine m_ialk t ep (by decide) rfl dX7_doAct_7 Nat.zero_lt_one rfl ht24 ?_
  refine v_imul dX7_doAct_8 ?_
  refine v_aload_n dX7_doAct_9 rfl ?_
  refine v_gr 0 fX7_25 dX7_doAct_10 rfl rfl rfl Nat.zero_lt_one ?_
  refine v_iload_n dX7_doAct_13 rfl ?_
  refine m_ialk t en (by decide) rfl dX7_doAct_14 Nat.zero_lt_one rfl ht24 ?_
  refine v_iadd dX7_doAct_15 ?_
  rw [show (20 : Int32) = nI 20 from rfl, pk_mul, nI_add]
  refine v_istore_n [_, _, _, _] dX7_doAct_16 rfl (by decide) ?_
  refine v_aload_n dX7_doAct_17 rfl ?_
  refine v_gr 0 fX7_16 dX7_doAct_18 rfl rfl rfl Nat.zero_lt_one ?_
  refine v_iload_n dX7_doAct_21 rfl ?_
  refine m_ialk (20 * p + n) ex (by decide) rfl dX7_doAct_22 Nat.zero_lt_one rfl hk ?_
  refine v_istore_n [_, _, _, _] dX7_doAct_23 rfl (by decide) ?_
  refine v_aload_n dX7_doAct_24 rfl ?_
  refine v_gr 0 fX7_13 dX7_doAct_25 rfl rfl rfl Nat.zero_lt_one ?_
  refine v_iload_n dX7_doAct_28 rfl ?_
  refine m_ialk (20 * p + n) ek (by decide) rfl dX7_doAct_29 Nat.zero_lt_one rfl hk ?_
  refine v_tsIn (off := 214) 244 7 dX7_doAct_30 rfl (by decide) (by decide) (by decide) (by decide) ?_
  refine v_aload_n dX7_doAct_244 rfl ?_
  refine v_gr 0 fX7_25 dX7_doAct_245 rfl rfl rfl Nat.zero_lt_one ?_
  refine v_iload_n dX7_doAct_248 rfl ?_
  refine v_dup2 dX7_doAct_249 ?_
  refine m_iald t (by decide) rfl dX7_doAct_250 Nat.zero_lt_one rfl ht24 ?_
  refine v_iconst 1 dX7_doAct_251 (by decide) ?_
  refine v_iadd dX7_doAct_252 ?_
  refine m_iast t (by decide) rfl dX7_doAct_253 Nat.zero_lt_one rfl ht24 ?_
  refine v_aload_n dX7_doAct_254 rfl ?_
  refine v_iload_n dX7_doAct_255 rfl ?_
  refine v_aload_n dX7_doAct_256 rfl ?_
  refine v_gr 0 fX7_13 dX7_doAct_257 rfl rfl rfl Nat.zero_lt_one ?_
  refine v_iload_n dX7_doAct_260 rfl ?_
  refine m_ialk (20 * p + n) (by exact ek) (by decide) rfl dX7_doAct_261 Nat.zero_lt_one rfl hk ?_
  refine v_iload_n dX7_doAct_262 rfl ?_
  refine v_call3n lX7_160 kX7_doOther (c_X7_oth7b (T := T) ht (by exact Z) (by obtain ⟨hc, _, h4, _, e1, _⟩ := I t ht; exact ⟨hc, h4, e1⟩) (by exact hp) h4p) dX7_doAct_263 rfl rfl Nat.zero_lt_one rfl (by decide) (by decide) (st8 rfl) ?_
  exact v_vret dX7_doAct_266 ⟨rfl, rfl⟩
set_option maxHeartbeats 4000000 in
set_option maxRecDepth 100000 in
theorem c_X7_act10 {a b : tH} {T : Nat} {t p n : Nat} {x : Int32} (ht : t < T) {ρ : Option Nat} {L : List Nat} (Z : IQ b ρ T L) (I : IH b T) (hr : ∀ r, ρ = some r → b.1 24 0 r = 0) (ep : b.1 25 0 t = nI p) (en : b.1 26 0 t = nI n) (hk : 20 * p + n < 240) (ex : b.1 23 0 (20 * p + n) = x) (ek : b.1 22 0 (20 * p + n) = 10) {rr : Nat} (hrr : b.1 20 0 31 = nI rr) (h100 : rr ≤ 100) : Cn yX7_doAct cX7_doAct 4 5 [.inr (some (20, 0)), .inl (nI t)] (mix a b) (mix a (mLog (mNx b t) t)) := by
  have hT24 := Z.2.1
  have ht24 : t < 24 := by omega
  refine Ct.of (by decide) [_, _, _, _] rfl (Nat.le_of_ble_eq_true rfl) ?_
  refine v_bipush 20 dX7_doAct_0 (by decide) ?_
  refine v_aload_n dX7_doAct_2 rfl ?_
  refine v_gr 0 fX7_22 dX7_doAct_3 rfl rfl rfl Nat.zero_lt_one ?_
  refine v_iload_n dX7_doAct_6 rfl ?_
  refine m_ialk t ep (by decide) rfl dX7_doAct_7 Nat.zero_lt_one rfl ht24 ?_
  refine v_imul dX7_doAct_8 ?_
  refine v_aload_n dX7_doAct_9 rfl ?_
  refine v_gr 0 fX7_25 dX7_doAct_10 rfl rfl rfl Nat.zero_lt_one ?_
  refine v_iload_n dX7_doAct_13 rfl ?_
  refine m_ialk t en (by decide) rfl dX7_doAct_14 Nat.zero_lt_one rfl ht24 ?_
  refine v_iadd dX7_doAct_15 ?_
  rw [show (20 : Int32) = nI 20 from rfl, pk_mul, nI_add]
  refine v_istore_n [_, _, _, _] dX7_doAct_16 rfl (by decide) ?_
  refine v_aload_n dX7_doAct_17 rfl ?_
  refine v_gr 0 fX7_16 dX7_doAct_18 rfl rfl rfl Nat.zero_lt_one ?_
  refine v_iload_n dX7_doAct_21 rfl ?_
  refine m_ialk (20 * p + n) ex (by decide) rfl dX7_doAct_22 Nat.zero_lt_one rfl hk ?_
  refine v_istore_n [_, _, _, _] dX7_doAct_23 rfl (by decide) ?_
  refine v_aload_n dX7_doAct_24 rfl ?_
  refine v_gr 0 fX7_13 dX7_doAct_25 rfl rfl rfl Nat.zero_lt_one ?_
  refine v_iload_n dX7_doAct_28 rfl ?_
  refine m_ialk (20 * p + n) ek (by decide) rfl dX7_doAct_29 Nat.zero_lt_one rfl hk ?_
  refine v_tsOut 244 dX7_doAct_30 (Or.inr (by decide)) (by decide) ?_
  refine v_aload_n dX7_doAct_244 rfl ?_
  refine v_gr 0 fX7_25 dX7_doAct_245 rfl rfl rfl Nat.zero_lt_one ?_
  refine v_iload_n dX7_doAct_248 rfl ?_
  refine v_dup2 dX7_doAct_249 ?_
  refine m_iald t (by decide) rfl dX7_doAct_250 Nat.zero_lt_one rfl ht24 ?_
  refine v_iconst 1 dX7_doAct_251 (by decide) ?_
  refine v_iadd dX7_doAct_252 ?_
  refine m_iast t (by decide) rfl dX7_doAct_253 Nat.zero_lt_one rfl ht24 ?_
  refine v_aload_n dX7_doAct_254 rfl ?_
  refine v_iload_n dX7_doAct_255 rfl ?_
  refine v_aload_n dX7_doAct_256 rfl ?_
  refine v_gr 0 fX7_13 dX7_doAct_257 rfl rfl rfl Nat.zero_lt_one ?_
  refine v_iload_n dX7_doAct_260 rfl ?_
  refine m_ialk (20 * p + n) (by exact ek) (by decide) rfl dX7_doAct_261 Nat.zero_lt_one rfl hk ?_
  refine v_iload_n dX7_doAct_262 rfl ?_
  refine v_call3n lX7_160 kX7_doOther (c_X7_oth10 (T := T) (r := rr) ht (by exact Z) (by exact hrr) h100) dX7_doAct_263 rfl rfl Nat.zero_lt_one rfl (by decide) (by decide) (st8 rfl) ?_
  exact v_vret dX7_doAct_266 ⟨rfl, rfl⟩
set_option maxHeartbeats 4000000 in
set_option maxRecDepth 100000 in
theorem c_X7_act11 {a b : tH} {T : Nat} {t p n : Nat} {x : Int32} (ht : t < T) {ρ : Option Nat} {L : List Nat} (Z : IQ b ρ T L) (I : IH b T) (hr : ∀ r, ρ = some r → b.1 24 0 r = 0) (ep : b.1 25 0 t = nI p) (en : b.1 26 0 t = nI n) (hk : 20 * p + n < 240) (ex : b.1 23 0 (20 * p + n) = x) (ek : b.1 22 0 (20 * p + n) = 11) : Cn yX7_doAct cX7_doAct 4 5 [.inr (some (20, 0)), .inl (nI t)] (mix a b) (mix a (mExc (mNx b t) T t x)) := by
  have hT24 := Z.2.1
  have ht24 : t < 24 := by omega
  refine Ct.of (by decide) [_, _, _, _] rfl (Nat.le_of_ble_eq_true rfl) ?_
  refine v_bipush 20 dX7_doAct_0 (by decide) ?_
  refine v_aload_n dX7_doAct_2 rfl ?_
  refine v_gr 0 fX7_22 dX7_doAct_3 rfl rfl rfl Nat.zero_lt_one ?_
  refine v_iload_n dX7_doAct_6 rfl ?_
  refine m_ialk t ep (by decide) rfl dX7_doAct_7 Nat.zero_lt_one rfl ht24 ?_
  refine v_imul dX7_doAct_8 ?_
  refine v_aload_n dX7_doAct_9 rfl ?_
  refine v_gr 0 fX7_25 dX7_doAct_10 rfl rfl rfl Nat.zero_lt_one ?_
  refine v_iload_n dX7_doAct_13 rfl ?_
  refine m_ialk t en (by decide) rfl dX7_doAct_14 Nat.zero_lt_one rfl ht24 ?_
  refine v_iadd dX7_doAct_15 ?_
  rw [show (20 : Int32) = nI 20 from rfl, pk_mul, nI_add]
  refine v_istore_n [_, _, _, _] dX7_doAct_16 rfl (by decide) ?_
  refine v_aload_n dX7_doAct_17 rfl ?_
  refine v_gr 0 fX7_16 dX7_doAct_18 rfl rfl rfl Nat.zero_lt_one ?_
  refine v_iload_n dX7_doAct_21 rfl ?_
  refine m_ialk (20 * p + n) ex (by decide) rfl dX7_doAct_22 Nat.zero_lt_one rfl hk ?_
  refine v_istore_n [_, _, _, _] dX7_doAct_23 rfl (by decide) ?_
  refine v_aload_n dX7_doAct_24 rfl ?_
  refine v_gr 0 fX7_13 dX7_doAct_25 rfl rfl rfl Nat.zero_lt_one ?_
  refine v_iload_n dX7_doAct_28 rfl ?_
  refine m_ialk (20 * p + n) ek (by decide) rfl dX7_doAct_29 Nat.zero_lt_one rfl hk ?_
  refine v_tsOut 244 dX7_doAct_30 (Or.inr (by decide)) (by decide) ?_
  refine v_aload_n dX7_doAct_244 rfl ?_
  refine v_gr 0 fX7_25 dX7_doAct_245 rfl rfl rfl Nat.zero_lt_one ?_
  refine v_iload_n dX7_doAct_248 rfl ?_
  refine v_dup2 dX7_doAct_249 ?_
  refine m_iald t (by decide) rfl dX7_doAct_250 Nat.zero_lt_one rfl ht24 ?_
  refine v_iconst 1 dX7_doAct_251 (by decide) ?_
  refine v_iadd dX7_doAct_252 ?_
  refine m_iast t (by decide) rfl dX7_doAct_253 Nat.zero_lt_one rfl ht24 ?_
  refine v_aload_n dX7_doAct_254 rfl ?_
  refine v_iload_n dX7_doAct_255 rfl ?_
  refine v_aload_n dX7_doAct_256 rfl ?_
  refine v_gr 0 fX7_13 dX7_doAct_257 rfl rfl rfl Nat.zero_lt_one ?_
  refine v_iload_n dX7_doAct_260 rfl ?_
  refine m_ialk (20 * p + n) (by exact ek) (by decide) rfl dX7_doAct_261 Nat.zero_lt_one rfl hk ?_
  refine v_iload_n dX7_doAct_262 rfl ?_
  refine v_call3n lX7_160 kX7_doOther (c_X7_oth11 (T := T) ht (by exact Z) (by exact I)) dX7_doAct_263 rfl rfl Nat.zero_lt_one rfl (by decide) (by decide) (st8 rfl) ?_
  exact v_vret dX7_doAct_266 ⟨rfl, rfl⟩
set_option maxHeartbeats 4000000 in
set_option maxRecDepth 100000 in
theorem c_X7_act12 {a b : tH} {T : Nat} {t p n : Nat} {x : Int32} (ht : t < T) {ρ : Option Nat} {L : List Nat} (Z : IQ b ρ T L) (I : IH b T) (hr : ∀ r, ρ = some r → b.1 24 0 r = 0) (ep : b.1 25 0 t = nI p) (en : b.1 26 0 t = nI n) (hk : 20 * p + n < 240) (ex : b.1 23 0 (20 * p + n) = x) (ek : b.1 22 0 (20 * p + n) = 12) : Cn yX7_doAct cX7_doAct 4 5 [.inr (some (20, 0)), .inl (nI t)] (mix a b) (mix a (mThrow (mNx b t) T t x)) := by
  have hT24 := Z.2.1
  have ht24 : t < 24 := by omega
  refine Ct.of (by decide) [_, _, _, _] rfl (Nat.le_of_ble_eq_true rfl) ?_
  refine v_bipush 20 dX7_doAct_0 (by decide) ?_
  refine v_aload_n dX7_doAct_2 rfl ?_
  refine v_gr 0 fX7_22 dX7_doAct_3 rfl rfl rfl Nat.zero_lt_one ?_
  refine v_iload_n dX7_doAct_6 rfl ?_
  refine m_ialk t ep (by decide) rfl dX7_doAct_7 Nat.zero_lt_one rfl ht24 ?_
  refine v_imul dX7_doAct_8 ?_
  refine v_aload_n dX7_doAct_9 rfl ?_
  refine v_gr 0 fX7_25 dX7_doAct_10 rfl rfl rfl Nat.zero_lt_one ?_
  refine v_iload_n dX7_doAct_13 rfl ?_
  refine m_ialk t en (by decide) rfl dX7_doAct_14 Nat.zero_lt_one rfl ht24 ?_
  refine v_iadd dX7_doAct_15 ?_
  rw [show (20 : Int32) = nI 20 from rfl, pk_mul, nI_add]
  refine v_istore_n [_, _, _, _] dX7_doAct_16 rfl (by decide) ?_
  refine v_aload_n dX7_doAct_17 rfl ?_
  refine v_gr 0 fX7_16 dX7_doAct_18 rfl rfl rfl Nat.zero_lt_one ?_
  refine v_iload_n dX7_doAct_21 rfl ?_
  refine m_ialk (20 * p + n) ex (by decide) rfl dX7_doAct_22 Nat.zero_lt_one rfl hk ?_
  refine v_istore_n [_, _, _, _] dX7_doAct_23 rfl (by decide) ?_
  refine v_aload_n dX7_doAct_24 rfl ?_
  refine v_gr 0 fX7_13 dX7_doAct_25 rfl rfl rfl Nat.zero_lt_one ?_
  refine v_iload_n dX7_doAct_28 rfl ?_
  refine m_ialk (20 * p + n) ek (by decide) rfl dX7_doAct_29 Nat.zero_lt_one rfl hk ?_
  refine v_tsOut 244 dX7_doAct_30 (Or.inr (by decide)) (by decide) ?_
  refine v_aload_n dX7_doAct_244 rfl ?_
  refine v_gr 0 fX7_25 dX7_doAct_245 rfl rfl rfl Nat.zero_lt_one ?_
  refine v_iload_n dX7_doAct_248 rfl ?_
  refine v_dup2 dX7_doAct_249 ?_
  refine m_iald t (by decide) rfl dX7_doAct_250 Nat.zero_lt_one rfl ht24 ?_
  refine v_iconst 1 dX7_doAct_251 (by decide) ?_
  refine v_iadd dX7_doAct_252 ?_
  refine m_iast t (by decide) rfl dX7_doAct_253 Nat.zero_lt_one rfl ht24 ?_
  refine v_aload_n dX7_doAct_254 rfl ?_
  refine v_iload_n dX7_doAct_255 rfl ?_
  refine v_aload_n dX7_doAct_256 rfl ?_
  refine v_gr 0 fX7_13 dX7_doAct_257 rfl rfl rfl Nat.zero_lt_one ?_
  refine v_iload_n dX7_doAct_260 rfl ?_
  refine m_ialk (20 * p + n) (by exact ek) (by decide) rfl dX7_doAct_261 Nat.zero_lt_one rfl hk ?_
  refine v_iload_n dX7_doAct_262 rfl ?_
  refine v_call3n lX7_160 kX7_doOther (c_X7_oth12 (T := T) ht (by exact Z) (by exact I)) dX7_doAct_263 rfl rfl Nat.zero_lt_one rfl (by decide) (by decide) (st8 rfl) ?_
  exact v_vret dX7_doAct_266 ⟨rfl, rfl⟩
set_option maxHeartbeats 4000000 in
set_option maxRecDepth 100000 in
theorem c_X7_act13 {a b : tH} {T : Nat} {t p n : Nat} {x : Int32} (ht : t < T) {ρ : Option Nat} {L : List Nat} (Z : IQ b ρ T L) (I : IH b T) (hr : ∀ r, ρ = some r → b.1 24 0 r = 0) (ep : b.1 25 0 t = nI p) (en : b.1 26 0 t = nI n) (hk : 20 * p + n < 240) (ex : b.1 23 0 (20 * p + n) = x) (ek : b.1 22 0 (20 * p + n) = 13) {hc : Nat} (h4 : hc ≤ 4) (e1 : b.1 28 0 t = nI hc) : Cn yX7_doAct cX7_doAct 4 5 [.inr (some (20, 0)), .inl (nI t)] (mix a b) (mix a (mCatch (mNx b t) t x)) := by
  have hT24 := Z.2.1
  have ht24 : t < 24 := by omega
  refine Ct.of (by decide) [_, _, _, _] rfl (Nat.le_of_ble_eq_true rfl) ?_
  refine v_bipush 20 dX7_doAct_0 (by decide) ?_
  refine v_aload_n dX7_doAct_2 rfl ?_
  refine v_gr 0 fX7_22 dX7_doAct_3 rfl rfl rfl Nat.zero_lt_one ?_
  refine v_iload_n dX7_doAct_6 rfl ?_
  refine m_ialk t ep (by decide) rfl dX7_doAct_7 Nat.zero_lt_one rfl ht24 ?_
  refine v_imul dX7_doAct_8 ?_
  refine v_aload_n dX7_doAct_9 rfl ?_
  refine v_gr 0 fX7_25 dX7_doAct_10 rfl rfl rfl Nat.zero_lt_one ?_
  refine v_iload_n dX7_doAct_13 rfl ?_
  refine m_ialk t en (by decide) rfl dX7_doAct_14 Nat.zero_lt_one rfl ht24 ?_
  refine v_iadd dX7_doAct_15 ?_
  rw [show (20 : Int32) = nI 20 from rfl, pk_mul, nI_add]
  refine v_istore_n [_, _, _, _] dX7_doAct_16 rfl (by decide) ?_
  refine v_aload_n dX7_doAct_17 rfl ?_
  refine v_gr 0 fX7_16 dX7_doAct_18 rfl rfl rfl Nat.zero_lt_one ?_
  refine v_iload_n dX7_doAct_21 rfl ?_
  refine m_ialk (20 * p + n) ex (by decide) rfl dX7_doAct_22 Nat.zero_lt_one rfl hk ?_
  refine v_istore_n [_, _, _, _] dX7_doAct_23 rfl (by decide) ?_
  refine v_aload_n dX7_doAct_24 rfl ?_
  refine v_gr 0 fX7_13 dX7_doAct_25 rfl rfl rfl Nat.zero_lt_one ?_
  refine v_iload_n dX7_doAct_28 rfl ?_
  refine m_ialk (20 * p + n) ek (by decide) rfl dX7_doAct_29 Nat.zero_lt_one rfl hk ?_
  refine v_tsOut 244 dX7_doAct_30 (Or.inr (by decide)) (by decide) ?_
  refine v_aload_n dX7_doAct_244 rfl ?_
  refine v_gr 0 fX7_25 dX7_doAct_245 rfl rfl rfl Nat.zero_lt_one ?_
  refine v_iload_n dX7_doAct_248 rfl ?_
  refine v_dup2 dX7_doAct_249 ?_
  refine m_iald t (by decide) rfl dX7_doAct_250 Nat.zero_lt_one rfl ht24 ?_
  refine v_iconst 1 dX7_doAct_251 (by decide) ?_
  refine v_iadd dX7_doAct_252 ?_
  refine m_iast t (by decide) rfl dX7_doAct_253 Nat.zero_lt_one rfl ht24 ?_
  refine v_aload_n dX7_doAct_254 rfl ?_
  refine v_iload_n dX7_doAct_255 rfl ?_
  refine v_aload_n dX7_doAct_256 rfl ?_
  refine v_gr 0 fX7_13 dX7_doAct_257 rfl rfl rfl Nat.zero_lt_one ?_
  refine v_iload_n dX7_doAct_260 rfl ?_
  refine m_ialk (20 * p + n) (by exact ek) (by decide) rfl dX7_doAct_261 Nat.zero_lt_one rfl hk ?_
  refine v_iload_n dX7_doAct_262 rfl ?_
  refine v_call3n lX7_160 kX7_doOther (c_X7_oth13 (T := T) (hc := hc) ht (by exact Z) h4 (by exact e1)) dX7_doAct_263 rfl rfl Nat.zero_lt_one rfl (by decide) (by decide) (st8 rfl) ?_
  exact v_vret dX7_doAct_266 ⟨rfl, rfl⟩
set_option maxHeartbeats 4000000 in
set_option maxRecDepth 100000 in
theorem c_X7_act14 {a b : tH} {T : Nat} {t p n : Nat} {x : Int32} (ht : t < T) {ρ : Option Nat} {L : List Nat} (Z : IQ b ρ T L) (I : IH b T) (hr : ∀ r, ρ = some r → b.1 24 0 r = 0) (ep : b.1 25 0 t = nI p) (en : b.1 26 0 t = nI n) (hk : 20 * p + n < 240) (ex : b.1 23 0 (20 * p + n) = x) (ek : b.1 22 0 (20 * p + n) = 14) : Cn yX7_doAct cX7_doAct 4 5 [.inr (some (20, 0)), .inl (nI t)] (mix a b) (mix a (mDrop (mNx b t) t)) := by
  have hT24 := Z.2.1
  have ht24 : t < 24 := by omega
  refine Ct.of (by decide) [_, _, _, _] rfl (Nat.le_of_ble_eq_true rfl) ?_
  refine v_bipush 20 dX7_doAct_0 (by decide) ?_
  refine v_aload_n dX7_doAct_2 rfl ?_
  refine v_gr 0 fX7_22 dX7_doAct_3 rfl rfl rfl Nat.zero_lt_one ?_
  refine v_iload_n dX7_doAct_6 rfl ?_
  refine m_ialk t ep (by decide) rfl dX7_doAct_7 Nat.zero_lt_one rfl ht24 ?_
  refine v_imul dX7_doAct_8 ?_
  refine v_aload_n dX7_doAct_9 rfl ?_
  refine v_gr 0 fX7_25 dX7_doAct_10 rfl rfl rfl Nat.zero_lt_one ?_
  refine v_iload_n dX7_doAct_13 rfl ?_
  refine m_ialk t en (by decide) rfl dX7_doAct_14 Nat.zero_lt_one rfl ht24 ?_
  refine v_iadd dX7_doAct_15 ?_
  rw [show (20 : Int32) = nI 20 from rfl, pk_mul, nI_add]
  refine v_istore_n [_, _, _, _] dX7_doAct_16 rfl (by decide) ?_
  refine v_aload_n dX7_doAct_17 rfl ?_
  refine v_gr 0 fX7_16 dX7_doAct_18 rfl rfl rfl Nat.zero_lt_one ?_
  refine v_iload_n dX7_doAct_21 rfl ?_
  refine m_ialk (20 * p + n) ex (by decide) rfl dX7_doAct_22 Nat.zero_lt_one rfl hk ?_
  refine v_istore_n [_, _, _, _] dX7_doAct_23 rfl (by decide) ?_
  refine v_aload_n dX7_doAct_24 rfl ?_
  refine v_gr 0 fX7_13 dX7_doAct_25 rfl rfl rfl Nat.zero_lt_one ?_
  refine v_iload_n dX7_doAct_28 rfl ?_
  refine m_ialk (20 * p + n) ek (by decide) rfl dX7_doAct_29 Nat.zero_lt_one rfl hk ?_
  refine v_tsOut 244 dX7_doAct_30 (Or.inr (by decide)) (by decide) ?_
  refine v_aload_n dX7_doAct_244 rfl ?_
  refine v_gr 0 fX7_25 dX7_doAct_245 rfl rfl rfl Nat.zero_lt_one ?_
  refine v_iload_n dX7_doAct_248 rfl ?_
  refine v_dup2 dX7_doAct_249 ?_
  refine m_iald t (by decide) rfl dX7_doAct_250 Nat.zero_lt_one rfl ht24 ?_
  refine v_iconst 1 dX7_doAct_251 (by decide) ?_
  refine v_iadd dX7_doAct_252 ?_
  refine m_iast t (by decide) rfl dX7_doAct_253 Nat.zero_lt_one rfl ht24 ?_
  refine v_aload_n dX7_doAct_254 rfl ?_
  refine v_iload_n dX7_doAct_255 rfl ?_
  refine v_aload_n dX7_doAct_256 rfl ?_
  refine v_gr 0 fX7_13 dX7_doAct_257 rfl rfl rfl Nat.zero_lt_one ?_
  refine v_iload_n dX7_doAct_260 rfl ?_
  refine m_ialk (20 * p + n) (by exact ek) (by decide) rfl dX7_doAct_261 Nat.zero_lt_one rfl hk ?_
  refine v_iload_n dX7_doAct_262 rfl ?_
  refine v_call3n lX7_160 kX7_doOther (c_X7_oth14 (T := T) ht (by exact Z)) dX7_doAct_263 rfl rfl Nat.zero_lt_one rfl (by decide) (by decide) (st8 rfl) ?_
  exact v_vret dX7_doAct_266 ⟨rfl, rfl⟩
set_option maxHeartbeats 4000000 in
set_option maxRecDepth 100000 in
theorem c_X7_act15 {a b : tH} {T : Nat} {t p n : Nat} {x : Int32} (ht : t < T) {ρ : Option Nat} {L : List Nat} (Z : IQ b ρ T L) (I : IH b T) (hr : ∀ r, ρ = some r → b.1 24 0 r = 0) (ep : b.1 25 0 t = nI p) (en : b.1 26 0 t = nI n) (hk : 20 * p + n < 240) (ex : b.1 23 0 (20 * p + n) = x) (ek : b.1 22 0 (20 * p + n) = 15) : Cn yX7_doAct cX7_doAct 4 5 [.inr (some (20, 0)), .inl (nI t)] (mix a b) (mix a (mMask (mNx b t) T t x)) := by
  have hT24 := Z.2.1
  have ht24 : t < 24 := by omega
  refine Ct.of (by decide) [_, _, _, _] rfl (Nat.le_of_ble_eq_true rfl) ?_
  refine v_bipush 20 dX7_doAct_0 (by decide) ?_
  refine v_aload_n dX7_doAct_2 rfl ?_
  refine v_gr 0 fX7_22 dX7_doAct_3 rfl rfl rfl Nat.zero_lt_one ?_
  refine v_iload_n dX7_doAct_6 rfl ?_
  refine m_ialk t ep (by decide) rfl dX7_doAct_7 Nat.zero_lt_one rfl ht24 ?_
  refine v_imul dX7_doAct_8 ?_
  refine v_aload_n dX7_doAct_9 rfl ?_
  refine v_gr 0 fX7_25 dX7_doAct_10 rfl rfl rfl Nat.zero_lt_one ?_
  refine v_iload_n dX7_doAct_13 rfl ?_
  refine m_ialk t en (by decide) rfl dX7_doAct_14 Nat.zero_lt_one rfl ht24 ?_
  refine v_iadd dX7_doAct_15 ?_
  rw [show (20 : Int32) = nI 20 from rfl, pk_mul, nI_add]
  refine v_istore_n [_, _, _, _] dX7_doAct_16 rfl (by decide) ?_
  refine v_aload_n dX7_doAct_17 rfl ?_
  refine v_gr 0 fX7_16 dX7_doAct_18 rfl rfl rfl Nat.zero_lt_one ?_
  refine v_iload_n dX7_doAct_21 rfl ?_
  refine m_ialk (20 * p + n) ex (by decide) rfl dX7_doAct_22 Nat.zero_lt_one rfl hk ?_
  refine v_istore_n [_, _, _, _] dX7_doAct_23 rfl (by decide) ?_
  refine v_aload_n dX7_doAct_24 rfl ?_
  refine v_gr 0 fX7_13 dX7_doAct_25 rfl rfl rfl Nat.zero_lt_one ?_
  refine v_iload_n dX7_doAct_28 rfl ?_
  refine m_ialk (20 * p + n) ek (by decide) rfl dX7_doAct_29 Nat.zero_lt_one rfl hk ?_
  refine v_tsOut 244 dX7_doAct_30 (Or.inr (by decide)) (by decide) ?_
  refine v_aload_n dX7_doAct_244 rfl ?_
  refine v_gr 0 fX7_25 dX7_doAct_245 rfl rfl rfl Nat.zero_lt_one ?_
  refine v_iload_n dX7_doAct_248 rfl ?_
  refine v_dup2 dX7_doAct_249 ?_
  refine m_iald t (by decide) rfl dX7_doAct_250 Nat.zero_lt_one rfl ht24 ?_
  refine v_iconst 1 dX7_doAct_251 (by decide) ?_
  refine v_iadd dX7_doAct_252 ?_
  refine m_iast t (by decide) rfl dX7_doAct_253 Nat.zero_lt_one rfl ht24 ?_
  refine v_aload_n dX7_doAct_254 rfl ?_
  refine v_iload_n dX7_doAct_255 rfl ?_
  refine v_aload_n dX7_doAct_256 rfl ?_
  refine v_gr 0 fX7_13 dX7_doAct_257 rfl rfl rfl Nat.zero_lt_one ?_
  refine v_iload_n dX7_doAct_260 rfl ?_
  refine m_ialk (20 * p + n) (by exact ek) (by decide) rfl dX7_doAct_261 Nat.zero_lt_one rfl hk ?_
  refine v_iload_n dX7_doAct_262 rfl ?_
  refine v_call3n lX7_160 kX7_doOther (c_X7_oth15 (T := T) ht (by exact Z) (by exact I) (fun e => hr t e)) dX7_doAct_263 rfl rfl Nat.zero_lt_one rfl (by decide) (by decide) (st8 rfl) ?_
  exact v_vret dX7_doAct_266 ⟨rfl, rfl⟩
set_option maxHeartbeats 4000000 in
set_option maxRecDepth 100000 in
theorem c_X7_act16 {a b : tH} {T : Nat} {t p n : Nat} {x : Int32} (ht : t < T) {ρ : Option Nat} {L : List Nat} (Z : IQ b ρ T L) (I : IH b T) (hr : ∀ r, ρ = some r → b.1 24 0 r = 0) (ep : b.1 25 0 t = nI p) (en : b.1 26 0 t = nI n) (hk : 20 * p + n < 240) (ex : b.1 23 0 (20 * p + n) = x) (ek : b.1 22 0 (20 * p + n) = 16) : Cn yX7_doAct cX7_doAct 4 5 [.inr (some (20, 0)), .inl (nI t)] (mix a b) (mix a (put (mNx b t) 27 0 t (nI t))) := by
  have hT24 := Z.2.1
  have ht24 : t < 24 := by omega
  refine Ct.of (by decide) [_, _, _, _] rfl (Nat.le_of_ble_eq_true rfl) ?_
  refine v_bipush 20 dX7_doAct_0 (by decide) ?_
  refine v_aload_n dX7_doAct_2 rfl ?_
  refine v_gr 0 fX7_22 dX7_doAct_3 rfl rfl rfl Nat.zero_lt_one ?_
  refine v_iload_n dX7_doAct_6 rfl ?_
  refine m_ialk t ep (by decide) rfl dX7_doAct_7 Nat.zero_lt_one rfl ht24 ?_
  refine v_imul dX7_doAct_8 ?_
  refine v_aload_n dX7_doAct_9 rfl ?_
  refine v_gr 0 fX7_25 dX7_doAct_10 rfl rfl rfl Nat.zero_lt_one ?_
  refine v_iload_n dX7_doAct_13 rfl ?_
  refine m_ialk t en (by decide) rfl dX7_doAct_14 Nat.zero_lt_one rfl ht24 ?_
  refine v_iadd dX7_doAct_15 ?_
  rw [show (20 : Int32) = nI 20 from rfl, pk_mul, nI_add]
  refine v_istore_n [_, _, _, _] dX7_doAct_16 rfl (by decide) ?_
  refine v_aload_n dX7_doAct_17 rfl ?_
  refine v_gr 0 fX7_16 dX7_doAct_18 rfl rfl rfl Nat.zero_lt_one ?_
  refine v_iload_n dX7_doAct_21 rfl ?_
  refine m_ialk (20 * p + n) ex (by decide) rfl dX7_doAct_22 Nat.zero_lt_one rfl hk ?_
  refine v_istore_n [_, _, _, _] dX7_doAct_23 rfl (by decide) ?_
  refine v_aload_n dX7_doAct_24 rfl ?_
  refine v_gr 0 fX7_13 dX7_doAct_25 rfl rfl rfl Nat.zero_lt_one ?_
  refine v_iload_n dX7_doAct_28 rfl ?_
  refine m_ialk (20 * p + n) ek (by decide) rfl dX7_doAct_29 Nat.zero_lt_one rfl hk ?_
  refine v_tsOut 244 dX7_doAct_30 (Or.inr (by decide)) (by decide) ?_
  refine v_aload_n dX7_doAct_244 rfl ?_
  refine v_gr 0 fX7_25 dX7_doAct_245 rfl rfl rfl Nat.zero_lt_one ?_
  refine v_iload_n dX7_doAct_248 rfl ?_
  refine v_dup2 dX7_doAct_249 ?_
  refine m_iald t (by decide) rfl dX7_doAct_250 Nat.zero_lt_one rfl ht24 ?_
  refine v_iconst 1 dX7_doAct_251 (by decide) ?_
  refine v_iadd dX7_doAct_252 ?_
  refine m_iast t (by decide) rfl dX7_doAct_253 Nat.zero_lt_one rfl ht24 ?_
  refine v_aload_n dX7_doAct_254 rfl ?_
  refine v_iload_n dX7_doAct_255 rfl ?_
  refine v_aload_n dX7_doAct_256 rfl ?_
  refine v_gr 0 fX7_13 dX7_doAct_257 rfl rfl rfl Nat.zero_lt_one ?_
  refine v_iload_n dX7_doAct_260 rfl ?_
  refine m_ialk (20 * p + n) (by exact ek) (by decide) rfl dX7_doAct_261 Nat.zero_lt_one rfl hk ?_
  refine v_iload_n dX7_doAct_262 rfl ?_
  refine v_call3n lX7_160 kX7_doOther (c_X7_oth16 (T := T) ht (by exact Z)) dX7_doAct_263 rfl rfl Nat.zero_lt_one rfl (by decide) (by decide) (st8 rfl) ?_
  exact v_vret dX7_doAct_266 ⟨rfl, rfl⟩
set_option maxHeartbeats 4000000 in
set_option maxRecDepth 100000 in
theorem c_X7_act8 {a b : tH} {T : Nat} {t p n : Nat} {x : Int32} (ht : t < T) {ρ : Option Nat} {L : List Nat} (Z : IQ b ρ T L) (I : IH b T) (hr : ∀ r, ρ = some r → b.1 24 0 r = 0) (ep : b.1 25 0 t = nI p) (en : b.1 26 0 t = nI n) (hk : 20 * p + n < 240) (ex : b.1 23 0 (20 * p + n) = x) (ek : b.1 22 0 (20 * p + n) = 8) : Cn yX7_doAct cX7_doAct 4 5 [.inr (some (20, 0)), .inl (nI t)] (mix a b) (mix a (put b 26 0 t x)) := by
  have hT24 := Z.2.1
  have ht24 : t < 24 := by omega
  refine Ct.of (by decide) [_, _, _, _] rfl (Nat.le_of_ble_eq_true rfl) ?_
  refine v_bipush 20 dX7_doAct_0 (by decide) ?_
  refine v_aload_n dX7_doAct_2 rfl ?_
  refine v_gr 0 fX7_22 dX7_doAct_3 rfl rfl rfl Nat.zero_lt_one ?_
  refine v_iload_n dX7_doAct_6 rfl ?_
  refine m_ialk t ep (by decide) rfl dX7_doAct_7 Nat.zero_lt_one rfl ht24 ?_
  refine v_imul dX7_doAct_8 ?_
  refine v_aload_n dX7_doAct_9 rfl ?_
  refine v_gr 0 fX7_25 dX7_doAct_10 rfl rfl rfl Nat.zero_lt_one ?_
  refine v_iload_n dX7_doAct_13 rfl ?_
  refine m_ialk t en (by decide) rfl dX7_doAct_14 Nat.zero_lt_one rfl ht24 ?_
  refine v_iadd dX7_doAct_15 ?_
  rw [show (20 : Int32) = nI 20 from rfl, pk_mul, nI_add]
  refine v_istore_n [_, _, _, _] dX7_doAct_16 rfl (by decide) ?_
  refine v_aload_n dX7_doAct_17 rfl ?_
  refine v_gr 0 fX7_16 dX7_doAct_18 rfl rfl rfl Nat.zero_lt_one ?_
  refine v_iload_n dX7_doAct_21 rfl ?_
  refine m_ialk (20 * p + n) ex (by decide) rfl dX7_doAct_22 Nat.zero_lt_one rfl hk ?_
  refine v_istore_n [_, _, _, _] dX7_doAct_23 rfl (by decide) ?_
  refine v_aload_n dX7_doAct_24 rfl ?_
  refine v_gr 0 fX7_13 dX7_doAct_25 rfl rfl rfl Nat.zero_lt_one ?_
  refine v_iload_n dX7_doAct_28 rfl ?_
  refine m_ialk (20 * p + n) ek (by decide) rfl dX7_doAct_29 Nat.zero_lt_one rfl hk ?_
  refine v_tsIn (off := 178) 208 8 dX7_doAct_30 rfl (by decide) (by decide) (by decide) (by decide) ?_
  refine v_aload_n dX7_doAct_208 rfl ?_
  refine v_gr 0 fX7_25 dX7_doAct_209 rfl rfl rfl Nat.zero_lt_one ?_
  refine v_iload_n dX7_doAct_212 rfl ?_
  refine v_iload_n dX7_doAct_213 rfl ?_
  refine m_iast t (by decide) rfl dX7_doAct_214 Nat.zero_lt_one rfl ht24 ?_
  exact v_vret dX7_doAct_215 ⟨rfl, rfl⟩
set_option maxHeartbeats 4000000 in
set_option maxRecDepth 100000 in
theorem c_X7_act9 {a b : tH} {T : Nat} {t p n : Nat} {x : Int32} (ht : t < T) {ρ : Option Nat} {L : List Nat} (Z : IQ b ρ T L) (I : IH b T) (hr : ∀ r, ρ = some r → b.1 24 0 r = 0) (ep : b.1 25 0 t = nI p) (en : b.1 26 0 t = nI n) (hk : 20 * p + n < 240) (ex : b.1 23 0 (20 * p + n) = x) (ek : b.1 22 0 (20 * p + n) = 9) : Cn yX7_doAct cX7_doAct 4 5 [.inr (some (20, 0)), .inl (nI t)] (mix a b) (mix a (put b 26 0 t (if b.1 27 0 t = 0 then x else b.1 26 0 t + 1))) := by
  have hT24 := Z.2.1
  have ht24 : t < 24 := by omega
  refine Ct.of (by decide) [_, _, _, _] rfl (Nat.le_of_ble_eq_true rfl) ?_
  refine v_bipush 20 dX7_doAct_0 (by decide) ?_
  refine v_aload_n dX7_doAct_2 rfl ?_
  refine v_gr 0 fX7_22 dX7_doAct_3 rfl rfl rfl Nat.zero_lt_one ?_
  refine v_iload_n dX7_doAct_6 rfl ?_
  refine m_ialk t ep (by decide) rfl dX7_doAct_7 Nat.zero_lt_one rfl ht24 ?_
  refine v_imul dX7_doAct_8 ?_
  refine v_aload_n dX7_doAct_9 rfl ?_
  refine v_gr 0 fX7_25 dX7_doAct_10 rfl rfl rfl Nat.zero_lt_one ?_
  refine v_iload_n dX7_doAct_13 rfl ?_
  refine m_ialk t en (by decide) rfl dX7_doAct_14 Nat.zero_lt_one rfl ht24 ?_
  refine v_iadd dX7_doAct_15 ?_
  rw [show (20 : Int32) = nI 20 from rfl, pk_mul, nI_add]
  refine v_istore_n [_, _, _, _] dX7_doAct_16 rfl (by decide) ?_
  refine v_aload_n dX7_doAct_17 rfl ?_
  refine v_gr 0 fX7_16 dX7_doAct_18 rfl rfl rfl Nat.zero_lt_one ?_
  refine v_iload_n dX7_doAct_21 rfl ?_
  refine m_ialk (20 * p + n) ex (by decide) rfl dX7_doAct_22 Nat.zero_lt_one rfl hk ?_
  refine v_istore_n [_, _, _, _] dX7_doAct_23 rfl (by decide) ?_
  refine v_aload_n dX7_doAct_24 rfl ?_
  refine v_gr 0 fX7_13 dX7_doAct_25 rfl rfl rfl Nat.zero_lt_one ?_
  refine v_iload_n dX7_doAct_28 rfl ?_
  refine m_ialk (20 * p + n) ek (by decide) rfl dX7_doAct_29 Nat.zero_lt_one rfl hk ?_
  refine v_tsIn (off := 186) 216 9 dX7_doAct_30 rfl (by decide) (by decide) (by decide) (by decide) ?_
  refine v_aload_n dX7_doAct_216 rfl ?_
  refine v_gr 0 fX7_25 dX7_doAct_217 rfl rfl rfl Nat.zero_lt_one ?_
  refine v_iload_n dX7_doAct_220 rfl ?_
  refine v_aload_n dX7_doAct_221 rfl ?_
  refine v_gr 0 fX7_28 dX7_doAct_222 rfl rfl rfl Nat.zero_lt_one ?_
  refine v_iload_n dX7_doAct_225 rfl ?_
  refine m_iald t (by decide) rfl dX7_doAct_226 Nat.zero_lt_one rfl ht24 ?_
  refine v_if_ne 234 dX7_doAct_227 (by decide) (fun h_227 => ?_) (fun h_227 => ?_)
  · refine v_aload_n dX7_doAct_234 rfl ?_
    refine v_gr 0 fX7_25 dX7_doAct_235 rfl rfl rfl Nat.zero_lt_one ?_
    refine v_iload_n dX7_doAct_238 rfl ?_
    refine m_iald t (by decide) rfl dX7_doAct_239 Nat.zero_lt_one rfl ht24 ?_
    refine v_iconst 1 dX7_doAct_240 (by decide) ?_
    refine v_iadd dX7_doAct_241 ?_
    refine m_iast t (by decide) rfl dX7_doAct_242 Nat.zero_lt_one rfl ht24 ?_
    exact v_vret dX7_doAct_243 ⟨rfl, by first | (rw [if_pos h_227]; done) | (rw [if_neg h_227])⟩
  · refine v_iload_n dX7_doAct_230 rfl ?_
    refine v_goto 242 dX7_doAct_231 (by decide) ?_
    refine m_iast t (by decide) rfl dX7_doAct_242 Nat.zero_lt_one rfl ht24 ?_
    exact v_vret dX7_doAct_243 ⟨rfl, by first | (rw [if_pos h_227]; done) | (rw [if_neg h_227])⟩
set_option maxHeartbeats 4000000 in
set_option maxRecDepth 100000 in
theorem c_X7_act0w0 {a b : tH} {T : Nat} {t p n y : Nat} (hy : y < 8) (ht : t < T) {ρ : Option Nat} {L : List Nat} (Z : IQ b ρ T L) (I : IH b T) (hr : ∀ r, ρ = some r → b.1 24 0 r = 0) (ep : b.1 25 0 t = nI p) (en : b.1 26 0 t = nI n) (hk : 20 * p + n < 240) (ex : b.1 23 0 (20 * p + n) = nI y) (ek : b.1 22 0 (20 * p + n) = 0) (hf : ¬ b.1 40 0 y = 0) (hp : b.1 31 0 t = 0) : Cn yX7_doAct cX7_doAct 4 5 [.inr (some (20, 0)), .inl (nI t)] (mix a b) (mix a (mPut b T t (nI y))) := by
  have hT24 := Z.2.1
  have ht24 : t < 24 := by omega
  refine Ct.of (by decide) [_, _, _, _] rfl (Nat.le_of_ble_eq_true rfl) ?_
  refine v_bipush 20 dX7_doAct_0 (by decide) ?_
  refine v_aload_n dX7_doAct_2 rfl ?_
  refine v_gr 0 fX7_22 dX7_doAct_3 rfl rfl rfl Nat.zero_lt_one ?_
  refine v_iload_n dX7_doAct_6 rfl ?_
  refine m_ialk t ep (by decide) rfl dX7_doAct_7 Nat.zero_lt_one rfl ht24 ?_
  refine v_imul dX7_doAct_8 ?_
  refine v_aload_n dX7_doAct_9 rfl ?_
  refine v_gr 0 fX7_25 dX7_doAct_10 rfl rfl rfl Nat.zero_lt_one ?_
  refine v_iload_n dX7_doAct_13 rfl ?_
  refine m_ialk t en (by decide) rfl dX7_doAct_14 Nat.zero_lt_one rfl ht24 ?_
  refine v_iadd dX7_doAct_15 ?_
  rw [show (20 : Int32) = nI 20 from rfl, pk_mul, nI_add]
  refine v_istore_n [_, _, _, _] dX7_doAct_16 rfl (by decide) ?_
  refine v_aload_n dX7_doAct_17 rfl ?_
  refine v_gr 0 fX7_16 dX7_doAct_18 rfl rfl rfl Nat.zero_lt_one ?_
  refine v_iload_n dX7_doAct_21 rfl ?_
  refine m_ialk (20 * p + n) ex (by decide) rfl dX7_doAct_22 Nat.zero_lt_one rfl hk ?_
  refine v_istore_n [_, _, _, _] dX7_doAct_23 rfl (by decide) ?_
  refine v_aload_n dX7_doAct_24 rfl ?_
  refine v_gr 0 fX7_13 dX7_doAct_25 rfl rfl rfl Nat.zero_lt_one ?_
  refine v_iload_n dX7_doAct_28 rfl ?_
  refine m_ialk (20 * p + n) ek (by decide) rfl dX7_doAct_29 Nat.zero_lt_one rfl hk ?_
  refine v_tsIn (off := 54) 84 0 dX7_doAct_30 rfl (by decide) (by decide) (by decide) (by decide) ?_
  refine v_aload_n dX7_doAct_84 rfl ?_
  refine v_gr 0 fX7_68 dX7_doAct_85 rfl rfl rfl Nat.zero_lt_one ?_
  refine v_iload_n dX7_doAct_88 rfl ?_
  refine m_zald y (by decide) rfl dX7_doAct_89 Nat.zero_lt_one rfl hy ?_
  refine v_if_eq 101 dX7_doAct_90 (by decide) (fun h_90 => absurd h_90 hf) (fun h_90 => ?_)
  refine v_aload_n dX7_doAct_93 rfl ?_
  refine v_iload_n dX7_doAct_94 rfl ?_
  refine v_iload_n dX7_doAct_95 rfl ?_
  refine v_iconst 1 dX7_doAct_96 (by decide) ?_
  refine v_call3n lX7_153 kX7_waitAt (c_X7_waitAt0 (T := T) ht Z hp) dX7_doAct_97 rfl rfl Nat.zero_lt_one rfl (by decide) (by decide) (st8 rfl) ?_
  exact v_vret dX7_doAct_100 ⟨rfl, by unfold mPut; rw [nv_nI (by omega), if_neg hf]⟩
set_option maxHeartbeats 4000000 in
set_option maxRecDepth 100000 in
theorem c_X7_act0w1 {a b : tH} {T : Nat} {t p n y : Nat} (hy : y < 8) (ht : t < T) {ρ : Option Nat} {L : List Nat} (Z : IQ b ρ T L) (I : IH b T) (hr : ∀ r, ρ = some r → b.1 24 0 r = 0) (ep : b.1 25 0 t = nI p) (en : b.1 26 0 t = nI n) (hk : 20 * p + n < 240) (ex : b.1 23 0 (20 * p + n) = nI y) (ek : b.1 22 0 (20 * p + n) = 0) (hf : ¬ b.1 40 0 y = 0) {pc : Nat} (hp : b.1 31 0 t = nI (pc + 1)) (h4p : pc < 4) : Cn yX7_doAct cX7_doAct 4 5 [.inr (some (20, 0)), .inl (nI t)] (mix a b) (mix a (mPut b T t (nI y))) := by
  have hT24 := Z.2.1
  have ht24 : t < 24 := by omega
  refine Ct.of (by decide) [_, _, _, _] rfl (Nat.le_of_ble_eq_true rfl) ?_
  refine v_bipush 20 dX7_doAct_0 (by decide) ?_
  refine v_aload_n dX7_doAct_2 rfl ?_
  refine v_gr 0 fX7_22 dX7_doAct_3 rfl rfl rfl Nat.zero_lt_one ?_
  refine v_iload_n dX7_doAct_6 rfl ?_
  refine m_ialk t ep (by decide) rfl dX7_doAct_7 Nat.zero_lt_one rfl ht24 ?_
  refine v_imul dX7_doAct_8 ?_
  refine v_aload_n dX7_doAct_9 rfl ?_
  refine v_gr 0 fX7_25 dX7_doAct_10 rfl rfl rfl Nat.zero_lt_one ?_
  refine v_iload_n dX7_doAct_13 rfl ?_
  refine m_ialk t en (by decide) rfl dX7_doAct_14 Nat.zero_lt_one rfl ht24 ?_
  refine v_iadd dX7_doAct_15 ?_
  rw [show (20 : Int32) = nI 20 from rfl, pk_mul, nI_add]
  refine v_istore_n [_, _, _, _] dX7_doAct_16 rfl (by decide) ?_
  refine v_aload_n dX7_doAct_17 rfl ?_
  refine v_gr 0 fX7_16 dX7_doAct_18 rfl rfl rfl Nat.zero_lt_one ?_
  refine v_iload_n dX7_doAct_21 rfl ?_
  refine m_ialk (20 * p + n) ex (by decide) rfl dX7_doAct_22 Nat.zero_lt_one rfl hk ?_
  refine v_istore_n [_, _, _, _] dX7_doAct_23 rfl (by decide) ?_
  refine v_aload_n dX7_doAct_24 rfl ?_
  refine v_gr 0 fX7_13 dX7_doAct_25 rfl rfl rfl Nat.zero_lt_one ?_
  refine v_iload_n dX7_doAct_28 rfl ?_
  refine m_ialk (20 * p + n) ek (by decide) rfl dX7_doAct_29 Nat.zero_lt_one rfl hk ?_
  refine v_tsIn (off := 54) 84 0 dX7_doAct_30 rfl (by decide) (by decide) (by decide) (by decide) ?_
  refine v_aload_n dX7_doAct_84 rfl ?_
  refine v_gr 0 fX7_68 dX7_doAct_85 rfl rfl rfl Nat.zero_lt_one ?_
  refine v_iload_n dX7_doAct_88 rfl ?_
  refine m_zald y (by decide) rfl dX7_doAct_89 Nat.zero_lt_one rfl hy ?_
  refine v_if_eq 101 dX7_doAct_90 (by decide) (fun h_90 => absurd h_90 hf) (fun h_90 => ?_)
  refine v_aload_n dX7_doAct_93 rfl ?_
  refine v_iload_n dX7_doAct_94 rfl ?_
  refine v_iload_n dX7_doAct_95 rfl ?_
  refine v_iconst 1 dX7_doAct_96 (by decide) ?_
  refine v_call3n lX7_153 kX7_waitAt (c_X7_waitAt1 (T := T) ht Z (by obtain ⟨hc, _, h4, _, e1, _⟩ := I t ht; exact ⟨hc, h4, e1⟩) hp h4p) dX7_doAct_97 rfl rfl Nat.zero_lt_one rfl (by decide) (by decide) (st8 rfl) ?_
  exact v_vret dX7_doAct_100 ⟨rfl, by unfold mPut; rw [nv_nI (by omega), if_neg hf]⟩
set_option maxHeartbeats 4000000 in
set_option maxRecDepth 100000 in
theorem c_X7_act0g {a b : tH} {T : Nat} {t p n y : Nat} (hy : y < 8) (ht : t < T) {ρ : Option Nat} {L : List Nat} (Z : IQ b ρ T L) (I : IH b T) (hr : ∀ r, ρ = some r → b.1 24 0 r = 0) (ep : b.1 25 0 t = nI p) (en : b.1 26 0 t = nI n) (hk : 20 * p + n < 240) (ex : b.1 23 0 (20 * p + n) = nI y) (ek : b.1 22 0 (20 * p + n) = 0) (hf : b.1 40 0 y = 0) : Cn yX7_doAct cX7_doAct 4 5 [.inr (some (20, 0)), .inl (nI t)] (mix a b) (mix a (mPut b T t (nI y))) := by
  have hT24 := Z.2.1
  have ht24 : t < 24 := by omega
  refine Ct.of (by decide) [_, _, _, _] rfl (Nat.le_of_ble_eq_true rfl) ?_
  refine v_bipush 20 dX7_doAct_0 (by decide) ?_
  refine v_aload_n dX7_doAct_2 rfl ?_
  refine v_gr 0 fX7_22 dX7_doAct_3 rfl rfl rfl Nat.zero_lt_one ?_
  refine v_iload_n dX7_doAct_6 rfl ?_
  refine m_ialk t ep (by decide) rfl dX7_doAct_7 Nat.zero_lt_one rfl ht24 ?_
  refine v_imul dX7_doAct_8 ?_
  refine v_aload_n dX7_doAct_9 rfl ?_
  refine v_gr 0 fX7_25 dX7_doAct_10 rfl rfl rfl Nat.zero_lt_one ?_
  refine v_iload_n dX7_doAct_13 rfl ?_
  refine m_ialk t en (by decide) rfl dX7_doAct_14 Nat.zero_lt_one rfl ht24 ?_
  refine v_iadd dX7_doAct_15 ?_
  rw [show (20 : Int32) = nI 20 from rfl, pk_mul, nI_add]
  refine v_istore_n [_, _, _, _] dX7_doAct_16 rfl (by decide) ?_
  refine v_aload_n dX7_doAct_17 rfl ?_
  refine v_gr 0 fX7_16 dX7_doAct_18 rfl rfl rfl Nat.zero_lt_one ?_
  refine v_iload_n dX7_doAct_21 rfl ?_
  refine m_ialk (20 * p + n) ex (by decide) rfl dX7_doAct_22 Nat.zero_lt_one rfl hk ?_
  refine v_istore_n [_, _, _, _] dX7_doAct_23 rfl (by decide) ?_
  refine v_aload_n dX7_doAct_24 rfl ?_
  refine v_gr 0 fX7_13 dX7_doAct_25 rfl rfl rfl Nat.zero_lt_one ?_
  refine v_iload_n dX7_doAct_28 rfl ?_
  refine m_ialk (20 * p + n) ek (by decide) rfl dX7_doAct_29 Nat.zero_lt_one rfl hk ?_
  refine v_tsIn (off := 54) 84 0 dX7_doAct_30 rfl (by decide) (by decide) (by decide) (by decide) ?_
  refine v_aload_n dX7_doAct_84 rfl ?_
  refine v_gr 0 fX7_68 dX7_doAct_85 rfl rfl rfl Nat.zero_lt_one ?_
  refine v_iload_n dX7_doAct_88 rfl ?_
  refine m_zald y (by decide) rfl dX7_doAct_89 Nat.zero_lt_one rfl hy ?_
  refine v_if_eq 101 dX7_doAct_90 (by decide) (fun h_90 => ?_) (fun h_90 => absurd hf h_90)
  refine v_aload_n dX7_doAct_101 rfl ?_
  refine v_gr 0 fX7_25 dX7_doAct_102 rfl rfl rfl Nat.zero_lt_one ?_
  refine v_iload_n dX7_doAct_105 rfl ?_
  refine v_dup2 dX7_doAct_106 ?_
  refine m_iald t (by decide) rfl dX7_doAct_107 Nat.zero_lt_one rfl ht24 ?_
  refine v_iconst 1 dX7_doAct_108 (by decide) ?_
  refine v_iadd dX7_doAct_109 ?_
  refine m_iast t (by decide) rfl dX7_doAct_110 Nat.zero_lt_one rfl ht24 ?_
  refine v_aload_n dX7_doAct_111 rfl ?_
  refine v_iload_n dX7_doAct_112 rfl ?_
  refine v_aload_n dX7_doAct_113 rfl ?_
  refine v_gr 0 fX7_28 dX7_doAct_114 rfl rfl rfl Nat.zero_lt_one ?_
  refine v_iload_n dX7_doAct_117 rfl ?_
  refine m_iald t (by decide) rfl dX7_doAct_118 Nat.zero_lt_one rfl ht24 ?_
  refine v_call2n lX7_137 kX7_comesIn (c_X7_comesIn (T := T) hy (by exact Z) (by exact hr)) dX7_doAct_119 rfl rfl Nat.zero_lt_one rfl (by decide) (by decide) (st8 rfl) ?_
  exact v_vret dX7_doAct_122 ⟨rfl, by unfold mPut; rw [nv_nI (by omega), if_pos hf]; rfl⟩
set_option maxHeartbeats 4000000 in
set_option maxRecDepth 100000 in
theorem c_X7_act1w0 {a b : tH} {T : Nat} {t p n y : Nat} (hy : y < 8) (ht : t < T) {ρ : Option Nat} {L : List Nat} (Z : IQ b ρ T L) (I : IH b T) (hr : ∀ r, ρ = some r → b.1 24 0 r = 0) (ep : b.1 25 0 t = nI p) (en : b.1 26 0 t = nI n) (hk : 20 * p + n < 240) (ex : b.1 23 0 (20 * p + n) = nI y) (ek : b.1 22 0 (20 * p + n) = 1) (hf : b.1 40 0 y = 0) (hp : b.1 31 0 t = 0) : Cn yX7_doAct cX7_doAct 4 5 [.inr (some (20, 0)), .inl (nI t)] (mix a b) (mix a (mTake b T t (nI y))) := by
  have hT24 := Z.2.1
  have ht24 : t < 24 := by omega
  refine Ct.of (by decide) [_, _, _, _] rfl (Nat.le_of_ble_eq_true rfl) ?_
  refine v_bipush 20 dX7_doAct_0 (by decide) ?_
  refine v_aload_n dX7_doAct_2 rfl ?_
  refine v_gr 0 fX7_22 dX7_doAct_3 rfl rfl rfl Nat.zero_lt_one ?_
  refine v_iload_n dX7_doAct_6 rfl ?_
  refine m_ialk t ep (by decide) rfl dX7_doAct_7 Nat.zero_lt_one rfl ht24 ?_
  refine v_imul dX7_doAct_8 ?_
  refine v_aload_n dX7_doAct_9 rfl ?_
  refine v_gr 0 fX7_25 dX7_doAct_10 rfl rfl rfl Nat.zero_lt_one ?_
  refine v_iload_n dX7_doAct_13 rfl ?_
  refine m_ialk t en (by decide) rfl dX7_doAct_14 Nat.zero_lt_one rfl ht24 ?_
  refine v_iadd dX7_doAct_15 ?_
  rw [show (20 : Int32) = nI 20 from rfl, pk_mul, nI_add]
  refine v_istore_n [_, _, _, _] dX7_doAct_16 rfl (by decide) ?_
  refine v_aload_n dX7_doAct_17 rfl ?_
  refine v_gr 0 fX7_16 dX7_doAct_18 rfl rfl rfl Nat.zero_lt_one ?_
  refine v_iload_n dX7_doAct_21 rfl ?_
  refine m_ialk (20 * p + n) ex (by decide) rfl dX7_doAct_22 Nat.zero_lt_one rfl hk ?_
  refine v_istore_n [_, _, _, _] dX7_doAct_23 rfl (by decide) ?_
  refine v_aload_n dX7_doAct_24 rfl ?_
  refine v_gr 0 fX7_13 dX7_doAct_25 rfl rfl rfl Nat.zero_lt_one ?_
  refine v_iload_n dX7_doAct_28 rfl ?_
  refine m_ialk (20 * p + n) ek (by decide) rfl dX7_doAct_29 Nat.zero_lt_one rfl hk ?_
  refine v_tsIn (off := 93) 123 1 dX7_doAct_30 rfl (by decide) (by decide) (by decide) (by decide) ?_
  refine v_aload_n dX7_doAct_123 rfl ?_
  refine v_gr 0 fX7_68 dX7_doAct_124 rfl rfl rfl Nat.zero_lt_one ?_
  refine v_iload_n dX7_doAct_127 rfl ?_
  refine m_zald y (by decide) rfl dX7_doAct_128 Nat.zero_lt_one rfl hy ?_
  refine v_if_ne 140 dX7_doAct_129 (by decide) (fun h_129 => absurd hf h_129) (fun h_129 => ?_)
  refine v_aload_n dX7_doAct_132 rfl ?_
  refine v_iload_n dX7_doAct_133 rfl ?_
  refine v_iload_n dX7_doAct_134 rfl ?_
  refine v_iconst 2 dX7_doAct_135 (by decide) ?_
  refine v_call3n lX7_153 kX7_waitAt (c_X7_waitAt0 (T := T) ht Z hp) dX7_doAct_136 rfl rfl Nat.zero_lt_one rfl (by decide) (by decide) (st8 rfl) ?_
  exact v_vret dX7_doAct_139 ⟨rfl, by unfold mTake; rw [nv_nI (by omega), if_pos hf]⟩
set_option maxHeartbeats 4000000 in
set_option maxRecDepth 100000 in
theorem c_X7_act1w1 {a b : tH} {T : Nat} {t p n y : Nat} (hy : y < 8) (ht : t < T) {ρ : Option Nat} {L : List Nat} (Z : IQ b ρ T L) (I : IH b T) (hr : ∀ r, ρ = some r → b.1 24 0 r = 0) (ep : b.1 25 0 t = nI p) (en : b.1 26 0 t = nI n) (hk : 20 * p + n < 240) (ex : b.1 23 0 (20 * p + n) = nI y) (ek : b.1 22 0 (20 * p + n) = 1) (hf : b.1 40 0 y = 0) {pc : Nat} (hp : b.1 31 0 t = nI (pc + 1)) (h4p : pc < 4) : Cn yX7_doAct cX7_doAct 4 5 [.inr (some (20, 0)), .inl (nI t)] (mix a b) (mix a (mTake b T t (nI y))) := by
  have hT24 := Z.2.1
  have ht24 : t < 24 := by omega
  refine Ct.of (by decide) [_, _, _, _] rfl (Nat.le_of_ble_eq_true rfl) ?_
  refine v_bipush 20 dX7_doAct_0 (by decide) ?_
  refine v_aload_n dX7_doAct_2 rfl ?_
  refine v_gr 0 fX7_22 dX7_doAct_3 rfl rfl rfl Nat.zero_lt_one ?_
  refine v_iload_n dX7_doAct_6 rfl ?_
  refine m_ialk t ep (by decide) rfl dX7_doAct_7 Nat.zero_lt_one rfl ht24 ?_
  refine v_imul dX7_doAct_8 ?_
  refine v_aload_n dX7_doAct_9 rfl ?_
  refine v_gr 0 fX7_25 dX7_doAct_10 rfl rfl rfl Nat.zero_lt_one ?_
  refine v_iload_n dX7_doAct_13 rfl ?_
  refine m_ialk t en (by decide) rfl dX7_doAct_14 Nat.zero_lt_one rfl ht24 ?_
  refine v_iadd dX7_doAct_15 ?_
  rw [show (20 : Int32) = nI 20 from rfl, pk_mul, nI_add]
  refine v_istore_n [_, _, _, _] dX7_doAct_16 rfl (by decide) ?_
  refine v_aload_n dX7_doAct_17 rfl ?_
  refine v_gr 0 fX7_16 dX7_doAct_18 rfl rfl rfl Nat.zero_lt_one ?_
  refine v_iload_n dX7_doAct_21 rfl ?_
  refine m_ialk (20 * p + n) ex (by decide) rfl dX7_doAct_22 Nat.zero_lt_one rfl hk ?_
  refine v_istore_n [_, _, _, _] dX7_doAct_23 rfl (by decide) ?_
  refine v_aload_n dX7_doAct_24 rfl ?_
  refine v_gr 0 fX7_13 dX7_doAct_25 rfl rfl rfl Nat.zero_lt_one ?_
  refine v_iload_n dX7_doAct_28 rfl ?_
  refine m_ialk (20 * p + n) ek (by decide) rfl dX7_doAct_29 Nat.zero_lt_one rfl hk ?_
  refine v_tsIn (off := 93) 123 1 dX7_doAct_30 rfl (by decide) (by decide) (by decide) (by decide) ?_
  refine v_aload_n dX7_doAct_123 rfl ?_
  refine v_gr 0 fX7_68 dX7_doAct_124 rfl rfl rfl Nat.zero_lt_one ?_
  refine v_iload_n dX7_doAct_127 rfl ?_
  refine m_zald y (by decide) rfl dX7_doAct_128 Nat.zero_lt_one rfl hy ?_
  refine v_if_ne 140 dX7_doAct_129 (by decide) (fun h_129 => absurd hf h_129) (fun h_129 => ?_)
  refine v_aload_n dX7_doAct_132 rfl ?_
  refine v_iload_n dX7_doAct_133 rfl ?_
  refine v_iload_n dX7_doAct_134 rfl ?_
  refine v_iconst 2 dX7_doAct_135 (by decide) ?_
  refine v_call3n lX7_153 kX7_waitAt (c_X7_waitAt1 (T := T) ht Z (by obtain ⟨hc, _, h4, _, e1, _⟩ := I t ht; exact ⟨hc, h4, e1⟩) hp h4p) dX7_doAct_136 rfl rfl Nat.zero_lt_one rfl (by decide) (by decide) (st8 rfl) ?_
  exact v_vret dX7_doAct_139 ⟨rfl, by unfold mTake; rw [nv_nI (by omega), if_pos hf]⟩
set_option maxHeartbeats 4000000 in
set_option maxRecDepth 100000 in
theorem c_X7_act1g {a b : tH} {T : Nat} {t p n y : Nat} (hy : y < 8) (ht : t < T) {ρ : Option Nat} {L : List Nat} (Z : IQ b ρ T L) (I : IH b T) (hr : ∀ r, ρ = some r → b.1 24 0 r = 0) (ep : b.1 25 0 t = nI p) (en : b.1 26 0 t = nI n) (hk : 20 * p + n < 240) (ex : b.1 23 0 (20 * p + n) = nI y) (ek : b.1 22 0 (20 * p + n) = 1) (hf : ¬ b.1 40 0 y = 0) : Cn yX7_doAct cX7_doAct 4 5 [.inr (some (20, 0)), .inl (nI t)] (mix a b) (mix a (mTake b T t (nI y))) := by
  have hT24 := Z.2.1
  have ht24 : t < 24 := by omega
  refine Ct.of (by decide) [_, _, _, _] rfl (Nat.le_of_ble_eq_true rfl) ?_
  refine v_bipush 20 dX7_doAct_0 (by decide) ?_
  refine v_aload_n dX7_doAct_2 rfl ?_
  refine v_gr 0 fX7_22 dX7_doAct_3 rfl rfl rfl Nat.zero_lt_one ?_
  refine v_iload_n dX7_doAct_6 rfl ?_
  refine m_ialk t ep (by decide) rfl dX7_doAct_7 Nat.zero_lt_one rfl ht24 ?_
  refine v_imul dX7_doAct_8 ?_
  refine v_aload_n dX7_doAct_9 rfl ?_
  refine v_gr 0 fX7_25 dX7_doAct_10 rfl rfl rfl Nat.zero_lt_one ?_
  refine v_iload_n dX7_doAct_13 rfl ?_
  refine m_ialk t en (by decide) rfl dX7_doAct_14 Nat.zero_lt_one rfl ht24 ?_
  refine v_iadd dX7_doAct_15 ?_
  rw [show (20 : Int32) = nI 20 from rfl, pk_mul, nI_add]
  refine v_istore_n [_, _, _, _] dX7_doAct_16 rfl (by decide) ?_
  refine v_aload_n dX7_doAct_17 rfl ?_
  refine v_gr 0 fX7_16 dX7_doAct_18 rfl rfl rfl Nat.zero_lt_one ?_
  refine v_iload_n dX7_doAct_21 rfl ?_
  refine m_ialk (20 * p + n) ex (by decide) rfl dX7_doAct_22 Nat.zero_lt_one rfl hk ?_
  refine v_istore_n [_, _, _, _] dX7_doAct_23 rfl (by decide) ?_
  refine v_aload_n dX7_doAct_24 rfl ?_
  refine v_gr 0 fX7_13 dX7_doAct_25 rfl rfl rfl Nat.zero_lt_one ?_
  refine v_iload_n dX7_doAct_28 rfl ?_
  refine m_ialk (20 * p + n) ek (by decide) rfl dX7_doAct_29 Nat.zero_lt_one rfl hk ?_
  refine v_tsIn (off := 93) 123 1 dX7_doAct_30 rfl (by decide) (by decide) (by decide) (by decide) ?_
  refine v_aload_n dX7_doAct_123 rfl ?_
  refine v_gr 0 fX7_68 dX7_doAct_124 rfl rfl rfl Nat.zero_lt_one ?_
  refine v_iload_n dX7_doAct_127 rfl ?_
  refine m_zald y (by decide) rfl dX7_doAct_128 Nat.zero_lt_one rfl hy ?_
  refine v_if_ne 140 dX7_doAct_129 (by decide) (fun h_129 => ?_) (fun h_129 => absurd h_129 hf)
  refine v_aload_n dX7_doAct_140 rfl ?_
  refine v_gr 0 fX7_25 dX7_doAct_141 rfl rfl rfl Nat.zero_lt_one ?_
  refine v_iload_n dX7_doAct_144 rfl ?_
  refine v_dup2 dX7_doAct_145 ?_
  refine m_iald t (by decide) rfl dX7_doAct_146 Nat.zero_lt_one rfl ht24 ?_
  refine v_iconst 1 dX7_doAct_147 (by decide) ?_
  refine v_iadd dX7_doAct_148 ?_
  refine m_iast t (by decide) rfl dX7_doAct_149 Nat.zero_lt_one rfl ht24 ?_
  refine v_aload_n dX7_doAct_150 rfl ?_
  refine v_gr 0 fX7_28 dX7_doAct_151 rfl rfl rfl Nat.zero_lt_one ?_
  refine v_iload_n dX7_doAct_154 rfl ?_
  refine v_aload_n dX7_doAct_155 rfl ?_
  refine v_gr 0 fX7_65 dX7_doAct_156 rfl rfl rfl Nat.zero_lt_one ?_
  refine v_iload_n dX7_doAct_159 rfl ?_
  refine m_iald y (by decide) rfl dX7_doAct_160 Nat.zero_lt_one rfl hy ?_
  refine m_iast t (by decide) rfl dX7_doAct_161 Nat.zero_lt_one rfl ht24 ?_
  refine v_aload_n dX7_doAct_162 rfl ?_
  refine v_iload_n dX7_doAct_163 rfl ?_
  refine v_call1n lX7_157 kX7_taken (c_X7_taken (T := T) hy (by exact Z) (by exact hr)) dX7_doAct_164 rfl rfl Nat.zero_lt_one rfl (by decide) (by decide) (st8 rfl) ?_
  exact v_vret dX7_doAct_167 ⟨rfl, by unfold mTake; rw [nv_nI (by omega), if_neg hf]; rfl⟩
set_option maxHeartbeats 4000000 in
set_option maxRecDepth 100000 in
theorem c_X7_act2w0 {a b : tH} {T : Nat} {t p n y : Nat} (hy : y < 8) (ht : t < T) {ρ : Option Nat} {L : List Nat} (Z : IQ b ρ T L) (I : IH b T) (hr : ∀ r, ρ = some r → b.1 24 0 r = 0) (ep : b.1 25 0 t = nI p) (en : b.1 26 0 t = nI n) (hk : 20 * p + n < 240) (ex : b.1 23 0 (20 * p + n) = nI y) (ek : b.1 22 0 (20 * p + n) = 2) (hf : b.1 40 0 y = 0) (hp : b.1 31 0 t = 0) : Cn yX7_doAct cX7_doAct 4 5 [.inr (some (20, 0)), .inl (nI t)] (mix a b) (mix a (mRead b T t (nI y))) := by
  have hT24 := Z.2.1
  have ht24 : t < 24 := by omega
  refine Ct.of (by decide) [_, _, _, _] rfl (Nat.le_of_ble_eq_true rfl) ?_
  refine v_bipush 20 dX7_doAct_0 (by decide) ?_
  refine v_aload_n dX7_doAct_2 rfl ?_
  refine v_gr 0 fX7_22 dX7_doAct_3 rfl rfl rfl Nat.zero_lt_one ?_
  refine v_iload_n dX7_doAct_6 rfl ?_
  refine m_ialk t ep (by decide) rfl dX7_doAct_7 Nat.zero_lt_one rfl ht24 ?_
  refine v_imul dX7_doAct_8 ?_
  refine v_aload_n dX7_doAct_9 rfl ?_
  refine v_gr 0 fX7_25 dX7_doAct_10 rfl rfl rfl Nat.zero_lt_one ?_
  refine v_iload_n dX7_doAct_13 rfl ?_
  refine m_ialk t en (by decide) rfl dX7_doAct_14 Nat.zero_lt_one rfl ht24 ?_
  refine v_iadd dX7_doAct_15 ?_
  rw [show (20 : Int32) = nI 20 from rfl, pk_mul, nI_add]
  refine v_istore_n [_, _, _, _] dX7_doAct_16 rfl (by decide) ?_
  refine v_aload_n dX7_doAct_17 rfl ?_
  refine v_gr 0 fX7_16 dX7_doAct_18 rfl rfl rfl Nat.zero_lt_one ?_
  refine v_iload_n dX7_doAct_21 rfl ?_
  refine m_ialk (20 * p + n) ex (by decide) rfl dX7_doAct_22 Nat.zero_lt_one rfl hk ?_
  refine v_istore_n [_, _, _, _] dX7_doAct_23 rfl (by decide) ?_
  refine v_aload_n dX7_doAct_24 rfl ?_
  refine v_gr 0 fX7_13 dX7_doAct_25 rfl rfl rfl Nat.zero_lt_one ?_
  refine v_iload_n dX7_doAct_28 rfl ?_
  refine m_ialk (20 * p + n) ek (by decide) rfl dX7_doAct_29 Nat.zero_lt_one rfl hk ?_
  refine v_tsIn (off := 138) 168 2 dX7_doAct_30 rfl (by decide) (by decide) (by decide) (by decide) ?_
  refine v_aload_n dX7_doAct_168 rfl ?_
  refine v_gr 0 fX7_68 dX7_doAct_169 rfl rfl rfl Nat.zero_lt_one ?_
  refine v_iload_n dX7_doAct_172 rfl ?_
  refine m_zald y (by decide) rfl dX7_doAct_173 Nat.zero_lt_one rfl hy ?_
  refine v_if_ne 185 dX7_doAct_174 (by decide) (fun h_174 => absurd hf h_174) (fun h_174 => ?_)
  refine v_aload_n dX7_doAct_177 rfl ?_
  refine v_iload_n dX7_doAct_178 rfl ?_
  refine v_iload_n dX7_doAct_179 rfl ?_
  refine v_iconst 3 dX7_doAct_180 (by decide) ?_
  refine v_call3n lX7_153 kX7_waitAt (c_X7_waitAt0 (T := T) ht Z hp) dX7_doAct_181 rfl rfl Nat.zero_lt_one rfl (by decide) (by decide) (st8 rfl) ?_
  exact v_vret dX7_doAct_184 ⟨rfl, by unfold mRead; rw [nv_nI (by omega), if_pos hf]⟩
set_option maxHeartbeats 4000000 in
set_option maxRecDepth 100000 in
theorem c_X7_act2w1 {a b : tH} {T : Nat} {t p n y : Nat} (hy : y < 8) (ht : t < T) {ρ : Option Nat} {L : List Nat} (Z : IQ b ρ T L) (I : IH b T) (hr : ∀ r, ρ = some r → b.1 24 0 r = 0) (ep : b.1 25 0 t = nI p) (en : b.1 26 0 t = nI n) (hk : 20 * p + n < 240) (ex : b.1 23 0 (20 * p + n) = nI y) (ek : b.1 22 0 (20 * p + n) = 2) (hf : b.1 40 0 y = 0) {pc : Nat} (hp : b.1 31 0 t = nI (pc + 1)) (h4p : pc < 4) : Cn yX7_doAct cX7_doAct 4 5 [.inr (some (20, 0)), .inl (nI t)] (mix a b) (mix a (mRead b T t (nI y))) := by
  have hT24 := Z.2.1
  have ht24 : t < 24 := by omega
  refine Ct.of (by decide) [_, _, _, _] rfl (Nat.le_of_ble_eq_true rfl) ?_
  refine v_bipush 20 dX7_doAct_0 (by decide) ?_
  refine v_aload_n dX7_doAct_2 rfl ?_
  refine v_gr 0 fX7_22 dX7_doAct_3 rfl rfl rfl Nat.zero_lt_one ?_
  refine v_iload_n dX7_doAct_6 rfl ?_
  refine m_ialk t ep (by decide) rfl dX7_doAct_7 Nat.zero_lt_one rfl ht24 ?_
  refine v_imul dX7_doAct_8 ?_
  refine v_aload_n dX7_doAct_9 rfl ?_
  refine v_gr 0 fX7_25 dX7_doAct_10 rfl rfl rfl Nat.zero_lt_one ?_
  refine v_iload_n dX7_doAct_13 rfl ?_
  refine m_ialk t en (by decide) rfl dX7_doAct_14 Nat.zero_lt_one rfl ht24 ?_
  refine v_iadd dX7_doAct_15 ?_
  rw [show (20 : Int32) = nI 20 from rfl, pk_mul, nI_add]
  refine v_istore_n [_, _, _, _] dX7_doAct_16 rfl (by decide) ?_
  refine v_aload_n dX7_doAct_17 rfl ?_
  refine v_gr 0 fX7_16 dX7_doAct_18 rfl rfl rfl Nat.zero_lt_one ?_
  refine v_iload_n dX7_doAct_21 rfl ?_
  refine m_ialk (20 * p + n) ex (by decide) rfl dX7_doAct_22 Nat.zero_lt_one rfl hk ?_
  refine v_istore_n [_, _, _, _] dX7_doAct_23 rfl (by decide) ?_
  refine v_aload_n dX7_doAct_24 rfl ?_
  refine v_gr 0 fX7_13 dX7_doAct_25 rfl rfl rfl Nat.zero_lt_one ?_
  refine v_iload_n dX7_doAct_28 rfl ?_
  refine m_ialk (20 * p + n) ek (by decide) rfl dX7_doAct_29 Nat.zero_lt_one rfl hk ?_
  refine v_tsIn (off := 138) 168 2 dX7_doAct_30 rfl (by decide) (by decide) (by decide) (by decide) ?_
  refine v_aload_n dX7_doAct_168 rfl ?_
  refine v_gr 0 fX7_68 dX7_doAct_169 rfl rfl rfl Nat.zero_lt_one ?_
  refine v_iload_n dX7_doAct_172 rfl ?_
  refine m_zald y (by decide) rfl dX7_doAct_173 Nat.zero_lt_one rfl hy ?_
  refine v_if_ne 185 dX7_doAct_174 (by decide) (fun h_174 => absurd hf h_174) (fun h_174 => ?_)
  refine v_aload_n dX7_doAct_177 rfl ?_
  refine v_iload_n dX7_doAct_178 rfl ?_
  refine v_iload_n dX7_doAct_179 rfl ?_
  refine v_iconst 3 dX7_doAct_180 (by decide) ?_
  refine v_call3n lX7_153 kX7_waitAt (c_X7_waitAt1 (T := T) ht Z (by obtain ⟨hc, _, h4, _, e1, _⟩ := I t ht; exact ⟨hc, h4, e1⟩) hp h4p) dX7_doAct_181 rfl rfl Nat.zero_lt_one rfl (by decide) (by decide) (st8 rfl) ?_
  exact v_vret dX7_doAct_184 ⟨rfl, by unfold mRead; rw [nv_nI (by omega), if_pos hf]⟩
set_option maxHeartbeats 4000000 in
set_option maxRecDepth 100000 in
theorem c_X7_act2g {a b : tH} {T : Nat} {t p n y : Nat} (hy : y < 8) (ht : t < T) {ρ : Option Nat} {L : List Nat} (Z : IQ b ρ T L) (I : IH b T) (hr : ∀ r, ρ = some r → b.1 24 0 r = 0) (ep : b.1 25 0 t = nI p) (en : b.1 26 0 t = nI n) (hk : 20 * p + n < 240) (ex : b.1 23 0 (20 * p + n) = nI y) (ek : b.1 22 0 (20 * p + n) = 2) (hf : ¬ b.1 40 0 y = 0) : Cn yX7_doAct cX7_doAct 4 5 [.inr (some (20, 0)), .inl (nI t)] (mix a b) (mix a (mRead b T t (nI y))) := by
  have hT24 := Z.2.1
  have ht24 : t < 24 := by omega
  refine Ct.of (by decide) [_, _, _, _] rfl (Nat.le_of_ble_eq_true rfl) ?_
  refine v_bipush 20 dX7_doAct_0 (by decide) ?_
  refine v_aload_n dX7_doAct_2 rfl ?_
  refine v_gr 0 fX7_22 dX7_doAct_3 rfl rfl rfl Nat.zero_lt_one ?_
  refine v_iload_n dX7_doAct_6 rfl ?_
  refine m_ialk t ep (by decide) rfl dX7_doAct_7 Nat.zero_lt_one rfl ht24 ?_
  refine v_imul dX7_doAct_8 ?_
  refine v_aload_n dX7_doAct_9 rfl ?_
  refine v_gr 0 fX7_25 dX7_doAct_10 rfl rfl rfl Nat.zero_lt_one ?_
  refine v_iload_n dX7_doAct_13 rfl ?_
  refine m_ialk t en (by decide) rfl dX7_doAct_14 Nat.zero_lt_one rfl ht24 ?_
  refine v_iadd dX7_doAct_15 ?_
  rw [show (20 : Int32) = nI 20 from rfl, pk_mul, nI_add]
  refine v_istore_n [_, _, _, _] dX7_doAct_16 rfl (by decide) ?_
  refine v_aload_n dX7_doAct_17 rfl ?_
  refine v_gr 0 fX7_16 dX7_doAct_18 rfl rfl rfl Nat.zero_lt_one ?_
  refine v_iload_n dX7_doAct_21 rfl ?_
  refine m_ialk (20 * p + n) ex (by decide) rfl dX7_doAct_22 Nat.zero_lt_one rfl hk ?_
  refine v_istore_n [_, _, _, _] dX7_doAct_23 rfl (by decide) ?_
  refine v_aload_n dX7_doAct_24 rfl ?_
  refine v_gr 0 fX7_13 dX7_doAct_25 rfl rfl rfl Nat.zero_lt_one ?_
  refine v_iload_n dX7_doAct_28 rfl ?_
  refine m_ialk (20 * p + n) ek (by decide) rfl dX7_doAct_29 Nat.zero_lt_one rfl hk ?_
  refine v_tsIn (off := 138) 168 2 dX7_doAct_30 rfl (by decide) (by decide) (by decide) (by decide) ?_
  refine v_aload_n dX7_doAct_168 rfl ?_
  refine v_gr 0 fX7_68 dX7_doAct_169 rfl rfl rfl Nat.zero_lt_one ?_
  refine v_iload_n dX7_doAct_172 rfl ?_
  refine m_zald y (by decide) rfl dX7_doAct_173 Nat.zero_lt_one rfl hy ?_
  refine v_if_ne 185 dX7_doAct_174 (by decide) (fun h_174 => ?_) (fun h_174 => absurd h_174 hf)
  refine v_aload_n dX7_doAct_185 rfl ?_
  refine v_gr 0 fX7_25 dX7_doAct_186 rfl rfl rfl Nat.zero_lt_one ?_
  refine v_iload_n dX7_doAct_189 rfl ?_
  refine v_dup2 dX7_doAct_190 ?_
  refine m_iald t (by decide) rfl dX7_doAct_191 Nat.zero_lt_one rfl ht24 ?_
  refine v_iconst 1 dX7_doAct_192 (by decide) ?_
  refine v_iadd dX7_doAct_193 ?_
  refine m_iast t (by decide) rfl dX7_doAct_194 Nat.zero_lt_one rfl ht24 ?_
  refine v_aload_n dX7_doAct_195 rfl ?_
  refine v_gr 0 fX7_28 dX7_doAct_196 rfl rfl rfl Nat.zero_lt_one ?_
  refine v_iload_n dX7_doAct_199 rfl ?_
  refine v_aload_n dX7_doAct_200 rfl ?_
  refine v_gr 0 fX7_65 dX7_doAct_201 rfl rfl rfl Nat.zero_lt_one ?_
  refine v_iload_n dX7_doAct_204 rfl ?_
  refine m_iald y (by decide) rfl dX7_doAct_205 Nat.zero_lt_one rfl hy ?_
  refine m_iast t (by decide) rfl dX7_doAct_206 Nat.zero_lt_one rfl ht24 ?_
  exact v_vret dX7_doAct_207 ⟨rfl, by unfold mRead; rw [nv_nI (by omega), if_neg hf]; rfl⟩
def gdA (k x : Int32) : Prop := ∃ j, j ≤ 16 ∧ k = nI j ∧ (j ≤ 2 → ∃ y, y < 8 ∧ x = nI y)
set_option maxHeartbeats 4000000 in
theorem c_X7_doAct {a b : tH} {T t p n P rr : Nat} (ht : t < T) {ρ : Option Nat} {L : List Nat} (Z : IQ b ρ T L) (I : IH b T) (hr : ∀ r, ρ = some r → b.1 24 0 r = 0) (ep : b.1 25 0 t = nI p) (en : b.1 26 0 t = nI n) (hk : 20 * p + n < 240) (hg : gdA (b.1 22 0 (20 * p + n)) (b.1 23 0 (20 * p + n))) (eP : b.1 20 0 1 = nI P) (hrr : b.1 20 0 31 = nI rr) (h100 : rr ≤ 100) : Cn yX7_doAct cX7_doAct 4 5 [.inr (some (20, 0)), .inl (nI t)] (mix a b) (mix a (mAct b T t)) := by
  have e0 : mKx b t = 20 * p + n := by unfold mKx; rw [ep, en, nv_nI (by omega), nv_nI (by omega)]
  obtain ⟨j, hj, ej, hy⟩ := hg
  have e1 : mAct b T t = mDo j (b.1 23 0 (20 * p + n)) b T t := by unfold mAct; rw [e0, ej, nv_nI (by omega)]
  rw [e1]
  obtain ⟨hc, pc, h4, p4, c1, c2⟩ := I t ht
  rcases (show j = 0 ∨ j = 1 ∨ j = 2 ∨ j = 3 ∨ j = 4 ∨ j = 5 ∨ j = 6 ∨ j = 7 ∨ j = 8 ∨ j = 9 ∨ j = 10 ∨ j = 11 ∨ j = 12 ∨ j = 13 ∨ j = 14 ∨ j = 15 ∨ j = 16 by omega) with rfl | rfl | rfl | rfl | rfl | rfl | rfl | rfl | rfl | rfl | rfl | rfl | rfl | rfl | rfl | rfl | rfl
  · obtain ⟨y, hy, ey⟩ := hy (by omega)
    rw [ey]
    by_cases hf : b.1 40 0 y = 0
    · exact c_X7_act0g hy ht Z I hr ep en hk ey ej hf
    · cases pc with
      | zero => exact c_X7_act0w0 hy ht Z I hr ep en hk ey ej hf c2
      | succ pc => exact c_X7_act0w1 hy ht Z I hr ep en hk ey ej hf c2 (by omega)
  · obtain ⟨y, hy, ey⟩ := hy (by omega)
    rw [ey]
    by_cases hf : b.1 40 0 y = 0
    · cases pc with
      | zero => exact c_X7_act1w0 hy ht Z I hr ep en hk ey ej hf c2
      | succ pc => exact c_X7_act1w1 hy ht Z I hr ep en hk ey ej hf c2 (by omega)
    · exact c_X7_act1g hy ht Z I hr ep en hk ey ej hf
  · obtain ⟨y, hy, ey⟩ := hy (by omega)
    rw [ey]
    by_cases hf : b.1 40 0 y = 0
    · cases pc with
      | zero => exact c_X7_act2w0 hy ht Z I hr ep en hk ey ej hf c2
      | succ pc => exact c_X7_act2w1 hy ht Z I hr ep en hk ey ej hf c2 (by omega)
    · exact c_X7_act2g hy ht Z I hr ep en hk ey ej hf
  · exact c_X7_act3 ht Z I hr ep en hk rfl ej
  · exact c_X7_act4 ht Z I hr ep en hk rfl ej
  · exact c_X7_act5 ht Z I hr ep en hk rfl ej eP
  · exact c_X7_act6 ht Z I hr ep en hk rfl ej
  · cases pc with
    | zero => exact c_X7_act7a ht Z I hr ep en hk rfl ej c2
    | succ pc => exact c_X7_act7b ht Z I hr ep en hk rfl ej c2 (by omega)
  · exact c_X7_act8 ht Z I hr ep en hk rfl ej
  · exact c_X7_act9 ht Z I hr ep en hk rfl ej
  · exact c_X7_act10 ht Z I hr ep en hk rfl ej hrr h100
  · exact c_X7_act11 ht Z I hr ep en hk rfl ej
  · exact c_X7_act12 ht Z I hr ep en hk rfl ej
  · exact c_X7_act13 ht Z I hr ep en hk rfl ej h4 c1
  · exact c_X7_act14 ht Z I hr ep en hk rfl ej
  · exact c_X7_act15 ht Z I hr ep en hk rfl ej
  · exact c_X7_act16 ht Z I hr ep en hk rfl ej
end
section
/-! The reference: waking, what is ready, a turn, a step -/
def mDue (b : tH) (T : Nat) : Option Nat := mins (fun t => decide (b.1 24 0 t = 4) && decide (b.1 35 0 t ≤ b.1 20 0 8)) (fun t => b.1 35 0 t) T
def mWk1 (b : tH) (t : Nat) : tH := mEnq (put b 35 0 t (-3)) t
def mWake (T : Nat) : Nat → tH → tH
  | 0, b => b
  | f + 1, b => match mDue b T with
    | none => b
    | some t => mWake T f (mWk1 b t)
theorem mWake_none {T f : Nat} {b : tH} (h : mDue b T = none) : mWake T f b = b := by
  cases f with
  | zero => rfl
  | succ f => unfold mWake; rw [h]
theorem mWake_some {T f t : Nat} {b : tH} (h : mDue b T = some t) : mWake T (f + 1) b = mWake T f (mWk1 b t) := by
  conv => lhs; unfold mWake
  rw [h]
theorem mDue_st {b : tH} {T t : Nat} (h : mDue b T = some t) : t < T ∧ b.1 24 0 t = 4 ∧ b.1 35 0 t ≤ b.1 20 0 8 := by
  have h1 := mins_lt h
  have h2 := Bool.and_eq_true_iff.mp h1.2
  exact ⟨h1.1, of_decide_eq_true h2.1, of_decide_eq_true h2.2⟩
theorem mWk1_st {b : tH} {t s : Nat} : (mWk1 b t).1 24 0 s = if s = t then 0 else b.1 24 0 s := by
  by_cases h : s = t <;> simp [mWk1, mEnq, put_rd, h]
theorem mWk1_un {b : tH} {t s : Nat} : (mWk1 b t).1 35 0 s = if s = t then -3 else b.1 35 0 s := by
  by_cases h : s = t <;> simp [mWk1, mEnq, put_rd, h]
theorem mWk1_cl {b : tH} {t : Nat} : (mWk1 b t).1 20 0 8 = b.1 20 0 8 := by simp [mWk1, mEnq, put_rd]
theorem cnt_wk {b : tH} {T t : Nat} (hs : t < T ∧ b.1 24 0 t = 4 ∧ b.1 35 0 t ≤ b.1 20 0 8) : cnt (fun s => decide (b.1 24 0 s = 4) && decide (b.1 35 0 s ≤ b.1 20 0 8)) T = cnt (fun s => decide ((mWk1 b t).1 24 0 s = 4) && decide ((mWk1 b t).1 35 0 s ≤ (mWk1 b t).1 20 0 8)) T + 1 := by
  refine cnt_off (t := t) ?_ ?_ hs.1 (fun j hj hne => ?_)
  · simp only [hs.2.1, hs.2.2, decide_true, Bool.and_self]
  · rw [mWk1_st, if_pos rfl]; rfl
  · rw [mWk1_st, if_neg hne, mWk1_un, if_neg hne, mWk1_cl]
theorem IQ.wk {b : tH} {T t : Nat} {L : List Nat} (Z : IQ b none T L) (hs : t < T) (h4 : b.1 24 0 t ≠ 0) : IQ (mWk1 b t) none T (L ++ [t]) := IQ.enq (b := put b 35 0 t (-3)) Z hs (Z.notin h4) (fun e => by cases e)

set_option maxHeartbeats 4000000 in
set_option maxRecDepth 100000 in
theorem l1_X7_wake {a b : tH} {T : Nat} {B : tH} (hT : b.1 20 0 11 = nI T) (h24 : T ≤ 24) (K : Vw yX7_wake.cls cX7_wake 3 none 1 (fun r h' => r = none ∧ h' = mix a B) 72 [some (.inr (some (20, 0))), some (.inl (enc (mDue b T))), some (.inl (nI T))] [] (mix a b)) : ∀ (m k : Nat), T = k + m → Vw yX7_wake.cls cX7_wake 3 none 1 (fun r h' => r = none ∧ h' = mix a B) 10 [some (.inr (some (20, 0))), some (.inl (enc (mins (fun t => decide (b.1 24 0 t = 4) && decide (b.1 35 0 t ≤ b.1 20 0 8)) (fun t => b.1 35 0 t) k))), some (.inl (nI k))] [] (mix a b) := by
  intro m
  induction m with
  | zero =>
    intro k hk
    obtain rfl : T = k := hk
    refine v_iload_n dX7_wake_10 rfl ?_
    refine v_aload_n dX7_wake_11 rfl ?_
    refine m_gk hT (by decide) fX7_92 dX7_wake_12 rfl rfl Nat.zero_lt_one ?_
    refine v_icmp_ge 72 dX7_wake_15 (by decide) (fun h_15 => ?_) (fun h_15 => absurd (Int32.le_refl _) h_15)
    exact K
  | succ m ih =>
    intro k hk
    have hk24 : k < 24 := by omega
    have hb : ∀ j, mins (fun t => decide (b.1 24 0 t = 4) && decide (b.1 35 0 t ≤ b.1 20 0 8)) (fun t => b.1 35 0 t) k = some j → j < 2 ^ 31 := fun j hj => by have := (mins_lt hj).1; omega
    refine v_iload_n dX7_wake_10 rfl ?_
    refine v_aload_n dX7_wake_11 rfl ?_
    refine m_gk hT (by decide) fX7_92 dX7_wake_12 rfl rfl Nat.zero_lt_one ?_
    refine v_icmp_ge 72 dX7_wake_15 (by decide) (fun h_15 => absurd h_15 (nI_ge (by omega) (by omega))) (fun h_15 => ?_)
    refine v_aload_n dX7_wake_18 rfl ?_
    refine v_gr 0 fX7_19 dX7_wake_19 rfl rfl rfl Nat.zero_lt_one ?_
    refine v_iload_n dX7_wake_22 rfl ?_
    refine m_iald k (by decide) rfl dX7_wake_23 Nat.zero_lt_one rfl hk24 ?_
    refine v_iconst 4 dX7_wake_24 (by decide) ?_
    refine v_icmp_ne 64 dX7_wake_25 (by decide) (fun h_25 => ?_) (fun h_25 => ?_)
    · refine v_iload_n dX7_wake_64 rfl ?_
      refine v_istore_n [_, _, _] dX7_wake_65 rfl (by decide) ?_
      refine v_iinc [_, _, _] dX7_wake_66 rfl (by first | exact inc1 _ | rfl) rfl (by decide) ?_
      refine v_goto 10 dX7_wake_69 (by decide) ?_
      have q := ih (k + 1) (by omega)
      rw [mins_step0 (by simp only [h_25, decide_false, Bool.false_and])] at q
      exact q
    · refine v_aload_n dX7_wake_28 rfl ?_
      refine v_gr 0 fX7_53 dX7_wake_29 rfl rfl rfl Nat.zero_lt_one ?_
      refine v_iload_n dX7_wake_32 rfl ?_
      refine m_iald k (by decide) rfl dX7_wake_33 Nat.zero_lt_one rfl hk24 ?_
      refine v_aload_n dX7_wake_34 rfl ?_
      refine m_gi (by decide) fX7_112 dX7_wake_35 rfl rfl Nat.zero_lt_one ?_
      refine v_icmp_gt 64 dX7_wake_38 (by decide) (fun h_38 => ?_) (fun h_38 => ?_)
      · refine v_iload_n dX7_wake_64 rfl ?_
        refine v_istore_n [_, _, _] dX7_wake_65 rfl (by decide) ?_
        refine v_iinc [_, _, _] dX7_wake_66 rfl (by first | exact inc1 _ | rfl) rfl (by decide) ?_
        refine v_goto 10 dX7_wake_69 (by decide) ?_
        have q := ih (k + 1) (by omega)
        rw [mins_step0 (by simp only [Int32.not_le.mpr h_38, decide_false, Bool.and_false])] at q
        exact q
      · refine v_iload_n dX7_wake_41 rfl ?_
        refine v_if_lt 60 dX7_wake_42 (by decide) (fun h_42 => ?_) (fun h_42 => ?_)
        · have hj := (enc_neg hb).mp h_42
          refine v_iload_n dX7_wake_60 rfl ?_
          refine v_goto 65 dX7_wake_61 (by decide) ?_
          refine v_istore_n [_, _, _] dX7_wake_65 rfl (by decide) ?_
          refine v_iinc [_, _, _] dX7_wake_66 rfl (by first | exact inc1 _ | rfl) rfl (by decide) ?_
          refine v_goto 10 dX7_wake_69 (by decide) ?_
          have q := ih (k + 1) (by omega)
          rw [mins_stepN hj (by simp only [h_25, Int32.not_lt.mp h_38, decide_true, Bool.and_self])] at q
          exact q
        · obtain ⟨j, hj⟩ : ∃ j, mins (fun t => decide (b.1 24 0 t = 4) && decide (b.1 35 0 t ≤ b.1 20 0 8)) (fun t => b.1 35 0 t) k = some j := by
            cases e : mins (fun t => decide (b.1 24 0 t = 4) && decide (b.1 35 0 t ≤ b.1 20 0 8)) (fun t => b.1 35 0 t) k with
            | none => exact absurd ((enc_neg hb).mpr e) h_42
            | some j => exact ⟨j, rfl⟩
          have hj24 : j < 24 := by have := (mins_lt hj).1; omega
          refine v_aload_n dX7_wake_45 rfl ?_
          refine v_gr 0 fX7_53 dX7_wake_46 rfl rfl rfl Nat.zero_lt_one ?_
          refine v_iload_n dX7_wake_49 rfl ?_
          refine m_iald k (by decide) rfl dX7_wake_50 Nat.zero_lt_one rfl hk24 ?_
          refine v_aload_n dX7_wake_51 rfl ?_
          refine v_gr 0 fX7_53 dX7_wake_52 rfl rfl rfl Nat.zero_lt_one ?_
          refine v_iload_n dX7_wake_55 rfl ?_
          refine m_iald j (by decide) rfl dX7_wake_56 Nat.zero_lt_one (by rw [hj]; rfl) hj24 ?_
          refine v_icmp_ge 64 dX7_wake_57 (by decide) (fun h_57 => ?_) (fun h_57 => ?_)
          · refine v_iload_n dX7_wake_64 rfl ?_
            refine v_istore_n [_, _, _] dX7_wake_65 rfl (by decide) ?_
            refine v_iinc [_, _, _] dX7_wake_66 rfl (by first | exact inc1 _ | rfl) rfl (by decide) ?_
            refine v_goto 10 dX7_wake_69 (by decide) ?_
            have q := ih (k + 1) (by omega)
            rw [mins_stepK hj h_57] at q
            exact q
          · refine v_iload_n dX7_wake_60 rfl ?_
            refine v_goto 65 dX7_wake_61 (by decide) ?_
            refine v_istore_n [_, _, _] dX7_wake_65 rfl (by decide) ?_
            refine v_iinc [_, _, _] dX7_wake_66 rfl (by first | exact inc1 _ | rfl) rfl (by decide) ?_
            refine v_goto 10 dX7_wake_69 (by decide) ?_
            have q := ih (k + 1) (by omega)
            rw [mins_stepS hj (by simp only [h_25, Int32.not_lt.mp h_38, decide_true, Bool.and_self]) h_57] at q
            exact q
set_option maxHeartbeats 4000000 in
set_option maxRecDepth 100000 in
theorem l_X7_wake {a : tH} {T : Nat} : ∀ (f : Nat) (b : tH) (L : List Nat) (t0 : Nat) (L2 : Option tV), t0 < 2 ^ 31 → IQ b none T L → cnt (fun t => decide (b.1 24 0 t = 4) && decide (b.1 35 0 t ≤ b.1 20 0 8)) T ≤ f → Vw yX7_wake.cls cX7_wake 3 none 1 (fun r h' => r = none ∧ h' = mix a (mWake T f b)) 2 [some (.inr (some (20, 0))), some (.inl (nI t0)), L2] [] (mix a b) := by
  intro f
  induction f with
  | zero =>
    intro b L t0 L2 ht0 Z hc
    have hj : mDue b T = none := mins_of_cnt (by omega)
    refine v_iload_n dX7_wake_2 rfl ?_
    refine v_if_lt 92 dX7_wake_3 (by decide) (fun h_3 => absurd h_3 (nI_pos ht0)) (fun h_3 => ?_)
    refine v_iconst (-1) dX7_wake_6 (by decide) ?_
    refine v_istore_n [_, _, _] dX7_wake_7 rfl (by decide) ?_
    refine v_iconst 0 dX7_wake_8 (by decide) ?_
    refine v_istore_n [_, _, _] dX7_wake_9 rfl (by decide) ?_
    refine l1_X7_wake Z.1 Z.2.1 ?_ T 0 (by omega)
    rw [hj]
    refine v_iload_n dX7_wake_72 rfl ?_
    refine v_if_lt 2 dX7_wake_73 (by decide) (fun h_73 => ?_) (fun h_73 => absurd (by decide) h_73)
    refine v_iload_n dX7_wake_2 rfl ?_
    refine v_if_lt 92 dX7_wake_3 (by decide) (fun h_3 => ?_) (fun h_3 => absurd (by decide) h_3)
    exact v_vret dX7_wake_92 ⟨rfl, rfl⟩
  | succ f ih =>
    intro b L t0 L2 ht0 Z hc
    cases hj : mDue b T with
    | none =>
      rw [mWake_none hj]
      refine v_iload_n dX7_wake_2 rfl ?_
      refine v_if_lt 92 dX7_wake_3 (by decide) (fun h_3 => absurd h_3 (nI_pos ht0)) (fun h_3 => ?_)
      refine v_iconst (-1) dX7_wake_6 (by decide) ?_
      refine v_istore_n [_, _, _] dX7_wake_7 rfl (by decide) ?_
      refine v_iconst 0 dX7_wake_8 (by decide) ?_
      refine v_istore_n [_, _, _] dX7_wake_9 rfl (by decide) ?_
      refine l1_X7_wake Z.1 Z.2.1 ?_ T 0 (by omega)
      rw [hj]
      refine v_iload_n dX7_wake_72 rfl ?_
      refine v_if_lt 2 dX7_wake_73 (by decide) (fun h_73 => ?_) (fun h_73 => absurd (by decide) h_73)
      refine v_iload_n dX7_wake_2 rfl ?_
      refine v_if_lt 92 dX7_wake_3 (by decide) (fun h_3 => ?_) (fun h_3 => absurd (by decide) h_3)
      exact v_vret dX7_wake_92 ⟨rfl, rfl⟩
    | some t =>
      have hs := mDue_st hj
      have ht24 : t < 24 := by have := Z.2.1; omega
      rw [mWake_some hj]
      refine v_iload_n dX7_wake_2 rfl ?_
      refine v_if_lt 92 dX7_wake_3 (by decide) (fun h_3 => absurd h_3 (nI_pos ht0)) (fun h_3 => ?_)
      refine v_iconst (-1) dX7_wake_6 (by decide) ?_
      refine v_istore_n [_, _, _] dX7_wake_7 rfl (by decide) ?_
      refine v_iconst 0 dX7_wake_8 (by decide) ?_
      refine v_istore_n [_, _, _] dX7_wake_9 rfl (by decide) ?_
      refine l1_X7_wake Z.1 Z.2.1 ?_ T 0 (by omega)
      rw [hj]
      refine v_iload_n dX7_wake_72 rfl ?_
      refine v_if_lt 2 dX7_wake_73 (by decide) (fun h_73 => absurd h_73 (nI_pos (by omega))) (fun h_73 => ?_)
      refine v_aload_n dX7_wake_76 rfl ?_
      refine v_gr 0 fX7_53 dX7_wake_77 rfl rfl rfl Nat.zero_lt_one ?_
      refine v_iload_n dX7_wake_80 rfl ?_
      refine v_bipush (-3) dX7_wake_81 (by decide) ?_
      refine m_iast t (by decide) rfl dX7_wake_83 Nat.zero_lt_one rfl ht24 ?_
      refine v_aload_n dX7_wake_84 rfl ?_
      refine v_iload_n dX7_wake_85 rfl ?_
      refine v_call1n lX7_95 kX7_enqueue (c_X7_enqueue (q := L.length) ht24 (by exact Z.2.2.1) Z.len) dX7_wake_86 rfl rfl Nat.zero_lt_one rfl (by decide) (by decide) (st8 rfl) ?_
      refine v_goto 2 dX7_wake_89 (by decide) ?_
      exact ih (mWk1 b t) (L ++ [t]) t _ (by omega) (Z.wk hs.1 (by rw [hs.2.1]; decide)) (by have := cnt_wk hs; omega)
set_option maxHeartbeats 4000000 in
set_option maxRecDepth 100000 in
theorem c_X7_wake {a b : tH} {T : Nat} {L : List Nat} (Z : IQ b none T L) : Cn yX7_wake cX7_wake 3 1 [.inr (some (20, 0))] (mix a b) (mix a (mWake T 24 b)) := by
  refine Ct.of (by decide) [_, _, _] rfl (Nat.le_of_ble_eq_true rfl) ?_
  refine v_iconst 0 dX7_wake_0 (by decide) ?_
  refine v_istore_n [_, _, _] dX7_wake_1 rfl (by decide) ?_
  exact l_X7_wake 24 b L 0 none (by omega) Z (Nat.le_trans (cnt_le _ T) Z.2.1)
theorem IQ.wake {T : Nat} : ∀ (f : Nat) (b : tH) (L : List Nat), IQ b none T L → ∃ L', IQ (mWake T f b) none T L'
  | 0, b, L, Z => ⟨L, Z⟩
  | f + 1, b, L, Z => by
    cases hj : mDue b T with
    | none => rw [mWake_none hj]; exact ⟨L, Z⟩
    | some t =>
      rw [mWake_some hj]
      have hs := mDue_st hj
      exact IQ.wake f (mWk1 b t) (L ++ [t]) (Z.wk hs.1 (by rw [hs.2.1]; decide))
theorem mWk1_off {b : tH} {t c i k : Nat} (h1 : c ≠ 24) (h2 : c ≠ 35) (h3 : c ≠ 38) (h4 : ¬ (c = 20 ∧ i = 0 ∧ k = 27)) : (mWk1 b t).1 c i k = b.1 c i k := by
  unfold mWk1 mEnq
  rw [put_ne (by omega), put_ne (by omega), put_ne (by omega), put_ne (by omega)]
theorem mWake_off {T c i k : Nat} (h1 : c ≠ 24) (h2 : c ≠ 35) (h3 : c ≠ 38) (h4 : ¬ (c = 20 ∧ i = 0 ∧ k = 27)) : ∀ (f : Nat) (b : tH), (mWake T f b).1 c i k = b.1 c i k
  | 0, b => rfl
  | f + 1, b => by
    cases hj : mDue b T with
    | none => rw [mWake_none hj]
    | some t => rw [mWake_some hj, mWake_off h1 h2 h3 h4 f, mWk1_off h1 h2 h3 h4]
theorem IH.wake {T : Nat} {b : tH} (I : IH b T) (f : Nat) : IH (mWake T f b) T := by
  intro t ht
  obtain ⟨hc, pc, h4, p4, e1, e2⟩ := I t ht
  exact ⟨hc, pc, h4, p4, (mWake_off (by omega) (by omega) (by omega) (by omega) f b).trans e1, (mWake_off (by omega) (by omega) (by omega) (by omega) f b).trans e2⟩
/-- those delayed have a time that isn't negative -/
def IU (b : tH) (T : Nat) : Prop := ∀ t, t < T → b.1 24 0 t = 4 → ∃ u, u < 2 ^ 31 ∧ b.1 35 0 t = nI u
theorem IU.wk {b : tH} {T t : Nat} (h : IU b T) : IU (mWk1 b t) T := by
  intro s hs h4
  rw [mWk1_st] at h4
  by_cases e : s = t
  · rw [if_pos e] at h4; exact absurd h4 (by decide)
  · rw [if_neg e] at h4
    rw [mWk1_un, if_neg e]
    exact h s hs h4
theorem IU.wake {T : Nat} : ∀ (f : Nat) (b : tH), IU b T → IU (mWake T f b) T
  | 0, b, h => h
  | f + 1, b, h => by
    cases hj : mDue b T with
    | none => rw [mWake_none hj]; exact h
    | some t => rw [mWake_some hj]; exact IU.wake f (mWk1 b t) h.wk
def mDel (b : tH) (T : Nat) : Option Nat := mins (fun t => decide (b.1 24 0 t = 4)) (fun t => b.1 35 0 t) T
def lea (b : tH) (r : Option Nat) : Int32 := match r with
  | none => -1
  | some j => b.1 35 0 j
def mTen1 (b : tH) (T k : Nat) : tH := if b.1 24 0 k < 1 ∨ 3 < b.1 24 0 k then b else mExc (put b 20 0 10 (b.1 20 0 10 + 1)) T k 10
def mTenL (T : Nat) : Nat → Nat → tH → tH
  | 0, _, b => b
  | m + 1, k, b => mTenL T m (k + 1) (mTen1 b T k)
def mFindB (b : tH) (T : Nat) : tH := match mDel b T with
  | none => mTenL T T 0 b
  | some j => mWake T 24 (put b 20 0 8 (b.1 35 0 j))
def mFind (b : tH) (T : Nat) : tH := if (mWake T 24 b).1 20 0 27 = 0 then mFindB (mWake T 24 b) T else mWake T 24 b
theorem mDel_st {b : tH} {T t : Nat} (h : mDel b T = some t) : t < T ∧ b.1 24 0 t = 4 := by
  have h1 := mins_lt h
  exact ⟨h1.1, of_decide_eq_true h1.2⟩
theorem IM_ten1 {b : tH} {T k : Nat} {L : List Nat} (Z : IQ b none T L) (I : IH b T) (hk : k < T) : (∃ L', IQ (mTen1 b T k) none T L') ∧ IH (mTen1 b T k) T := by
  unfold mTen1
  split
  · exact ⟨⟨L, Z⟩, I⟩
  · have := IM_exc (b := put b 20 0 10 (b.1 20 0 10 + 1)) (n := 10) Z I hk (fun e => by cases e)
    exact ⟨this.1, this.2.1⟩
set_option maxHeartbeats 4000000 in
set_option maxRecDepth 100000 in
theorem l3_X7_findReady {a : tH} {T : Nat} {L1 : Option tV} : ∀ (m k : Nat) (b : tH) (L : List Nat), T = k + m → IQ b none T L → IH b T → Vw yX7_findReady.cls cX7_findReady 3 none 3 (fun r h' => r = none ∧ h' = mix a (mTenL T m k b)) 81 [some (.inr (some (20, 0))), L1, some (.inl (nI k))] [] (mix a b) := by
  intro m
  induction m with
  | zero =>
    intro k b L hk Z I
    obtain rfl : T = k := hk
    refine v_iload_n dX7_findReady_81 rfl ?_
    refine v_aload_n dX7_findReady_82 rfl ?_
    refine m_gk Z.1 (by decide) fX7_92 dX7_findReady_83 rfl rfl Nat.zero_lt_one ?_
    refine v_icmp_ge 126 dX7_findReady_86 (by decide) (fun h_86 => ?_) (fun h_86 => absurd (Int32.le_refl _) h_86)
    exact v_vret dX7_findReady_126 ⟨rfl, rfl⟩
  | succ m ih =>
    intro k b L hk Z I
    have hT24 := Z.2.1
    have hk24 : k < 24 := by omega
    have hkT : k < T := by omega
    have IM := IM_ten1 Z I hkT
    obtain ⟨L', Z'⟩ := IM.1
    obtain ⟨hc, pc, h4, p4, c1, c2⟩ := I k hkT
    refine v_iload_n dX7_findReady_81 rfl ?_
    refine v_aload_n dX7_findReady_82 rfl ?_
    refine m_gk Z.1 (by decide) fX7_92 dX7_findReady_83 rfl rfl Nat.zero_lt_one ?_
    refine v_icmp_ge 126 dX7_findReady_86 (by decide) (fun h_86 => absurd h_86 (nI_ge (by omega) (by omega))) (fun h_86 => ?_)
    refine v_aload_n dX7_findReady_89 rfl ?_
    refine v_gr 0 fX7_19 dX7_findReady_90 rfl rfl rfl Nat.zero_lt_one ?_
    refine v_iload_n dX7_findReady_93 rfl ?_
    refine m_iald k (by decide) rfl dX7_findReady_94 Nat.zero_lt_one rfl hk24 ?_
    refine v_iconst 1 dX7_findReady_95 (by decide) ?_
    refine v_iconst 3 dX7_findReady_96 (by decide) ?_
    refine v_calls3i lX7_84 kX7_in (c_X7_in) dX7_findReady_97 rfl (by decide) (by decide) (st8 rfl) ?_
    refine v_if_eq 120 dX7_findReady_100 (by decide) (fun h_100 => ?_) (fun h_100 => ?_)
    · rw [i001] at h_100
      refine v_iinc [_, _, _] dX7_findReady_120 rfl (by first | exact inc1 _ | rfl) rfl (by decide) ?_
      refine v_goto 81 dX7_findReady_123 (by decide) ?_
      have e1 : mTen1 b T k = b := if_pos h_100
      have q := ih (k + 1) (mTen1 b T k) L' (by omega) Z' IM.2
      have e2 : mTenL T (m + 1) k b = mTenL T m (k + 1) (mTen1 b T k) := rfl
      rw [e2]
      rw [e1] at q ⊢
      exact q
    · rw [i001] at h_100
      refine v_aload_n dX7_findReady_103 rfl ?_
      refine v_dup dX7_findReady_104 ?_
      refine m_gi (by decide) fX7_118 dX7_findReady_105 rfl rfl Nat.zero_lt_one ?_
      refine v_iconst 1 dX7_findReady_108 (by decide) ?_
      refine v_iadd dX7_findReady_109 ?_
      refine m_pi (by decide) fX7_118 dX7_findReady_110 rfl rfl Nat.zero_lt_one ?_
      refine v_aload_n dX7_findReady_113 rfl ?_
      refine v_iload_n dX7_findReady_114 rfl ?_
      refine v_bipush 10 dX7_findReady_115 (by decide) ?_
      refine v_call2n lX7_147 kX7_except (c_X7_except (T := T) hkT (by exact Z) ⟨hc, h4, c1⟩) dX7_findReady_117 rfl rfl Nat.zero_lt_one rfl (by decide) (by decide) (st8 rfl) ?_
      refine v_iinc [_, _, _] dX7_findReady_120 rfl (by first | exact inc1 _ | rfl) rfl (by decide) ?_
      refine v_goto 81 dX7_findReady_123 (by decide) ?_
      have e1 : mTen1 b T k = mExc (put b 20 0 10 (b.1 20 0 10 + 1)) T k 10 := if_neg h_100
      have q := ih (k + 1) (mTen1 b T k) L' (by omega) Z' IM.2
      have e2 : mTenL T (m + 1) k b = mTenL T m (k + 1) (mTen1 b T k) := rfl
      rw [e2]
      rw [e1] at q ⊢
      exact q
set_option maxHeartbeats 4000000 in
set_option maxRecDepth 100000 in
theorem l2_X7_findReady {a b : tH} {T : Nat} {B : tH} (hT : b.1 20 0 11 = nI T) (h24 : T ≤ 24) (U : IU b T) (K : Vw yX7_findReady.cls cX7_findReady 3 none 3 (fun r h' => r = none ∧ h' = mix a B) 65 [some (.inr (some (20, 0))), some (.inl (lea b (mDel b T))), some (.inl (nI T))] [] (mix a b)) : ∀ (m k : Nat), T = k + m → Vw yX7_findReady.cls cX7_findReady 3 none 3 (fun r h' => r = none ∧ h' = mix a B) 16 [some (.inr (some (20, 0))), some (.inl (lea b (mins (fun t => decide (b.1 24 0 t = 4)) (fun t => b.1 35 0 t) k))), some (.inl (nI k))] [] (mix a b) := by
  intro m
  induction m with
  | zero =>
    intro k hk
    obtain rfl : T = k := hk
    refine v_iload_n dX7_findReady_16 rfl ?_
    refine v_aload_n dX7_findReady_17 rfl ?_
    refine m_gk hT (by decide) fX7_92 dX7_findReady_18 rfl rfl Nat.zero_lt_one ?_
    refine v_icmp_ge 65 dX7_findReady_21 (by decide) (fun h_21 => ?_) (fun h_21 => absurd (Int32.le_refl _) h_21)
    exact K
  | succ m ih =>
    intro k hk
    have hk24 : k < 24 := by omega
    refine v_iload_n dX7_findReady_16 rfl ?_
    refine v_aload_n dX7_findReady_17 rfl ?_
    refine m_gk hT (by decide) fX7_92 dX7_findReady_18 rfl rfl Nat.zero_lt_one ?_
    refine v_icmp_ge 65 dX7_findReady_21 (by decide) (fun h_21 => absurd h_21 (nI_ge (by omega) (by omega))) (fun h_21 => ?_)
    refine v_aload_n dX7_findReady_24 rfl ?_
    refine v_gr 0 fX7_19 dX7_findReady_25 rfl rfl rfl Nat.zero_lt_one ?_
    refine v_iload_n dX7_findReady_28 rfl ?_
    refine m_iald k (by decide) rfl dX7_findReady_29 Nat.zero_lt_one rfl hk24 ?_
    refine v_iconst 4 dX7_findReady_30 (by decide) ?_
    refine v_icmp_ne 57 dX7_findReady_31 (by decide) (fun h_31 => ?_) (fun h_31 => ?_)
    · refine v_iload_n dX7_findReady_57 rfl ?_
      refine v_istore_n [_, _, _] dX7_findReady_58 rfl (by decide) ?_
      refine v_iinc [_, _, _] dX7_findReady_59 rfl (by first | exact inc1 _ | rfl) rfl (by decide) ?_
      refine v_goto 16 dX7_findReady_62 (by decide) ?_
      have q := ih (k + 1) (by omega)
      rw [mins_step0 (by simp only [h_31, decide_false])] at q
      exact q
    · refine v_iload_n dX7_findReady_34 rfl ?_
      refine v_if_lt 48 dX7_findReady_35 (by decide) (fun h_35 => ?_) (fun h_35 => ?_)
      · have hj : mins (fun t => decide (b.1 24 0 t = 4)) (fun t => b.1 35 0 t) k = none := by
          cases e : mins (fun t => decide (b.1 24 0 t = 4)) (fun t => b.1 35 0 t) k with
          | none => rfl
          | some j =>
            exfalso
            rw [e] at h_35
            have e1 := mins_lt e
            obtain ⟨u, hu, eu⟩ := U j (by omega) (of_decide_eq_true e1.2)
            exact absurd h_35 (by show ¬ b.1 35 0 j < 0; rw [eu]; exact nI_pos hu)
        refine v_aload_n dX7_findReady_48 rfl ?_
        refine v_gr 0 fX7_53 dX7_findReady_49 rfl rfl rfl Nat.zero_lt_one ?_
        refine v_iload_n dX7_findReady_52 rfl ?_
        refine m_iald k (by decide) rfl dX7_findReady_53 Nat.zero_lt_one rfl hk24 ?_
        refine v_goto 58 dX7_findReady_54 (by decide) ?_
        refine v_istore_n [_, _, _] dX7_findReady_58 rfl (by decide) ?_
        refine v_iinc [_, _, _] dX7_findReady_59 rfl (by first | exact inc1 _ | rfl) rfl (by decide) ?_
        refine v_goto 16 dX7_findReady_62 (by decide) ?_
        have q := ih (k + 1) (by omega)
        rw [mins_stepN hj (by simp only [h_31, decide_true])] at q
        exact q
      · obtain ⟨j, hj⟩ : ∃ j, mins (fun t => decide (b.1 24 0 t = 4)) (fun t => b.1 35 0 t) k = some j := by
          cases e : mins (fun t => decide (b.1 24 0 t = 4)) (fun t => b.1 35 0 t) k with
          | none => rw [e] at h_35; exact absurd (by show (-1 : Int32) < 0; decide) h_35
          | some j => exact ⟨j, rfl⟩
        refine v_aload_n dX7_findReady_38 rfl ?_
        refine v_gr 0 fX7_53 dX7_findReady_39 rfl rfl rfl Nat.zero_lt_one ?_
        refine v_iload_n dX7_findReady_42 rfl ?_
        refine m_iald k (by decide) rfl dX7_findReady_43 Nat.zero_lt_one rfl hk24 ?_
        refine v_iload_n dX7_findReady_44 rfl ?_
        rw [hj]
        refine v_icmp_ge 57 dX7_findReady_45 (by decide) (fun h_45 => ?_) (fun h_45 => ?_)
        · refine v_iload_n dX7_findReady_57 rfl ?_
          refine v_istore_n [_, _, _] dX7_findReady_58 rfl (by decide) ?_
          refine v_iinc [_, _, _] dX7_findReady_59 rfl (by first | exact inc1 _ | rfl) rfl (by decide) ?_
          refine v_goto 16 dX7_findReady_62 (by decide) ?_
          have q := ih (k + 1) (by omega)
          rw [mins_stepK hj h_45, hj] at q
          exact q
        · refine v_aload_n dX7_findReady_48 rfl ?_
          refine v_gr 0 fX7_53 dX7_findReady_49 rfl rfl rfl Nat.zero_lt_one ?_
          refine v_iload_n dX7_findReady_52 rfl ?_
          refine m_iald k (by decide) rfl dX7_findReady_53 Nat.zero_lt_one rfl hk24 ?_
          refine v_goto 58 dX7_findReady_54 (by decide) ?_
          refine v_istore_n [_, _, _] dX7_findReady_58 rfl (by decide) ?_
          refine v_iinc [_, _, _] dX7_findReady_59 rfl (by first | exact inc1 _ | rfl) rfl (by decide) ?_
          refine v_goto 16 dX7_findReady_62 (by decide) ?_
          have q := ih (k + 1) (by omega)
          rw [mins_stepS hj (by simp only [h_31, decide_true]) h_45] at q
          exact q
set_option maxHeartbeats 4000000 in
set_option maxRecDepth 100000 in
set_option maxHeartbeats 4000000 in
set_option maxRecDepth 100000 in
theorem c_X7_findReady {a b : tH} {T : Nat} {L : List Nat} (Z : IQ b none T L) (I : IH b T) (U : IU b T) : Cn yX7_findReady cX7_findReady 3 3 [.inr (some (20, 0))] (mix a b) (mix a (mFind b T)) := by
  obtain ⟨L1, Z1⟩ := Z.wake 24
  have I1 := I.wake 24
  have U1 := IU.wake 24 b U
  have hT24 := Z.2.1
  have hl := Z1.len
  refine Ct.of (by decide) [_, _, _] rfl (Nat.le_of_ble_eq_true rfl) ?_
  refine v_aload_n dX7_findReady_0 rfl ?_
  refine v_call0n lX7_169 kX7_wake (c_X7_wake (T := T) Z) dX7_findReady_1 rfl rfl Nat.zero_lt_one rfl (by decide) (by decide) (st8 rfl) ?_
  refine v_aload_n dX7_findReady_4 rfl ?_
  refine m_gk Z1.2.2.1 (by decide) fX7_99 dX7_findReady_5 rfl rfl Nat.zero_lt_one ?_
  refine v_if_le 12 dX7_findReady_8 (by decide) (fun h_8 => ?_) (fun h_8 => ?_)
  · have e0 : (mWake T 24 b).1 20 0 27 = 0 := by
      rw [Z1.2.2.1]
      rcases Nat.eq_zero_or_pos L1.length with e | e
      · rw [e]; rfl
      · exact absurd h_8 (nI_nle e (by omega))
    have e1 : mFind b T = mFindB (mWake T 24 b) T := if_pos e0
    rw [e1]
    refine v_iconst (-1) dX7_findReady_12 (by decide) ?_
    refine v_istore_n [_, _, _] dX7_findReady_13 rfl (by decide) ?_
    refine v_iconst 0 dX7_findReady_14 (by decide) ?_
    refine v_istore_n [_, _, _] dX7_findReady_15 rfl (by decide) ?_
    refine l2_X7_findReady Z1.1 hT24 U1 ?_ T 0 (by omega)
    cases hj : mDel (mWake T 24 b) T with
    | none =>
      have e2 : mFindB (mWake T 24 b) T = mTenL T T 0 (mWake T 24 b) := by unfold mFindB; rw [hj]
      rw [e2]
      refine v_iload_n dX7_findReady_65 rfl ?_
      refine v_if_lt 79 dX7_findReady_66 (by decide) (fun h_66 => ?_) (fun h_66 => absurd (by show (-1 : Int32) < 0; decide) h_66)
      refine v_iconst 0 dX7_findReady_79 (by decide) ?_
      refine v_istore_n [_, _, _] dX7_findReady_80 rfl (by decide) ?_
      exact l3_X7_findReady T 0 (mWake T 24 b) L1 (by omega) Z1 I1
    | some j =>
      have hs := mDel_st hj
      obtain ⟨u, hu, eu⟩ := U1 j hs.1 hs.2
      have e2 : mFindB (mWake T 24 b) T = mWake T 24 (put (mWake T 24 b) 20 0 8 ((mWake T 24 b).1 35 0 j)) := by unfold mFindB; rw [hj]
      rw [e2]
      refine v_iload_n dX7_findReady_65 rfl ?_
      refine v_if_lt 79 dX7_findReady_66 (by decide) (fun h_66 => absurd h_66 (by show ¬ (mWake T 24 b).1 35 0 j < 0; rw [eu]; exact nI_pos hu)) (fun h_66 => ?_)
      refine v_aload_n dX7_findReady_69 rfl ?_
      refine v_iload_n dX7_findReady_70 rfl ?_
      refine m_pi (by decide) fX7_112 dX7_findReady_71 rfl rfl Nat.zero_lt_one ?_
      refine v_aload_n dX7_findReady_74 rfl ?_
      refine v_call0n lX7_169 kX7_wake (c_X7_wake (T := T) (L := L1) (by exact Z1)) dX7_findReady_75 rfl rfl Nat.zero_lt_one rfl (by decide) (by decide) (st8 rfl) ?_
      exact v_vret dX7_findReady_78 ⟨rfl, rfl⟩
  · have e0 : ¬ (mWake T 24 b).1 20 0 27 = 0 := fun z => h_8 (by rw [← Z1.2.2.1, z]; exact Int32.le_refl 0)
    exact v_vret dX7_findReady_11 ⟨rfl, by unfold mFind; rw [if_neg e0]⟩
end
section
/-! The reference: a turn, a step -/
def mStA (b : tH) (t : Nat) : tH := if b.1 26 0 t < b.1 21 0 (nv (b.1 25 0 t)) then mAct b (nv (b.1 20 0 11)) t else mFin b (nv (b.1 20 0 11)) t 5
def mTL (t : Nat) : Nat → tH → tH
  | 0, b => b
  | m + 1, b => if b.1 24 0 t = 0 ∧ b.1 20 0 34 = 0 then mTL t m (mStA b t) else b
def mTb (b : tH) (t : Nat) : tH := put (put (put (mLeave b t) 20 0 34 0) 34 0 t ((mLeave b t).1 34 0 t + 1)) 20 0 9 ((mLeave b t).1 20 0 9 + 1)
def mTe1 (b : tH) (t : Nat) : tH := if b.1 24 0 t = 0 then mEnq b t else b
def mTe (b : tH) (t : Nat) : tH := put (mTe1 b t) 20 0 8 ((mTe1 b t).1 20 0 8 + 1)
def mTurnB (b : tH) (t q : Nat) : tH := mTe (mTL t q (mTb b t)) t
def mTurn (b : tH) : Int32 × tH := if b.1 20 0 6 = 0 then
    if (mFind b (nv (b.1 20 0 11))).1 20 0 6 = 0 ∧ ¬ (mFind b (nv (b.1 20 0 11))).1 20 0 27 = 0 then (1, mTurnB (mFind b (nv (b.1 20 0 11))) (nv ((mFind b (nv (b.1 20 0 11))).1 38 0 0)) (nv (b.1 20 0 7))) else (0, mFind b (nv (b.1 20 0 11)))
  else (0, b)
def mStepL : Nat → Nat → tH → Nat × tH
  | 0, d, b => (d, b)
  | m + 1, d, b => if (mTurn b).1 = 0 then (d, (mTurn b).2) else mStepL m (d + 1) (mTurn b).2
/-- what an act of the reference needs -/
def FA (b : tH) (t : Nat) : Prop := ∃ (T P p n z rr : Nat) (L : List Nat), t < T ∧ IQ b (some t) T L ∧ IH b T ∧ b.1 25 0 t = nI p ∧ p < 12 ∧ b.1 26 0 t = nI n ∧ n ≤ 20 ∧ b.1 21 0 p = nI z ∧ z ≤ 20 ∧ (n < z → gdA (b.1 22 0 (20 * p + n)) (b.1 23 0 (20 * p + n))) ∧ b.1 20 0 1 = nI P ∧ b.1 20 0 31 = nI rr ∧ rr ≤ 100

set_option maxHeartbeats 4000000 in
set_option maxRecDepth 100000 in
theorem l_X7_isTurn {a : tH} {t q : Nat} {Q : Option tV → tH → Prop} (J : tH → Prop) (hq : ∀ b, J b → b.1 20 0 7 = nI q) (ht24 : t < 24) (h10 : q ≤ 10) (hF : ∀ b, J b → b.1 24 0 t = 0 → b.1 20 0 34 = 0 → FA b t ∧ J (mStA b t)) : ∀ (m k : Nat) (b : tH), q = k + m → J b → (∀ L2, Vw yX7_isTurn.cls cX7_isTurn 3 (some .boolean) 6 Q 132 [some (.inr (some (20, 0))), some (.inl (nI t)), L2] [] (mix a (mTL t m b))) → Vw yX7_isTurn.cls cX7_isTurn 3 (some .boolean) 6 Q 68 [some (.inr (some (20, 0))), some (.inl (nI t)), some (.inl (nI k))] [] (mix a b) := by
  intro m
  induction m with
  | zero =>
    intro k b hk j K
    obtain rfl : q = k := hk
    refine v_iload_n dX7_isTurn_68 rfl ?_
    refine v_aload_n dX7_isTurn_69 rfl ?_
    refine m_gk (hq b j) (by decide) fX7_109 dX7_isTurn_70 rfl rfl Nat.zero_lt_one ?_
    refine v_icmp_ge 132 dX7_isTurn_73 (by decide) (fun h_73 => ?_) (fun h_73 => absurd (Int32.le_refl _) h_73)
    exact K _
  | succ m ih =>
    intro k b hk j K
    by_cases hc : b.1 24 0 t = 0 ∧ b.1 20 0 34 = 0
    · have e1 : mTL t (m + 1) b = mTL t m (mStA b t) := if_pos hc
      rw [e1] at K
      obtain ⟨⟨T, P, p, n, z, rr, L, htT, Z, I, ep, hp12, en, hn20, ez, hz20, hg, eP, hrr, h100⟩, j2⟩ := hF b j hc.1 hc.2
      have hT24 := Z.2.1
      have eT : nv (b.1 20 0 11) = T := by rw [Z.1, nv_nI (by omega)]
      have epn : nv (b.1 25 0 t) = p := by rw [ep, nv_nI (by omega)]
      by_cases hnz : n < z
      · have e2 : mStA b t = mAct b T t := by
          unfold mStA
          rw [eT, epn, en, ez, if_pos (nI_lt hnz (by omega))]
        refine v_iload_n dX7_isTurn_68 rfl ?_
        refine v_aload_n dX7_isTurn_69 rfl ?_
        refine m_gk (hq b j) (by decide) fX7_109 dX7_isTurn_70 rfl rfl Nat.zero_lt_one ?_
        refine v_icmp_ge 132 dX7_isTurn_73 (by decide) (fun h_73 => absurd h_73 (nI_ge (by omega) (by omega))) (fun h_73 => ?_)
        refine v_aload_n dX7_isTurn_76 rfl ?_
        refine v_gr 0 fX7_19 dX7_isTurn_77 rfl rfl rfl Nat.zero_lt_one ?_
        refine v_iload_n dX7_isTurn_80 rfl ?_
        refine m_ialk t hc.1 (by decide) rfl dX7_isTurn_81 Nat.zero_lt_one rfl ht24 ?_
        refine v_if_ne 132 dX7_isTurn_82 (by decide) (fun h_82 => absurd rfl h_82) (fun h_82 => ?_)
        refine v_aload_n dX7_isTurn_85 rfl ?_
        refine m_gk hc.2 (by decide) fX7_163 dX7_isTurn_86 rfl rfl Nat.zero_lt_one ?_
        refine v_if_ne 132 dX7_isTurn_89 (by decide) (fun h_89 => absurd rfl h_89) (fun h_89 => ?_)
        refine v_aload_n dX7_isTurn_92 rfl ?_
        refine v_gr 0 fX7_25 dX7_isTurn_93 rfl rfl rfl Nat.zero_lt_one ?_
        refine v_iload_n dX7_isTurn_96 rfl ?_
        refine m_ialk t en (by decide) rfl dX7_isTurn_97 Nat.zero_lt_one rfl ht24 ?_
        refine v_aload_n dX7_isTurn_98 rfl ?_
        refine v_gr 0 fX7_7 dX7_isTurn_99 rfl rfl rfl Nat.zero_lt_one ?_
        refine v_aload_n dX7_isTurn_102 rfl ?_
        refine v_gr 0 fX7_22 dX7_isTurn_103 rfl rfl rfl Nat.zero_lt_one ?_
        refine v_iload_n dX7_isTurn_106 rfl ?_
        refine m_ialk t ep (by decide) rfl dX7_isTurn_107 Nat.zero_lt_one rfl ht24 ?_
        refine m_ialk p ez (by decide) rfl dX7_isTurn_108 Nat.zero_lt_one rfl hp12 ?_
        refine v_icmp_lt 121 dX7_isTurn_109 (by decide) (fun h_109 => ?_) (fun h_109 => absurd (nI_lt hnz (by omega)) h_109)
        refine v_aload_n dX7_isTurn_121 rfl ?_
        refine v_iload_n dX7_isTurn_122 rfl ?_
        refine v_call1n lX7_175 kX7_doAct (c_X7_doAct (T := T) (P := P) (rr := rr) htT Z I (fun r e => by cases e; exact hc.1) ep en (by omega) (hg hnz) eP hrr h100) dX7_isTurn_123 rfl rfl Nat.zero_lt_one rfl (by decide) (by decide) (st8 rfl) ?_
        refine v_iinc [_, _, _] dX7_isTurn_126 rfl (by first | exact inc1 _ | rfl) rfl (by decide) ?_
        refine v_goto 68 dX7_isTurn_129 (by decide) ?_
        rw [e2] at K j2
        exact ih (k + 1) _ (by omega) j2 K
      · have e2 : mStA b t = mFin b T t 5 := by
          unfold mStA
          rw [eT, epn, en, ez, if_neg (nI_nlt (by omega) (by omega))]
        refine v_iload_n dX7_isTurn_68 rfl ?_
        refine v_aload_n dX7_isTurn_69 rfl ?_
        refine m_gk (hq b j) (by decide) fX7_109 dX7_isTurn_70 rfl rfl Nat.zero_lt_one ?_
        refine v_icmp_ge 132 dX7_isTurn_73 (by decide) (fun h_73 => absurd h_73 (nI_ge (by omega) (by omega))) (fun h_73 => ?_)
        refine v_aload_n dX7_isTurn_76 rfl ?_
        refine v_gr 0 fX7_19 dX7_isTurn_77 rfl rfl rfl Nat.zero_lt_one ?_
        refine v_iload_n dX7_isTurn_80 rfl ?_
        refine m_ialk t hc.1 (by decide) rfl dX7_isTurn_81 Nat.zero_lt_one rfl ht24 ?_
        refine v_if_ne 132 dX7_isTurn_82 (by decide) (fun h_82 => absurd rfl h_82) (fun h_82 => ?_)
        refine v_aload_n dX7_isTurn_85 rfl ?_
        refine m_gk hc.2 (by decide) fX7_163 dX7_isTurn_86 rfl rfl Nat.zero_lt_one ?_
        refine v_if_ne 132 dX7_isTurn_89 (by decide) (fun h_89 => absurd rfl h_89) (fun h_89 => ?_)
        refine v_aload_n dX7_isTurn_92 rfl ?_
        refine v_gr 0 fX7_25 dX7_isTurn_93 rfl rfl rfl Nat.zero_lt_one ?_
        refine v_iload_n dX7_isTurn_96 rfl ?_
        refine m_ialk t en (by decide) rfl dX7_isTurn_97 Nat.zero_lt_one rfl ht24 ?_
        refine v_aload_n dX7_isTurn_98 rfl ?_
        refine v_gr 0 fX7_7 dX7_isTurn_99 rfl rfl rfl Nat.zero_lt_one ?_
        refine v_aload_n dX7_isTurn_102 rfl ?_
        refine v_gr 0 fX7_22 dX7_isTurn_103 rfl rfl rfl Nat.zero_lt_one ?_
        refine v_iload_n dX7_isTurn_106 rfl ?_
        refine m_ialk t ep (by decide) rfl dX7_isTurn_107 Nat.zero_lt_one rfl ht24 ?_
        refine m_ialk p ez (by decide) rfl dX7_isTurn_108 Nat.zero_lt_one rfl hp12 ?_
        refine v_icmp_lt 121 dX7_isTurn_109 (by decide) (fun h_109 => absurd h_109 (nI_nlt (by omega) (by omega))) (fun h_109 => ?_)
        refine v_aload_n dX7_isTurn_112 rfl ?_
        refine v_iload_n dX7_isTurn_113 rfl ?_
        refine v_iconst 5 dX7_isTurn_114 (by decide) ?_
        refine v_call2n lX7_141 kX7_finish (c_X7_finish (T := T) (q := L.length) htT Z (by exact Z.2.2.1) (by have := Z.len; omega)) dX7_isTurn_115 rfl rfl Nat.zero_lt_one rfl (by decide) (by decide) (st8 rfl) ?_
        refine v_goto 126 dX7_isTurn_118 (by decide) ?_
        refine v_iinc [_, _, _] dX7_isTurn_126 rfl (by first | exact inc1 _ | rfl) rfl (by decide) ?_
        refine v_goto 68 dX7_isTurn_129 (by decide) ?_
        rw [e2] at K j2
        exact ih (k + 1) _ (by omega) j2 K
    · have e1 : mTL t (m + 1) b = b := if_neg hc
      rw [e1] at K
      refine v_iload_n dX7_isTurn_68 rfl ?_
      refine v_aload_n dX7_isTurn_69 rfl ?_
      refine m_gk (hq b j) (by decide) fX7_109 dX7_isTurn_70 rfl rfl Nat.zero_lt_one ?_
      refine v_icmp_ge 132 dX7_isTurn_73 (by decide) (fun h_73 => absurd h_73 (nI_ge (by omega) (by omega))) (fun h_73 => ?_)
      refine v_aload_n dX7_isTurn_76 rfl ?_
      refine v_gr 0 fX7_19 dX7_isTurn_77 rfl rfl rfl Nat.zero_lt_one ?_
      refine v_iload_n dX7_isTurn_80 rfl ?_
      refine m_iald t (by decide) rfl dX7_isTurn_81 Nat.zero_lt_one rfl ht24 ?_
      refine v_if_ne 132 dX7_isTurn_82 (by decide) (fun h_82 => ?_) (fun h_82 => ?_)
      · exact K _
      · refine v_aload_n dX7_isTurn_85 rfl ?_
        refine m_gi (by decide) fX7_163 dX7_isTurn_86 rfl rfl Nat.zero_lt_one ?_
        refine v_if_ne 132 dX7_isTurn_89 (by decide) (fun h_89 => ?_) (fun h_89 => absurd ⟨h_82, h_89⟩ hc)
        exact K _
set_option maxHeartbeats 4000000 in
set_option maxRecDepth 100000 in
theorem c_X7_isTurn_over {a b : tH} (ho : ¬ b.1 20 0 6 = 0) : Ci yX7_isTurn cX7_isTurn 3 .boolean 6 [.inr (some (20, 0))] (mix a b) (0) (mix a (b)) := by
  refine Ct.of (by decide) [_, _, _] rfl (Nat.le_of_ble_eq_true rfl) ?_
  refine v_aload_n dX7_isTurn_0 rfl ?_
  refine m_gi (by decide) fX7_106 dX7_isTurn_1 rfl rfl Nat.zero_lt_one ?_
  refine v_if_eq 9 dX7_isTurn_4 (by decide) (fun h_4 => absurd h_4 ho) (fun h_4 => ?_)
  refine v_iconst 0 dX7_isTurn_7 (by decide) ?_
  exact v_zret dX7_isTurn_8 (by decide) ⟨rfl, rfl⟩
set_option maxHeartbeats 4000000 in
set_option maxRecDepth 100000 in
theorem c_X7_isTurn_none {a b : tH} {T : Nat} {L : List Nat} (Z : IQ b none T L) (I : IH b T) (U : IU b T) (ho : b.1 20 0 6 = 0) (h1 : ¬ (mFind b T).1 20 0 6 = 0 ∨ (mFind b T).1 20 0 27 = 0) : Ci yX7_isTurn cX7_isTurn 3 .boolean 6 [.inr (some (20, 0))] (mix a b) (0) (mix a (mFind b T)) := by
  refine Ct.of (by decide) [_, _, _] rfl (Nat.le_of_ble_eq_true rfl) ?_
  refine v_aload_n dX7_isTurn_0 rfl ?_
  refine m_gk ho (by decide) fX7_106 dX7_isTurn_1 rfl rfl Nat.zero_lt_one ?_
  refine v_if_eq 9 dX7_isTurn_4 (by decide) (fun h_4 => ?_) (fun h_4 => absurd rfl h_4)
  refine v_aload_n dX7_isTurn_9 rfl ?_
  refine v_call0n lX7_172 kX7_findReady (c_X7_findReady (T := T) Z I U) dX7_isTurn_10 rfl rfl Nat.zero_lt_one rfl (by decide) (by decide) (st8 rfl) ?_
  refine v_aload_n dX7_isTurn_13 rfl ?_
  refine m_gi (by decide) fX7_106 dX7_isTurn_14 rfl rfl Nat.zero_lt_one ?_
  refine v_if_ne 27 dX7_isTurn_17 (by decide) (fun h_17 => ?_) (fun h_17 => ?_)
  · refine v_iconst 0 dX7_isTurn_27 (by decide) ?_
    exact v_zret dX7_isTurn_28 (by decide) ⟨rfl, rfl⟩
  · refine v_aload_n dX7_isTurn_20 rfl ?_
    refine m_gi (by decide) fX7_99 dX7_isTurn_21 rfl rfl Nat.zero_lt_one ?_
    refine v_if_ne 29 dX7_isTurn_24 (by decide) (fun h_24 => h1.elim (fun z => absurd h_17 z) (fun z => absurd z h_24)) (fun h_24 => ?_)
    refine v_iconst 0 dX7_isTurn_27 (by decide) ?_
    exact v_zret dX7_isTurn_28 (by decide) ⟨rfl, rfl⟩
theorem mTL_J {t : Nat} (J : tH → Prop) (hF : ∀ b, J b → b.1 24 0 t = 0 → b.1 20 0 34 = 0 → FA b t ∧ J (mStA b t)) : ∀ (m : Nat) (b : tH), J b → J (mTL t m b)
  | 0, b, j => j
  | m + 1, b, j => by
    by_cases hc : b.1 24 0 t = 0 ∧ b.1 20 0 34 = 0
    · have e1 : mTL t (m + 1) b = mTL t m (mStA b t) := if_pos hc
      rw [e1]
      exact mTL_J J hF m _ (hF b j hc.1 hc.2).2
    · have e1 : mTL t (m + 1) b = b := if_neg hc
      rw [e1]
      exact j
set_option maxHeartbeats 4000000 in
set_option maxRecDepth 100000 in
theorem c_X7_isTurn_turn {a b : tH} {T : Nat} {L : List Nat} (Z : IQ b none T L) (I : IH b T) (U : IU b T) {t q qq : Nat} (ho : b.1 20 0 6 = 0) (h1 : (mFind b T).1 20 0 6 = 0) (hq : (mFind b T).1 20 0 27 = nI (qq + 1)) (h24 : qq < 24) (e0 : (mFind b T).1 38 0 0 = nI t) (ht24 : t < 24) (h10 : q ≤ 10) (J : tH → Prop) (hqJ : ∀ b, J b → b.1 20 0 7 = nI q) (hF : ∀ b, J b → b.1 24 0 t = 0 → b.1 20 0 34 = 0 → FA b t ∧ J (mStA b t)) (j0 : J (mTb (mFind b T) t)) (jE : J (mTL t q (mTb (mFind b T) t)) → (mTL t q (mTb (mFind b T) t)).1 24 0 t = 0 → ∃ y, y ≤ 24 ∧ (mTL t q (mTb (mFind b T) t)).1 20 0 27 = nI y) : Ci yX7_isTurn cX7_isTurn 3 .boolean 6 [.inr (some (20, 0))] (mix a b) (1) (mix a (mTurnB (mFind b T) t q)) := by
  refine Ct.of (by decide) [_, _, _] rfl (Nat.le_of_ble_eq_true rfl) ?_
  refine v_aload_n dX7_isTurn_0 rfl ?_
  refine m_gk ho (by decide) fX7_106 dX7_isTurn_1 rfl rfl Nat.zero_lt_one ?_
  refine v_if_eq 9 dX7_isTurn_4 (by decide) (fun h_4 => ?_) (fun h_4 => absurd rfl h_4)
  refine v_aload_n dX7_isTurn_9 rfl ?_
  refine v_call0n lX7_172 kX7_findReady (c_X7_findReady (T := T) Z I U) dX7_isTurn_10 rfl rfl Nat.zero_lt_one rfl (by decide) (by decide) (st8 rfl) ?_
  refine v_aload_n dX7_isTurn_13 rfl ?_
  refine m_gk h1 (by decide) fX7_106 dX7_isTurn_14 rfl rfl Nat.zero_lt_one ?_
  refine v_if_ne 27 dX7_isTurn_17 (by decide) (fun h_17 => absurd rfl h_17) (fun h_17 => ?_)
  refine v_aload_n dX7_isTurn_20 rfl ?_
  refine m_gk hq (by decide) fX7_99 dX7_isTurn_21 rfl rfl Nat.zero_lt_one ?_
  refine v_if_ne 29 dX7_isTurn_24 (by decide) (fun h_24 => ?_) (fun h_24 => absurd h_24 (nI_ne0 (by omega) (by omega)))
  refine v_aload_n dX7_isTurn_29 rfl ?_
  refine v_gr 0 fX7_62 dX7_isTurn_30 rfl rfl rfl Nat.zero_lt_one ?_
  refine v_iconst 0 dX7_isTurn_33 (by decide) ?_
  refine m_ialk 0 e0 (by decide) rfl dX7_isTurn_34 Nat.zero_lt_one rfl (by decide) ?_
  refine v_istore_n [_, _, _] dX7_isTurn_35 rfl (by decide) ?_
  refine v_aload_n dX7_isTurn_36 rfl ?_
  refine v_iload_n dX7_isTurn_37 rfl ?_
  refine v_call1n lX7_144 kX7_leaveQueue (c_X7_leaveQueue (q := qq + 1) hq (by omega)) dX7_isTurn_38 rfl rfl Nat.zero_lt_one rfl (by decide) (by decide) (st8 rfl) ?_
  refine v_aload_n dX7_isTurn_41 rfl ?_
  refine v_iconst 0 dX7_isTurn_42 (by decide) ?_
  refine m_pz (by decide) fX7_163 dX7_isTurn_43 rfl rfl Nat.zero_lt_one (by decide) ?_
  refine v_aload_n dX7_isTurn_46 rfl ?_
  refine v_gr 0 fX7_50 dX7_isTurn_47 rfl rfl rfl Nat.zero_lt_one ?_
  refine v_iload_n dX7_isTurn_50 rfl ?_
  refine v_dup2 dX7_isTurn_51 ?_
  refine m_iald t (by decide) rfl dX7_isTurn_52 Nat.zero_lt_one rfl ht24 ?_
  refine v_iconst 1 dX7_isTurn_53 (by decide) ?_
  refine v_iadd dX7_isTurn_54 ?_
  refine m_iast t (by decide) rfl dX7_isTurn_55 Nat.zero_lt_one rfl ht24 ?_
  refine v_aload_n dX7_isTurn_56 rfl ?_
  refine v_dup dX7_isTurn_57 ?_
  refine m_gi (by decide) fX7_115 dX7_isTurn_58 rfl rfl Nat.zero_lt_one ?_
  refine v_iconst 1 dX7_isTurn_61 (by decide) ?_
  refine v_iadd dX7_isTurn_62 ?_
  refine m_pi (by decide) fX7_115 dX7_isTurn_63 rfl rfl Nat.zero_lt_one ?_
  refine v_iconst 0 dX7_isTurn_66 (by decide) ?_
  refine v_istore_n [_, _, _] dX7_isTurn_67 rfl (by decide) ?_
  refine l_X7_isTurn J hqJ ht24 h10 hF q 0 (mTb (mFind b T) t) (by omega) j0 (fun L2 => ?_)
  have jj := mTL_J J hF q _ j0
  refine v_aload_n dX7_isTurn_132 rfl ?_
  refine v_gr 0 fX7_19 dX7_isTurn_133 rfl rfl rfl Nat.zero_lt_one ?_
  refine v_iload_n dX7_isTurn_136 rfl ?_
  refine m_iald t (by decide) rfl dX7_isTurn_137 Nat.zero_lt_one rfl ht24 ?_
  refine v_if_ne 146 dX7_isTurn_138 (by decide) (fun h_138 => ?_) (fun h_138 => ?_)
  · refine v_aload_n dX7_isTurn_146 rfl ?_
    refine v_dup dX7_isTurn_147 ?_
    refine m_gi (by decide) fX7_112 dX7_isTurn_148 rfl rfl Nat.zero_lt_one ?_
    refine v_iconst 1 dX7_isTurn_151 (by decide) ?_
    refine v_iadd dX7_isTurn_152 ?_
    refine m_pi (by decide) fX7_112 dX7_isTurn_153 rfl rfl Nat.zero_lt_one ?_
    refine v_iconst 1 dX7_isTurn_156 (by decide) ?_
    exact v_zret dX7_isTurn_157 (by decide) ⟨rfl, by unfold mTurnB mTe mTe1; first | (rw [if_neg h_138]; done) | (rw [if_pos h_138])⟩
  · obtain ⟨y, hy, ey⟩ := jE jj h_138
    refine v_aload_n dX7_isTurn_141 rfl ?_
    refine v_iload_n dX7_isTurn_142 rfl ?_
    refine v_call1n lX7_95 kX7_enqueue (c_X7_enqueue (q := y) ht24 ey hy) dX7_isTurn_143 rfl rfl Nat.zero_lt_one rfl (by decide) (by decide) (st8 rfl) ?_
    refine v_aload_n dX7_isTurn_146 rfl ?_
    refine v_dup dX7_isTurn_147 ?_
    refine m_gi (by decide) fX7_112 dX7_isTurn_148 rfl rfl Nat.zero_lt_one ?_
    refine v_iconst 1 dX7_isTurn_151 (by decide) ?_
    refine v_iadd dX7_isTurn_152 ?_
    refine m_pi (by decide) fX7_112 dX7_isTurn_153 rfl rfl Nat.zero_lt_one ?_
    refine v_iconst 1 dX7_isTurn_156 (by decide) ?_
    exact v_zret dX7_isTurn_157 (by decide) ⟨rfl, by unfold mTurnB mTe mTe1; first | (rw [if_neg h_138]; done) | (rw [if_pos h_138])⟩
/-- what a turn of the reference needs: its contract, by its three ends -/
def TO (b : tH) : Prop := ∀ a : tH, Ci yX7_isTurn cX7_isTurn 3 .boolean 6 [.inr (some (20, 0))] (mix a b) (mTurn b).1 (mix a (mTurn b).2)
def STn : Nat → tH → Prop
  | 0, _ => True
  | m + 1, b => TO b ∧ (¬ (mTurn b).1 = 0 → STn m (mTurn b).2)
set_option maxHeartbeats 4000000 in
set_option maxRecDepth 100000 in
theorem l_X7_step {a : tH} {n : Nat} (h500 : n ≤ 500) : ∀ (m d : Nat) (b : tH), n = d + m → STn m b → Vw yX7_step.cls cX7_step 3 (some .int) 7 (fun r h' => r = some (.inl (nI (mStepL m d b).1)) ∧ h' = mix a (mStepL m d b).2) 46 [some (.inr (some (20, 0))), some (.inl (nI n)), some (.inl (nI d))] [] (mix a b) := by
  intro m
  induction m with
  | zero =>
    intro d b hd S
    obtain rfl : n = d := hd
    refine v_iload_n dX7_step_46 rfl ?_
    refine v_iload_n dX7_step_47 rfl ?_
    refine v_icmp_ge 64 dX7_step_48 (by decide) (fun h_48 => ?_) (fun h_48 => absurd (Int32.le_refl _) h_48)
    refine v_iload_n dX7_step_64 rfl ?_
    exact v_iret dX7_step_65 ⟨rfl, rfl⟩
  | succ m ih =>
    intro d b hd S
    refine v_iload_n dX7_step_46 rfl ?_
    refine v_iload_n dX7_step_47 rfl ?_
    refine v_icmp_ge 64 dX7_step_48 (by decide) (fun h_48 => absurd h_48 (nI_ge (by omega) (by omega))) (fun h_48 => ?_)
    refine v_aload_n dX7_step_51 rfl ?_
    refine v_call0i lX7_178 kX7_isTurn (S.1 a) dX7_step_52 rfl rfl Nat.zero_lt_one rfl (by decide) (by decide) (st8 rfl) ?_
    refine v_if_eq 64 dX7_step_55 (by decide) (fun h_55 => ?_) (fun h_55 => ?_)
    · have e1 : mStepL (m + 1) d b = (d, (mTurn b).2) := if_pos h_55
      rw [e1]
      refine v_iload_n dX7_step_64 rfl ?_
      exact v_iret dX7_step_65 ⟨rfl, rfl⟩
    · have e1 : mStepL (m + 1) d b = mStepL m (d + 1) (mTurn b).2 := if_neg h_55
      rw [e1]
      refine v_iinc [_, _, _] dX7_step_58 rfl (by first | exact inc1 _ | rfl) rfl (by decide) ?_
      refine v_goto 46 dX7_step_61 (by decide) ?_
      exact ih (d + 1) (mTurn b).2 (by omega) (S.2 h_55)
set_option maxHeartbeats 4000000 in
set_option maxRecDepth 100000 in
theorem c_X7_step2 {a b : tH} {n : Int32} (hn : n < 1 ∨ 500 < n) : Ci yX7_step cX7_step 3 .int 7 [.inr (some (20, 0)), .inl n] (mix a b) ((-2)) (mix a (put b 20 0 0 0)) := by
  refine Ct.of (by decide) [_, _, _] rfl (Nat.le_of_ble_eq_true rfl) ?_
  refine v_aload_n dX7_step_0 rfl ?_
  refine v_iconst 0 dX7_step_1 (by decide) ?_
  refine m_pi (by decide) fX7_77 dX7_step_2 rfl rfl Nat.zero_lt_one ?_
  refine v_iload_n dX7_step_5 rfl ?_
  refine v_iconst 1 dX7_step_6 (by decide) ?_
  refine v_sipush 500 dX7_step_7 (by decide) ?_
  refine v_calls3i lX7_84 kX7_in (c_X7_in) dX7_step_10 rfl (by decide) (by decide) (st8 rfl) ?_
  refine v_if_ne 19 dX7_step_13 (by decide) (fun h_13 => absurd (by rw [i001]; exact hn) h_13) (fun h_13 => ?_)
  refine v_bipush (-2) dX7_step_16 (by decide) ?_
  exact v_iret dX7_step_18 ⟨rfl, rfl⟩
set_option maxHeartbeats 4000000 in
set_option maxRecDepth 100000 in
theorem c_X7_step3 {a b : tH} {n : Nat} (h1 : 1 ≤ n) (h500 : n ≤ 500) (hh : b.1 20 0 5 = 0) : Ci yX7_step cX7_step 3 .int 7 [.inr (some (20, 0)), .inl (nI n)] (mix a b) ((-3)) (mix a (put b 20 0 0 0)) := by
  refine Ct.of (by decide) [_, _, _] rfl (Nat.le_of_ble_eq_true rfl) ?_
  refine v_aload_n dX7_step_0 rfl ?_
  refine v_iconst 0 dX7_step_1 (by decide) ?_
  refine m_pi (by decide) fX7_77 dX7_step_2 rfl rfl Nat.zero_lt_one ?_
  refine v_iload_n dX7_step_5 rfl ?_
  refine v_iconst 1 dX7_step_6 (by decide) ?_
  refine v_sipush 500 dX7_step_7 (by decide) ?_
  refine v_calls3i lX7_84 kX7_in (c_X7_in) dX7_step_10 rfl (by decide) (by decide) (st8 rfl) ?_
  refine v_if_ne 19 dX7_step_13 (by decide) (fun h_13 => ?_) (fun h_13 => absurd h_13 (by rw [i001]; exact fun z => z.elim (nI_nlt (b := 1) h1 (by omega)) (fun y => absurd y (nI_nlt (a := 500) (b := n) h500 (by omega)))))
  refine v_aload_n dX7_step_19 rfl ?_
  refine m_gk (by exact hh) (by decide) fX7_102 dX7_step_20 rfl rfl Nat.zero_lt_one ?_
  refine v_if_ne 29 dX7_step_23 (by decide) (fun h_23 => absurd rfl h_23) (fun h_23 => ?_)
  refine v_bipush (-3) dX7_step_26 (by decide) ?_
  exact v_iret dX7_step_28 ⟨rfl, rfl⟩
set_option maxHeartbeats 4000000 in
set_option maxRecDepth 100000 in
theorem c_X7_step4 {a b : tH} {n N : Nat} (h1 : 1 ≤ n) (h500 : n ≤ 500) (hh : ¬ b.1 20 0 5 = 0) (hN : b.1 20 0 9 = nI N) (hN2 : N < 2 ^ 30) (h3 : 3000 < N + n) : Ci yX7_step cX7_step 3 .int 7 [.inr (some (20, 0)), .inl (nI n)] (mix a b) ((-4)) (mix a (put b 20 0 0 0)) := by
  refine Ct.of (by decide) [_, _, _] rfl (Nat.le_of_ble_eq_true rfl) ?_
  refine v_aload_n dX7_step_0 rfl ?_
  refine v_iconst 0 dX7_step_1 (by decide) ?_
  refine m_pi (by decide) fX7_77 dX7_step_2 rfl rfl Nat.zero_lt_one ?_
  refine v_iload_n dX7_step_5 rfl ?_
  refine v_iconst 1 dX7_step_6 (by decide) ?_
  refine v_sipush 500 dX7_step_7 (by decide) ?_
  refine v_calls3i lX7_84 kX7_in (c_X7_in) dX7_step_10 rfl (by decide) (by decide) (st8 rfl) ?_
  refine v_if_ne 19 dX7_step_13 (by decide) (fun h_13 => ?_) (fun h_13 => absurd h_13 (by rw [i001]; exact fun z => z.elim (nI_nlt (b := 1) h1 (by omega)) (fun y => absurd y (nI_nlt (a := 500) (b := n) h500 (by omega)))))
  refine v_aload_n dX7_step_19 rfl ?_
  refine m_gi (by decide) fX7_102 dX7_step_20 rfl rfl Nat.zero_lt_one ?_
  refine v_if_ne 29 dX7_step_23 (by decide) (fun h_23 => ?_) (fun h_23 => absurd h_23 (by exact hh))
  refine v_aload_n dX7_step_29 rfl ?_
  refine m_gk (by exact hN) (by decide) fX7_115 dX7_step_30 rfl rfl Nat.zero_lt_one ?_
  refine v_iload_n dX7_step_33 rfl ?_
  refine v_iadd dX7_step_34 ?_
  refine v_sipush 3000 dX7_step_35 (by decide) ?_
  rw [nI_add]
  refine v_icmp_le 44 dX7_step_38 (by decide) (fun h_38 => absurd h_38 (nI_ge (a := 3000) h3 (by omega))) (fun h_38 => ?_)
  refine v_bipush (-4) dX7_step_41 (by decide) ?_
  exact v_iret dX7_step_43 ⟨rfl, rfl⟩
set_option maxHeartbeats 4000000 in
set_option maxRecDepth 100000 in
theorem c_X7_step_ok {a b : tH} {n N : Nat} (h1 : 1 ≤ n) (h500 : n ≤ 500) (hh : ¬ b.1 20 0 5 = 0) (hN : b.1 20 0 9 = nI N) (h3 : N + n ≤ 3000) (S : STn n (put b 20 0 0 0)) : Ci yX7_step cX7_step 3 .int 7 [.inr (some (20, 0)), .inl (nI n)] (mix a b) (nI (mStepL n 0 (put b 20 0 0 0)).1) (mix a ((mStepL n 0 (put b 20 0 0 0)).2)) := by
  refine Ct.of (by decide) [_, _, _] rfl (Nat.le_of_ble_eq_true rfl) ?_
  refine v_aload_n dX7_step_0 rfl ?_
  refine v_iconst 0 dX7_step_1 (by decide) ?_
  refine m_pi (by decide) fX7_77 dX7_step_2 rfl rfl Nat.zero_lt_one ?_
  refine v_iload_n dX7_step_5 rfl ?_
  refine v_iconst 1 dX7_step_6 (by decide) ?_
  refine v_sipush 500 dX7_step_7 (by decide) ?_
  refine v_calls3i lX7_84 kX7_in (c_X7_in) dX7_step_10 rfl (by decide) (by decide) (st8 rfl) ?_
  refine v_if_ne 19 dX7_step_13 (by decide) (fun h_13 => ?_) (fun h_13 => absurd h_13 (by rw [i001]; exact fun z => z.elim (nI_nlt (b := 1) h1 (by omega)) (fun y => absurd y (nI_nlt (a := 500) (b := n) h500 (by omega)))))
  refine v_aload_n dX7_step_19 rfl ?_
  refine m_gi (by decide) fX7_102 dX7_step_20 rfl rfl Nat.zero_lt_one ?_
  refine v_if_ne 29 dX7_step_23 (by decide) (fun h_23 => ?_) (fun h_23 => absurd h_23 (by exact hh))
  refine v_aload_n dX7_step_29 rfl ?_
  refine m_gk (by exact hN) (by decide) fX7_115 dX7_step_30 rfl rfl Nat.zero_lt_one ?_
  refine v_iload_n dX7_step_33 rfl ?_
  refine v_iadd dX7_step_34 ?_
  refine v_sipush 3000 dX7_step_35 (by decide) ?_
  rw [nI_add]
  refine v_icmp_le 44 dX7_step_38 (by decide) (fun h_38 => ?_) (fun h_38 => absurd (nI_le (b := 3000) h3 (by omega)) h_38)
  refine v_iconst 0 dX7_step_44 (by decide) ?_
  refine v_istore_n [_, _, _] dX7_step_45 rfl (by decide) ?_
  exact l_X7_step h500 n 0 _ (by omega) S
end
