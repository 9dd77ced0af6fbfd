/-! The law: its loop -/
/-! THE CLAIM OUT OF ONE WALK OF THE LAW'S BODY. Your part is whole_start (and what it stands on); all else here is the same for every law, but numbers. -/
def R_law : String := "TurnThreadsLaw"
def lw_P (b : Addr) (xs : List Int32) (args : Array Value) (s : State) : Prop := args = #[.ref b] ∧ s.IntsAt b xs ∧ xs.length ≤ 2048 ∧ (Jvm.Cond.and given_1 narrow_1).before args s = true
def lw_Q (_ : Array Value) (s : State) (o : Outcome) (t : State) : Prop := o = .returned (some (.int 1)) ∧ Framed s o t [] 601024 7293034
def lw_Z (below : List Frame) (a : Array Value) (s : State) : State → Prop := fun t => ∃ o, t.status = .running ∧ Ended t below o ∧ lw_Q a s o t
/-- the law's own end, with 1 on the stack, nothing written that was there before, its room as the claim has it -/
theorem lw_ret {p : Program} {l : Launch} {e : Env} {s : State} {m : MethodId} {below : List Frame} {meth : Method} {c : Code} {b : Nat} (hx : p.tables.exec = Jvm.exec) (hb : c.code = code) (hr : meth.sig.returnType = ret) (hlocks : meth.locks = false) {pc : Nat} {H : Heap} {ls : Array Slot} (hdg : decode code pc = .ok (.ireturn, 1)) : W p l e room_1 s m #[Value.ref b] below meth c H [] 601024 7293034 (lw_Z below #[Value.ref b] s) (F0 m pc ls [.int 1]) := by
  intro T hT X
  obtain ⟨fs, hret, hrun, hended, hW, hframe⟩ := X.leave (v := some (.int 1)) (hlocks := hlocks) (fun h => by rw [hr] at h; cases h)
  have hmeth' : T.vm.method? m = some meth := X.method'
  refine ⟨T.setFrames fs, ?_, .returned (some (.int 1)), hrun, hended, rfl, ⟨_, rfl⟩, hW, hframe⟩
  jvm_step X.here [X.here.top, hx, hb, hdg, hmeth', hr, ret, narrow_b1]
  (try refine ⟨rfl, ?_⟩); (try refine ⟨rfl, ?_⟩)
  first | (intro acts; rw [hret _ acts rfl rfl rfl]) | rw [hret _ _ rfl rfl rfl]
  exact Steps.refl _
/-- what holds at the law's entry: the machine, the code, the tables' words (any of lw_tbl by 'hts w (by decide +kernel)'), the script of L ints xs at the cell b, what the Statement gives of the start (any of its parts by flat_of_before) -/
def lw_At (p : Program) (s : State) (m : MethodId) (meth : Method) (c : Code) (b L : Nat) (xs : Nat → Int32) : Prop :=
  p.tables.exec = Jvm.exec ∧ c.code = code ∧ meth.sig.returnType = ret ∧ c.maxLocals = 7 ∧ s.vm.findClass R_law = some m.cls ∧ (∀ w ∈ lw_tbl, w.before #[Value.ref b] s = true) ∧ va_X b L xs s s.heap ∧ b < s.heap.size ∧ meth.locks = false ∧ (Jvm.Cond.and given_1 narrow_1).before #[Value.ref b] s = true
theorem lL_19 : CQ RL 19 yX6_program 0 := ⟨by decide +kernel, by decide +kernel, by decide +kernel, by decide +kernel, by decide, by decide, by decide +kernel⟩
theorem lL_23 : CQ RL 23 yX7_program 0 := ⟨by decide +kernel, by decide +kernel, by decide +kernel, by decide +kernel, by decide, by decide, by decide +kernel⟩
theorem lL_24 : CQ RL 24 yX6_act 2 := ⟨by decide +kernel, by decide +kernel, by decide +kernel, by decide +kernel, by decide, by decide, by decide +kernel⟩
theorem lL_28 : CQ RL 28 yX7_act 2 := ⟨by decide +kernel, by decide +kernel, by decide +kernel, by decide +kernel, by decide, by decide, by decide +kernel⟩
theorem lL_29 : CQ RL 29 yX6_begin 3 := ⟨by decide +kernel, by decide +kernel, by decide +kernel, by decide +kernel, by decide, by decide, by decide +kernel⟩
theorem lL_33 : CQ RL 33 yX7_begin 3 := ⟨by decide +kernel, by decide +kernel, by decide +kernel, by decide +kernel, by decide, by decide, by decide +kernel⟩
theorem lL_34 : CQ RL 34 yX6_fill 2 := ⟨by decide +kernel, by decide +kernel, by decide +kernel, by decide +kernel, by decide, by decide, by decide +kernel⟩
theorem lL_37 : CQ RL 37 yX7_fill 2 := ⟨by decide +kernel, by decide +kernel, by decide +kernel, by decide +kernel, by decide, by decide, by decide +kernel⟩
theorem lL_38 : CQ RL 38 yX6_step 1 := ⟨by decide +kernel, by decide +kernel, by decide +kernel, by decide +kernel, by decide, by decide, by decide +kernel⟩
theorem lL_41 : CQ RL 41 yX7_step 1 := ⟨by decide +kernel, by decide +kernel, by decide +kernel, by decide +kernel, by decide, by decide, by decide +kernel⟩
theorem lL_42 : CQ RL 42 yX6_told 1 := ⟨by decide +kernel, by decide +kernel, by decide +kernel, by decide +kernel, by decide, by decide, by decide +kernel⟩
theorem lL_45 : CQ RL 45 yX7_told 1 := ⟨by decide +kernel, by decide +kernel, by decide +kernel, by decide +kernel, by decide, by decide, by decide +kernel⟩
theorem lL_46 : CQ RL 46 yX6_thread 2 := ⟨by decide +kernel, by decide +kernel, by decide +kernel, by decide +kernel, by decide, by decide, by decide +kernel⟩
theorem lL_49 : CQ RL 49 yX7_thread 2 := ⟨by decide +kernel, by decide +kernel, by decide +kernel, by decide +kernel, by decide, by decide, by decide +kernel⟩
theorem lL_50 : CQ RL 50 yX6_queued 1 := ⟨by decide +kernel, by decide +kernel, by decide +kernel, by decide +kernel, by decide, by decide, by decide +kernel⟩
theorem lL_53 : CQ RL 53 yX7_queued 1 := ⟨by decide +kernel, by decide +kernel, by decide +kernel, by decide +kernel, by decide, by decide, by decide +kernel⟩
theorem lL_54 : CQ RL 54 yX6_box 2 := ⟨by decide +kernel, by decide +kernel, by decide +kernel, by decide +kernel, by decide, by decide, by decide +kernel⟩
theorem lL_57 : CQ RL 57 yX7_box 2 := ⟨by decide +kernel, by decide +kernel, by decide +kernel, by decide +kernel, by decide, by decide, by decide +kernel⟩
theorem lL_58 : CQ RL 58 yX6_trace 2 := ⟨by decide +kernel, by decide +kernel, by decide +kernel, by decide +kernel, by decide, by decide, by decide +kernel⟩
theorem lL_61 : CQ RL 61 yX7_trace 2 := ⟨by decide +kernel, by decide +kernel, by decide +kernel, by decide +kernel, by decide, by decide, by decide +kernel⟩
theorem lL_67 : CQ RL 67 yX7_share 1 := ⟨by decide +kernel, by decide +kernel, by decide +kernel, by decide +kernel, by decide, by decide, by decide +kernel⟩
theorem lL_68 : CQ RL 68 yX7_thrown 0 := ⟨by decide +kernel, by decide +kernel, by decide +kernel, by decide +kernel, by decide, by decide, by decide +kernel⟩

abbrev lA (s : State) : Nat → Prop := fun q => s.heap.size ≤ q
def LC (G : tG) (cL : ClassId) (b L : Nat) (xs : Nat → Int32) (p : Program) (l : Launch) (s : State) (m : MethodId) (meth : Method) (c : Code) : Prop :=
  lw_At p s m meth c b L xs ∧ Tb s ∧ Ex s ∧ Zs (lA s) s s.heap ∧ va_K G.1 vwCl (tyL G cL) s ∧ l.stackTraces = false ∧ L ≤ 2048
def VL (G : tG) (ad : Nat → Nat → Nat) (qo : Nat) (cL : ClassId) (b L : Nat) (xs : Nat → Int32) (pc : Nat) (lv : List (Nat × Value)) (st : List Value) (h : tH) (f : Nat → Int64) (cells slots : Nat) : Prop :=
  ∀ (p : Program) (l : Launch) (e : Env) (s : State) (m : MethodId) (below : List Frame) (meth : Method) (c : Code) (H : Heap) (locs : List Loc) (ls : Array Slot),
    LC G cL b L xs p l s m meth c → va_P G.1 vwCl (wlo G ad h qo cL f) H → va_D (lA s) (wlo G ad h qo cL f) → va_S (lA s) s.heap H locs → lv_has ls 7 lv →
    W p l e room_1 s m #[Value.ref b] below meth c H locs cells slots (lw_Z below #[Value.ref b] s) (F0 m pc ls st)
section LawRows
variable {G : tG} {ad : Nat → Nat → Nat} {qo : Nat} {cL : ClassId} {b L : Nat} {xs : Nat → Int32} {pc : Nat} {lv : List (Nat × Value)} {st : List Value} {h : tH} {f : Nat → Int64} {cells slots : Nat}
theorem y_aload {j : Fin 4} {a : Nat} (i : Nat) (hdg : decode code pc = .ok (.aload_n j, 1)) (hg : lv[i]? = some ((j : Nat), .ref a)) (k : VL G ad qo cL b L xs (pc + 1) lv (.ref a :: st) h f cells slots) : VL G ad qo cL b L xs pc lv st h f cells slots :=
  fun p l e s m below meth c H locs ls C hP hD hS hl => lv_aload_n C.1.1 C.1.2.1 hdg rfl (lv_at hl i hg) (k p l e s m below meth c H locs ls C hP hD hS hl)
theorem y_iload {j : Nat} {x : Int32} (i : Nat) (hdg : decode code pc = .ok (.iload j, 2)) (hg : lv[i]? = some (j, .int x)) (k : VL G ad qo cL b L xs (pc + 2) lv (.int x :: st) h f cells slots) : VL G ad qo cL b L xs pc lv st h f cells slots :=
  fun p l e s m below meth c H locs ls C hP hD hS hl => lv_iload C.1.1 C.1.2.1 hdg (lv_at hl i hg) (k p l e s m below meth c H locs ls C hP hD hS hl)
theorem y_iconst {n : Int} (x : Int32) (hdg : decode code pc = .ok (.iconst n, 1)) (hv : Int32.ofInt n = x) (k : VL G ad qo cL b L xs (pc + 1) lv (.int x :: st) h f cells slots) : VL G ad qo cL b L xs pc lv st h f cells slots :=
  fun p l e s m below meth c H locs ls C hP hD hS hl => lv_iconst C.1.1 C.1.2.1 hdg hv (k p l e s m below meth c H locs ls C hP hD hS hl)
theorem y_bipush {n : Int} (x : Int32) (hdg : decode code pc = .ok (.bipush n, 2)) (hv : (Int8.ofInt n).toInt32 = x) (k : VL G ad qo cL b L xs (pc + 2) lv (.int x :: st) h f cells slots) : VL G ad qo cL b L xs pc lv st h f cells slots :=
  fun p l e s m below meth c H locs ls C hP hD hS hl => lv_bipush C.1.1 C.1.2.1 hdg hv (k p l e s m below meth c H locs ls C hP hD hS hl)
theorem y_iadd {x y : Int32} (hdg : decode code pc = .ok (.iadd, 1)) (k : VL G ad qo cL b L xs (pc + 1) lv (.int (x + y) :: st) h f cells slots) : VL G ad qo cL b L xs pc lv (.int y :: .int x :: st) h f cells slots :=
  fun p l e s m below meth c H locs ls C hP hD hS hl => lv_iadd C.1.1 C.1.2.1 hdg (k p l e s m below meth c H locs ls C hP hD hS hl)
theorem y_isub {x y : Int32} (hdg : decode code pc = .ok (.isub, 1)) (k : VL G ad qo cL b L xs (pc + 1) lv (.int (x - y) :: st) h f cells slots) : VL G ad qo cL b L xs pc lv (.int y :: .int x :: st) h f cells slots :=
  fun p l e s m below meth c H locs ls C hP hD hS hl => lv_isub C.1.1 C.1.2.1 hdg (k p l e s m below meth c H locs ls C hP hD hS hl)
theorem y_iand {x y : Int32} (hdg : decode code pc = .ok (.iand, 1)) (k : VL G ad qo cL b L xs (pc + 1) lv (.int (x &&& y) :: st) h f cells slots) : VL G ad qo cL b L xs pc lv (.int y :: .int x :: st) h f cells slots :=
  fun p l e s m below meth c H locs ls C hP hD hS hl => lv_iand C.1.1 C.1.2.1 hdg (k p l e s m below meth c H locs ls C hP hD hS hl)
theorem y_goto {off : Int} (tgt : Nat) (hdg : decode code pc = .ok (.goto off, 3)) (ht : (pc : Int) + off = (tgt : Int)) (k : VL G ad qo cL b L xs tgt lv st h f cells slots) : VL G ad qo cL b L xs pc lv st h f cells slots :=
  fun p l e s m below meth c H locs ls C hP hD hS hl => lv_goto C.1.1 C.1.2.1 hdg ht (k p l e s m below meth c H locs ls C hP hD hS hl)
theorem y_icmp_gt {x y : Int32} {off : Int} (tgt : Nat) (hdg : decode code pc = .ok (.if_icmp .gt off, 3)) (ht : (pc : Int) + off = (tgt : Int)) (kt : y < x → VL G ad qo cL b L xs tgt lv st h f cells slots) (kf : ¬ y < x → VL G ad qo cL b L xs (pc + 3) lv st h f cells slots) : VL G ad qo cL b L xs pc lv (.int y :: .int x :: st) h f cells slots :=
  fun p l e s m below meth c H locs ls C hP hD hS hl => lv_icmp_gt C.1.1 C.1.2.1 hdg ht (fun z => kt z p l e s m below meth c H locs ls C hP hD hS hl) (fun z => kf z p l e s m below meth c H locs ls C hP hD hS hl)
theorem y_icmp_eq {x : Int32} {off : Int} (tgt : Nat) (hdg : decode code pc = .ok (.if_icmp .eq off, 3)) (ht : (pc : Int) + off = (tgt : Int)) (kt : VL G ad qo cL b L xs tgt lv st h f cells slots) : VL G ad qo cL b L xs pc lv (.int x :: .int x :: st) h f cells slots :=
  fun p l e s m below meth c H locs ls C hP hD hS hl => lv_icmp_eq C.1.1 C.1.2.1 hdg ht (fun _ => kt p l e s m below meth c H locs ls C hP hD hS hl) (fun z => absurd rfl z)
theorem y_if_ne {x : Int32} {off : Int} (tgt : Nat) (hdg : decode code pc = .ok (.ifCond .ne off, 3)) (ht : (pc : Int) + off = (tgt : Int)) (kt : ¬ x = 0 → VL G ad qo cL b L xs tgt lv st h f cells slots) (kf : x = 0 → VL G ad qo cL b L xs (pc + 3) lv st h f cells slots) : VL G ad qo cL b L xs pc lv (.int x :: st) h f cells slots :=
  fun p l e s m below meth c H locs ls C hP hD hS hl => lv_if_ne C.1.1 C.1.2.1 hdg ht (fun z => kt z p l e s m below meth c H locs ls C hP hD hS hl) (fun z => kf z p l e s m below meth c H locs ls C hP hD hS hl)
theorem y_if_eq {x : Int32} {off : Int} (tgt : Nat) (hdg : decode code pc = .ok (.ifCond .eq off, 3)) (ht : (pc : Int) + off = (tgt : Int)) (kt : x = 0 → VL G ad qo cL b L xs tgt lv st h f cells slots) (kf : ¬ x = 0 → VL G ad qo cL b L xs (pc + 3) lv st h f cells slots) : VL G ad qo cL b L xs pc lv (.int x :: st) h f cells slots :=
  fun p l e s m below meth c H locs ls C hP hD hS hl => lv_if_eq C.1.1 C.1.2.1 hdg ht (fun z => kt z p l e s m below meth c H locs ls C hP hD hS hl) (fun z => kf z p l e s m below meth c H locs ls C hP hD hS hl)
theorem y_slen (hdg : decode code pc = .ok (.arraylength, 1)) (k : VL G ad qo cL b L xs (pc + 1) lv (.int (nI L) :: st) h f cells slots) : VL G ad qo cL b L xs pc lv (.ref b :: st) h f cells slots :=
  fun p l e s m below meth c H locs ls C hP hD hS hl => va_slen C.1.1 C.1.2.1 C.1.2.2.2.2.2.2.1 C.1.2.2.2.2.2.2.2.1 (Nat.not_le.mpr C.1.2.2.2.2.2.2.2.1) hS hdg (k p l e s m below meth c H locs ls C hP hD hS hl)
theorem y_sld {i : Nat} (hi : i < L) (h31 : L < 2 ^ 31) (hdg : decode code pc = .ok (.iaload, 1)) (k : VL G ad qo cL b L xs (pc + 1) lv (.int (xs i) :: st) h f cells slots) : VL G ad qo cL b L xs pc lv (.int (nI i) :: .ref b :: st) h f cells slots := by
  intro p l e s m below meth c H locs ls C hP hD hS hl
  refine va_sld C.1.1 C.1.2.1 C.1.2.2.2.2.2.2.1 C.1.2.2.2.2.2.2.2.1 (Nat.not_le.mpr C.1.2.2.2.2.2.2.2.1) hS (vp_in_nI hi h31) hdg ?_
  rw [nI_clamp (by omega)]
  exact k p l e s m below meth c H locs ls C hP hD hS hl
/-- script[i + k] -/
theorem y_arg {i : Nat} {n : Int} (k p0 p4 : Nat) (d0 : decode code pc = .ok (.aload_n 0, 1)) (d1 : decode code (pc + 1) = .ok (.iload 4, 2)) (d3 : decode code (pc + 3) = .ok (.iconst n, 1)) (d4 : decode code (pc + 4) = .ok (.iadd, 1)) (d5 : decode code (pc + 5) = .ok (.iaload, 1)) (hn : Int32.ofInt n = nI k) (h0 : lv[p0]? = some (0, .ref b)) (h4 : lv[p4]? = some (4, .int (nI i))) (hi : i + k < L) (h31 : L < 2 ^ 31) (kk : VL G ad qo cL b L xs (pc + 6) lv (.int (xs (i + k)) :: st) h f cells slots) : VL G ad qo cL b L xs pc lv st h f cells slots := by
  refine y_aload p0 d0 h0 (y_iload p4 d1 h4 (y_iconst (nI k) d3 hn (y_iadd d4 ?_)))
  rw [nI_add]
  exact y_sld hi h31 d5 kk
theorem y_istore {j : Nat} {x : Int32} (lv' : List (Nat × Value)) (hdg : decode code pc = .ok (.istore j, 2)) (hn : j < 7) (hs : ((j, Value.int x) :: lv.filter (fun q => !(q.1 == j) && !(q.1 + 1 == j && q.2.category == 2))) = lv') (k : VL G ad qo cL b L xs (pc + 2) lv' st h f cells slots) : VL G ad qo cL b L xs pc lv (.int x :: st) h f cells slots := by
  subst hs
  intro p l e s m below meth c H locs ls C hP hD hS hl
  exact lv_istore C.1.1 C.1.2.1 hdg hl hn rfl (fun ls' hl' => k p l e s m below meth c H locs ls' C hP hD hS hl')
theorem y_iinc {j i : Nat} {n : Int} {x y : Int32} (lv' : List (Nat × Value)) (hdg : decode code pc = .ok (.iinc j n, 3)) (hg : lv[i]? = some (j, .int x)) (hy : x + Int32.ofInt n = y) (hn : j < 7) (hs : ((j, Value.int y) :: lv.filter (fun q => !(q.1 == j) && !(q.1 + 1 == j && q.2.category == 2))) = lv') (k : VL G ad qo cL b L xs (pc + 3) lv' st h f cells slots) : VL G ad qo cL b L xs pc lv st h f cells slots := by
  subst hs
  intro p l e s m below meth c H locs ls C hP hD hS hl
  exact lv_iinc (k := i) C.1.1 C.1.2.1 hdg hl hg hy hn rfl (fun ls' hl' => k p l e s m below meth c H locs ls' C hP hD hS hl')
theorem y_lv (lv' : List (Nat × Value)) (is : List Nat) (hs : lv_pick lv is = lv') (k : VL G ad qo cL b L xs pc lv' st h f cells slots) : VL G ad qo cL b L xs pc lv st h f cells slots :=
  fun p l e s m below meth c H locs ls C hP hD hS hl => k p l e s m below meth c H locs ls C hP hD hS (lv_sub hl is hs)
theorem y_in {dflt lo hi off : Int} {offs : Array Int} {len j : Nat} (tgt : Nat) (hdg : decode code pc = .ok (.tableswitch dflt lo hi offs, len)) (h31 : j < 2 ^ 31) (h1 : ¬ (j : Int) < lo) (h2 : ¬ hi < (j : Int)) (ho : offs[((j : Int) - lo).toNat]? = some off) (ht : (pc : Int) + off = (tgt : Int)) (k : VL G ad qo cL b L xs tgt lv st h f cells slots) : VL G ad qo cL b L xs pc lv (.int (nI j) :: st) h f cells slots :=
  fun p l e s m below meth c H locs ls C hP hD hS hl => lv_tableIn C.1.1 C.1.2.1 hdg (by rw [nI_toInt h31]; exact h1) (by rw [nI_toInt h31]; exact h2) (by rw [nI_toInt h31]; exact ho) ht (k p l e s m below meth c H locs ls C hP hD hS hl)
theorem y_out {dflt lo hi : Int} {offs : Array Int} {len j : Nat} (tgt : Nat) (hdg : decode code pc = .ok (.tableswitch dflt lo hi offs, len)) (h31 : j < 2 ^ 31) (h2 : hi < (j : Int)) (ht : (pc : Int) + dflt = (tgt : Int)) (k : VL G ad qo cL b L xs tgt lv st h f cells slots) : VL G ad qo cL b L xs pc lv (.int (nI j) :: st) h f cells slots :=
  fun p l e s m below meth c H locs ls C hP hD hS hl => lv_tableOut C.1.1 C.1.2.1 hdg (by rw [nI_toInt h31]; exact Or.inr h2) ht (k p l e s m below meth c H locs ls C hP hD hS hl)
theorem y_call {y : MethodName} {cc' : ByteArray} {maxL' d' n idx ci N w0 c0 i : Nat} {v : Int32} {h2 : tH} {T : u_T} (as : List tV) (hq : CQ RL idx y n) (hcd : Cond.code y cc' maxL' (some .int) ∈ lw_tbl) (hC : Ci y cc' maxL' .int d' (.inr (some (c0, i)) :: as) h v h2) (hdg : decode code pc = .ok (.invokevirtual idx, 3)) (hl0 : lay c0 = (0, ci, N, w0)) (hcl : vwCl[ci]? = some (y.cls, T, N)) (hi : i < w0) (hn : as.length = n) (hd : d' + 1 ≤ 10) (hloc : 8 + (maxL' + 11) + 27 * d' ≤ 364) (hst : (st.map fun v => v.category).sum ≤ 8) (hcs : cells ≤ 601024) (hss : slots ≤ 7293034) (k : VL G ad qo cL b L xs (pc + 3) lv (.int v :: st) h2 f cells slots) : VL G ad qo cL b L xs pc lv ((as.map (rv ad)).reverse ++ .ref (ad c0 i) :: st) h f cells slots := by
  intro p l e s m below meth c H locs ls C hP hD hS hl
  refine w_call (R := room_1) (H0 := s.heap) C.1.1 C.1.2.1 C.1.2.2.2.1 C.1.2.2.2.2.1 C.2.1 (C.2.2.2.2.1.sub (tys' := tyG G) [0, 1, 2, 3] rfl) hl.1 hP hD hS (fun q hq => hq) hq hcd hC hdg hl0 hcl hi hn hd hloc hst hcs hss (fun r h' H1 locs1 hq1 hP1 hD1 hS1 => ?_)
  obtain ⟨rfl, rfl⟩ := hq1
  exact k p l e s m below meth c H1 locs1 ls C hP1 hD1 hS1 hl
theorem y_share {t x : Int32} {φ : (Nat → Int64) → Prop} (hM : ∀ l : Launch, l.stackTraces = false → ∀ sz : Nat, Met l yL_share lsW rml (va_Pc [.ref (ad 0 0), .int t, .ref qo] (Ps G ad sz h qo cL f)) (Qs G ad h qo cL (va_A (wlo G ad h qo cL f) sz) x φ) 1 6 (va_A (wlo G ad h qo cL f) sz)) (hdg : decode code pc = .ok (.invokestatic 62, 3)) (hst : (st.map fun v => v.category).sum ≤ 8) (hcs : cells + 1 ≤ 601024) (hss : slots + 6 ≤ 7293034) (k : ∀ f', φ f' → VL G ad qo cL b L xs (pc + 3) lv (.int x :: st) h f' (cells + 1) (slots + 6)) : VL G ad qo cL b L xs pc lv (.ref qo :: .int t :: .ref (ad 0 0) :: st) h f cells slots := by
  intro p l e s m below meth c H locs ls C hP hD hS hl
  obtain ⟨C1, hT, hE, hZ, hK, htr, hL⟩ := id C
  have hF : ∀ q, va_A (wlo G ad h qo cL f) H.size q → lA s q := by
    intro q z
    rcases z with ⟨k, e0, z⟩ | z
    · exact hD.2 k _ z
    · exact Nat.le_trans hS.1 z
  have hcode : ∀ w ∈ lsW, ∀ (a' : Array Value) (U : State), s.WarmedH U.vm → w.before a' U = true := fun w hw a' U hW => by
    rw [List.mem_singleton.mp hw]
    exact (Tb.warm hW hT).use (by decide +kernel) rfl
  have run := vx_runSW (args := #[Value.ref b]) (below := below) (meth := meth) (e := e) (R := room_1) (locs := locs) (cells := cells) (slots := slots) (Ts := []) (own := RL) (As := [.ref (ad 0 0), .int t, .ref qo]) (rest := st) (g := F0 m pc ls (.ref qo :: .int t :: .ref (ad 0 0) :: st)) (H := H) (hh := [(0, 9, 12, 13)]) (n := 3) (bytes := cL_share) (maxL := 4) (ret := some .int) ⟨C1.1, C1.2.1, C1.2.2.2.1, C1.2.2.2.2.1, fun _ h => by cases h⟩ (hM l htr H.size)
    ⟨⟨rfl, rfl, by decide, by decide, hcode, List.mem_cons_self⟩, hT.use (by decide +kernel) rfl, hT.use (by decide +kernel) rfl, ⟨by decide, by decide⟩, fun sig hs => by
      have k7 : (parseMethodDescriptor yL_share.desc).map (fun d => d.parameters.length) = some 3 := by decide +kernel
      rw [hs] at k7
      exact (Option.some.inj k7).symm, hT.use (by decide +kernel) rfl, hT.use (by decide +kernel) rfl⟩
    ⟨Ps_blind G ad H.size h qo cL f _, fun U hU hW => ⟨rfl, by rw [hU], by rw [hU]; exact hP, hD.weaken (fun _ _ _ _ => trivial), va_K.moved hW.alike hK, Tb.warm hW hT, Ex.warm hW hE, by rw [hU]; exact Zs.moved hW.alike ((hZ.kept hS.2.1).narrow hF)⟩⟩
    rfl rfl hl.1 rfl (lv_room hst) hdg ⟨hcs, hss⟩
  intro T9 hT9 X9
  obtain ⟨v, st₀, t9, T', L9, e0, X', hL9, e1, e2, ⟨⟨f', hv, hφ, hP1, hD1⟩, hF9⟩, st9⟩ := run T9 hT9 X9
  cases hv
  obtain ⟨k1, k2, k3⟩ := vx_keep (A0 := lA s) (H0 := s.heap) e0 e1 hS (fun q _ h => hF q h) hF hL9 hF9
  obtain ⟨t2, a1, b1⟩ := k f' hφ p l e s m below meth c T'.heap (locs ++ L9) ls C (by rw [e1]; exact hP1) (hD1.weaken (fun _ q _ z => hF q.1 z)) k3 hl T' rfl X'
  exact ⟨t2, st9 t2 a1, b1⟩
theorem y_lald {x : Int64} (hx : f 0 = x) (hdg : decode code pc = .ok (.laload, 1)) (k : VL G ad qo cL b L xs (pc + 1) lv (.long x :: st) h f cells slots) : VL G ad qo cL b L xs pc lv (.int 0 :: .ref qo :: st) h f cells slots := by
  subst hx
  intro p l e s m below meth c H locs ls C hP hD hS hl
  exact va_lald C.1.1 C.1.2.1 C.2.2.2.2.1 hP _ 4 get_last rfl (show vp_in (nI 0) 1 from vp_in_nI (by decide) (by decide)) hdg (k p l e s m below meth c H locs ls C hP hD hS hl)
theorem y_i2l {x : Int32} (hdg : decode code pc = .ok (.i2l, 1)) (k : VL G ad qo cL b L xs (pc + 1) lv (.long x.toInt64 :: st) h f cells slots) : VL G ad qo cL b L xs pc lv (.int x :: st) h f cells slots :=
  fun p l e s m below meth c H locs ls C hP hD hS hl => lv_i2l C.1.1 C.1.2.1 hdg rfl (k p l e s m below meth c H locs ls C hP hD hS hl)
theorem cmp_self (x : Int64) : lg_cmp x x = 0 := by unfold lg_cmp; simp
theorem y_lcmp {x : Int64} (hdg : decode code pc = .ok (.lcmp, 1)) (k : VL G ad qo cL b L xs (pc + 1) lv (.int 0 :: st) h f cells slots) : VL G ad qo cL b L xs pc lv (.long x :: .long x :: st) h f cells slots :=
  fun p l e s m below meth c H locs ls C hP hD hS hl => W.lcmp C.1.1 C.1.2.1 hdg (by rw [cmp_self]; exact k p l e s m below meth c H locs ls C hP hD hS hl)
theorem y_end (hc : cells ≤ 601024) (hs : slots ≤ 7293034) : VL G ad qo cL b L xs 480 lv [] h f cells slots := by
  refine y_iconst 1 dL_law_480 (by decide) ?_
  intro p l e s m below meth c H locs ls C hP hD hS hl
  refine va_forget (fun q hq => hS.2.2 q hq) ?_
  refine W.widen hc hs ?_
  exact lw_ret C.1.1 C.1.2.1 C.1.2.2.1 C.1.2.2.2.2.2.2.2.2.1 dL_law_481
abbrev lvS (ad : Nat → Nat → Nat) (qo b i : Nat) : List (Nat × Value) := [(4, .int (nI i)), (0, .ref b), (1, .ref (ad 0 0)), (2, .ref (ad 20 0)), (3, .ref qo)]
theorem sub4 {i L : Nat} (hL : L ≤ 2048) (h : ¬ nI L - 4 < nI i) (hi : i ≤ 4000) : i + 4 ≤ L := by
  rcases Nat.lt_or_ge L 4 with q | q
  · exfalso
    apply h
    obtain rfl | rfl | rfl | rfl : L = 0 ∨ L = 1 ∨ L = 2 ∨ L = 3 := by omega
    all_goals exact Int32.lt_of_lt_of_le (show _ < (0 : Int32) by decide) (nI_pos' (by omega))
  · obtain ⟨k, rfl⟩ : ∃ k, L = k + 4 := ⟨L - 4, by omega⟩
    have e : nI (k + 4) - 4 = nI k := by
      rw [← nI_add k 4]
      exact Int32.add_sub_cancel (nI k) (nI 4)
    rw [e] at h
    rcases Nat.lt_or_ge k i with w | w
    · exact absurd (nI_lt w (by omega)) h
    · omega

set_option maxHeartbeats 4000000 in
set_option maxRecDepth 100000 in
theorem law_loop (hL : L ≤ 2048) : ∀ (m i : Nat) (a b' : tH) (f : Nat → Int64) (cells slots : Nat), L < i + 4 * m + 4 → i ≤ L + 4 → Zp a b' → cells ≤ 1000 + i → slots ≤ 10000 + 6 * i → VL G ad qo cL b L xs 23 (lvS ad qo b i) [] (mix a b') f cells slots := by
  intro m
  induction m with
  | zero =>
    intro i a b' f cells slots hm hi z hc hs
    refine y_iload 0 dL_law_23 rfl ?_
    refine y_aload 1 dL_law_25 rfl ?_
    refine y_slen dL_law_26 ?_
    refine y_iconst 4 dL_law_27 (by decide) ?_
    refine y_isub dL_law_28 ?_
    refine y_icmp_gt 480 dL_law_29 (by decide) (fun _ => ?_) (fun w => ?_)
    · exact y_end (by omega) (by omega)
    · have := sub4 hL w (by omega)
      omega
  | succ m ih =>
    intro i a b' f cells slots hm hi z hc hs
    refine y_iload 0 dL_law_23 rfl ?_
    refine y_aload 1 dL_law_25 rfl ?_
    refine y_slen dL_law_26 ?_
    refine y_iconst 4 dL_law_27 (by decide) ?_
    refine y_isub dL_law_28 ?_
    refine y_icmp_gt 480 dL_law_29 (by decide) (fun _ => ?_) (fun w => ?_)
    · exact y_end (by omega) (by omega)
    have hi4 := sub4 hL w (by omega)
    have nxt : ∀ (a2 b2 : tH) (f2 : Nat → Int64) (c2 s2 : Nat), Zp a2 b2 → c2 ≤ cells + 1 → s2 ≤ slots + 6 → VL G ad qo cL b L xs 474 (lvS ad qo b i) [] (mix a2 b2) f2 c2 s2 := by
      intro a2 b2 f2 c2 s2 z2 h1 h2
      refine y_iinc (i := 0) (lvS ad qo b (i + 4)) dL_law_474 rfl (nI_add i 4) (by decide) rfl ?_
      refine y_goto 23 dL_law_477 (by decide) ?_
      exact ih (i + 4) a2 b2 f2 c2 s2 (by omega) (by omega) z2 (by omega) (by omega)
    refine y_aload 1 dL_law_32 rfl ?_
    refine y_iload 0 dL_law_33 rfl ?_
    refine y_sld (by omega) (by omega) dL_law_35 ?_
    refine y_bipush 15 dL_law_36 (by decide) ?_
    refine y_iand dL_law_38 ?_
    rw [pk_and (xs i) (m := 15) 4 (by decide)]
    have hj : (xs i).toBitVec.toNat % 2 ^ 4 < 16 := Nat.mod_lt _ (by decide)
    generalize (xs i).toBitVec.toNat % 2 ^ 4 = j at hj
    obtain rfl | rfl | rfl | rfl | rfl | rfl | rfl | rfl | rfl | rfl | rfl | h11 : j = 0 ∨ j = 1 ∨ j = 2 ∨ j = 3 ∨ j = 4 ∨ j = 5 ∨ j = 6 ∨ j = 7 ∨ j = 8 ∨ j = 9 ∨ j = 10 ∨ 11 ≤ j := by omega
    · refine y_in 96 dL_law_39 (by decide) (by decide) (by decide) rfl (by decide) ?_
      obtain ⟨v, a2, b2, h6, h7, z2⟩ := op_program z
      refine y_aload 2 dL_law_96 rfl ?_
      refine y_call [] lL_19 kX6_program h6 dL_law_97 rfl rfl Nat.zero_lt_one rfl (by decide) (by decide) (Nat.le_of_ble_eq_true rfl) (by omega) (by omega) ?_
      refine y_aload 3 dL_law_100 rfl ?_
      refine y_call [] lL_23 kX7_program h7 dL_law_101 rfl rfl Nat.zero_lt_one rfl (by decide) (by decide) (Nat.le_of_ble_eq_true rfl) (by omega) (by omega) ?_
      refine y_icmp_eq 474 dL_law_104 (by decide) ?_
      exact nxt a2 b2 f cells slots z2 (by omega) (by omega)
    · refine y_in 109 dL_law_39 (by decide) (by decide) (by decide) rfl (by decide) ?_
      obtain ⟨v, a2, b2, h6, h7, z2⟩ := op_act (xs (i + 1)) (xs (i + 2)) z
      refine y_aload 2 dL_law_109 rfl ?_
      refine y_arg 1 1 0 dL_law_110 dL_law_111 dL_law_113 dL_law_114 dL_law_115 (by decide) rfl rfl (by omega) (by omega) ?_
      refine y_arg 2 1 0 dL_law_116 dL_law_117 dL_law_119 dL_law_120 dL_law_121 (by decide) rfl rfl (by omega) (by omega) ?_
      refine y_call [.inl (xs (i + 1)), .inl (xs (i + 2))] lL_24 kX6_act h6 dL_law_122 rfl rfl Nat.zero_lt_one rfl (by decide) (by decide) (Nat.le_of_ble_eq_true rfl) (by omega) (by omega) ?_
      refine y_aload 3 dL_law_125 rfl ?_
      refine y_arg 1 1 0 dL_law_126 dL_law_127 dL_law_129 dL_law_130 dL_law_131 (by decide) rfl rfl (by omega) (by omega) ?_
      refine y_arg 2 1 0 dL_law_132 dL_law_133 dL_law_135 dL_law_136 dL_law_137 (by decide) rfl rfl (by omega) (by omega) ?_
      refine y_call [.inl (xs (i + 1)), .inl (xs (i + 2))] lL_28 kX7_act h7 dL_law_138 rfl rfl Nat.zero_lt_one rfl (by decide) (by decide) (Nat.le_of_ble_eq_true rfl) (by omega) (by omega) ?_
      refine y_icmp_eq 474 dL_law_141 (by decide) ?_
      exact nxt a2 b2 f cells slots z2 (by omega) (by omega)
    · refine y_in 146 dL_law_39 (by decide) (by decide) (by decide) rfl (by decide) ?_
      obtain ⟨v, a2, b2, h6, h7, z2⟩ := op_begin (xs (i + 1)) (xs (i + 2)) (xs (i + 3)) z
      refine y_aload 2 dL_law_146 rfl ?_
      refine y_arg 1 1 0 dL_law_147 dL_law_148 dL_law_150 dL_law_151 dL_law_152 (by decide) rfl rfl (by omega) (by omega) ?_
      refine y_arg 2 1 0 dL_law_153 dL_law_154 dL_law_156 dL_law_157 dL_law_158 (by decide) rfl rfl (by omega) (by omega) ?_
      refine y_arg 3 1 0 dL_law_159 dL_law_160 dL_law_162 dL_law_163 dL_law_164 (by decide) rfl rfl (by omega) (by omega) ?_
      refine y_call [.inl (xs (i + 1)), .inl (xs (i + 2)), .inl (xs (i + 3))] lL_29 kX6_begin h6 dL_law_165 rfl rfl Nat.zero_lt_one rfl (by decide) (by decide) (Nat.le_of_ble_eq_true rfl) (by omega) (by omega) ?_
      refine y_aload 3 dL_law_168 rfl ?_
      refine y_arg 1 1 0 dL_law_169 dL_law_170 dL_law_172 dL_law_173 dL_law_174 (by decide) rfl rfl (by omega) (by omega) ?_
      refine y_arg 2 1 0 dL_law_175 dL_law_176 dL_law_178 dL_law_179 dL_law_180 (by decide) rfl rfl (by omega) (by omega) ?_
      refine y_arg 3 1 0 dL_law_181 dL_law_182 dL_law_184 dL_law_185 dL_law_186 (by decide) rfl rfl (by omega) (by omega) ?_
      refine y_call [.inl (xs (i + 1)), .inl (xs (i + 2)), .inl (xs (i + 3))] lL_33 kX7_begin h7 dL_law_187 rfl rfl Nat.zero_lt_one rfl (by decide) (by decide) (Nat.le_of_ble_eq_true rfl) (by omega) (by omega) ?_
      refine y_icmp_eq 474 dL_law_190 (by decide) ?_
      exact nxt a2 b2 f cells slots z2 (by omega) (by omega)
    · refine y_in 195 dL_law_39 (by decide) (by decide) (by decide) rfl (by decide) ?_
      obtain ⟨v, a2, b2, h6, h7, z2⟩ := op_fill (xs (i + 1)) (xs (i + 2)) z
      refine y_aload 2 dL_law_195 rfl ?_
      refine y_arg 1 1 0 dL_law_196 dL_law_197 dL_law_199 dL_law_200 dL_law_201 (by decide) rfl rfl (by omega) (by omega) ?_
      refine y_arg 2 1 0 dL_law_202 dL_law_203 dL_law_205 dL_law_206 dL_law_207 (by decide) rfl rfl (by omega) (by omega) ?_
      refine y_call [.inl (xs (i + 1)), .inl (xs (i + 2))] lL_34 kX6_fill h6 dL_law_208 rfl rfl Nat.zero_lt_one rfl (by decide) (by decide) (Nat.le_of_ble_eq_true rfl) (by omega) (by omega) ?_
      refine y_aload 3 dL_law_211 rfl ?_
      refine y_arg 1 1 0 dL_law_212 dL_law_213 dL_law_215 dL_law_216 dL_law_217 (by decide) rfl rfl (by omega) (by omega) ?_
      refine y_arg 2 1 0 dL_law_218 dL_law_219 dL_law_221 dL_law_222 dL_law_223 (by decide) rfl rfl (by omega) (by omega) ?_
      refine y_call [.inl (xs (i + 1)), .inl (xs (i + 2))] lL_37 kX7_fill h7 dL_law_224 rfl rfl Nat.zero_lt_one rfl (by decide) (by decide) (Nat.le_of_ble_eq_true rfl) (by omega) (by omega) ?_
      refine y_icmp_eq 474 dL_law_227 (by decide) ?_
      exact nxt a2 b2 f cells slots z2 (by omega) (by omega)
    · refine y_in 232 dL_law_39 (by decide) (by decide) (by decide) rfl (by decide) ?_
      obtain ⟨v, a2, b2, h6, h7, z2⟩ := op_step (xs (i + 1)) z
      refine y_aload 2 dL_law_232 rfl ?_
      refine y_arg 1 1 0 dL_law_233 dL_law_234 dL_law_236 dL_law_237 dL_law_238 (by decide) rfl rfl (by omega) (by omega) ?_
      refine y_call [.inl (xs (i + 1))] lL_38 kX6_step h6 dL_law_239 rfl rfl Nat.zero_lt_one rfl (by decide) (by decide) (Nat.le_of_ble_eq_true rfl) (by omega) (by omega) ?_
      refine y_aload 3 dL_law_242 rfl ?_
      refine y_arg 1 1 0 dL_law_243 dL_law_244 dL_law_246 dL_law_247 dL_law_248 (by decide) rfl rfl (by omega) (by omega) ?_
      refine y_call [.inl (xs (i + 1))] lL_41 kX7_step h7 dL_law_249 rfl rfl Nat.zero_lt_one rfl (by decide) (by decide) (Nat.le_of_ble_eq_true rfl) (by omega) (by omega) ?_
      refine y_icmp_eq 474 dL_law_252 (by decide) ?_
      exact nxt a2 b2 f cells slots z2 (by omega) (by omega)
    · refine y_in 257 dL_law_39 (by decide) (by decide) (by decide) rfl (by decide) ?_
      obtain ⟨v, a2, b2, h6, h7, z2⟩ := op_told (xs (i + 1)) z
      refine y_aload 2 dL_law_257 rfl ?_
      refine y_arg 1 1 0 dL_law_258 dL_law_259 dL_law_261 dL_law_262 dL_law_263 (by decide) rfl rfl (by omega) (by omega) ?_
      refine y_call [.inl (xs (i + 1))] lL_42 kX6_told h6 dL_law_264 rfl rfl Nat.zero_lt_one rfl (by decide) (by decide) (Nat.le_of_ble_eq_true rfl) (by omega) (by omega) ?_
      refine y_aload 3 dL_law_267 rfl ?_
      refine y_arg 1 1 0 dL_law_268 dL_law_269 dL_law_271 dL_law_272 dL_law_273 (by decide) rfl rfl (by omega) (by omega) ?_
      refine y_call [.inl (xs (i + 1))] lL_45 kX7_told h7 dL_law_274 rfl rfl Nat.zero_lt_one rfl (by decide) (by decide) (Nat.le_of_ble_eq_true rfl) (by omega) (by omega) ?_
      refine y_icmp_eq 474 dL_law_277 (by decide) ?_
      exact nxt a2 b2 f cells slots z2 (by omega) (by omega)
    · refine y_in 282 dL_law_39 (by decide) (by decide) (by decide) rfl (by decide) ?_
      obtain ⟨v, a2, b2, h6, h7, z2⟩ := op_thread (xs (i + 1)) (xs (i + 2)) z
      refine y_aload 2 dL_law_282 rfl ?_
      refine y_arg 1 1 0 dL_law_283 dL_law_284 dL_law_286 dL_law_287 dL_law_288 (by decide) rfl rfl (by omega) (by omega) ?_
      refine y_arg 2 1 0 dL_law_289 dL_law_290 dL_law_292 dL_law_293 dL_law_294 (by decide) rfl rfl (by omega) (by omega) ?_
      refine y_call [.inl (xs (i + 1)), .inl (xs (i + 2))] lL_46 kX6_thread h6 dL_law_295 rfl rfl Nat.zero_lt_one rfl (by decide) (by decide) (Nat.le_of_ble_eq_true rfl) (by omega) (by omega) ?_
      refine y_aload 3 dL_law_298 rfl ?_
      refine y_arg 1 1 0 dL_law_299 dL_law_300 dL_law_302 dL_law_303 dL_law_304 (by decide) rfl rfl (by omega) (by omega) ?_
      refine y_arg 2 1 0 dL_law_305 dL_law_306 dL_law_308 dL_law_309 dL_law_310 (by decide) rfl rfl (by omega) (by omega) ?_
      refine y_call [.inl (xs (i + 1)), .inl (xs (i + 2))] lL_49 kX7_thread h7 dL_law_311 rfl rfl Nat.zero_lt_one rfl (by decide) (by decide) (Nat.le_of_ble_eq_true rfl) (by omega) (by omega) ?_
      refine y_icmp_eq 474 dL_law_314 (by decide) ?_
      exact nxt a2 b2 f cells slots z2 (by omega) (by omega)
    · refine y_in 319 dL_law_39 (by decide) (by decide) (by decide) rfl (by decide) ?_
      obtain ⟨v, a2, b2, h6, h7, z2⟩ := op_queued (xs (i + 1)) z
      refine y_aload 2 dL_law_319 rfl ?_
      refine y_arg 1 1 0 dL_law_320 dL_law_321 dL_law_323 dL_law_324 dL_law_325 (by decide) rfl rfl (by omega) (by omega) ?_
      refine y_call [.inl (xs (i + 1))] lL_50 kX6_queued h6 dL_law_326 rfl rfl Nat.zero_lt_one rfl (by decide) (by decide) (Nat.le_of_ble_eq_true rfl) (by omega) (by omega) ?_
      refine y_aload 3 dL_law_329 rfl ?_
      refine y_arg 1 1 0 dL_law_330 dL_law_331 dL_law_333 dL_law_334 dL_law_335 (by decide) rfl rfl (by omega) (by omega) ?_
      refine y_call [.inl (xs (i + 1))] lL_53 kX7_queued h7 dL_law_336 rfl rfl Nat.zero_lt_one rfl (by decide) (by decide) (Nat.le_of_ble_eq_true rfl) (by omega) (by omega) ?_
      refine y_icmp_eq 474 dL_law_339 (by decide) ?_
      exact nxt a2 b2 f cells slots z2 (by omega) (by omega)
    · refine y_in 344 dL_law_39 (by decide) (by decide) (by decide) rfl (by decide) ?_
      obtain ⟨v, a2, b2, h6, h7, z2⟩ := op_box (xs (i + 1)) (xs (i + 2)) z
      refine y_aload 2 dL_law_344 rfl ?_
      refine y_arg 1 1 0 dL_law_345 dL_law_346 dL_law_348 dL_law_349 dL_law_350 (by decide) rfl rfl (by omega) (by omega) ?_
      refine y_arg 2 1 0 dL_law_351 dL_law_352 dL_law_354 dL_law_355 dL_law_356 (by decide) rfl rfl (by omega) (by omega) ?_
      refine y_call [.inl (xs (i + 1)), .inl (xs (i + 2))] lL_54 kX6_box h6 dL_law_357 rfl rfl Nat.zero_lt_one rfl (by decide) (by decide) (Nat.le_of_ble_eq_true rfl) (by omega) (by omega) ?_
      refine y_aload 3 dL_law_360 rfl ?_
      refine y_arg 1 1 0 dL_law_361 dL_law_362 dL_law_364 dL_law_365 dL_law_366 (by decide) rfl rfl (by omega) (by omega) ?_
      refine y_arg 2 1 0 dL_law_367 dL_law_368 dL_law_370 dL_law_371 dL_law_372 (by decide) rfl rfl (by omega) (by omega) ?_
      refine y_call [.inl (xs (i + 1)), .inl (xs (i + 2))] lL_57 kX7_box h7 dL_law_373 rfl rfl Nat.zero_lt_one rfl (by decide) (by decide) (Nat.le_of_ble_eq_true rfl) (by omega) (by omega) ?_
      refine y_icmp_eq 474 dL_law_376 (by decide) ?_
      exact nxt a2 b2 f cells slots z2 (by omega) (by omega)
    · refine y_in 381 dL_law_39 (by decide) (by decide) (by decide) rfl (by decide) ?_
      obtain ⟨v, a2, b2, h6, h7, z2⟩ := op_trace (xs (i + 1)) (xs (i + 2)) z
      refine y_aload 2 dL_law_381 rfl ?_
      refine y_arg 1 1 0 dL_law_382 dL_law_383 dL_law_385 dL_law_386 dL_law_387 (by decide) rfl rfl (by omega) (by omega) ?_
      refine y_arg 2 1 0 dL_law_388 dL_law_389 dL_law_391 dL_law_392 dL_law_393 (by decide) rfl rfl (by omega) (by omega) ?_
      refine y_call [.inl (xs (i + 1)), .inl (xs (i + 2))] lL_58 kX6_trace h6 dL_law_394 rfl rfl Nat.zero_lt_one rfl (by decide) (by decide) (Nat.le_of_ble_eq_true rfl) (by omega) (by omega) ?_
      refine y_aload 3 dL_law_397 rfl ?_
      refine y_arg 1 1 0 dL_law_398 dL_law_399 dL_law_401 dL_law_402 dL_law_403 (by decide) rfl rfl (by omega) (by omega) ?_
      refine y_arg 2 1 0 dL_law_404 dL_law_405 dL_law_407 dL_law_408 dL_law_409 (by decide) rfl rfl (by omega) (by omega) ?_
      refine y_call [.inl (xs (i + 1)), .inl (xs (i + 2))] lL_61 kX7_trace h7 dL_law_410 rfl rfl Nat.zero_lt_one rfl (by decide) (by decide) (Nat.le_of_ble_eq_true rfl) (by omega) (by omega) ?_
      refine y_icmp_eq 474 dL_law_413 (by decide) ?_
      exact nxt a2 b2 f cells slots z2 (by omega) (by omega)
    · refine y_in 418 dL_law_39 (by decide) (by decide) (by decide) rfl (by decide) ?_
      refine y_aload 2 dL_law_418 rfl ?_
      refine y_arg 1 1 0 dL_law_419 dL_law_420 dL_law_422 dL_law_423 dL_law_424 (by decide) rfl rfl (by omega) (by omega) ?_
      refine y_aload 4 dL_law_425 rfl ?_
      rcases op_share (xs (i + 1)) z with ⟨v, h6, h7, z2⟩ | ⟨T, t, hT, h24, ht, et, h0, h7, z2⟩
      · refine y_share (fun l _ sz => ls_ret h6 l G ad sz qo cL f) dL_law_426 (Nat.le_of_ble_eq_true rfl) (by omega) (by omega) (fun f' hf' => ?_)
        refine y_istore ((5, .int 0) :: lvS ad qo b i) dL_law_429 (by decide) rfl ?_
        refine y_aload 4 dL_law_431 rfl ?_
        refine y_arg 1 2 1 dL_law_432 dL_law_433 dL_law_435 dL_law_436 dL_law_437 (by decide) rfl rfl (by omega) (by omega) ?_
        refine y_call [.inl (xs (i + 1))] lL_67 kX7_share h7 dL_law_438 rfl rfl Nat.zero_lt_one rfl (by decide) (by decide) (Nat.le_of_ble_eq_true rfl) (by omega) (by omega) ?_
        refine y_istore ((6, .int v) :: (5, .int 0) :: lvS ad qo b i) dL_law_441 (by decide) rfl ?_
        refine y_aload 5 dL_law_443 rfl ?_
        refine y_call (v := 0) [] lL_68 kX7_thrown c_X7_thrown dL_law_444 rfl rfl Nat.zero_lt_one rfl (by decide) (by decide) (Nat.le_of_ble_eq_true rfl) (by omega) (by omega) ?_
        refine y_iload 1 dL_law_447 rfl ?_
        refine y_icmp_eq 454 dL_law_449 (by decide) ?_
        refine y_iload 1 dL_law_454 rfl ?_
        refine y_if_ne 471 dL_law_456 (by decide) (fun w => absurd rfl w) (fun _ => ?_)
        refine y_aload 6 dL_law_459 rfl ?_
        refine y_iconst 0 dL_law_460 (by decide) ?_
        refine y_lald hf' dL_law_461 ?_
        refine y_iload 0 dL_law_462 rfl ?_
        refine y_i2l dL_law_464 ?_
        refine y_lcmp dL_law_465 ?_
        refine y_if_eq 471 dL_law_466 (by decide) (fun _ => ?_) (fun w => absurd rfl w)
        refine y_goto 474 dL_law_471 (by decide) ?_
        refine y_lv (lvS ad qo b i) [2, 3, 4, 5, 6] rfl ?_
        exact nxt _ _ f' _ _ z2 (by omega) (by omega)
      · rw [et] at h7 ⊢
        refine y_share (fun l hl sz => ls_thr hT h24 ht h0 l hl G ad sz qo cL f) dL_law_426 (Nat.le_of_ble_eq_true rfl) (by omega) (by omega) (fun f' hf' => ?_)
        refine y_istore ((5, .int 1) :: lvS ad qo b i) dL_law_429 (by decide) rfl ?_
        refine y_aload 4 dL_law_431 rfl ?_
        refine y_arg 1 2 1 dL_law_432 dL_law_433 dL_law_435 dL_law_436 dL_law_437 (by decide) rfl rfl (by omega) (by omega) ?_
        rw [et]
        refine y_call [.inl (nI t)] lL_67 kX7_share h7 dL_law_438 rfl rfl Nat.zero_lt_one rfl (by decide) (by decide) (Nat.le_of_ble_eq_true rfl) (by omega) (by omega) ?_
        refine y_istore ((6, .int 0) :: (5, .int 1) :: lvS ad qo b i) dL_law_441 (by decide) rfl ?_
        refine y_aload 5 dL_law_443 rfl ?_
        refine y_call (v := 1) [] lL_68 kX7_thrown c_X7_thrown dL_law_444 rfl rfl Nat.zero_lt_one rfl (by decide) (by decide) (Nat.le_of_ble_eq_true rfl) (by omega) (by omega) ?_
        refine y_iload 1 dL_law_447 rfl ?_
        refine y_icmp_eq 454 dL_law_449 (by decide) ?_
        refine y_iload 1 dL_law_454 rfl ?_
        refine y_if_ne 471 dL_law_456 (by decide) (fun _ => ?_) (fun w => absurd w (by decide))
        refine y_goto 474 dL_law_471 (by decide) ?_
        refine y_lv (lvS ad qo b i) [2, 3, 4, 5, 6] rfl ?_
        exact nxt _ _ f' _ _ z2 (by omega) (by omega)
    · refine y_out 474 dL_law_39 (by omega) (by omega) (by decide) ?_
      exact nxt a b' f cells slots z (by omega) (by omega)
end LawRows
