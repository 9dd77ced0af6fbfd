/-! Constructors: a judgement over worlds that grow -/
abbrev rmc (d mc ms : Nat) : Room := { frames := d, cells := mc, slots := ms, locals := 27 * d }
def Ab (U : State) : Prop := (Cond.arrayClass .int).before #[] U = true ∧ (Cond.arrayClass .boolean).before #[] U = true ∧ va_AO RX1 U ∧ va_AOA .int U
theorem AOA_moved {u U : State} (hvm : u.vm.Alike U.vm) (h : va_AOA .int u) : va_AOA .int U := by
  obtain ⟨comp, c, k, h1, h2, h3, h4, h5⟩ := Jvm.Stand.arrayOver_specB h
  obtain ⟨k', hk', he⟩ := hvm.2.2 _ _ h3
  have hi : (U.vm.classes.findIdx? fun (x : Class) => match x.kind with | .array component _ => component == comp | _ => false) = some c := by
    have e1 := va_idx_bare U.vm comp
    have e2 := va_idx_bare u.vm comp
    have eb : U.vm.bare = u.vm.bare := by first | exact hvm.bare_eq | exact hvm.bare_eq.symm
    rw [eb] at e1
    exact e1.symm.trans (e2.trans h2)
  have hkind : k'.kind = .array comp (.array .int) := by rw [he]; exact h4
  have f1 : U.vm.findClass (FieldType.array .int).toString = some comp := by rw [hvm.findClass]; exact h1
  have f2 : U.vm.findClass ("[" ++ (FieldType.array .int).toString) = some c := by rw [hvm.findClass]; exact h5
  unfold va_AOA Cond.before Cond.holds
  simp only [Cond.value]
  rw [f1, Option.bind_some]
  refine (congrArg (fun o : Option Nat => (o.bind (fun c => (U.vm.classes[c]?).map fun (k : Class) => match k.kind with | .array _ ty => decide (ty = FieldType.array .int) && decide (U.vm.findClass ("[" ++ (FieldType.array .int).toString) = some c) | _ => false) == some true)) hi).trans ?_
  simp [hk', hkind, f2]
theorem Ab.warm {s U : State} (hW : s.WarmedH U.vm) (h : Ab s) : Ab U := by
  exact ⟨word_at hW (Or.inr ⟨_, rfl⟩) h.1, word_at hW (Or.inr ⟨_, rfl⟩) h.2.1, va_AO.moved hW.alike h.2.2.1, AOA_moved hW.alike h.2.2.2⟩
def CN (G : tG) (p : Program) (s : State) (m : MethodId) (meth : Method) (c : Code) (own : String) (cc : ByteArray) (nL : Nat) : Prop :=
  p.tables.exec = Jvm.exec ∧ c.code = cc ∧ c.maxLocals = nL ∧ meth.sig.returnType = none ∧ s.vm.findClass own = some m.cls ∧ meth.locks = false ∧ Tb s ∧ va_K G.1 vwCl (tyG G) s ∧ meth.name = "<init>" ∧ Ab s
def Qn (G : tG) (A : Nat → Prop) (Q : va_W → Prop) : Array Value → State → Outcome → State → Prop := fun _ st oc t =>
  (∃ w, oc = .returned none ∧ Q w ∧ va_P G.1 vwCl w t.heap ∧ va_D A w) ∧ va_F A st t
def Vn (G : tG) (own : String) (cc : ByteArray) (nL d mc ms : Nat) (Q : va_W → Prop) (pc : Nat) (lv : List (Nat × Value)) (st : List Value) (w : va_W) (cells slots : Nat) : Prop :=
  ∀ (p : Program) (l : Launch) (e : Env) (s : State) (m : MethodId) (args : Array Value) (below : List Frame) (meth : Method) (c : Code) (A : Nat → Prop) (H : Heap) (locs : List Loc) (ls : Array Slot),
    CN G p s m meth c own cc nL → va_P G.1 vwCl w H → va_D A w → Sx A s.heap H locs → lv_has ls nL lv →
    W p l e (rmc d mc ms) s m args below meth c H locs cells slots (MQ below (Qn G A Q) args s mc ms A) (F0 m pc ls st)
def Pn (G : tG) (sz : Nat) (w : va_W) (U : State) : Prop := U.heap.size = sz ∧ va_P G.1 vwCl w U.heap ∧ va_D (fun _ => True) w ∧ va_K G.1 vwCl (tyG G) U ∧ Tb U ∧ Ab U
def Kt (y : MethodName) (cc : ByteArray) (maxL d mc ms : Nat) (G : tG) (as : List Value) (w0 : va_W) (Q : va_W → Prop) : Prop :=
  ∀ (l : Launch) (sz : Nat), Met l y [Cond.code y cc maxL none] (rmc d mc ms) (va_Pc as (Pn G sz w0)) (Qn G (va_A w0 sz) Q) mc ms (va_A w0 sz)
theorem Kt.of {y : MethodName} {cc : ByteArray} {maxL d mc ms : Nat} {G : tG} {as : List Value} {w0 : va_W} {Q : va_W → Prop} (hy : plainName y.cls = true) (hni : y.name = "<init>") (hm : (lg_sl as).length ≤ maxL) (hv : Vn G y.cls cc maxL d mc ms Q 0 (lv_args 0 as) [] w0 0 0) : Kt y cc maxL d mc ms G as w0 Q := by
  intro l sz
  refine Met.ofW (cc := cc) (maxL := maxL) (ret := none) hy rfl ?_
  intro p e s m args below meth c s₁ B hml hvp
  obtain ⟨rfl, hsz, hP, hD0, hK, hT, hAb⟩ := hvp
  have hown : s.vm.findClass y.cls = some m.cls := findClass_of_methodNamed B.named
  have hin : meth.name = "<init>" := (name_of_methodNamed B.named B.method).1.trans hni
  subst hsz
  have hD := hD0.self (sz := s.heap.size)
  have hl := lv_entry as (n := maxL) hm
  rw [lg_entry_eq]
  exact hv p l e s m _ below meth c _ s.heap [] _ ⟨B.exec, B.bytes, hml, B.returns, hown, B.notSynchronized, hT, hK, hin, hAb⟩ hP hD ⟨va_S.rf, fun q h => Or.inr h⟩ hl
theorem Pn_blind (G : tG) (sz : Nat) (w : va_W) (as : List Value) : FrameBlind (va_Pc as (Pn G sz w)) := by
  intro a U g mk q
  obtain ⟨q0, q1, q2, q3, q4, q5, q6⟩ := q
  exact ⟨q0, q1, q2, q3, va_K.moved (u := U) (U := U.calling g mk a) (Vm.Alike.refl U.vm) q4, Tb.same (u := U) (U := U.calling g mk a) rfl q5, q6⟩
theorem va_calln {p : Program} {l : Launch} {e : Env} {R : Room} {s : State} {m : MethodId} {args : Array Value} {below : List Frame} {meth : Method} {c : Code} {H : Heap} {locs : List Loc} {cells slots : Nat} {Qx : State → Prop} {pc : Nat} {ls : Array Slot} {rest st0 : List Value} {a : Array Value} {A0 A1 : Nat → Prop} {H0 : Heap} {mc ms : Nat} {free : Addr → Prop} {G : tG} {Q' : va_W → Prop}
    (hr : va_Run p l e R s m args below meth c H locs cells slots mc ms (F0 m pc ls st0) rest (Qn G A1 Q' a) free) (hS : va_S A0 H0 H locs) (hA : ∀ q, q < H.size → A1 q → A0 q) (hf : ∀ q, free q → A0 q)
    (kk : ∀ (w1 : va_W) (H1 : Heap) (locs1 : List Loc), Q' w1 → va_P G.1 vwCl w1 H1 → va_D A1 w1 → (∀ q, q < H.size → ¬ A1 q → H1[q]? = H[q]?) → va_S A0 H0 H1 locs1 → W p l e R s m args below meth c H1 locs1 (cells + mc) (slots + ms) Qx (F0 m (pc + 3) ls rest)) : W p l e R s m args below meth c H locs cells slots Qx (F0 m pc ls st0) := by
  intro T hT X
  obtain ⟨v, st₀, t, T', L, h0, X', hL, e1, e2, ⟨⟨w1, hv, hp, hb1, hb2⟩, hz, hk⟩, st⟩ := hr T hT X
  cases hv
  rw [h0] at hz hk
  obtain ⟨t2, a1, b1⟩ := kk w1 T'.heap (locs ++ L) hp (by rw [e1]; exact hb1) hb2 (fun q h1 h2 => by rw [e1]; exact hk q h1 h2)
    ⟨Nat.le_trans hS.1 (by rw [e1]; exact hz), fun q h1 h2 => by rw [e1, hk q (Nat.lt_of_lt_of_le h1 hS.1) (fun z => h2 (hA q (Nat.lt_of_lt_of_le h1 hS.1) z))]; exact hS.2.1 q h1 h2, fun q hq => by
      rcases List.mem_append.mp hq with h | h
      · exact hS.2.2 q h
      · exact hf _ (hL q h)⟩ T' rfl X'
  exact ⟨t2, st t2 a1, b1⟩
theorem joinL {A : Nat → Prop} {D : va_G} {cl : List vw_C} {wr w1 : va_W} {c0 : Nat × va_E} {H H1 : Heap} (hP : va_P D cl (wr ++ [c0]) H) (hD : va_D A (wr ++ [c0])) (hk : ∀ q, q < H.size → ¬ va_A [c0] H.size q → H1[q]? = H[q]?) (hF : ∀ q, va_A [c0] H.size q → A q) (hP1 : va_P D cl w1 H1) (hD1 : va_D (va_A [c0] H.size) w1) : va_P D cl (wr ++ w1) H1 ∧ va_D A (wr ++ w1) := by
  have inl : ∀ (k : Nat) (q : Nat × va_E), wr[k]? = some q → (wr ++ [c0])[k]? = some q := fun k q h => by
    rw [List.getElem?_append_left ((List.getElem?_eq_some_iff.mp h).1)]; exact h
  have ap : ∀ (k : Nat) (q : Nat × va_E), wr[k]? = some q → q.1 < H.size ∧ ¬ va_A [c0] H.size q.1 := by
    intro k q h
    have hl := (hP k q (inl k q h)).lt
    refine ⟨hl, fun w => ?_⟩
    rcases w with ⟨k2, e, h2⟩ | w
    · have hk2 : k2 < 1 := (List.getElem?_eq_some_iff.mp h2).1
      rw [show k2 = 0 by omega] at h2
      cases h2
      have := hD.1 k wr.length q (q.1, e) (inl k q h) (by rw [List.getElem?_append_right (Nat.le_refl _)]; simp) rfl
      have hlt := (List.getElem?_eq_some_iff.mp h).1
      omega
    · omega
  refine ⟨va_P.app (fun k q h => (hP k q (inl k q h)).kept (hk q.1 (ap k q h).1 (ap k q h).2)) hP1, va_D.app ⟨fun i j x y hi hj e => hD.1 i j x y (inl i x hi) (inl j y hj) e, fun k q h => hD.2 k q (inl k q h)⟩ (hD1.weaken (fun k q _ h => hF q.1 h)) (fun i j x y hx hy e => (ap i x hx).2 (by rw [e]; exact hD1.2 j y hy))⟩
def FP (own : String) (idx ci k N : Nat) (fin : Bool) (ty : FieldType) : Prop := ∃ (T : u_T) (ty0 : Nat → FieldType), vwCl[ci]? = some (own, T, N) ∧ (∀ w ∈ u_ws own T N, w ∈ lw_tbl) ∧ (T k).1 = own ∧ k < N ∧ (∀ k, k < N → parseFieldDescriptor (T k).2.2.1 = some (ty0 k)) ∧ (∀ a, a < N → ∀ b, b < N → a ≠ b → (T a).2.1 ≠ (T b).2.1) ∧ (T k).2.2.2 = fin ∧ parseFieldDescriptor (T k).2.2.1 = some ty ∧ Cond.fieldLink own idx own (T k).2.1 (T k).2.2.1 ∈ lw_tbl
def NQ (own : String) (idx ci N : Nat) (C : String) (fs : List Value) : Prop := ∃ (T : u_T) (ty0 : Nat → FieldType), vwCl[ci]? = some (C, T, N) ∧ (∀ w ∈ u_ws C T N, w ∈ lw_tbl) ∧ (∀ k, k < N → parseFieldDescriptor (T k).2.2.1 = some (ty0 k)) ∧ Cond.classLink own idx C ∈ lw_tbl ∧ Cond.instantiable C N ∈ lw_tbl ∧ Cond.initialized C ∈ lw_tbl ∧ ∀ j, j < N → defaultValue (ty0 j) = vp_V fs j
def IQn (own : String) (idx : Nat) (y : MethodName) (n : Nat) : Prop := (Cond.methodLink own idx y ∈ lw_tbl ∨ ∃ host, Cond.methodLinkNest own idx y host ∈ lw_tbl) ∧ Cond.instanceMethod y ∈ lw_tbl ∧ Cond.initialized y.cls ∈ lw_tbl ∧ y.name = "<init>" ∧ y.cls ≠ "java/lang/invoke/MethodHandle" ∧ y.cls ≠ "java/lang/invoke/VarHandle" ∧ (parseMethodDescriptor y.desc).map (fun d => d.parameters.length) = some n
section VnRows
variable {G : tG} {own : String} {cc : ByteArray} {nL d mc ms : Nat} {Q : va_W → Prop} {pc : Nat} {lv : List (Nat × Value)} {st : List Value} {w : va_W} {cells slots : Nat}
theorem n_aload {j : Fin 4} {a : Nat} (i : Nat) (hdg : decode cc pc = .ok (.aload_n j, 1)) (hg : lv[i]? = some ((j : Nat), .ref a)) (k : Vn G own cc nL d mc ms Q (pc + 1) lv (.ref a :: st) w cells slots) : Vn G own cc nL d mc ms Q pc lv st w cells slots :=
  fun p l e s m args below meth c A H locs ls C hP hD hS hl => lv_aload_n C.1 C.2.1 hdg rfl (lv_at hl i hg) (k p l e s m args below meth c A H locs ls C hP hD hS hl)
theorem n_iload {j : Fin 4} {x : Int32} (i : Nat) (hdg : decode cc pc = .ok (.iload_n j, 1)) (hg : lv[i]? = some ((j : Nat), .int x)) (k : Vn G own cc nL d mc ms Q (pc + 1) lv (.int x :: st) w cells slots) : Vn G own cc nL d mc ms Q pc lv st w cells slots :=
  fun p l e s m args below meth c A H locs ls C hP hD hS hl => lv_iload_n C.1 C.2.1 hdg rfl (lv_at hl i hg) (k p l e s m args below meth c A H locs ls C hP hD hS hl)
theorem n_iconst {n : Int} (x : Int32) (hdg : decode cc pc = .ok (.iconst n, 1)) (hv : Int32.ofInt n = x) (k : Vn G own cc nL d mc ms Q (pc + 1) lv (.int x :: st) w cells slots) : Vn G own cc nL d mc ms Q pc lv st w cells slots :=
  fun p l e s m args below meth c A H locs ls C hP hD hS hl => lv_iconst C.1 C.2.1 hdg hv (k p l e s m args below meth c A H locs ls C hP hD hS hl)
theorem n_bipush {n : Int} (x : Int32) (hdg : decode cc pc = .ok (.bipush n, 2)) (hv : (Int8.ofInt n).toInt32 = x) (k : Vn G own cc nL d mc ms Q (pc + 2) lv (.int x :: st) w cells slots) : Vn G own cc nL d mc ms Q pc lv st w cells slots :=
  fun p l e s m args below meth c A H locs ls C hP hD hS hl => lv_bipush C.1 C.2.1 hdg hv (k p l e s m args below meth c A H locs ls C hP hD hS hl)
theorem n_sipush {n : Int} (x : Int32) (hdg : decode cc pc = .ok (.sipush n, 3)) (hv : (Int16.ofInt n).toInt32 = x) (k : Vn G own cc nL d mc ms Q (pc + 3) lv (.int x :: st) w cells slots) : Vn G own cc nL d mc ms Q pc lv st w cells slots :=
  fun p l e s m args below meth c A H locs ls C hP hD hS hl => lv_sipush C.1 C.2.1 hdg hv (k p l e s m args below meth c A H locs ls C hP hD hS hl)
theorem n_dup {v : Value} (hdg : decode cc pc = .ok (.dup, 1)) (hv : v.category = 1) (k : Vn G own cc nL d mc ms Q (pc + 1) lv (v :: v :: st) w cells slots) : Vn G own cc nL d mc ms Q pc lv (v :: st) w cells slots :=
  fun p l e s m args below meth c A H locs ls C hP hD hS hl => lv_dup C.1 C.2.1 hdg hv (k p l e s m args below meth c A H locs ls C hP hD hS hl)
theorem n_goto {off : Int} (tgt : Nat) (hdg : decode cc pc = .ok (.goto off, 3)) (ht : (pc : Int) + off = (tgt : Int)) (k : Vn G own cc nL d mc ms Q tgt lv st w cells slots) : Vn G own cc nL d mc ms Q pc lv st w cells slots :=
  fun p l e s m args below meth c A H locs ls C hP hD hS hl => lv_goto C.1 C.2.1 hdg ht (k p l e s m args below meth c A H locs ls C hP hD hS hl)
theorem n_icmp_ge {x y : Int32} {off : Int} (tgt : Nat) (hdg : decode cc pc = .ok (.if_icmp .ge off, 3)) (ht : (pc : Int) + off = (tgt : Int)) (kt : y ≤ x → Vn G own cc nL d mc ms Q tgt lv st w cells slots) (kf : ¬ y ≤ x → Vn G own cc nL d mc ms Q (pc + 3) lv st w cells slots) : Vn G own cc nL d mc ms Q pc lv (.int y :: .int x :: st) w cells slots :=
  fun p l e s m args below meth c A H locs ls C hP hD hS hl => lv_icmp_ge C.1 C.2.1 hdg ht (fun z => kt z p l e s m args below meth c A H locs ls C hP hD hS hl) (fun z => kf z p l e s m args below meth c A H locs ls C hP hD hS hl)
theorem n_istore {j : Fin 4} {x : Int32} (lv' : List (Nat × Value)) (hdg : decode cc pc = .ok (.istore_n j, 1)) (hn : (j : Nat) < nL) (hs : (((j : Nat), Value.int x) :: lv.filter (fun q => !(q.1 == (j : Nat)) && !(q.1 + 1 == (j : Nat) && q.2.category == 2))) = lv') (k : Vn G own cc nL d mc ms Q (pc + 1) lv' st w cells slots) : Vn G own cc nL d mc ms Q pc lv (.int x :: st) w cells slots := by
  subst hs
  intro p l e s m args below meth c A H locs ls C hP hD hS hl
  exact lv_istore_n C.1 C.2.1 hdg rfl hl hn rfl (fun ls' hl' => k p l e s m args below meth c A H locs ls' C hP hD hS hl')
theorem n_iinc {j i : Nat} {n : Int} {x y : Int32} (lv' : List (Nat × Value)) (hdg : decode cc pc = .ok (.iinc j n, 3)) (hg : lv[i]? = some (j, .int x)) (hy : x + Int32.ofInt n = y) (hn : j < nL) (hs : ((j, Value.int y) :: lv.filter (fun q => !(q.1 == j) && !(q.1 + 1 == j && q.2.category == 2))) = lv') (k : Vn G own cc nL d mc ms Q (pc + 3) lv' st w cells slots) : Vn G own cc nL d mc ms Q pc lv st w cells slots := by
  subst hs
  intro p l e s m args below meth c A H locs ls C hP hD hS hl
  exact lv_iinc (k := i) C.1 C.2.1 hdg hl hg hy hn rfl (fun ls' hl' => k p l e s m args below meth c A H locs ls' C hP hD hS hl')
theorem n_lv (lv' : List (Nat × Value)) (is : List Nat) (hs : lv_pick lv is = lv') (k : Vn G own cc nL d mc ms Q pc lv' st w cells slots) : Vn G own cc nL d mc ms Q pc lv st w cells slots :=
  fun p l e s m args below meth c A H locs ls C hP hD hS hl => k p l e s m args below meth c A H locs ls C hP hD hS (lv_sub hl is hs)
theorem n_obj {idx a : Nat} (hlk : Cond.methodLink own idx Lib.objectInit ∈ lw_tbl) (hdg : decode cc pc = .ok (.invokespecial idx, 3)) (h1 : 1 ≤ d) (k : Vn G own cc nL d mc ms Q (pc + 3) lv [] w cells slots) : Vn G own cc nL d mc ms Q pc lv [.ref a] w cells slots := by
  intro p l e s m args below meth c A H locs ls C hP hD hS hl
  have hT := C.2.2.2.2.2.2.1
  exact W.objInit C.1 C.2.1 C.2.2.2.2.1 (hT.use hlk rfl) (hT.use (by decide +kernel) rfl) (hT.use (by decide +kernel) rfl) rfl (by rw [C.2.2.1]; exact hl.1) rfl hdg h1 (by show 12 ≤ 27 * d; omega) (k p l e s m args below meth c A H locs ls C hP hD hS hl)
theorem n_put {a ci k N idx : Nat} {fs : List Value} {fin : Bool} {ty : FieldType} {v : Value} (hf : FP own idx ci k N fin ty) (hfl : fs.length = N) (hn : narrow ty v = v) (hft : fits ty v = true) (hdg : decode cc pc = .ok (.putfield idx, 3)) (kk : Vn G own cc nL d mc ms Q (pc + 3) lv st ((a, .inr (ci, fs.set k v)) :: w) cells slots) : Vn G own cc nL d mc ms Q pc lv (v :: .ref a :: st) ((a, .inr (ci, fs)) :: w) cells slots := by
  obtain ⟨T, ty0, hcl, hin, hdecl, hkN, hty, hnm, hfin, hpt, hlk⟩ := hf
  intro p l e s m args below meth c A H locs ls C hP hD hS hl
  have hT := C.2.2.2.2.2.2.1
  have hkk := fun H1 locs1 a1 a2 a3 => kk p l e s m args below meth c A H1 locs1 ls C a1 a2 ⟨a3, hS.2⟩ hl
  cases fin with
  | false => exact va_put C.1 C.2.1 (Ts := u_ws own T N) (fun w hw => hT.use (hin w hw) (uws_ok w hw)) (fun _ h => h) ty0 hty hnm C.2.2.2.2.1 C.2.2.2.2.2.2.2.1 hP hD hS.1 0 rfl hcl k hkN (hT.use hlk rfl) (fun x h9 => by rw [hdecl] at h9; exact h9) hfin hpt hn hft (by rw [hfl]; exact hkN) hdg hkk
  | true => exact va_putF C.1 C.2.1 (Ts := u_ws own T N) (fun w hw => hT.use (hin w hw) (uws_ok w hw)) (fun _ h => h) ty0 hty hnm C.2.2.2.2.1 C.2.2.2.2.2.2.2.1 hP hD hS.1 0 rfl hcl k hkN (hT.use hlk rfl) (fun x h9 => by rw [hdecl] at h9; exact h9) hfin C.2.2.2.2.2.2.2.2.1 hdecl hpt hn hft (by rw [hfl]; exact hkN) hdg hkk
theorem n_get {a ci k N idx : Nat} {fs : List Value} {fin : Bool} {ty : FieldType} {v : Value} (hf : FP own idx ci k N fin ty) (hv : fs[k]? = some v) (hdg : decode cc pc = .ok (.getfield idx, 3)) (kk : Vn G own cc nL d mc ms Q (pc + 3) lv (v :: st) ((a, .inr (ci, fs)) :: w) cells slots) : Vn G own cc nL d mc ms Q pc lv (.ref a :: st) ((a, .inr (ci, fs)) :: w) cells slots := by
  obtain ⟨T, ty0, hcl, hin, hdecl, hkN, hty, hnm, hfin, hpt, hlk⟩ := hf
  intro p l e s m args below meth c A H locs ls C hP hD hS hl
  have hT := C.2.2.2.2.2.2.1
  exact va_get C.1 C.2.1 (Ts := u_ws own T N) (fun w hw => hT.use (hin w hw) (uws_ok w hw)) (fun _ h => h) C.2.2.2.2.1 C.2.2.2.2.2.2.2.1 hP 0 rfl hcl k hkN (hT.use hlk rfl) (fun x h9 => by rw [hdecl] at h9; exact h9) hv hdg (kk p l e s m args below meth c A H locs ls C hP hD hS hl)
theorem ktI {s : State} {cA : ClassId} (hK : va_K G.1 vwCl (tyG G) s) (hK' : va_K G.1 vwCl (tyG G ++ [(cA, .int)]) s) : cA = G.2 0 := Option.some.inj ((hK'.2 4 _ rfl).2.symm.trans (hK.2 0 _ rfl).2)
theorem ktZ {s : State} {cA : ClassId} (hK : va_K G.1 vwCl (tyG G) s) (hK' : va_K G.1 vwCl (tyG G ++ [(cA, .boolean)]) s) : cA = G.2 1 := Option.some.inj ((hK'.2 4 _ rfl).2.symm.trans (hK.2 1 _ rfl).2)
theorem ktF {s : State} {cA : ClassId} (hK : va_K G.1 vwCl (tyG G) s) (hK' : va_K G.1 vwCl (tyG G ++ [(cA, .object RX1)]) s) : cA = G.2 2 := by
  obtain ⟨-, -, -, -, -, h1⟩ := (hK'.2 4 _ rfl).2
  obtain ⟨-, -, -, -, -, h2⟩ := (hK.2 2 _ rfl).2
  exact Option.some.inj (h1.symm.trans h2)
theorem ktA {s : State} {cA : ClassId} (hK : va_K G.1 vwCl (tyG G) s) (hK' : va_K G.1 vwCl (tyG G ++ [(cA, .array .int)]) s) : cA = G.2 3 := Option.some.inj ((hK'.2 4 _ rfl).2.symm.trans (hK.2 3 _ rfl).2)
theorem n_newI {n : Int32} {N : Nat} (hdg : decode cc pc = .ok (.newarray .int, 2)) (hN : n = nI N) (h100 : N ≤ 1000) (hc : cells + 1 ≤ mc) (hs : slots + N ≤ ms) (kk : ∀ q, Vn G own cc nL d mc ms Q (pc + 2) lv (.ref q :: st) (w ++ [(q, .inl (G.2 0, N, .inl (fun _ => 0)))]) (cells + 1) (slots + N)) : Vn G own cc nL d mc ms Q pc lv (.int n :: st) w cells slots := by
  subst hN
  intro p l e s m args below meth c A H locs ls C hP hD hS hl
  have hT := C.2.2.2.2.2.2.1
  have hK := C.2.2.2.2.2.2.2.1
  refine va_newa (R := rmc d mc ms) (cells := cells) (slots := slots) C.1 C.2.1 (n := nI N) (N' := N) (atype := .int) (show (Cond.arrayClass .int).before args s = true from C.2.2.2.2.2.2.2.2.2.1) rfl hK hP hD hS.1 hS.2 (a0 := (N, .inl (fun _ => 0))) (fun _ => rfl) (nI_pos (by omega)) (nI_clamp (by omega)) (by show N * 4 ≤ 536870912; omega) hc (by exact hs) hdg (fun q cA H1 hK1 hP1 hD1 hS1 => ?_)
  have := ktI hK hK1
  subst this
  exact kk q p l e s m args below meth c A H1 locs ls C hP1 hD1 ⟨hS1, hS.2⟩ hl
theorem n_newZ {n : Int32} {N : Nat} (hdg : decode cc pc = .ok (.newarray .boolean, 2)) (hN : n = nI N) (h100 : N ≤ 1000) (hc : cells + 1 ≤ mc) (hs : slots + N ≤ ms) (kk : ∀ q, Vn G own cc nL d mc ms Q (pc + 2) lv (.ref q :: st) (w ++ [(q, .inl (G.2 1, N, .inl (fun _ => 0)))]) (cells + 1) (slots + N)) : Vn G own cc nL d mc ms Q pc lv (.int n :: st) w cells slots := by
  subst hN
  intro p l e s m args below meth c A H locs ls C hP hD hS hl
  have hT := C.2.2.2.2.2.2.1
  have hK := C.2.2.2.2.2.2.2.1
  refine va_newa (R := rmc d mc ms) (cells := cells) (slots := slots) C.1 C.2.1 (n := nI N) (N' := N) (atype := .boolean) (show (Cond.arrayClass .boolean).before args s = true from C.2.2.2.2.2.2.2.2.2.2.1) rfl hK hP hD hS.1 hS.2 (a0 := (N, .inl (fun _ => 0))) (fun _ => rfl) (nI_pos (by omega)) (nI_clamp (by omega)) (by show N * 1 ≤ 536870912; omega) hc (by exact hs) hdg (fun q cA H1 hK1 hP1 hD1 hS1 => ?_)
  have := ktZ hK hK1
  subst this
  exact kk q p l e s m args below meth c A H1 locs ls C hP1 hD1 ⟨hS1, hS.2⟩ hl
theorem n_newF {n : Int32} {N idx : Nat} (hdg : decode cc pc = .ok (.anewarray idx, 3)) (hlk : Cond.classLink own idx RX1 ∈ lw_tbl) (hN : n = nI N) (h100 : N ≤ 1000) (hc : cells + 1 ≤ mc) (hs : slots + N ≤ ms) (kk : ∀ q, Vn G own cc nL d mc ms Q (pc + 3) lv (.ref q :: st) (w ++ [(q, .inl (G.2 2, N, .inr (.inr (.inr (.inr (fun _ => none))))))]) (cells + 1) (slots + N)) : Vn G own cc nL d mc ms Q pc lv (.int n :: st) w cells slots := by
  subst hN
  intro p l e s m args below meth c A H locs ls C hP hD hS hl
  have hT := C.2.2.2.2.2.2.1
  have hK := C.2.2.2.2.2.2.2.1
  refine va_newq C.1 C.2.1 C.2.2.2.2.1 (hT.use hlk rfl) C.2.2.2.2.2.2.2.2.2.2.2.1 hK hP hD hS.1 hS.2 (nI_pos (by omega)) (nI_clamp (by omega)) (by omega) hc hs hdg (fun q cA H1 hK1 hP1 hD1 hS1 => ?_)
  have := ktF hK hK1
  subst this
  exact kk q p l e s m args below meth c A H1 locs ls C hP1 hD1 ⟨hS1, hS.2⟩ hl
theorem n_new {idx ci N : Nat} {Cn : String} {fs : List Value} (hq : NQ own idx ci N Cn fs) (hdg : decode cc pc = .ok (.new idx, 3)) (hc : cells + 1 ≤ mc) (hs : slots + N ≤ ms) (kk : ∀ q, Vn G own cc nL d mc ms Q (pc + 3) lv (.ref q :: st) (w ++ [(q, .inr (ci, fs))]) (cells + 1) (slots + N)) : Vn G own cc nL d mc ms Q pc lv st w cells slots := by
  obtain ⟨T, ty0, hcl, hin, hty, hlk, hinst, hini, hfs⟩ := hq
  intro p l e s m args below meth c A H locs ls C hP hD hS hl
  have hT := C.2.2.2.2.2.2.1
  exact va_new C.1 C.2.1 (Ts := u_ws Cn T N) (fun w hw => hT.use (hin w hw) (uws_ok w hw)) (fun _ h => h) ty0 hty C.2.2.2.2.1 (hT.use hlk rfl) (hT.use hinst rfl) (hT.use hini rfl) C.2.2.2.2.2.2.2.1 hP hD hS.1 hS.2 hcl hfs hc hs hdg (fun q H1 a1 a2 a3 => kk q p l e s m args below meth c A H1 locs ls C a1 a2 ⟨a3, hS.2⟩ hl)
theorem n_call {y : MethodName} {cc' : ByteArray} {maxL' d' mc' ms' n idx b : Nat} {As : List Value} {Q' : va_W → Prop} {c0 : Nat × va_E} (hq : IQn own idx y n) (hcd : Cond.code y cc' maxL' none ∈ lw_tbl) (hC : Kt y cc' maxL' d' mc' ms' G (.ref b :: As) [c0] Q') (hdg : decode cc pc = .ok (.invokespecial idx, 3)) (hn : As.length = n) (hd : d' < d) (hm : maxL' ≤ 8) (hst : (st.map fun v => v.category).sum ≤ 8) (hc : cells + mc' ≤ mc) (hs : slots + ms' ≤ ms)
    (kk : ∀ w1, Q' w1 → Vn G own cc nL d mc ms Q (pc + 3) lv st (w ++ w1) (cells + mc') (slots + ms')) : Vn G own cc nL d mc ms Q pc lv (As.reverse ++ .ref b :: st) (w ++ [c0]) cells slots := by
  obtain ⟨hlk, k2, k3, k4, k5, k6, k7⟩ := hq
  intro p l e s m args below meth c A H locs ls C hP hD hS hl
  obtain ⟨hx, hb, hml, hr, hown, hlk0, hT, hK, hin, hAb⟩ := id C
  have hend : (w ++ [c0])[w.length]? = some c0 := by rw [List.getElem?_append_right (Nat.le_refl _)]; simp
  have hF : ∀ q, va_A [c0] H.size q → A q := by
    intro q z
    rcases z with ⟨k, e0, z⟩ | z
    · have hk2 : k < 1 := (List.getElem?_eq_some_iff.mp z).1
      rw [show k = 0 by omega] at z
      cases z
      exact hD.2 _ _ hend
    · exact hS.2 q (Nat.le_trans hS.1.1 z)
  have hPc : va_P G.1 vwCl [c0] H := fun k q h => by
    have hk2 : k < 1 := (List.getElem?_eq_some_iff.mp h).1
    rw [show k = 0 by omega] at h
    cases h
    exact hP _ _ hend
  have hDc : va_D (fun _ => True) [c0] := ⟨fun i j x y hi hj _ => by
    have h1 : i < 1 := (List.getElem?_eq_some_iff.mp hi).1
    have h2 : j < 1 := (List.getElem?_eq_some_iff.mp hj).1
    omega, fun _ _ _ => trivial⟩
  have hcode : ∀ (a' : Array Value) (U : State), s.WarmedH U.vm → (Cond.code y cc' maxL' none).before a' U = true := fun a' U hW => (Tb.warm hW hT).use hcd rfl
  have hpre : PreS s H (va_Pc (.ref b :: As) (Pn G H.size [c0])) (.ref b :: As) := ⟨Pn_blind G H.size [c0] _, fun U hU hW => ⟨rfl, by rw [hU], by rw [hU]; exact hPc, hDc, va_K.moved hW.alike hK, Tb.warm hW hT, Ab.warm hW hAb⟩⟩
  have run : va_Run p l e (rmc d mc ms) s m args below meth c H locs cells slots mc' ms' (F0 m pc ls (As.reverse ++ .ref b :: st)) st (Qn G (va_A [c0] H.size) Q' (Value.ref b :: As).toArray) (va_A [c0] H.size) := by
    rcases hlk with k1 | ⟨host, k1⟩
    · exact va_runI (n := n) (bytes := cc') (maxL := maxL') (Ts := []) ⟨hx, hb, hml, hown, fun _ h => by cases h⟩ (hC l H.size)
        ⟨⟨rfl, rfl, by show d' + 1 ≤ d; omega, by show 8 + (maxL' + 11) + 27 * d' ≤ 27 * d; omega, fun w hw => by rw [List.mem_singleton.mp hw]; exact hcode, List.mem_singleton.mpr rfl, hT.use hcd rfl, hT.use k3 rfl, ⟨k5, k6⟩, fun sig hs => by rw [hs] at k7; exact (Option.some.inj k7).symm, hT.use k1 rfl⟩, k4, hT.use k2 rfl⟩ hpre rfl hn hl.1 rfl (lv_room hst) (by exact hdg) ⟨hc, hs⟩
    · exact va_runIN (n := n) (bytes := cc') (maxL := maxL') (Ts := []) (host := host) ⟨hx, hb, hml, hown, fun _ h => by cases h⟩ (hC l H.size)
        ⟨⟨⟨rfl, rfl, by show d' + 1 ≤ d; omega, by show 8 + (maxL' + 11) + 27 * d' ≤ 27 * d; omega, fun w hw => by rw [List.mem_singleton.mp hw]; exact hcode, List.mem_singleton.mpr rfl⟩, hT.use hcd rfl, hT.use k3 rfl, ⟨k5, k6⟩, fun sig hs => by rw [hs] at k7; exact (Option.some.inj k7).symm, hT.use k1 rfl⟩, k4, hT.use k2 rfl⟩ hpre rfl hn hl.1 rfl (lv_room hst) (by exact hdg) ⟨hc, hs⟩
  refine va_calln run hS.1 (fun q _ h => hF q h) hF (fun w1 H1 locs1 hq1 hP1 hD1 hk1 hS1 => ?_)
  obtain ⟨hP2, hD2⟩ := joinL hP hD hk1 hF hP1 hD1
  exact kk w1 hq1 p l e s m args below meth c A H1 locs1 ls C hP2 hD2 ⟨hS1, hS.2⟩ hl
theorem n_ret (hdg : decode cc pc = .ok (.return_, 1)) (hc : cells ≤ mc) (hs : slots ≤ ms) (hq : Q w) : Vn G own cc nL d mc ms Q pc lv [] w cells slots := by
  intro p l e s m args below meth c A H locs ls C hP hD hS hl
  exact W.widen hc hs (W.vret C.1 C.2.1 C.2.2.2.1 (fun t ht hW => ⟨⟨w, rfl, hq, by rw [ht]; exact hP, hD⟩, hS.1.F ht⟩) hS.1.2.2 hdg C.2.2.2.2.2.1)
theorem n_w (w' : va_W) (h : w' = w) (k : Vn G own cc nL d mc ms Q pc lv st w' cells slots) : Vn G own cc nL d mc ms Q pc lv st w cells slots := by subst h; exact k
theorem n_ast {a q n k N : Nat} {f : Nat → Option Nat} {x : Nat × va_E} {vs : List Value} (i : Nat) (hi : (x :: (a, .inl (G.2 2, N, .inr (.inr (.inr (.inr f))))) :: w)[i]? = some (q, .inr (1, vs))) (hdg : decode cc pc = .ok (.aastore, 1)) (hk : k < N) (hN : N ≤ 1000) (kk : Vn G own cc nL d mc ms Q (pc + 1) lv st (x :: (a, .inl (G.2 2, N, .inr (.inr (.inr (.inr (va_up f k (some q))))))) :: w) cells slots) : Vn G own cc nL d mc ms Q pc lv (.ref q :: .int (nI k) :: .ref a :: st) (x :: (a, .inl (G.2 2, N, .inr (.inr (.inr (.inr f))))) :: w) cells slots := by
  intro p l e s m args below meth c A H locs ls C hP hD hS hl
  have hK := C.2.2.2.2.2.2.2.1
  refine va_astq C.1 C.2.1 hK hP hD hS.1 1 2 i 1 rfl rfl hi rfl (vp_in_nI hk (by omega)) hdg (fun H1 locs1 a1 a2 a3 => ?_)
  rw [nI_clamp (by omega)] at a1 a2
  exact kk p l e s m args below meth c A H1 locs1 ls C a1 a2 ⟨a3, hS.2⟩ hl
end VnRows
