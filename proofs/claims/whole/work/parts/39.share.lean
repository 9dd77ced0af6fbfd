/-! Calls from outside the judgement; the exception of share -/
theorem wl_adr (G : tG) (ad : Nat → Nat → Nat) (h h' : tH) : (wl G ad h').map (fun q => q.1) = (wl G ad h).map (fun q => q.1) := by
  unfold wl
  rw [List.map_map, List.map_map]
  rfl
theorem wlX_adr (G : tG) (ad : Nat → Nat → Nat) (h h' : tH) (X : va_W) : (wl G ad h' ++ X).map (fun q => q.1) = (wl G ad h ++ X).map (fun q => q.1) := by
  rw [List.map_append, List.map_append, wl_adr G ad h h']
theorem P_left {D : va_G} {cl : List vw_C} {w X : va_W} {H : Heap} (h : va_P D cl (w ++ X) H) : va_P D cl w H := va_P_mem.mpr (fun q hq => va_P_mem.mp h q (List.mem_append_left _ hq))
theorem P_right {D : va_G} {cl : List vw_C} {w X : va_W} {H : Heap} (h : va_P D cl (w ++ X) H) : va_P D cl X H := va_P_mem.mpr (fun q hq => va_P_mem.mp h q (List.mem_append_right _ hq))
theorem D_left {A : Nat → Prop} {w X : va_W} (h : va_D A (w ++ X)) : va_D A w := by
  have inl : ∀ (k : Nat) (q : Nat × va_E), w[k]? = some q → (w ++ X)[k]? = some q := fun k q hk => by
    rw [List.getElem?_append_left ((List.getElem?_eq_some_iff.mp hk).1)]; exact hk
  exact ⟨fun i j x y hi hj e => h.1 i j x y (inl i x hi) (inl j y hj) e, fun k q hk => h.2 k q (inl k q hk)⟩
/-- what lies beside the callee's world stays -/
theorem X_keep {A : Nat → Prop} {D : va_G} {cl : List vw_C} {w X : va_W} {H H1 : Heap} (hP : va_P D cl (w ++ X) H) (hD : va_D A (w ++ X)) (hk : ∀ q, q < H.size → ¬ va_A w H.size q → H1[q]? = H[q]?) : va_P D cl X H1 := by
  intro k q hq
  have h1 : (w ++ X)[w.length + k]? = some q := by
    rw [List.getElem?_append_right (by omega), show w.length + k - w.length = k by omega]
    exact hq
  have hl := (hP _ q h1).lt
  refine (hP _ q h1).kept (hk q.1 hl (fun z => ?_))
  rcases z with ⟨k2, e, z⟩ | z
  · have hk2 := (List.getElem?_eq_some_iff.mp z).1
    have := hD.1 k2 (w.length + k) (q.1, e) q (by rw [List.getElem?_append_left hk2]; exact z) h1 rfl
    omega
  · omega
theorem PX {D : va_G} {cl : List vw_C} {w X : va_W} {H : Heap} (h1 : va_P D cl w H) (h2 : va_P D cl X H) : va_P D cl (w ++ X) H := va_P.app h1 h2
theorem va_callx {p : Program} {l : Launch} {e : Env} {R : Room} {s : State} {m : MethodId} {args : Array Value} {below : List Frame} {meth : Method} {c : Code} {H : Heap} {locs : List Loc} {cells slots : Nat} {Qx : State → Prop} {pc : Nat} {ls : Array Slot} {rest st0 : List Value} {a : Array Value} {A0 A1 : Nat → Prop} {H0 : Heap} {mc ms : Nat} {free : Addr → Prop} {G : tG} {ad : Nat → Nat → Nat} {Q' : Option tV → tH → Prop}
    (hr : va_Run p l e R s m args below meth c H locs cells slots mc ms (F0 m pc ls st0) rest (Qw G ad A1 Q' a) free) (hS : va_S A0 H0 H locs) (hA : ∀ q, q < H.size → A1 q → A0 q) (hf : ∀ q, free q → A0 q)
    (kk : ∀ (r : Option tV) (h' : tH) (H1 : Heap) (locs1 : List Loc), Q' r h' → va_P G.1 vwCl (wl G ad h') H1 → va_D A1 (wl G ad h') → (∀ q, q < H.size → ¬ A1 q → H1[q]? = H[q]?) → va_S A0 H0 H1 locs1 → W p l e R s m args below meth c H1 locs1 (cells + mc) (slots + ms) Qx (F0 m (pc + 3) ls ((r.map (rv ad)).toList ++ rest))) : W p l e R s m args below meth c H locs cells slots Qx (F0 m pc ls st0) := by
  intro T hT X
  obtain ⟨v, st₀, t, T', L, h0, X', hL, e1, e2, ⟨⟨r, h', hv, hp, hb1, hb2⟩, hz, hk⟩, st⟩ := hr T hT X
  cases hv
  rw [h0] at hz hk
  obtain ⟨t2, a1, b1⟩ := kk r h' T'.heap (locs ++ L) hp (by rw [e1]; exact hb1) hb2 (fun q h1 h2 => by rw [e1]; exact hk q h1 h2)
    ⟨Nat.le_trans hS.1 (by rw [e1]; exact hz), fun q h1 h2 => by rw [e1, hk q (Nat.lt_of_lt_of_le h1 hS.1) (fun z => h2 (hA q (Nat.lt_of_lt_of_le h1 hS.1) z))]; exact hS.2.1 q h1 h2, fun q hq => by
      rcases List.mem_append.mp hq with h | h
      · exact hS.2.2 q h
      · exact hf _ (hL q h)⟩ T' rfl X'
  exact ⟨t2, st t2 a1, b1⟩
theorem wl_A {A0 : Nat → Prop} {G : tG} {ad : Nat → Nat → Nat} {h : tH} {X : va_W} {H0 H : Heap} {locs : List Loc} (hD : va_D A0 (wl G ad h ++ X)) (hS : va_S A0 H0 H locs) (hA : ∀ q, H0.size ≤ q → A0 q) : ∀ q, va_A (wl G ad h) H.size q → A0 q := by
  intro q z
  rcases z with ⟨k, e0, z⟩ | z
  · exact (D_left hD).2 k _ z
  · exact hA q (Nat.le_trans hS.1 z)
theorem w_call {p : Program} {l : Launch} {e : Env} {R : Room} {s : State} {m : MethodId} {args : Array Value} {below : List Frame} {meth : Method} {c : Code} {H : Heap} {locs : List Loc} {cells slots : Nat} {Qx : State → Prop} {pc : Nat} {ls : Array Slot} {rest : List Value} {A0 : Nat → Prop} {H0 : Heap} {own : String} {cc : ByteArray} {nL : Nat} {G : tG} {ad : Nat → Nat → Nat} {h : tH} {X : va_W}
    {y : MethodName} {cc' : ByteArray} {maxL' d' n idx ci N w0 c0 i : Nat} {ret' : Option FieldType} {as : List tV} {Q' : Option tV → tH → Prop} {T : u_T}
    (hx : p.tables.exec = Jvm.exec) (hb : c.code = cc) (hml : c.maxLocals = nL) (hown : s.vm.findClass own = some m.cls) (hT : Tb s) (hK : va_K G.1 vwCl (tyG G) s) (hls : ls.size = nL) (hP : va_P G.1 vwCl (wl G ad h ++ X) H) (hD : va_D A0 (wl G ad h ++ X)) (hS : va_S A0 H0 H locs) (hA : ∀ q, H0.size ≤ q → A0 q)
    (hq : CQ own idx y n) (hcd : Cond.code y cc' maxL' ret' ∈ lw_tbl) (hC : Ct y cc' maxL' ret' d' (.inr (some (c0, i)) :: as) h Q') (hdg : decode cc pc = .ok (.invokevirtual idx, 3)) (hl0 : lay c0 = (0, ci, N, w0)) (hcl : vwCl[ci]? = some (y.cls, T, N)) (hi : i < w0) (hn : as.length = n) (hd : d' + 1 ≤ R.frames) (hloc : 8 + (maxL' + 11) + 27 * d' ≤ R.locals) (hst : (rest.map fun v => v.category).sum ≤ 8) (hcs : cells ≤ R.cells) (hss : slots ≤ R.slots)
    (kk : ∀ (r : Option tV) (h' : tH) (H1 : Heap) (locs1 : List Loc), Q' r h' → va_P G.1 vwCl (wl G ad h' ++ X) H1 → va_D A0 (wl G ad h' ++ X) → va_S A0 H0 H1 locs1 → W p l e R s m args below meth c H1 locs1 cells slots Qx (F0 m (pc + 3) ls ((r.map (rv ad)).toList ++ rest))) : W p l e R s m args below meth c H locs cells slots Qx (F0 m pc ls ((as.map (rv ad)).reverse ++ .ref (ad c0 i) :: rest)) := by
  obtain ⟨k1, k2, k3, k4, k5, k6, k7⟩ := hq
  have hP0 := P_left hP
  have hD0 := D_left hD
  obtain ⟨q0, hq0, hw⟩ := wl_get G ad h (c := c0) (i := i) (by rw [hl0]; exact hi)
  rw [cE_0 hl0] at hw
  have hF := wl_A hD hS hA
  have hcode : ∀ (a' : Array Value) (U : State), s.WarmedH U.vm → (Cond.code y cc' maxL' ret').before a' U = true := fun a' U hW => (Tb.warm hW hT).use hcd rfl
  have run := va_runV (args := args) (below := below) (meth := meth) (e := e) (R := R) (locs := locs) (cells := cells) (slots := slots) (Ts := []) (own := own) (C := y.cls) (b := ad c0 i) (As := as.map (rv ad)) (rest := rest) (g := F0 m pc ls ((as.map (rv ad)).reverse ++ .ref (ad c0 i) :: rest)) (H := H) ⟨hx, hb, hml, hown, fun _ h => by cases h⟩ (hC l G ad H.size)
    (n := n) (bytes := cc') (maxL := maxL') (ret := ret')
    ⟨⟨rfl, rfl, hd, hloc, fun w hw => by rw [List.mem_singleton.mp hw]; exact hcode, List.mem_singleton.mpr rfl, hT.use hcd rfl, hT.use k4 rfl, ⟨k5, k6⟩, fun sig hs => by rw [hs] at k7; exact (Option.some.inj k7).symm, hT.use k1 rfl⟩, hT.use k2 rfl, hT.use k3 rfl⟩
    ⟨Pw_blind G ad H.size h _, va_recv hK hP0 hcl hw, fun U hU hW => ⟨by simp [rv], by rw [hU], by rw [hU]; exact hP0, hD0.weaken (fun _ _ _ _ => trivial), va_K.moved hW.alike hK, Tb.warm hW hT⟩⟩
    rfl (by simpa using hn) hls rfl (lv_room hst) (by exact hdg) ⟨hcs, hss⟩
  refine va_callx (G := G) (ad := ad) run hS (fun q _ h => hF q h) hF (fun r h' H1 locs1 hq1 hP1 hD1 hk1 hS1 => ?_)
  exact kk r h' H1 locs1 hq1 (PX hP1 (X_keep hP hD hk1)) (va_D_adr hD (wlX_adr G ad h h' X)) hS1
theorem w_getv {p : Program} {l : Launch} {e : Env} {R : Room} {s : State} {m : MethodId} {args : Array Value} {below : List Frame} {meth : Method} {c' : Code} {H : Heap} {locs : List Loc} {cells slots : Nat} {Qx : State → Prop} {pc : Nat} {ls : Array Slot} {rest : List Value} {own : String} {cc : ByteArray} {G : tG} {ad : Nat → Nat → Nat} {h : tH}
    {c i k idx : Nat} {fin : Bool} {ty : FieldType} {v : Value} (hx : p.tables.exec = Jvm.exec) (hb : c'.code = cc) (hown : s.vm.findClass own = some m.cls) (hT : Tb s) (hK : va_K G.1 vwCl (tyG G) s) (hP : va_P G.1 vwCl (wl G ad h) H) (hf : FQ own idx c k fin ty) (hdg : decode cc pc = .ok (.getfield idx, 3)) (hi : i < (lay c).2.2.2) (hv : fv ad c i k (h.1 c i k) = v) (kk : W p l e R s m args below meth c' H locs cells slots Qx (F0 m (pc + 3) ls (v :: rest))) : W p l e R s m args below meth c' H locs cells slots Qx (F0 m pc ls (.ref (ad c i) :: rest)) := by
  obtain ⟨ci, N, n, C, T, ty0, hl0, hcl, hin, hdecl, hkN, hty, hnm, hfin, hpt, hlk⟩ := hf
  obtain ⟨q0, hq0, hw⟩ := wl_get G ad h hi
  rw [cE_0 hl0] at hw
  have hv2 : (fvs ad c i N (h.1 c i))[k]? = some v := by rw [fvs_get hkN, hv]
  rcases hlk with hlk | ⟨host, hlk⟩
  · exact va_get hx hb (Ts := u_ws C T N) (fun w hw => hT.use (hin w hw) (uws_ok w hw)) (fun _ h => h) hown hK hP q0 hw hcl k hkN (hT.use hlk rfl) (fun x h9 => by rw [hdecl] at h9; exact h9) hv2 hdg kk
  · exact va_getN hx hb (Ts := u_ws C T N) (fun w hw => hT.use (hin w hw) (uws_ok w hw)) (fun _ h => h) hown hK hP q0 hw hcl k hkN (hT.use hlk rfl) (fun x h9 => by rw [hdecl] at h9; exact h9) hv2 hdg kk
/-! the exception's own words -/
def AE : String := "java/lang/ArithmeticException"
def aeN : List String := ["java/lang/RuntimeException", "java/lang/Exception"]
def aeD : List Cond := [.castable AE AE, .declares ⟨"java/lang/RuntimeException", "<init>", "(Ljava/lang/String;)V"⟩, .declares ⟨"java/lang/Exception", "<init>", "(Ljava/lang/String;)V"⟩, .declares ⟨"java/lang/Throwable", "<init>", "(Ljava/lang/String;)V"⟩]
theorem ae_split : ∀ w ∈ vx_atS RX6 134 AE aeN, (w ∈ lw_tbl ∧ tbOK w = true) ∨ w ∈ aeD := by decide +kernel
theorem ae_ot : ∀ w ∈ Cond.classLink RX6 130 AE :: Cond.initialized AE :: vx_atS RX6 134 AE aeN, vx_ot w = true := by decide +kernel
def Ex (U : State) : Prop := (∀ w ∈ aeD, va_Nw w U) ∧ ∃ sa, vk_R RX6 132 "there were no turns" sa U
theorem Ex.warm {s U : State} (hW : s.WarmedH U.vm) (h : Ex s) : Ex U := by
  obtain ⟨h1, sa, h2⟩ := h
  refine ⟨fun w hw => ?_, sa, vk_R.warm hW h2⟩
  have h3 := h1 w hw
  unfold aeD at hw
  simp only [List.mem_cons, List.not_mem_nil, or_false] at hw
  rcases hw with rfl | rfl | rfl | rfl
  · exact va_Nw.warmC hW h3
  · exact va_Nw.warmD hW h3
  · exact va_Nw.warmD hW h3
  · exact va_Nw.warmD hW h3
theorem Ex.same {s U : State} (e : U.vm = s.vm) (h : Ex s) : Ex U := by
  obtain ⟨h1, sa, h2⟩ := h
  refine ⟨fun w hw => va_Nw.same ?_ e.symm (h1 w hw), sa, vk_R.same e h2⟩
  unfold aeD at hw
  simp only [List.mem_cons, List.not_mem_nil, or_false] at hw
  rcases hw with rfl | rfl | rfl | rfl <;> rfl
theorem Ex.at {s : State} {args : Array Value} (hT : Tb s) (h : Ex s) : ∀ w ∈ vx_atS RX6 134 AE aeN, w.before args s = true := by
  intro w hw
  rcases ae_split w hw with ⟨h1, h2⟩ | h1
  · exact hT.use h1 h2
  · have h3 := h.1 w h1
    refine va_Nw.use ?_ h3
    unfold aeD at h1
    simp only [List.mem_cons, List.not_mem_nil, or_false] at h1
    rcases h1 with rfl | rfl | rfl | rfl <;> rfl
def Zs (A : Nat → Prop) (U : State) (H : Heap) : Prop := vx_Zq Bundle.tN "UNASSIGNED_STACK" Bundle.steD A U H ∧ vx_Zq Bundle.tN "SUPPRESSED_SENTINEL" Bundle.listD A U H
theorem Zs.kept {A : Nat → Prop} {U : State} {H H1 : Heap} (h : Zs A U H) (hq : ∀ a : Nat, a < H.size → ¬ A a → H1[a]? = H[a]?) : Zs A U H1 := ⟨h.1.kept hq, h.2.kept hq⟩
theorem Zs.moved {A : Nat → Prop} {u U : State} {H : Heap} (hvm : u.vm.Alike U.vm) (h : Zs A u H) : Zs A U H := ⟨vx_Zq.moved hvm h.1, vx_Zq.moved hvm h.2⟩
theorem Zs.narrow {A B : Nat → Prop} {U : State} {H : Heap} (h : Zs A U H) (hAB : ∀ q, B q → A q) : Zs B U H := ⟨h.1.narrow hAB, h.2.narrow hAB⟩
def Px (G : tG) (ad : Nat → Nat → Nat) (sz : Nat) (h : tH) (U : State) : Prop := Pw G ad sz h U ∧ Ex U ∧ Zs (va_A (wl G ad h) sz) U U.heap
theorem Px_blind (G : tG) (ad : Nat → Nat → Nat) (sz : Nat) (h : tH) (as : List Value) : FrameBlind (va_Pc as (Px G ad sz h)) := by
  intro a U g mk q
  obtain ⟨q0, q1, q2, q3⟩ := q
  obtain ⟨r0, r1⟩ := Pw_blind G ad sz h as a U g mk ⟨q0, q1⟩
  exact ⟨r0, r1, Ex.same (U := U.calling g mk a) (s := U) rfl q2, Zs.moved (u := U) (U := U.calling g mk a) (Vm.Alike.refl U.vm) q3⟩
def XCs (G : tG) (ad : Nat → Nat → Nat) (sz : Nat) (h : tH) : String → State → State → Prop := fun E st t => E = AE ∧ va_P G.1 vwCl (wl G ad h) t.heap ∧ va_F (va_A (wl G ad h) sz) st t
abbrev rmx : Room := { frames := 6, cells := 1, slots := 6, locals := 162 }
set_option maxHeartbeats 4000000 in
set_option maxRecDepth 100000 in
theorem x_share {a b : tH} {T t : Nat} (hT : a.1 18 0 5 = nI T) (h24 : T ≤ 24) (ht : t < T) (h0 : a.1 18 0 10 = 0) (l : Launch) (hl : l.stackTraces = false) (G : tG) (ad : Nat → Nat → Nat) (sz : Nat) : vx_Met l yX6_share [Cond.code yX6_share cX6_share 3 (some .int)] rmx (va_Pc [.ref (ad 0 0), .int (nI t)] (Px G ad sz (mix a b))) (fun _ _ _ _ => False) (XCs G ad sz (mix a b)) 1 6 (va_A (wl G ad (mix a b)) sz) := by
  refine vx_ofW (cc := cX6_share) (maxL := 3) (ret := some .int) (by decide) rfl ?_
  intro p e s m args below meth c s₁ B hml hno hvp
  obtain ⟨rfl, ⟨hsz, hP, hD0, hK, hTb⟩, hEx, hZs⟩ := hvp
  have hx := B.exec
  have hb := B.bytes
  have hlocks := B.notSynchronized
  have hown : s.vm.findClass RX6 = some m.cls := findClass_of_methodNamed B.named
  subst hsz
  have hD := hD0.self (sz := s.heap.size)
  have hl3 := lv_entry [.ref (ad 0 0), .int (nI t)] (n := 3) (Nat.le_of_ble_eq_true rfl)
  rw [lg_entry_eq]
  generalize (lg_sl [.ref (ad 0 0), .int (nI t)] ++ List.replicate (3 - (lg_sl [Value.ref (ad 0 0), Value.int (nI t)]).length) Slot.unset).toArray = ls at hl3 ⊢
  have hl3 : lv_has ls 3 [(0, .ref (ad 0 0)), (1, .int (nI t))] := hl3
  refine lv_aload_n hx hb dX6_share_0 rfl (lv_at hl3 0 rfl) ?_
  refine w_getv hx hb hown hTb hK hP fX6_21 dX6_share_1 (by decide) (v := .ref (ad 18 0)) rfl ?_
  refine lv_iload_n hx hb dX6_share_4 rfl (lv_at hl3 1 rfl) ?_
  have hP' : va_P G.1 vwCl (wl G ad (mix a b) ++ []) s.heap := by rw [List.append_nil]; exact hP
  have hD' : va_D (va_A (wl G ad (mix a b)) s.heap.size) (wl G ad (mix a b) ++ []) := by rw [List.append_nil]; exact hD
  refine w_call (as := [.inl (nI t)]) (R := rmx) (cells := 0) (slots := 0) (H0 := s.heap) hx hb hml hown hTb hK hl3.1 hP' hD' va_S.rf (fun q h => Or.inr h) lX6_95 kX5_fiberAt (c_X5_fiberAt_in hT ht h24) dX6_share_5 rfl rfl Nat.zero_lt_one rfl (by decide) (by decide) (by decide) (by decide) (by decide) (fun r h' H1 locs1 hq hP1 hD1 hS1 => ?_)
  obtain ⟨rfl, rfl⟩ := hq
  rw [List.append_nil] at hP1 hD1
  have h24' : t < 24 := by omega
  refine lv_astore_n (lv' := [(2, .ref (ad 7 t)), (0, .ref (ad 0 0)), (1, .int (nI t))]) hx hb dX6_share_8 rfl hl3 (by decide) rfl (fun ls hl3 => ?_)
  refine lv_aload_n hx hb dX6_share_9 rfl (lv_at hl3 0 rfl) ?_
  refine lv_ifnonnull hx hb dX6_share_10 (tgt := 15) (by decide) ?_
  refine lv_aload_n hx hb dX6_share_15 rfl (lv_at hl3 1 rfl) ?_
  refine w_getv hx hb hown hTb hK hP1 fX6_21 dX6_share_16 (by decide) (v := .ref (ad 18 0)) rfl ?_
  refine w_getv hx hb hown hTb hK hP1 fX6_70 dX6_share_19 (by decide) (v := .int 0) (by show Value.int ((mix a b).1 18 0 10) = _; rw [show (mix a b).1 18 0 10 = a.1 18 0 10 from rfl, h0]) ?_
  refine lv_if_ne hx hb dX6_share_22 (tgt := 35) (by decide) (fun z => absurd rfl z) (fun _ => ?_)
  obtain ⟨sa, hsa⟩ := hEx.2
  refine vx_throwS (R := rmx) (names := aeN) (cells := 0) (slots := 0) (A := va_A (wl G ad (mix a b)) s.heap.size) hx hb hl hown (by decide +kernel) (by decide +kernel) (hTb.use (by decide +kernel) rfl) (hTb.use (by decide +kernel) rfl) hsa (hEx.at hTb) ae_ot hZs.1 hZs.2 hS1 (by rw [hml]; exact hl3.1) dX6_share_25 dX6_share_28 dX6_share_29 dX6_share_31 dX6_share_34 (fun x hx9 => (hno x hx9).elim) (by decide) (by decide) (by decide) (by decide) hlocks (fun t9 hal hsz9 hk9 => ?_) hS1.2.2 (by decide) (by decide)
  refine ⟨rfl, hP1.kept (fun k x hx9 => hk9 x.1 ((hP1 k x hx9).lt)), Nat.le_trans hS1.1 hsz9, fun q h1 h2 => ?_⟩
  rw [hk9 q (Nat.lt_of_lt_of_le h1 hS1.1)]
  exact hS1.2.1 q h1 h2
