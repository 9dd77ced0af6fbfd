/-! The law's own share -/
abbrev ouE (qo : Nat) (cL : ClassId) (f : Nat → Int64) : Nat × va_E := (qo, .inl (cL, 1, .inr (.inl f)))
abbrev wlo (G : tG) (ad : Nat → Nat → Nat) (h : tH) (qo : Nat) (cL : ClassId) (f : Nat → Int64) : va_W := wl G ad h ++ [ouE qo cL f]
abbrev tyL (G : tG) (cL : ClassId) : List (ClassId × FieldType) := tyG G ++ [(cL, .long)]
def Ps (G : tG) (ad : Nat → Nat → Nat) (sz : Nat) (h : tH) (qo : Nat) (cL : ClassId) (f : Nat → Int64) (U : State) : Prop := U.heap.size = sz ∧ va_P G.1 vwCl (wlo G ad h qo cL f) U.heap ∧ va_D (fun _ => True) (wlo G ad h qo cL f) ∧ va_K G.1 vwCl (tyL G cL) U ∧ Tb U ∧ Ex U ∧ Zs (va_A (wlo G ad h qo cL f) sz) U U.heap
theorem Ps_blind (G : tG) (ad : Nat → Nat → Nat) (sz : Nat) (h : tH) (qo : Nat) (cL : ClassId) (f : Nat → Int64) (as : List Value) : FrameBlind (va_Pc as (Ps G ad sz h qo cL f)) := by
  intro a U g mk q
  obtain ⟨q0, q1, q2, q3, q4, q5, q6, q7⟩ := q
  exact ⟨q0, q1, q2, q3, va_K.moved (u := U) (U := U.calling g mk a) (Vm.Alike.refl U.vm) q4, Tb.same (u := U) (U := U.calling g mk a) rfl q5, Ex.same (U := U.calling g mk a) (s := U) rfl q6, Zs.moved (u := U) (U := U.calling g mk a) (Vm.Alike.refl U.vm) q7⟩
def Qs (G : tG) (ad : Nat → Nat → Nat) (h : tH) (qo : Nat) (cL : ClassId) (A : Nat → Prop) (x : Int32) (φ : (Nat → Int64) → Prop) : Array Value → State → Outcome → State → Prop := fun _ st oc t =>
  (∃ f', oc = .returned (some (.int x)) ∧ φ f' ∧ va_P G.1 vwCl (wlo G ad h qo cL f') t.heap ∧ va_D A (wlo G ad h qo cL f')) ∧ va_F A st t
abbrev rml : Room := { frames := 7, cells := 1, slots := 6, locals := 189 }
abbrev lsW : List Cond := [Cond.codeWith yL_share cL_share 4 (some .int) [(0, 9, 12, 13)]]
theorem lL_7 : CQ RL 7 yX6_share 1 := ⟨by decide +kernel, by decide +kernel, by decide +kernel, by decide +kernel, by decide, by decide, by decide +kernel⟩
theorem set_last {α : Type} {w : List α} {x y : α} : (w ++ [x]).set w.length y = w ++ [y] := by simp
theorem get_last {α : Type} {w : List α} {x : α} : (w ++ [x])[w.length]? = some x := by simp
set_option maxHeartbeats 4000000 in
set_option maxRecDepth 100000 in
theorem ls_ret {h : tH} {t v : Int32} (hC : Ci yX6_share cX6_share 3 .int 1 [.inr (some (0, 0)), .inl t] h v h) (l : Launch) (G : tG) (ad : Nat → Nat → Nat) (sz qo : Nat) (cL : ClassId) (f : Nat → Int64) : Met l yL_share lsW rml (va_Pc [.ref (ad 0 0), .int t, .ref qo] (Ps G ad sz h qo cL f)) (Qs G ad h qo cL (va_A (wlo G ad h qo cL f) sz) 0 (fun f' => f' 0 = v.toInt64)) 1 6 (va_A (wlo G ad h qo cL f) sz) := by
  refine va_MetW (cc := cL_share) (maxL := 4) (ret := some .int) (hh := [(0, 9, 12, 13)]) (by decide) rfl ?_
  intro p e s m args below meth c s₁ B hml hvp
  obtain ⟨rfl, hsz, hP, hD0, hK, hTb, hEx, hZs⟩ := hvp
  have hx := B.exec
  have hb := B.bytes
  have hr := B.returns
  have hlocks := B.notSynchronized
  have hown : s.vm.findClass RL = some m.cls := findClass_of_methodNamed B.named
  subst hsz
  have hD := hD0.self (sz := s.heap.size)
  have hl3 := lv_entry [.ref (ad 0 0), .int t, .ref qo] (n := 4) (Nat.le_of_ble_eq_true rfl)
  rw [lg_entry_eq]
  generalize (lg_sl [.ref (ad 0 0), .int t, .ref qo] ++ List.replicate (4 - (lg_sl [Value.ref (ad 0 0), Value.int t, Value.ref qo]).length) Slot.unset).toArray = ls at hl3 ⊢
  have hl3 : lv_has ls 4 [(0, .ref (ad 0 0)), (1, .int t), (2, .ref qo)] := hl3
  refine lv_aload_n hx hb dL_share_0 rfl (lv_at hl3 2 rfl) ?_
  refine lv_iconst (v := 0) hx hb dL_share_1 (by decide) ?_
  refine lv_aload_n hx hb dL_share_2 rfl (lv_at hl3 0 rfl) ?_
  refine lv_iload_n hx hb dL_share_3 rfl (lv_at hl3 1 rfl) ?_
  refine w_call (as := [.inl t]) (R := rml) (cells := 0) (slots := 0) (H0 := s.heap) hx hb hml hown hTb (hK.sub (tys' := tyG G) [0, 1, 2, 3] rfl) hl3.1 hP hD va_S.rf (fun q h => Or.inr h) lL_7 kX6_share hC dL_share_4 rfl rfl Nat.zero_lt_one rfl (by decide) (by decide) (Nat.le_of_ble_eq_true rfl) (by decide) (by decide) (fun r h' H1 locs1 hq hP1 hD1 hS1 => ?_)
  obtain ⟨rfl, rfl⟩ := hq
  refine lv_i2l (v := v.toInt64) hx hb dL_share_7 rfl ?_
  refine va_last hx hb hK hP1 hD1 hS1 _ 4 get_last rfl (show vp_in (nI 0) 1 from vp_in_nI (by decide) (by decide)) dL_share_8 (fun H2 locs2 hP2 hD2 hS2 => ?_)
  rw [set_last] at hP2 hD2
  refine lv_goto (tgt := 15) hx hb dL_share_9 (by decide) ?_
  refine lv_iconst (v := 0) hx hb dL_share_15 (by decide) ?_
  refine W.widen (k := 1) (n := 6) (by decide) (by decide) ?_
  exact W.iret (v := 0) hx hb hr (fun t9 ht9 hW => ⟨⟨_, rfl, by simp [vp_updL], by rw [ht9]; exact hP2, hD2⟩, hS2.F ht9⟩) hS2.2.2 dL_share_16 hlocks
set_option maxHeartbeats 4000000 in
set_option maxRecDepth 100000 in
theorem ls_thr {a b : tH} {T t : Nat} (hT : a.1 18 0 5 = nI T) (h24 : T ≤ 24) (ht : t < T) (h0 : a.1 18 0 10 = 0) (l : Launch) (hl : l.stackTraces = false) (G : tG) (ad : Nat → Nat → Nat) (sz qo : Nat) (cL : ClassId) (f : Nat → Int64) : Met l yL_share lsW rml (va_Pc [.ref (ad 0 0), .int (nI t), .ref qo] (Ps G ad sz (mix a b) qo cL f)) (Qs G ad (mix a b) qo cL (va_A (wlo G ad (mix a b) qo cL f) sz) 1 (fun _ => True)) 1 6 (va_A (wlo G ad (mix a b) qo cL f) sz) := by
  refine va_MetW (cc := cL_share) (maxL := 4) (ret := some .int) (hh := [(0, 9, 12, 13)]) (by decide) rfl ?_
  intro p e s m args below meth c s₁ B hml hvp
  obtain ⟨rfl, hsz, hP, hD0, hK, hTb, hEx, hZs⟩ := hvp
  have hx := B.exec
  have hb := B.bytes
  have hr := B.returns
  have hlocks := B.notSynchronized
  have hown : s.vm.findClass RL = some m.cls := findClass_of_methodNamed B.named
  have htab := vx_table (x := yL_share) B (atoms_spec (ws := lsW) B.pre _ List.mem_cons_self)
  subst hsz
  have hD := hD0.self (sz := s.heap.size)
  have hKc := hK.sub (tys' := tyG G) [0, 1, 2, 3] rfl
  have hPc := P_left hP
  have hDc := D_left hD0
  have hF : ∀ q, va_A (wl G ad (mix a b)) s.heap.size q → va_A (wlo G ad (mix a b) qo cL f) s.heap.size q := wl_A (H0 := s.heap) (H := s.heap) hD va_S.rf (fun q h => Or.inr h)
  have hl3 := lv_entry [.ref (ad 0 0), .int (nI t), .ref qo] (n := 4) (Nat.le_of_ble_eq_true rfl)
  rw [lg_entry_eq]
  generalize (lg_sl [.ref (ad 0 0), .int (nI t), .ref qo] ++ List.replicate (4 - (lg_sl [Value.ref (ad 0 0), Value.int (nI t), Value.ref qo]).length) Slot.unset).toArray = ls at hl3 ⊢
  have hl3 : lv_has ls 4 [(0, .ref (ad 0 0)), (1, .int (nI t)), (2, .ref qo)] := hl3
  refine lv_aload_n hx hb dL_share_0 rfl (lv_at hl3 2 rfl) ?_
  refine lv_iconst (v := 0) hx hb dL_share_1 (by decide) ?_
  refine lv_aload_n hx hb dL_share_2 rfl (lv_at hl3 0 rfl) ?_
  refine lv_iload_n hx hb dL_share_3 rfl (lv_at hl3 1 rfl) ?_
  obtain ⟨k1, k2, k3, k4, k5, k6, k7⟩ := lL_7
  obtain ⟨q0, hq0, hw⟩ := wl_get G ad (mix a b) (c := 0) (i := 0) (by decide)
  rw [cE_0 (ci := 6) (N := 2) (n := 1) rfl] at hw
  have hcode : ∀ (a' : Array Value) (U : State), s.WarmedH U.vm → (Cond.code yX6_share cX6_share 3 (some .int)).before a' U = true := fun a' U hW => (Tb.warm hW hTb).use kX6_share rfl
  have run := vx_runV (args := ([.ref (ad 0 0), .int (nI t), .ref qo] : List Value).toArray) (below := below) (meth := meth) (e := e) (R := rml) (locs := []) (cells := 0) (slots := 0) (Ts := []) (own := RL) (C := yX6_share.cls) (b := ad 0 0) (As := [.int (nI t)]) (rest := [.int 0, .ref qo]) (g := F0 m 4 ls [.int (nI t), .ref (ad 0 0), .int 0, .ref qo]) (H := s.heap) ⟨hx, hb, hml, hown, fun _ h => by cases h⟩ (x_share hT h24 ht h0 l hl G ad s.heap.size)
    (n := 1) (bytes := cX6_share) (maxL := 3) (ret := some .int)
    ⟨⟨rfl, rfl, by decide, by decide, fun w hw => by rw [List.mem_singleton.mp hw]; exact hcode, List.mem_singleton.mpr rfl, hTb.use kX6_share rfl, hTb.use k4 rfl, ⟨k5, k6⟩, fun sig hs => by rw [hs] at k7; exact (Option.some.inj k7).symm, hTb.use k1 rfl⟩, hTb.use k2 rfl, hTb.use k3 rfl⟩
    ⟨Px_blind G ad s.heap.size (mix a b) _, va_recv hKc hPc (ci := 6) (q := (RX6, TX6, 2)) rfl hw, fun U hU hW => ⟨rfl, ⟨by rw [hU], by rw [hU]; exact hPc, hDc.weaken (fun _ _ _ _ => trivial), va_K.moved hW.alike hKc, Tb.warm hW hTb⟩, Ex.warm hW hEx, by rw [hU]; exact Zs.moved hW.alike (hZs.narrow hF)⟩⟩
    rfl rfl hl3.1 rfl (lv_room (Nat.le_of_ble_eq_true rfl)) dL_share_4 ⟨by decide, by decide⟩
  intro T9 hT9 X9
  rcases run T9 hT9 X9 with ⟨v, st₀, t9, T', L, e0, X', hL, e1, e2, hF9, st⟩ | ⟨q, st₀, t9, T', L, E, ce, e0, X', hL, e1, e2, ⟨hE, hP9, hF9⟩, hce, hcv, hcl, st⟩
  · exact hF9.elim
  · subst hE
    obtain ⟨k1, k2, k3⟩ := vx_keep (A0 := va_A (wlo G ad (mix a b) qo cL f) s.heap.size) (H0 := s.heap) e0 e1 va_S.rf (fun q _ h => hF q h) hF hL hF9
    have hP1 : va_P G.1 vwCl (wlo G ad (mix a b) qo cL f) T'.heap := PX (by rw [e1]; exact hP9) (X_keep hP hD k2)
    have hcast : (Cond.castable AE AE).before ([.ref (ad 0 0), .int (nI t), .ref qo] : List Value).toArray s = true := va_Nw.use rfl (hEx.1 _ List.mem_cons_self)
    obtain ⟨t2, a1, b1⟩ := (vx_catch (own := RL) (name := AE) (E := AE) (ls := ls) (pc := 4) (rest := [.int 0, .ref qo]) (Q := MQ below (Qs G ad (mix a b) qo cL (va_A (wlo G ad (mix a b) qo cL f) s.heap.size) 1 (fun _ => True)) ([.ref (ad 0 0), .int (nI t), .ref qo] : List Value).toArray s 1 6 (va_A (wlo G ad (mix a b) qo cL f) s.heap.size)) hown [] { startPc := 0, endPc := 9, handlerPc := 12, catchType := 13 } [] htab (fun z hz => nomatch hz) rfl (by decide) (hTb.use (by decide +kernel) rfl) hcast (by rw [e1]; exact hce) hcv hcl (by
      refine lv_astore_n (lv' := [(3, .ref q), (0, .ref (ad 0 0)), (1, .int (nI t)), (2, .ref qo)]) hx hb dL_share_12 rfl hl3 (by decide) rfl (fun ls2 hl4 => ?_)
      refine lv_iconst (v := 1) hx hb dL_share_13 (by decide) ?_
      exact W.iret (v := 1) hx hb hr (fun t8 ht8 hW => ⟨⟨f, rfl, trivial, by rw [ht8]; exact hP1, hD⟩, k3.F ht8⟩) k3.2.2 dL_share_14 hlocks)) T' rfl X'
    exact ⟨t2, st.trans a1, b1⟩
