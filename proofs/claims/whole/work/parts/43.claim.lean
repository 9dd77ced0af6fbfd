/-! The claim -/
theorem fm_of {α β : Type} {f : α → Option β} {l : List α} {r : List β} (h : l.map f = r.map some) : l.filterMap f = r := by
  have e : l.filterMap f = (l.map f).filterMap id := by rw [List.filterMap_map]; rfl
  rw [e, h, List.filterMap_map]
  exact List.filterMap_some
theorem qL_8 : NQ RL 8 6 2 RX6 [.null, .null] := ⟨TX6, tyX6, rfl, inX6, tyX6_ok, by decide +kernel, by decide +kernel, by decide +kernel, by decide⟩
theorem qL_16 : NQ RL 16 7 35 RX7 [.int 0, .int 0, .null, .null, .null, .int 0, .int 0, .int 0, .int 0, .int 0, .int 0, .int 0, .null, .null, .null, .null, .null, .null, .null, .null, .null, .null, .null, .null, .null, .null, .int 0, .int 0, .null, .null, .null, .int 0, .null, .null, .int 0] := ⟨TX7, tyX7, rfl, inX7, tyX7_ok, by decide +kernel, by decide +kernel, by decide +kernel, by decide⟩
theorem sL_15 : IQn RL 15 yX6_init 0 := ⟨Or.inl (by decide +kernel), by decide +kernel, by decide +kernel, rfl, by decide, by decide, by decide +kernel⟩
theorem sL_18 : IQn RL 18 yX7_init 0 := ⟨Or.inl (by decide +kernel), by decide +kernel, by decide +kernel, rfl, by decide, by decide, by decide +kernel⟩
def VI (G : tG) (cL : ClassId) (b L : Nat) (xs : Nat → Int32) (pc : Nat) (lv : List (Nat × Value)) (st : List Value) (w : va_W) (cells slots : Nat) : Prop :=
  ∀ (p : Program) (l : Launch) (e : Env) (s : State) (m : MethodId) (below : List Frame) (meth : Method) (c : Code) (H : Heap) (locs : List Loc) (ls : Array Slot),
    LC G cL b L xs p l s m meth c → Ab s → va_P G.1 vwCl w H → va_D (lA s) w → va_S (lA s) s.heap H locs → lv_has ls 7 lv →
    W p l e room_1 s m #[Value.ref b] below meth c H locs cells slots (lw_Z below #[Value.ref b] s) (F0 m pc ls st)
section VIRows
variable {G : tG} {cL : ClassId} {b L : Nat} {xs : Nat → Int32} {pc : Nat} {lv : List (Nat × Value)} {st : List Value} {w : va_W} {cells slots : Nat}
theorem j_new {idx ci N : Nat} {Cn : String} {fs : List Value} (hq : NQ RL idx ci N Cn fs) (hdg : decode code pc = .ok (.new idx, 3)) (hc : cells + 1 ≤ 601024) (hs : slots + N ≤ 7293034) (kk : ∀ q, VI G cL b L xs (pc + 3) lv (.ref q :: st) (w ++ [(q, .inr (ci, fs))]) (cells + 1) (slots + N)) : VI G cL b L xs pc lv st w cells slots := by
  obtain ⟨T, ty0, hcl, hin, hty, hlk, hinst, hini, hfs⟩ := hq
  intro p l e s m below meth c H locs ls C hAb hP hD hS hl
  have hT := C.2.1
  exact va_new C.1.1 C.1.2.1 (Ts := u_ws Cn T N) (fun w hw => hT.use (hin w hw) (uws_ok w hw)) (fun _ h => h) ty0 hty C.1.2.2.2.2.1 (hT.use hlk rfl) (hT.use hinst rfl) (hT.use hini rfl) (C.2.2.2.2.1.sub (tys' := tyG G) [0, 1, 2, 3] rfl) hP hD hS (fun q h => h) hcl hfs hc hs hdg (fun q H1 a1 a2 a3 => kk q p l e s m below meth c H1 locs ls C hAb a1 a2 a3 hl)
theorem j_dup {v : Value} (hdg : decode code pc = .ok (.dup, 1)) (hv : v.category = 1) (k : VI G cL b L xs (pc + 1) lv (v :: v :: st) w cells slots) : VI G cL b L xs pc lv (v :: st) w cells slots :=
  fun p l e s m below meth c H locs ls C hAb hP hD hS hl => lv_dup C.1.1 C.1.2.1 hdg hv (k p l e s m below meth c H locs ls C hAb hP hD hS hl)
theorem j_iconst {n : Int} (x : Int32) (hdg : decode code pc = .ok (.iconst n, 1)) (hv : Int32.ofInt n = x) (k : VI G cL b L xs (pc + 1) lv (.int x :: st) w cells slots) : VI G cL b L xs pc lv st w cells slots :=
  fun p l e s m below meth c H locs ls C hAb hP hD hS hl => lv_iconst C.1.1 C.1.2.1 hdg hv (k p l e s m below meth c H locs ls C hAb hP hD hS hl)
theorem j_astore {j : Fin 4} {a : Nat} (lv' : List (Nat × Value)) (hdg : decode code pc = .ok (.astore_n j, 1)) (hn : (j : Nat) < 7) (hs : (((j : Nat), Value.ref a) :: lv.filter (fun q => !(q.1 == (j : Nat)) && !(q.1 + 1 == (j : Nat) && q.2.category == 2))) = lv') (k : VI G cL b L xs (pc + 1) lv' st w cells slots) : VI G cL b L xs pc lv (.ref a :: st) w cells slots := by
  subst hs
  intro p l e s m below meth c H locs ls C hAb hP hD hS hl
  exact lv_astore_n C.1.1 C.1.2.1 hdg rfl hl hn rfl (fun ls' hl' => k p l e s m below meth c H locs ls' C hAb hP hD hS hl')
theorem j_istore {j : Nat} {x : Int32} (lv' : List (Nat × Value)) (hdg : decode code pc = .ok (.istore j, 2)) (hn : j < 7) (hs : ((j, Value.int x) :: lv.filter (fun q => !(q.1 == j) && !(q.1 + 1 == j && q.2.category == 2))) = lv') (k : VI G cL b L xs (pc + 2) lv' st w cells slots) : VI G cL b L xs pc lv (.int x :: st) w cells slots := by
  subst hs
  intro p l e s m below meth c H locs ls C hAb hP hD hS hl
  exact lv_istore C.1.1 C.1.2.1 hdg hl hn rfl (fun ls' hl' => k p l e s m below meth c H locs ls' C hAb hP hD hS hl')
theorem j_newL (hdg : decode code pc = .ok (.newarray .long, 2)) (hc : cells + 1 ≤ 601024) (hs : slots + 1 ≤ 7293034) (kk : ∀ q, VI G cL b L xs (pc + 2) lv (.ref q :: st) (w ++ [ouE q cL (fun _ => 0)]) (cells + 1) (slots + 1)) : VI G cL b L xs pc lv (.int 1 :: st) w cells slots := by
  intro p l e s m below meth c H locs ls C hAb hP hD hS hl
  have hK := C.2.2.2.2.1
  refine va_newa (R := room_1) (cells := cells) (slots := slots) C.1.1 C.1.2.1 (n := 1) (N' := 1) (atype := .long) (C.1.2.2.2.2.2.1 (.arrayClass .long) (by decide +kernel)) rfl hK hP hD hS (fun q h => h) (a0 := (1, .inr (.inl (fun _ => 0)))) (fun _ => rfl) (by decide) (by decide) (by decide) hc hs hdg (fun q cA H1 hK1 hP1 hD1 hS1 => ?_)
  have e1 : cA = cL := Option.some.inj ((hK1.2 5 _ rfl).2.symm.trans (hK.2 4 _ rfl).2)
  subst e1
  exact kk q p l e s m below meth c H1 locs ls C hAb hP1 hD1 hS1 hl
theorem j_call {y : MethodName} {cc' : ByteArray} {maxL' d' mc' ms' idx q : Nat} {Q' : va_W → Prop} {c0 : Nat × va_E} (hq : IQn RL idx y 0) (hcd : Cond.code y cc' maxL' none ∈ lw_tbl) (hC : Kt y cc' maxL' d' mc' ms' G [.ref q] [c0] Q') (hdg : decode code pc = .ok (.invokespecial idx, 3)) (hd : d' + 1 ≤ 10) (hm : 8 + (maxL' + 11) + 27 * d' ≤ 364) (hst : (st.map fun v => v.category).sum ≤ 8) (hc : cells + mc' ≤ 601024) (hs : slots + ms' ≤ 7293034)
    (kk : ∀ w1, Q' w1 → VI G cL b L xs (pc + 3) lv st (w ++ w1) (cells + mc') (slots + ms')) : VI G cL b L xs pc lv (.ref q :: st) (w ++ [c0]) cells slots := by
  obtain ⟨hlk, k2, k3, k4, k5, k6, k7⟩ := hq
  intro p l e s m below meth c H locs ls C hAb hP hD hS hl
  obtain ⟨⟨hx, hb, hr, hml, hown, hrest⟩, hT, hE, hZ, hKL, htr, hL⟩ := id C
  have hK := hKL.sub (tys' := tyG G) [0, 1, 2, 3] rfl
  have hF : ∀ q, va_A [c0] H.size q → lA s q := by
    intro q z
    rcases z with ⟨k, e0, z⟩ | z
    · have hk2 : k < 1 := (List.getElem?_eq_some_iff.mp z).1
      rw [show k = 0 by omega] at z
      cases z
      exact hD.2 _ _ get_last
    · exact Nat.le_trans hS.1 z
  have hPc : va_P G.1 vwCl [c0] H := P_right hP
  have hDc : va_D (fun _ => True) [c0] := ⟨fun i j x y hi hj _ => by
    have h1 : i < 1 := (List.getElem?_eq_some_iff.mp hi).1
    have h2 : j < 1 := (List.getElem?_eq_some_iff.mp hj).1
    omega, fun _ _ _ => trivial⟩
  have hcode : ∀ (a' : Array Value) (U : State), s.WarmedH U.vm → (Cond.code y cc' maxL' none).before a' U = true := fun a' U hW => (Tb.warm hW hT).use hcd rfl
  have hpre : PreS s H (va_Pc [.ref q] (Pn G H.size [c0])) [.ref q] := ⟨Pn_blind G H.size [c0] _, fun U hU hW => ⟨rfl, by rw [hU], by rw [hU]; exact hPc, hDc, va_K.moved hW.alike hK, Tb.warm hW hT, Ab.warm hW hAb⟩⟩
  have run : va_Run p l e room_1 s m #[Value.ref b] below meth c H locs cells slots mc' ms' (F0 m pc ls (.ref q :: st)) st (Qn G (va_A [c0] H.size) Q' ([Value.ref q] : List Value).toArray) (va_A [c0] H.size) := by
    rcases hlk with k1 | ⟨host, k1⟩
    · exact va_runI (n := 0) (As := []) (bytes := cc') (maxL := maxL') (Ts := []) ⟨hx, hb, hml, hown, fun _ h => by cases h⟩ (hC l H.size)
        ⟨⟨rfl, rfl, hd, hm, fun w hw => by rw [List.mem_singleton.mp hw]; exact hcode, List.mem_singleton.mpr rfl, hT.use hcd rfl, hT.use k3 rfl, ⟨k5, k6⟩, fun sig hs => by rw [hs] at k7; exact (Option.some.inj k7).symm, hT.use k1 rfl⟩, k4, hT.use k2 rfl⟩ hpre rfl rfl hl.1 rfl (lv_room hst) (by exact hdg) ⟨hc, hs⟩
    · exact va_runIN (n := 0) (As := []) (bytes := cc') (maxL := maxL') (Ts := []) (host := host) ⟨hx, hb, hml, hown, fun _ h => by cases h⟩ (hC l H.size)
        ⟨⟨⟨rfl, rfl, hd, hm, fun w hw => by rw [List.mem_singleton.mp hw]; exact hcode, List.mem_singleton.mpr rfl⟩, hT.use hcd rfl, hT.use k3 rfl, ⟨k5, k6⟩, fun sig hs => by rw [hs] at k7; exact (Option.some.inj k7).symm, hT.use k1 rfl⟩, k4, hT.use k2 rfl⟩ hpre rfl rfl hl.1 rfl (lv_room hst) (by exact hdg) ⟨hc, hs⟩
  refine va_calln run hS (fun q _ h => hF q h) hF (fun w1 H1 locs1 hq1 hP1 hD1 hk1 hS1 => ?_)
  obtain ⟨hP2, hD2⟩ := joinL hP hD hk1 hF hP1 hD1
  exact kk w1 hq1 p l e s m below meth c H1 locs1 ls C hAb hP2 hD2 hS1 hl
theorem j_w (w' : va_W) (h : w' = w) (k : VI G cL b L xs pc lv st w' cells slots) : VI G cL b L xs pc lv st w cells slots := by subst h; exact k
end VIRows
set_option maxHeartbeats 4000000 in
set_option maxRecDepth 100000 in
theorem law_start (G : tG) (cL : ClassId) (b L : Nat) (xs : Nat → Int32) (hL : L ≤ 2048) : VI G cL b L xs 0 [(0, .ref b)] [] [] 0 0 := by
  refine j_new qL_8 dL_law_0 (by decide) (by decide) (fun q0 => ?_)
  refine j_dup dL_law_3 rfl ?_
  refine j_call sL_15 kX6_init (i_X6 G q0) dL_law_4 (by decide) (by decide) (Nat.le_of_ble_eq_true rfl) (by decide) (by decide) (fun w1' hw => ?_)
  obtain ⟨qR, qP, q1, qk, qo, rk, ro, w', ⟨qf, ql, l1, qb, b1, b2, qr, w1, w2, r0, r1, r2, rfl⟩, rfl⟩ := hw
  refine j_w (ttW G q0 qR qP q1 qk qo rk ro (runW G qR qP qf ql l1 qb b1 b2 qr w1 w2 r0 r1 r2)) rfl ?_
  refine j_astore [(1, .ref q0), (0, .ref b)] dL_law_7 (by decide) rfl ?_
  refine j_new qL_16 dL_law_8 (by decide) (by decide) (fun qM => ?_)
  refine j_dup dL_law_11 rfl ?_
  refine j_call sL_18 kX7_init (i_X7 G qM) dL_law_12 (by decide) (by decide) (Nat.le_of_ble_eq_true rfl) (by decide) (by decide) (fun w1' hw => ?_)
  obtain ⟨m1, m2, m3, m4, m5, m6, m7, m8, m9, m10, m11, m12, m13, m14, m15, m16, m17, m18, m19, m20, m21, m22, rfl⟩ := hw
  refine j_w (ttW G q0 qR qP q1 qk qo rk ro (runW G qR qP qf ql l1 qb b1 b2 qr w1 w2 r0 r1 r2) ++ mdW G qM m1 m2 m3 m4 m5 m6 m7 m8 m9 m10 m11 m12 m13 m14 m15 m16 m17 m18 m19 m20 m21 m22) rfl ?_
  refine j_astore [(2, .ref qM), (1, .ref q0), (0, .ref b)] dL_law_15 (by decide) rfl ?_
  refine j_iconst 1 dL_law_16 (by decide) ?_
  refine j_newL dL_law_17 (by decide) (by decide) (fun qq => ?_)
  refine j_astore [(3, .ref qq), (2, .ref qM), (1, .ref q0), (0, .ref b)] dL_law_19 (by decide) rfl ?_
  refine j_iconst 0 dL_law_20 (by decide) ?_
  refine j_istore [(4, .int 0), (3, .ref qq), (2, .ref qM), (1, .ref q0), (0, .ref b)] dL_law_21 (by decide) rfl ?_
  intro p l e s m below meth c H locs ls C hAb hP hD hS hl
  rw [List.append_assoc] at hP hD
  have heq := tw_eq G cL (fun _ => 0) q0 qP q1 qk qo qR qf ql l1 qb b1 b2 qr w1 w2 qM m1 m2 m3 m4 m5 m6 m7 m8 m9 m10 m11 m12 m13 m14 m15 m16 m17 m18 m19 m20 m21 m22 qq rk ro r0 r1 r2
  have hP1 := hP.sub (ws' := wlo G (adF q0 qP q1 qk qo qR qf ql l1 qb b1 b2 qr w1 w2 qM m1 m2 m3 m4 m5 m6 m7 m8 m9 m10 m11 m12 m13 m14 m15 m16 m17 m18 m19 m20 m21 m22 rk ro r0 r1 r2) (mix a0 b0) qq cL (fun _ => 0)) isW (fm_of heq)
  have hD1 := hD.sub (ws' := wlo G (adF q0 qP q1 qk qo qR qf ql l1 qb b1 b2 qr w1 w2 qM m1 m2 m3 m4 m5 m6 m7 m8 m9 m10 m11 m12 m13 m14 m15 m16 m17 m18 m19 m20 m21 m22 rk ro r0 r1 r2) (mix a0 b0) qq cL (fun _ => 0)) isW (by decide +kernel) heq
  exact law_loop (ad := adF q0 qP q1 qk qo qR qf ql l1 qb b1 b2 qr w1 w2 qM m1 m2 m3 m4 m5 m6 m7 m8 m9 m10 m11 m12 m13 m14 m15 m16 m17 m18 m19 m20 m21 m22 rk ro r0 r1 r2) (qo := qq) (cL := cL) hL 513 0 a0 b0 (fun _ => 0) _ _ (by omega) (by omega) Zp0 (by decide) (by decide) p l e s m below meth c H locs ls C hP1 hD1 hS (lv_sub hl [0, 4, 3, 2, 1] rfl)
theorem aoF {U : State} {A : Array Value} (h : (Cond.arrayOver (.object RX1)).before A U = true) : ∃ c, ArrOfT U c (.object RX1) ∧ va_RA U c (.object RX1) := by
  obtain ⟨comp, c, k, h1, h2, h3, h4, h5⟩ := Cond.arrayOver_spec h
  exact ⟨c, fun n z => ⟨fun k h => (by cases h), k, h3, comp, h4⟩, k, comp, h3, h4, h1, h5⟩
theorem aoA {U : State} {A : Array Value} (h : (Cond.arrayOver (.array .int)).before A U = true) : ∃ c, ArrOfT U c (.array .int) ∧ va_RA U c (.array .int) := by
  obtain ⟨comp, c, k, h1, h2, h3, h4, h5⟩ := Jvm.Stand.arrayOver_specB h
  exact ⟨c, fun n z => ⟨fun k h => (by cases h), k, h3, comp, h4⟩, h5⟩
theorem acI {U : State} {A : Array Value} (h : (Cond.arrayClass .int).before A U = true) : ∃ c, ArrOfT U c .int ∧ va_RA U c .int := by
  obtain ⟨c, k, comp, h1, h2, h3⟩ := Cond.arrayClass_spec h
  exact ⟨c, fun n z => ⟨fun k h => (by cases h), k, h2, comp, h3⟩, h1⟩
theorem acZ {U : State} {A : Array Value} (h : (Cond.arrayClass .boolean).before A U = true) : ∃ c, ArrOfT U c .boolean ∧ va_RA U c .boolean := by
  obtain ⟨c, k, comp, h1, h2, h3⟩ := Cond.arrayClass_spec h
  exact ⟨c, fun n z => ⟨fun k h => (by cases h), k, h2, comp, h3⟩, h1⟩
theorem acL {U : State} {A : Array Value} (h : (Cond.arrayClass .long).before A U = true) : ∃ c, ArrOfT U c .long ∧ va_RA U c .long := by
  obtain ⟨c, k, comp, h1, h2, h3⟩ := Cond.arrayClass_spec h
  exact ⟨c, fun n z => ⟨fun k h => (by cases h), k, h2, comp, h3⟩, h1⟩
set_option maxHeartbeats 4000000 in
set_option maxRecDepth 100000 in
/-- from the entry, for every script of at most 2048 ints, the law comes to its end with true -/
theorem whole_start {p : Program} {e : Env} {s : State} {m : MethodId} {below : List Frame} {meth : Method} {c : Code} (l : Launch) (htr : l.stackTraces = false) {b L : Nat} {xs : Nat → Int32} (hL : L ≤ 2048) (C0 : lw_At p s m meth c b L xs) : W p l e room_1 s m #[Value.ref b] below meth c s.heap [] 0 0 (lw_Z below #[Value.ref b] s) (entryFrame m ([Value.ref b] : List Value).toArray 7) := by
  obtain ⟨hx, hb, hr, hml, hown, hts, hX, hbl, hlocks, hgv⟩ := id C0
  have hfl := flat_of_before _ hgv
  obtain ⟨c0, i0, hk0⟩ := u_known (C := RX0) (T := TX0) (N := 2) (n := 2) hts inX0 (hts (.instantiable RX0 2) (by decide +kernel))
  obtain ⟨c1, i1, hk1⟩ := u_known (C := RX1) (T := TX1) (N := 15) (n := 15) hts inX1 (hts (.instantiable RX1 15) (by decide +kernel))
  obtain ⟨c2, i2, hk2⟩ := u_known (C := RX2) (T := TX2) (N := 2) (n := 2) hts inX2 (hts (.instantiable RX2 2) (by decide +kernel))
  obtain ⟨c3, i3, hk3⟩ := u_known (C := RX3) (T := TX3) (N := 4) (n := 4) hts inX3 (hts (.instantiable RX3 4) (by decide +kernel))
  obtain ⟨c4, i4, hk4⟩ := u_known (C := RX4) (T := TX4) (N := 3) (n := 3) hts inX4 (hts (.instantiable RX4 3) (by decide +kernel))
  obtain ⟨c5, i5, hk5⟩ := u_known (C := RX5) (T := TX5) (N := 13) (n := 13) hts inX5 (hts (.instantiable RX5 13) (by decide +kernel))
  obtain ⟨c6, i6, hk6⟩ := u_known (C := RX6) (T := TX6) (N := 2) (n := 2) hts inX6 (hts (.instantiable RX6 2) (by decide +kernel))
  obtain ⟨c7, i7, hk7⟩ := u_known (C := RX7) (T := TX7) (N := 35) (n := 35) hts inX7 (hts (.instantiable RX7 35) (by decide +kernel))
  obtain ⟨cI, aI⟩ := acI (hts (.arrayClass .int) (by decide +kernel))
  obtain ⟨cZ, aZ⟩ := acZ (hts (.arrayClass .boolean) (by decide +kernel))
  obtain ⟨cJ, aJ⟩ := acL (hts (.arrayClass .long) (by decide +kernel))
  obtain ⟨cF, aF⟩ := aoF (hts (.arrayOver (.object RX1)) (by decide +kernel))
  obtain ⟨cA, aA⟩ := aoA (hts (.arrayOver (.array .int)) (by decide +kernel))
  obtain ⟨dC, dI, hKc⟩ : ∃ (dC : Nat → ClassId) (dI : Nat → Nat → Nat), ∀ (k : Nat) (q : vw_C), vwCl[k]? = some q → u_Kn s q.1 q.2.1 q.2.2 (dC k) (dI k) := by
    refine ⟨fun k => match k with | 0 => c0 | 1 => c1 | 2 => c2 | 3 => c3 | 4 => c4 | 5 => c5 | 6 => c6 | _ => c7, fun k => match k with | 0 => i0 | 1 => i1 | 2 => i2 | 3 => i3 | 4 => i4 | 5 => i5 | 6 => i6 | _ => i7, ?_⟩
    intro k q hq
    match k, hq with
    | 0, hq => cases hq; exact hk0
    | 1, hq => cases hq; exact hk1
    | 2, hq => cases hq; exact hk2
    | 3, hq => cases hq; exact hk3
    | 4, hq => cases hq; exact hk4
    | 5, hq => cases hq; exact hk5
    | 6, hq => cases hq; exact hk6
    | 7, hq => cases hq; exact hk7
    | k + 8, hq => simp [vwCl] at hq
  obtain ⟨G, hG⟩ : ∃ G : tG, va_K G.1 vwCl (tyL G cJ) s := by
    refine ⟨((dC, dI), fun k => match k with | 0 => cI | 1 => cZ | 2 => cF | _ => cA), hKc, fun k q hq => ?_⟩
    match k, hq with
    | 0, hq => cases hq; exact aI
    | 1, hq => cases hq; exact aZ
    | 2, hq => cases hq; exact aF
    | 3, hq => cases hq; exact aA
    | 4, hq => cases hq; exact aJ
    | k + 5, hq => simp [tyG] at hq
  have hT : Tb s := fun w hw ho => va_tabs (tbOK_on ho) rfl (hts w hw)
  have hAb : Ab s := ⟨hts (.arrayClass .int) (by decide +kernel), hts (.arrayClass .boolean) (by decide +kernel), va_AO.of (hts (.arrayOver (.object RX1)) (by decide +kernel)), va_AOA.of (hts (.arrayOver (.array .int)) (by decide +kernel))⟩
  have hEx : Ex s := by
    have hex : (Cond.exactly (.string "TurnThreads" 132) "java/lang/String").before #[Value.ref b] s = true := hfl _ (by decide +kernel)
    obtain ⟨sa, -, -, -, hsa, -⟩ := Cond.exactly_spec (args := #[Value.ref b]) (first := s) (o := none) (s := s) (idx := []) hex
    refine ⟨fun w hw => ?_, sa, vk_R.of (A := #[Value.ref b]) (hts (.stringRef RX6 132 "there were no turns") (by decide +kernel)) hsa⟩
    have hin : ∀ w ∈ aeD, w ∈ lw_tbl ∧ w.onTables = true := by decide +kernel
    exact va_Nw.of (hin w hw).2 (hts w (hin w hw).1)
  have hZs : Zs (lA s) s s.heap := by
    have u1 : (Cond.isRef (.static Bundle.tN "UNASSIGNED_STACK" Bundle.steD)).before #[Value.ref b] s = true := hfl _ (by decide +kernel)
    have u2 : (Cond.isRef (.static Bundle.tN "SUPPRESSED_SENTINEL" Bundle.listD)).before #[Value.ref b] s = true := hfl _ (by decide +kernel)
    exact ⟨vx_Zqof (hts (.laysStatic Bundle.tN "UNASSIGNED_STACK" Bundle.steD) (by decide +kernel)) (hts (.initialized Bundle.tN) (by decide +kernel)) u1 (fun a h => Nat.not_le.mpr h), vx_Zqof (hts (.laysStatic Bundle.tN "SUPPRESSED_SENTINEL" Bundle.listD) (by decide +kernel)) (hts (.initialized Bundle.tN) (by decide +kernel)) u2 (fun a h => Nat.not_le.mpr h)⟩
  have hl := lv_entry ([.ref b]) (n := 7) (Nat.le_of_ble_eq_true rfl)
  rw [lg_entry_eq]
  generalize (lg_sl ([.ref b]) ++ List.replicate (7 - (lg_sl ([Value.ref b])).length) Slot.unset).toArray = ls at hl ⊢
  exact law_start G cJ b L xs hL p l e s m below meth c s.heap [] ls ⟨C0, hT, hEx, hZs, hG, htr, hL⟩ hAb (fun k q h => by simp at h) ⟨fun i j p q h => by simp at h, fun k q h => by simp at h⟩ va_S.rf hl
set_option maxHeartbeats 4000000 in
theorem lw_walk (l : Launch) (htr : l.stackTraces = false) (b : Addr) (xs : List Int32) : MetFree l x (headSpec (Jvm.Cond.code x code maxLocals ret :: tables_1) room_1) (lw_P b xs) (fun _ _ _ _ _ => True) lw_Q := by
  refine MetFree.of_bodyS (code := code) (maxLocals := maxLocals) (ret := ret) (by decide) ?_ ?_
  · intro args s m h hn
    obtain ⟨meth, c, h1, h2, h3, h4, h5, h6, -, -⟩ := Cond.code_spec hn (atoms_spec (ws := Jvm.Cond.code x code maxLocals ret :: tables_1) h _ List.mem_cons_self)
    exact ⟨meth, c, h1, h2, h3, h4, h5, h6⟩
  · intro p e s m args below meth c s₁ B hml0 hP _
    obtain ⟨rfl, hx, hbd, hgv⟩ := hP
    obtain ⟨scr, harrAt, hlist, hof, hsmall⟩ := hx
    obtain ⟨hcb, hkn, -, -⟩ := State.arrayAt?_spec harrAt
    have hown : s.vm.findClass R_law = some m.cls := findClass_of_methodNamed B.named
    have hts0 : ∀ c ∈ (Jvm.Cond.code x code maxLocals ret :: tables_1), c.before #[Value.ref b] s = true := atoms_spec (ws := Jvm.Cond.code x code maxLocals ret :: tables_1) B.pre
    have hts : ∀ w ∈ lw_tbl, w.before #[Value.ref b] s = true := k2_hts_sels lw_privs (fun w hw => hts0 w (List.mem_cons_of_mem _ hw)) lw_privs_ok
    have hml : c.maxLocals = 7 := B.maxLocals_eq (hts0 _ List.mem_cons_self)
    have X₀ : Stand p l e room_1 s m #[Value.ref b] below meth c s₁ [] 0 0 := Stand.of_body B
    have hh0 : s₁.heap = s.heap := by rw [B.state]; rfl
    have hsz : scr.slots.size = xs.length := by rw [← Array.length_toList, hlist, List.length_map]
    have hval : ∀ j : Nat, j < xs.length → scr.slots[j]? = some (.int (xs.getD j 0)) := fun j hj => by
      rw [← Array.getElem?_toList, hlist]
      simp [hj]
    have hbl : b < s.heap.size := (Array.getElem?_eq_some_iff.mp hcb).1
    have hX : va_X b xs.length (fun j => xs.getD j 0) s s.heap := ⟨scr, hcb, hof, hkn, hsz, hval⟩
    have K : W p l e room_1 s m #[Value.ref b] below meth c s₁.heap [] 0 0 (lw_Z below #[Value.ref b] s) (entryFrame m ([Value.ref b] : List Value).toArray 7) := by
      rw [hh0]
      exact whole_start l htr hbd ⟨B.exec, B.bytes, B.returns, hml, hown, hts, hX, hbl, B.notSynchronized, hgv⟩
    obtain ⟨t, a1, o, b1, b2, b3⟩ := K s₁ rfl X₀
    exact ⟨t, o, a1, b1, b2, b3⟩
theorem lw_pre_spec {args : Array Value} {s : State} (h : (Jvm.Cond.and given_1 narrow_1).before args s = true) (hr : rest_1_c.before args s = true) : ∃ (b : Addr) (xs : List Int32), lw_P b xs args s := by
  have hs := flat_of_before _ h
  have hq := flat_of_before _ hr
  have hc : (Cond.count 1).before args s = true := hs _ (by decide +kernel)
  have harr : (Cond.arrayOf (.arg 0) .int).before args s = true := hs _ (by decide +kernel)
  have hle : (Cond.le (.length (.arg 0)) (.int 2048)).before args s = true := hs _ (by decide +kernel)
  have hlen : (Cond.isInt (.length (.arg 0))).before args s = true := hq _ (by decide +kernel)
  have hall : (Cond.all (.arg 0) (.isInt (.elem (.arg 0) (.index 0)))).before args s = true := hq _ (by decide +kernel)
  obtain ⟨b, xs, hb, hx⟩ := State.ints_of_pre rfl harr hlen hall
  have hsm : xs.length < 2 ^ 31 := hx.choose_spec.2.2.2
  have hev : (Term.length (.arg 0)).eval args s none [] s = some (.int xs.length.toInt32) := hx.length_eval hb
  have hv := Cond.le_ints hev (show (Term.int 2048).eval args s none [] s = some (.int 2048) from rfl)
  have hd : xs.length.toInt32 ≤ 2048 := by
    simpa [Cond.before, Cond.holds, hv] using hle
  have hN : xs.length ≤ 2048 := (Int32.ofNat_le_ofNat hsm (by decide)).mp (show Int32.ofNat xs.length ≤ Int32.ofNat 2048 from hd)
  exact ⟨b, xs, Cond.one_arg hc (show args[0]? = some (.ref b) from hb), hx, hN, h⟩
theorem lw_comes (l : Launch) (htr : l.stackTraces = false) : Comes l x (Jvm.Cond.code x code maxLocals ret :: tables_1) room_1 (fun tb e args s => Calls_1 tb e args s ∧ rest_1 tb e args s ∧ Pre_1 tb e args s)
    (fun _ _ args s o t => lw_Q args s o t) := by
  intro p e ha hc hk s m args below hf hfit hheap happ hpre
  obtain ⟨b, xs, hP⟩ := lw_pre_spec hpre.2.2 hpre.2.1
  obtain ⟨k, o, h1, h2, h3, hQ⟩ := lw_walk l htr b xs p e ha hc hk s m args below hf ((Spec.applies_iff_loose hf).mp happ).1 hP trivial
  exact ⟨k, o, h1, h2, h3, hQ⟩
theorem lw_frame {s t : State} {o : Outcome} {args : Array Value} (h : Framed s o t [] 601024 7293034) :
    Framed s o t (fieldLocs frame_1_writes args s ++ arrayLocs frame_1_arrays args s ++ staticLocs frame_1_statics s) 601024 7293034 := h
theorem lw_limb (L : Cond) (hL : ∀ (args : Array Value) (s t : State), L.after args s (.returned (some (.int 1))) t = true) :
    ArmFor flags0 classFile x code maxLocals ret World_1 tables_1 room_1 Calls_1 rest_1 Pre_1
      (fun tb e a s o t => postC L tb e a s o t ∧ Framed s o t (fieldLocs frame_1_writes a s ++ arrayLocs frame_1_arrays a s ++ staticLocs frame_1_statics s) 601024 7293034) := by
  intro l hfl _ _ p e ha hc hk s m args below hf hfit hheap happ hpre
  have htr : l.stackTraces = false := by
    unfold Launch.stackTraces
    rw [hfl]
    decide +kernel
  obtain ⟨k, o, h1, h2, h3, rfl, hF⟩ := lw_comes l htr p e ha hc hk s m args below hf hfit hheap happ hpre
  exact ⟨k, _, h1, h2, h3, hL args s _, lw_frame hF⟩
theorem i_vc : Claimed_1_1 ∧ Claimed_1_2 := ⟨lw_limb limb_1_1 (fun args s t => by simp [limb_1_1, Cond.after, Cond.holds, Cond.value]), lw_limb limb_1_2 (fun args s t => Cond.after_iff.mpr (by
  first | (rw [show limb_1_2 = Cond.eq .result (.int 1) from rfl, Cond.eq_ints (x := 1) (y := 1) rfl rfl]; simp; done) | (simp [limb_1_2, Cond.value, Term.eval]; done)))⟩
