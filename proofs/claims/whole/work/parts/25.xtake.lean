/-! The class: an act whole, a turn -/
theorem XH.at {a : tH} {T t : Nat} (I : XH a T) (ht : t < T) : (∃ hc, hc ≤ 4 ∧ a.1 7 t 7 = nI hc) ∧ (∃ pc, pc ≤ 4 ∧ a.1 7 t 8 = nI pc) := by
  obtain ⟨hc, pc, h4, p4, e1, e2⟩ := I t ht
  exact ⟨⟨hc, h4, e1⟩, ⟨pc, p4, e2⟩⟩
theorem XH.nx {a : tH} {T t : Nat} (I : XH a T) : XH (xNx a t) T := by
  intro s hs
  obtain ⟨hc, pc, h4, p4, e1, e2⟩ := I s hs
  exact ⟨hc, pc, h4, p4, (put_ne (by omega)).trans e1, (put_ne (by omega)).trans e2⟩
theorem xDo_0 {j : Nat} {x : Int32} {a : tH} {T t : Nat} : xDo j x a T t = if xSt j x (xNx a t) = 0 then xPf j x (xNx a t) T t else xWt (xNx a t) t (xSt j x (xNx a t)) x := rfl
set_option maxHeartbeats 4000000 in
theorem c_X5_doAct {a b : tH} {T t j P rr : Nat} {x : Int32} (ht : t < T) {L : List Nat} (Z : XQ a (some t) T L) (I : XH a T) (h0 : a.1 7 t 3 = 0) (hg : gdA (nI j) x) (hj : j ≤ 16) (eP : a.1 1 0 3 = nI P) (h12 : P ≤ 12) (hrr : a.1 15 0 2 = nI rr) (h100 : rr ≤ 100) (hN : ∀ u, u < 24 → a.1 7 u 0 = nI u) : Cn yX5_doAct cX5_doAct 5 4 [.inr (some (18, 0)), .inr (some (7, t)), .inl (nI j), .inl x] (mix a b) (mix (xDo j x a T t) b) := by
  have hT24 := Z.2.1
  have ht24 : t < 24 := by omega
  have hl := Z.len
  have htL : t ∉ L := fun z => (Z.2.2.2.2.2.1 t z).2.2 rfl
  have Z1 : XQ (xNx a t) (some t) T L := Z.slot (by decide)
  have I1 : XH (xNx a t) T := I.nx
  have e3 : (xNx a t).1 7 t 3 = 0 := (put_ne (by omega)).trans h0
  have hN1 : ∀ u, u < 24 → (xNx a t).1 7 u 0 = nI u := fun u hu => (put_ne (by omega)).trans (hN u hu)
  have hr : ∀ r, some t = some r → (xNx a t).1 7 r 3 = 0 := fun r e => by cases e; exact e3
  have hq : (xNx a t).1 10 0 1 = nI L.length := Z1.2.2.1
  have hok : okq (xNx a t) := Z1.2.2.2.2.2.2
  obtain ⟨Ih, Ip⟩ := I.at ht
  obtain ⟨Ih1, Ip1⟩ := I1.at ht
  obtain ⟨j', hj', ej, hy⟩ := hg
  obtain rfl : j = j' := (nI_eq (by omega) (by omega)).mp ej
  rw [xDo_0]
  rcases (show j = 0 ∨ j = 1 ∨ j = 2 ∨ j = 3 ∨ j = 4 ∨ j = 5 ∨ j = 6 ∨ j = 7 ∨ j = 8 ∨ j = 9 ∨ j = 10 ∨ j = 11 ∨ j = 12 ∨ j = 13 ∨ j = 14 ∨ j = 15 ∨ j = 16 by omega) with rfl | rfl | rfl | rfl | rfl | rfl | rfl | rfl | rfl | rfl | rfl | rfl | rfl | rfl | rfl | rfl | rfl
  · obtain ⟨y, hyy, rfl⟩ := hy (by omega)
    exact c_X5_doAct_gen ht24 (by omega) (c_X5_stAf0 hyy) (fun _ => c_X5_perf0 hyy ht24 Z1 hr) Ih Ip h0 Z.2.2.1 hl Z.2.2.2.2.2.2
  · obtain ⟨y, hyy, rfl⟩ := hy (by omega)
    exact c_X5_doAct_gen ht24 (by omega) (c_X5_stAf1 hyy) (fun _ => c_X5_perf1 hyy ht24 Z1) Ih Ip h0 Z.2.2.1 hl Z.2.2.2.2.2.2
  · obtain ⟨y, hyy, rfl⟩ := hy (by omega)
    exact c_X5_doAct_gen ht24 (by omega) (c_X5_stAf2 hyy) (fun _ => c_X5_perf2 hyy ht24) Ih Ip h0 Z.2.2.1 hl Z.2.2.2.2.2.2
  · exact c_X5_doAct_gen ht24 (by omega) c_X5_stAf3 (fun _ => c_X5_perf3 ht24) Ih Ip h0 Z.2.2.1 hl Z.2.2.2.2.2.2
  · exact c_X5_doAct_gen ht24 (by omega) c_X5_stAf4 (fun _ => c_X5_perf4 ht24) Ih Ip h0 Z.2.2.1 hl Z.2.2.2.2.2.2
  · refine c_X5_doAct_gen ht24 (by omega) c_X5_stAf5 (fun _ => ?_) Ih Ip h0 Z.2.2.1 hl Z.2.2.2.2.2.2
    by_cases hx : nI 24 ≤ (xNx a t).1 18 0 5 ∨ x < 0 ∨ (xNx a t).1 1 0 3 ≤ x
    · exact c_X5_perf5n ht24 hx
    · have hT : (xNx a t).1 18 0 5 = nI T := Z1.1
      have eP1 : (xNx a t).1 1 0 3 = nI P := eP
      obtain ⟨p, hp31, rfl⟩ := nI_of (fun z => hx (Or.inr (Or.inl z)))
      have hp : p < P := by
        rcases Nat.lt_or_ge p P with q | q
        · exact q
        · exact absurd (Or.inr (Or.inr (by rw [eP1]; exact nI_le q hp31))) hx
      have hTn : T < 24 := by
        rcases Nat.lt_or_ge T 24 with q | q
        · exact q
        · exact absurd (Or.inl (by rw [hT]; exact nI_le q (by omega))) hx
      exact c_X5_perf5s ht24 eP1 h12 hT hp hTn hq (Nat.lt_of_lt_of_le (Z1.lenn ht htL) (Nat.le_refl _)) (hN1 T hTn)
  · exact c_X5_doAct_gen ht24 (by omega) c_X5_stAf6 (fun _ => c_X5_perf6 ht24) Ih Ip h0 Z.2.2.1 hl Z.2.2.2.2.2.2
  · exact c_X5_doAct_gen ht24 (by omega) c_X5_stAf7 (fun _ => c_X5_perf7 ht24) Ih Ip h0 Z.2.2.1 hl Z.2.2.2.2.2.2
  · exact c_X5_doAct_gen ht24 (by omega) c_X5_stAf8 (fun _ => c_X5_perf8 ht24) Ih Ip h0 Z.2.2.1 hl Z.2.2.2.2.2.2
  · exact c_X5_doAct_gen ht24 (by omega) c_X5_stAf9 (fun _ => c_X5_perf9 ht24) Ih Ip h0 Z.2.2.1 hl Z.2.2.2.2.2.2
  · exact c_X5_doAct_gen ht24 (by omega) c_X5_stAf10 (fun _ => c_X5_perf10 ht24 (rr := rr) hrr h100 (hN1 t ht24)) Ih Ip h0 Z.2.2.1 hl Z.2.2.2.2.2.2
  · exact c_X5_doAct_gen ht24 (by omega) c_X5_stAf11 (fun _ => c_X5_perf11 ht24 Ih1 hq hl (fun z => absurd (Or.inl (by rw [e3]; decide)) z) hok) Ih Ip h0 Z.2.2.1 hl Z.2.2.2.2.2.2
  · refine c_X5_doAct_gen ht24 (by omega) c_X5_stAf12 (fun _ => ?_) Ih Ip h0 Z.2.2.1 hl Z.2.2.2.2.2.2
    by_cases ho : (xNx a t).1 7 t 6 < 0 ∨ (xNx a t).1 18 0 5 ≤ (xNx a t).1 7 t 6
    · exact c_X5_perf12n ht24 Z1.1 hT24 ho
    · obtain ⟨u, hu31, eu⟩ := nI_of (fun z => ho (Or.inl z))
      have hu : u < T := by
        rcases Nat.lt_or_ge u T with q | q
        · exact q
        · exact absurd (Or.inr (by rw [Z1.1, eu]; exact nI_le q hu31)) ho
      obtain ⟨Iuh, Iup⟩ := I1.at hu
      exact c_X5_perf12s ht24 Z1.1 hT24 hu eu Iuh Iup hq hl (fun z => Z1.lenn hu (Z1.notin (fun e => z (Or.inl (by rw [e]; decide))))) hok
  · obtain ⟨hc, hc4, ehc⟩ := Ih1
    exact c_X5_doAct_gen ht24 (by omega) c_X5_stAf13 (fun _ => c_X5_perf13 ht24 hc4 ehc) Ih Ip h0 Z.2.2.1 hl Z.2.2.2.2.2.2
  · exact c_X5_doAct_gen ht24 (by omega) c_X5_stAf14 (fun _ => c_X5_perf14 ht24) Ih Ip h0 Z.2.2.1 hl Z.2.2.2.2.2.2
  · exact c_X5_doAct_gen ht24 (by omega) c_X5_stAf15 (fun _ => c_X5_perf15 ht24 ⟨Ih1, Ip1, Or.inl e3, ⟨_, hl, hq⟩, hok⟩) Ih Ip h0 Z.2.2.1 hl Z.2.2.2.2.2.2
  · exact c_X5_doAct_gen ht24 (by omega) c_X5_stAf16 (fun _ => c_X5_perf16 ht24 (hN1 t ht24)) Ih Ip h0 Z.2.2.1 hl Z.2.2.2.2.2.2

def xKd (a : tH) (t : Nat) : Int32 := if a.1 7 t 5 < a.1 2 0 (nv (a.1 7 t 4)) then a.1 4 (nv (a.1 7 t 4)) (nv (a.1 7 t 5)) else -1
def xStA (a : tH) (t : Nat) : tH := if a.1 7 t 5 < a.1 2 0 (nv (a.1 7 t 4)) then xDo (nv (a.1 4 (nv (a.1 7 t 4)) (nv (a.1 7 t 5)))) (a.1 6 (nv (a.1 7 t 4)) (nv (a.1 7 t 5))) a (nv (a.1 18 0 5)) t else put a 7 t 3 5
def xStC (a : tH) (t : Nat) : tH := xClose (xStA a t) (nv ((xStA a t).1 18 0 5))
def xTL (t : Nat) : Nat → tH → tH
  | 0, a => a
  | m + 1, a => if a.1 7 t 3 = 0 then if xKd a t = 6 then xStC a t else xTL t m (xStC a t) else a
/-- what an act of the class needs -/
def FX (a : tH) (t : Nat) : Prop := ∃ (T P p n z rr : Nat) (L : List Nat), t < T ∧ XQ a (some t) T L ∧ XH a T ∧ a.1 7 t 4 = nI p ∧ p < P ∧ a.1 7 t 5 = nI n ∧ n ≤ 20 ∧ a.1 2 0 p = nI z ∧ z ≤ 20 ∧ (n < z → gdA (a.1 4 p n) (a.1 6 p n)) ∧ a.1 1 0 3 = nI P ∧ P ≤ 12 ∧ a.1 15 0 2 = nI rr ∧ rr ≤ 100 ∧ (∀ u, u < 24 → a.1 7 u 0 = nI u) ∧ ∃ T', 1 ≤ T' ∧ T' ≤ 24 ∧ (xStA a t).1 18 0 5 = nI T'
set_option maxHeartbeats 4000000 in
set_option maxRecDepth 100000 in
theorem l_X5_takeTurn {b : tH} {t q : Nat} {Q : Option tV → tH → Prop} (J : tH → Prop) (hq : ∀ a, J a → a.1 18 0 8 = nI q) (ht24 : t < 24) (h10 : q ≤ 10) (hF : ∀ a, J a → a.1 7 t 3 = 0 → FX a t ∧ J (xStC a t)) : ∀ (m k : Nat) (a : tH) (L3 : Option tV), q = k + m → J a → (∀ L2 L3, Vw yX5_takeTurn.cls cX5_takeTurn 4 (some .boolean) 5 Q 105 [some (.inr (some (18, 0))), some (.inr (some (7, t))), L2, L3] [] (mix (xTL t m a) b)) → Vw yX5_takeTurn.cls cX5_takeTurn 4 (some .boolean) 5 Q 34 [some (.inr (some (18, 0))), some (.inr (some (7, t))), some (.inl (nI k)), L3] [] (mix a b) := by
  intro m
  induction m with
  | zero =>
    intro k a L3 hk j K
    obtain rfl : q = k := hk
    refine v_iload_n dX5_takeTurn_34 rfl ?_
    refine v_aload_n dX5_takeTurn_35 rfl ?_
    refine x_gk (hq a j) (by decide) fX5_49 dX5_takeTurn_36 rfl rfl Nat.zero_lt_one ?_
    refine v_icmp_ge 105 dX5_takeTurn_39 (by decide) (fun h_39 => ?_) (fun h_39 => absurd (Int32.le_refl _) h_39)
    exact K _ _
  | succ m ih =>
    intro k a L3 hk j K
    by_cases hc : a.1 7 t 3 = 0
    · obtain ⟨⟨T, P, p, n, z, rr, L, htT, Z, I, ep, hpP, en, hn20, ez, hz20, hg, eP, h12, hrr, h100, hN, T', hT1, hT2, eT'⟩, j2⟩ := hF a j hc
      have hT24 := Z.2.1
      have eT : nv (a.1 18 0 5) = T := by rw [Z.1, nv_nI (by omega)]
      have epn : nv (a.1 7 t 4) = p := by rw [ep, nv_nI (by omega)]
      have enn : nv (a.1 7 t 5) = n := by rw [en, nv_nI (by omega)]
      have eC : xStC a t = xClose (xStA a t) T' := by unfold xStC; rw [eT', nv_nI (by omega)]
      by_cases hnz : n < z
      · obtain ⟨jj, hjj, ejj, hgy⟩ := hg hnz
        have e2 : xStA a t = xDo jj (a.1 6 p n) a T t := by
          unfold xStA
          rw [epn, enn, en, ez, if_pos (nI_lt hnz (by omega)), eT, ejj, nv_nI (by omega)]
        have eK : xKd a t = nI jj := by
          unfold xKd
          rw [epn, enn, en, ez, if_pos (nI_lt hnz (by omega)), ejj]
        have e1 : xTL t (m + 1) a = if nI jj = 6 then xStC a t else xTL t m (xStC a t) := by
          rw [← eK]; exact if_pos hc
        rw [e1] at K
        refine v_iload_n dX5_takeTurn_34 rfl ?_
        refine v_aload_n dX5_takeTurn_35 rfl ?_
        refine x_gk (hq a j) (by decide) fX5_49 dX5_takeTurn_36 rfl rfl Nat.zero_lt_one ?_
        refine v_icmp_ge 105 dX5_takeTurn_39 (by decide) (fun h_39 => absurd h_39 (nI_ge (by omega) (by omega))) (fun h_39 => ?_)
        refine v_aload_n dX5_takeTurn_42 rfl ?_
        refine x_gk hc (by decide) fX5_91 dX5_takeTurn_43 rfl rfl ht24 ?_
        refine v_if_ne 105 dX5_takeTurn_46 (by decide) (fun h_46 => absurd rfl h_46) (fun h_46 => ?_)
        refine v_aload_n dX5_takeTurn_49 rfl ?_
        refine v_gr 0 fX5_64 dX5_takeTurn_50 rfl rfl rfl Nat.zero_lt_one ?_
        refine v_aload_n dX5_takeTurn_53 rfl ?_
        refine x_gk ep (by decide) fX5_94 dX5_takeTurn_54 rfl rfl ht24 ?_
        refine v_aload_n dX5_takeTurn_57 rfl ?_
        refine x_gk en (by decide) fX5_97 dX5_takeTurn_58 rfl rfl ht24 ?_
        refine v_call2i lX5_100 kX3_kindAt (c_X3_kindAt_in eP hpP h12 ez hz20 hnz) dX5_takeTurn_61 rfl rfl Nat.zero_lt_one rfl (by decide) (by decide) (st8 rfl) ?_
        rw [ejj]
        refine v_istore_n [_, _, _, _] dX5_takeTurn_64 rfl (by decide) ?_
        refine v_aload_n dX5_takeTurn_65 rfl ?_
        refine v_aload_n dX5_takeTurn_66 rfl ?_
        refine v_iload_n dX5_takeTurn_67 rfl ?_
        refine v_aload_n dX5_takeTurn_68 rfl ?_
        refine v_gr 0 fX5_64 dX5_takeTurn_69 rfl rfl rfl Nat.zero_lt_one ?_
        refine v_aload_n dX5_takeTurn_72 rfl ?_
        refine x_gk ep (by decide) fX5_94 dX5_takeTurn_73 rfl rfl ht24 ?_
        refine v_aload_n dX5_takeTurn_76 rfl ?_
        refine x_gk en (by decide) fX5_97 dX5_takeTurn_77 rfl rfl ht24 ?_
        refine v_call2i lX5_105 kX3_operandAt (c_X3_operandAt_in eP hpP h12 ez hz20 hnz) dX5_takeTurn_80 rfl rfl Nat.zero_lt_one rfl (by decide) (by decide) (st8 rfl) ?_
        refine v_call3n lX5_108 kX5_doAct (c_X5_doAct (T := T) (P := P) (rr := rr) htT Z I hc ⟨jj, hjj, rfl, hgy⟩ hjj eP h12 hrr h100 hN) dX5_takeTurn_83 rfl rfl Nat.zero_lt_one rfl (by decide) (by decide) (st8 rfl) ?_
        rw [← e2]
        refine v_aload_n dX5_takeTurn_86 rfl ?_
        refine v_call0n lX5_112 kX5_closeIfOver (c_X5_closeIfOver (a := xStA a t) (T := T') eT' hT2 hT1) dX5_takeTurn_87 rfl rfl Nat.zero_lt_one rfl (by decide) (by decide) (st8 rfl) ?_
        rw [← eC]
        refine v_iload_n dX5_takeTurn_90 rfl ?_
        refine v_bipush 6 dX5_takeTurn_91 (by decide) ?_
        refine v_icmp_ne 99 dX5_takeTurn_93 (by decide) (fun h_93 => ?_) (fun h_93 => ?_)
        · rw [if_neg h_93] at K
          refine v_iinc [_, _, _, _] dX5_takeTurn_99 rfl (by first | exact inc1 _ | rfl) rfl (by decide) ?_
          refine v_goto 34 dX5_takeTurn_102 (by decide) ?_
          exact ih (k + 1) _ _ (by omega) j2 K
        · rw [if_pos h_93] at K
          refine v_goto 105 dX5_takeTurn_96 (by decide) ?_
          exact K _ _
      · have e2 : xStA a t = put a 7 t 3 5 := by
          unfold xStA
          rw [epn, en, ez, if_neg (nI_nlt (by omega) (by omega))]
        have eK : xKd a t = -1 := by
          unfold xKd
          rw [epn, en, ez, if_neg (nI_nlt (by omega) (by omega))]
        have e1 : xTL t (m + 1) a = xTL t m (xStC a t) := by
          show (if a.1 7 t 3 = 0 then if xKd a t = 6 then xStC a t else xTL t m (xStC a t) else a) = _
          rw [if_pos hc, eK, if_neg (by decide)]
        rw [e1] at K
        refine v_iload_n dX5_takeTurn_34 rfl ?_
        refine v_aload_n dX5_takeTurn_35 rfl ?_
        refine x_gk (hq a j) (by decide) fX5_49 dX5_takeTurn_36 rfl rfl Nat.zero_lt_one ?_
        refine v_icmp_ge 105 dX5_takeTurn_39 (by decide) (fun h_39 => absurd h_39 (nI_ge (by omega) (by omega))) (fun h_39 => ?_)
        refine v_aload_n dX5_takeTurn_42 rfl ?_
        refine x_gk hc (by decide) fX5_91 dX5_takeTurn_43 rfl rfl ht24 ?_
        refine v_if_ne 105 dX5_takeTurn_46 (by decide) (fun h_46 => absurd rfl h_46) (fun h_46 => ?_)
        refine v_aload_n dX5_takeTurn_49 rfl ?_
        refine v_gr 0 fX5_64 dX5_takeTurn_50 rfl rfl rfl Nat.zero_lt_one ?_
        refine v_aload_n dX5_takeTurn_53 rfl ?_
        refine x_gk ep (by decide) fX5_94 dX5_takeTurn_54 rfl rfl ht24 ?_
        refine v_aload_n dX5_takeTurn_57 rfl ?_
        refine x_gk en (by decide) fX5_97 dX5_takeTurn_58 rfl rfl ht24 ?_
        refine v_call2i lX5_100 kX3_kindAt (c_X3_kindAt_out eP hpP h12 ez hz20 (by omega) (by omega)) dX5_takeTurn_61 rfl rfl Nat.zero_lt_one rfl (by decide) (by decide) (st8 rfl) ?_
        refine v_istore_n [_, _, _, _] dX5_takeTurn_64 rfl (by decide) ?_
        refine v_aload_n dX5_takeTurn_65 rfl ?_
        refine v_aload_n dX5_takeTurn_66 rfl ?_
        refine v_iload_n dX5_takeTurn_67 rfl ?_
        refine v_aload_n dX5_takeTurn_68 rfl ?_
        refine v_gr 0 fX5_64 dX5_takeTurn_69 rfl rfl rfl Nat.zero_lt_one ?_
        refine v_aload_n dX5_takeTurn_72 rfl ?_
        refine x_gk ep (by decide) fX5_94 dX5_takeTurn_73 rfl rfl ht24 ?_
        refine v_aload_n dX5_takeTurn_76 rfl ?_
        refine x_gk en (by decide) fX5_97 dX5_takeTurn_77 rfl rfl ht24 ?_
        refine v_call2i lX5_105 kX3_operandAt (c_X3_operandAt_out eP hpP h12 ez hz20 (by omega) (by omega)) dX5_takeTurn_80 rfl rfl Nat.zero_lt_one rfl (by decide) (by decide) (st8 rfl) ?_
        refine v_call3n lX5_108 kX5_doAct (c_X5_doAct_end ht24) dX5_takeTurn_83 rfl rfl Nat.zero_lt_one rfl (by decide) (by decide) (st8 rfl) ?_
        rw [← e2]
        refine v_aload_n dX5_takeTurn_86 rfl ?_
        refine v_call0n lX5_112 kX5_closeIfOver (c_X5_closeIfOver (a := xStA a t) (T := T') eT' hT2 hT1) dX5_takeTurn_87 rfl rfl Nat.zero_lt_one rfl (by decide) (by decide) (st8 rfl) ?_
        rw [← eC]
        refine v_iload_n dX5_takeTurn_90 rfl ?_
        refine v_bipush 6 dX5_takeTurn_91 (by decide) ?_
        refine v_icmp_ne 99 dX5_takeTurn_93 (by decide) (fun h_93 => ?_) (fun h_93 => absurd h_93 (by decide))
        refine v_iinc [_, _, _, _] dX5_takeTurn_99 rfl (by first | exact inc1 _ | rfl) rfl (by decide) ?_
        refine v_goto 34 dX5_takeTurn_102 (by decide) ?_
        exact ih (k + 1) _ _ (by omega) j2 K
    · have e1 : xTL t (m + 1) a = a := if_neg hc
      rw [e1] at K
      refine v_iload_n dX5_takeTurn_34 rfl ?_
      refine v_aload_n dX5_takeTurn_35 rfl ?_
      refine x_gk (hq a j) (by decide) fX5_49 dX5_takeTurn_36 rfl rfl Nat.zero_lt_one ?_
      refine v_icmp_ge 105 dX5_takeTurn_39 (by decide) (fun h_39 => absurd h_39 (nI_ge (by omega) (by omega))) (fun h_39 => ?_)
      refine v_aload_n dX5_takeTurn_42 rfl ?_
      refine x_gi (by decide) fX5_91 dX5_takeTurn_43 rfl rfl ht24 ?_
      refine v_if_ne 105 dX5_takeTurn_46 (by decide) (fun h_46 => ?_) (fun h_46 => absurd h_46 hc)
      exact K _ _
theorem xTL_J {t : Nat} (J : tH → Prop) (hF : ∀ a, J a → a.1 7 t 3 = 0 → FX a t ∧ J (xStC a t)) : ∀ (m : Nat) (a : tH), J a → J (xTL t m a)
  | 0, a, j => j
  | m + 1, a, j => by
    unfold xTL
    split
    · rename_i hc
      split
      · exact (hF a j hc).2
      · exact xTL_J J hF m _ (hF a j hc).2
    · exact j
def xTb (a : tH) (t : Nat) : tH := put (xRemove a t) 7 t 11 ((xRemove a t).1 7 t 11 + 1)
def xTe1 (a : tH) (t : Nat) : tH := if a.1 7 t 3 = 0 then xAdd a t else a
def xTe (a : tH) (t : Nat) : tH := put (put (xTe1 a t) 18 0 9 ((xTe1 a t).1 18 0 9 + 1)) 18 0 10 ((xTe1 a t).1 18 0 10 + 1)
def xTurnB (a : tH) (t q : Nat) : tH := xTe (xTL t q (xTb a t)) t
set_option maxHeartbeats 4000000 in
set_option maxRecDepth 100000 in
theorem c_X5_takeTurn_over {a b : tH} (ho : ¬ a.1 18 0 7 = 0) : Ci yX5_takeTurn cX5_takeTurn 4 .boolean 5 [.inr (some (18, 0))] (mix a b) (0) (mix (a) b) := by
  refine Ct.of (by decide) [_, _, _, _] rfl (Nat.le_of_ble_eq_true rfl) ?_
  refine v_aload_n dX5_takeTurn_0 rfl ?_
  refine x_gi (by decide) fX5_46 dX5_takeTurn_1 rfl rfl Nat.zero_lt_one ?_
  refine v_if_eq 11 dX5_takeTurn_4 (by decide) (fun h_4 => absurd h_4 ho) (fun h_4 => ?_)
  refine v_null dX5_takeTurn_7 ?_
  refine v_goto 15 dX5_takeTurn_8 (by decide) ?_
  refine v_astore_n [_, _, _, _] dX5_takeTurn_15 rfl (by decide) ?_
  refine v_aload_n dX5_takeTurn_16 rfl ?_
  refine v_ifnonnull 22 dX5_takeTurn_17 (by decide) (fun q_17 h_17 => nomatch h_17) (fun h_17 => ?_)
  refine v_iconst 0 dX5_takeTurn_20 (by decide) ?_
  exact v_zret dX5_takeTurn_21 (by decide) ⟨rfl, rfl⟩
set_option maxHeartbeats 4000000 in
set_option maxRecDepth 100000 in
theorem c_X5_takeTurn_none {a b : tH} {T : Nat} {L : List Nat} (Z : XQ a none T L) (I : XH a T) (h1 : 1 ≤ T) (ho : a.1 18 0 7 = 0) (hq : (xNext a T).1 10 0 1 = 0) : Ci yX5_takeTurn cX5_takeTurn 4 .boolean 5 [.inr (some (18, 0))] (mix a b) (0) (mix (put (xNext a T) 10 0 1 0) b) := by
  refine Ct.of (by decide) [_, _, _, _] rfl (Nat.le_of_ble_eq_true rfl) ?_
  refine v_aload_n dX5_takeTurn_0 rfl ?_
  refine x_gk ho (by decide) fX5_46 dX5_takeTurn_1 rfl rfl Nat.zero_lt_one ?_
  refine v_if_eq 11 dX5_takeTurn_4 (by decide) (fun h_4 => ?_) (fun h_4 => absurd rfl h_4)
  refine v_aload_n dX5_takeTurn_11 rfl ?_
  refine v_call0r lX5_86 kX5_nextToRun (c_X5_nextToRun0 (T := T) Z I h1 hq) dX5_takeTurn_12 rfl rfl Nat.zero_lt_one rfl (by decide) (by decide) (st8 rfl) ?_
  refine v_astore_n [_, _, _, _] dX5_takeTurn_15 rfl (by decide) ?_
  refine v_aload_n dX5_takeTurn_16 rfl ?_
  refine v_ifnonnull 22 dX5_takeTurn_17 (by decide) (fun q_17 h_17 => nomatch h_17) (fun h_17 => ?_)
  refine v_iconst 0 dX5_takeTurn_20 (by decide) ?_
  exact v_zret dX5_takeTurn_21 (by decide) ⟨rfl, rfl⟩
set_option maxHeartbeats 4000000 in
set_option maxRecDepth 100000 in
theorem c_X5_takeTurn_turn {a b : tH} {T : Nat} {L : List Nat} (Z : XQ a none T L) (I : XH a T) (h1 : 1 ≤ T) {t q qq : Nat} (ho : a.1 18 0 7 = 0) (ht24 : t < 24) (hq : (xNext a T).1 10 0 1 = nI (qq + 1)) (h24 : qq < 24) (hn : (xNext a T).2 0 = some t) (hok : okq (xNext a T)) (h10 : q ≤ 10) (J : tH → Prop) (hqJ : ∀ a, J a → a.1 18 0 8 = nI q) (hF : ∀ a, J a → a.1 7 t 3 = 0 → FX a t ∧ J (xStC a t)) (j0 : J (xTb (xNext a T) t)) (jE : J (xTL t q (xTb (xNext a T) t)) → (xTL t q (xTb (xNext a T) t)).1 7 t 3 = 0 → ∃ y, y < 24 ∧ (xTL t q (xTb (xNext a T) t)).1 10 0 1 = nI y) : Ci yX5_takeTurn cX5_takeTurn 4 .boolean 5 [.inr (some (18, 0))] (mix a b) (1) (mix (xTurnB (xNext a T) t q) b) := by
  refine Ct.of (by decide) [_, _, _, _] rfl (Nat.le_of_ble_eq_true rfl) ?_
  refine v_aload_n dX5_takeTurn_0 rfl ?_
  refine x_gk ho (by decide) fX5_46 dX5_takeTurn_1 rfl rfl Nat.zero_lt_one ?_
  refine v_if_eq 11 dX5_takeTurn_4 (by decide) (fun h_4 => ?_) (fun h_4 => absurd rfl h_4)
  refine v_aload_n dX5_takeTurn_11 rfl ?_
  refine v_call0r lX5_86 kX5_nextToRun (c_X5_nextToRun1 (T := T) Z I h1 ht24 hq h24 hn hok) dX5_takeTurn_12 rfl rfl Nat.zero_lt_one rfl (by decide) (by decide) (st8 rfl) ?_
  refine v_astore_n [_, _, _, _] dX5_takeTurn_15 rfl (by decide) ?_
  refine v_aload_n dX5_takeTurn_16 rfl ?_
  refine v_ifnonnull 22 dX5_takeTurn_17 (by decide) (fun q_17 h_17 => ?_) (fun h_17 => nomatch h_17)
  refine v_aload_n dX5_takeTurn_22 rfl ?_
  refine v_dup dX5_takeTurn_23 ?_
  refine x_gi (by decide) fX5_90 dX5_takeTurn_24 rfl rfl ht24 ?_
  refine v_iconst 1 dX5_takeTurn_27 (by decide) ?_
  refine v_iadd dX5_takeTurn_28 ?_
  refine x_pi (by decide) fX5_90 dX5_takeTurn_29 rfl rfl ht24 ?_
  refine v_iconst 0 dX5_takeTurn_32 (by decide) ?_
  refine v_istore_n [_, _, _, _] dX5_takeTurn_33 rfl (by decide) ?_
  refine l_X5_takeTurn J hqJ ht24 h10 hF q 0 (xTb (xNext a T) t) none (by omega) j0 (fun L2 L3 => ?_)
  have jj := xTL_J J hF q _ j0
  refine v_aload_n dX5_takeTurn_105 rfl ?_
  refine x_gi (by decide) fX5_91 dX5_takeTurn_106 rfl rfl ht24 ?_
  refine v_if_ne 120 dX5_takeTurn_109 (by decide) (fun h_109 => ?_) (fun h_109 => ?_)
  · refine v_aload_n dX5_takeTurn_120 rfl ?_
    refine v_dup dX5_takeTurn_121 ?_
    refine x_gi (by decide) fX5_52 dX5_takeTurn_122 rfl rfl Nat.zero_lt_one ?_
    refine v_iconst 1 dX5_takeTurn_125 (by decide) ?_
    refine v_iadd dX5_takeTurn_126 ?_
    refine x_pi (by decide) fX5_52 dX5_takeTurn_127 rfl rfl Nat.zero_lt_one ?_
    refine v_aload_n dX5_takeTurn_130 rfl ?_
    refine v_dup dX5_takeTurn_131 ?_
    refine x_gi (by decide) fX5_55 dX5_takeTurn_132 rfl rfl Nat.zero_lt_one ?_
    refine v_iconst 1 dX5_takeTurn_135 (by decide) ?_
    refine v_iadd dX5_takeTurn_136 ?_
    refine x_pi (by decide) fX5_55 dX5_takeTurn_137 rfl rfl Nat.zero_lt_one ?_
    refine v_iconst 1 dX5_takeTurn_140 (by decide) ?_
    exact v_zret dX5_takeTurn_141 (by decide) ⟨rfl, by unfold xTurnB xTe xTe1; first | (rw [if_neg h_109]; rfl) | (rw [if_pos h_109]; unfold xAdd; rw [ey, nv_nI (by omega), nI_1]; rfl)⟩
  · obtain ⟨y, hy, ey⟩ := jE jj h_109
    refine v_aload_n dX5_takeTurn_112 rfl ?_
    refine v_gr 0 fX5_20 dX5_takeTurn_113 rfl rfl rfl Nat.zero_lt_one ?_
    refine v_aload_n dX5_takeTurn_116 rfl ?_
    refine v_call1n lX5_115 kX2_add (c_X2_add (n := y) ht24 ey hy) dX5_takeTurn_117 rfl rfl Nat.zero_lt_one rfl (by decide) (by decide) (st8 rfl) ?_
    refine v_aload_n dX5_takeTurn_120 rfl ?_
    refine v_dup dX5_takeTurn_121 ?_
    refine x_gi (by decide) fX5_52 dX5_takeTurn_122 rfl rfl Nat.zero_lt_one ?_
    refine v_iconst 1 dX5_takeTurn_125 (by decide) ?_
    refine v_iadd dX5_takeTurn_126 ?_
    refine x_pi (by decide) fX5_52 dX5_takeTurn_127 rfl rfl Nat.zero_lt_one ?_
    refine v_aload_n dX5_takeTurn_130 rfl ?_
    refine v_dup dX5_takeTurn_131 ?_
    refine x_gi (by decide) fX5_55 dX5_takeTurn_132 rfl rfl Nat.zero_lt_one ?_
    refine v_iconst 1 dX5_takeTurn_135 (by decide) ?_
    refine v_iadd dX5_takeTurn_136 ?_
    refine x_pi (by decide) fX5_55 dX5_takeTurn_137 rfl rfl Nat.zero_lt_one ?_
    refine v_iconst 1 dX5_takeTurn_140 (by decide) ?_
    exact v_zret dX5_takeTurn_141 (by decide) ⟨rfl, by unfold xTurnB xTe xTe1; first | (rw [if_neg h_109]; rfl) | (rw [if_pos h_109]; unfold xAdd; rw [ey, nv_nI (by omega), nI_1]; rfl)⟩
