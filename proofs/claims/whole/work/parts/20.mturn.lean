/-! The reference: a turn, a step -/
def mStA (b : tH) (t : Nat) : tH := if b.1 26 0 t < b.1 21 0 (nv (b.1 25 0 t)) then mAct b (nv (b.1 20 0 11)) t else mFin b (nv (b.1 20 0 11)) t 5
def mTL (t : Nat) : Nat → tH → tH
  | 0, b => b
  | m + 1, b => if b.1 24 0 t = 0 ∧ b.1 20 0 34 = 0 then mTL t m (mStA b t) else b
def mTb (b : tH) (t : Nat) : tH := put (put (put (mLeave b t) 20 0 34 0) 34 0 t ((mLeave b t).1 34 0 t + 1)) 20 0 9 ((mLeave b t).1 20 0 9 + 1)
def mTe1 (b : tH) (t : Nat) : tH := if b.1 24 0 t = 0 then mEnq b t else b
def mTe (b : tH) (t : Nat) : tH := put (mTe1 b t) 20 0 8 ((mTe1 b t).1 20 0 8 + 1)
def mTurnB (b : tH) (t q : Nat) : tH := mTe (mTL t q (mTb b t)) t
def mTurn (b : tH) : Int32 × tH := if b.1 20 0 6 = 0 then
    if (mFind b (nv (b.1 20 0 11))).1 20 0 6 = 0 ∧ ¬ (mFind b (nv (b.1 20 0 11))).1 20 0 27 = 0 then (1, mTurnB (mFind b (nv (b.1 20 0 11))) (nv ((mFind b (nv (b.1 20 0 11))).1 38 0 0)) (nv (b.1 20 0 7))) else (0, mFind b (nv (b.1 20 0 11)))
  else (0, b)
def mStepL : Nat → Nat → tH → Nat × tH
  | 0, d, b => (d, b)
  | m + 1, d, b => if (mTurn b).1 = 0 then (d, (mTurn b).2) else mStepL m (d + 1) (mTurn b).2
/-- what an act of the reference needs -/
def FA (b : tH) (t : Nat) : Prop := ∃ (T P p n z rr : Nat) (L : List Nat), t < T ∧ IQ b (some t) T L ∧ IH b T ∧ b.1 25 0 t = nI p ∧ p < 12 ∧ b.1 26 0 t = nI n ∧ n ≤ 20 ∧ b.1 21 0 p = nI z ∧ z ≤ 20 ∧ (n < z → gdA (b.1 22 0 (20 * p + n)) (b.1 23 0 (20 * p + n))) ∧ b.1 20 0 1 = nI P ∧ b.1 20 0 31 = nI rr ∧ rr ≤ 100

set_option maxHeartbeats 4000000 in
set_option maxRecDepth 100000 in
theorem l_X7_isTurn {a : tH} {t q : Nat} {Q : Option tV → tH → Prop} (J : tH → Prop) (hq : ∀ b, J b → b.1 20 0 7 = nI q) (ht24 : t < 24) (h10 : q ≤ 10) (hF : ∀ b, J b → b.1 24 0 t = 0 → b.1 20 0 34 = 0 → FA b t ∧ J (mStA b t)) : ∀ (m k : Nat) (b : tH), q = k + m → J b → (∀ L2, Vw yX7_isTurn.cls cX7_isTurn 3 (some .boolean) 6 Q 132 [some (.inr (some (20, 0))), some (.inl (nI t)), L2] [] (mix a (mTL t m b))) → Vw yX7_isTurn.cls cX7_isTurn 3 (some .boolean) 6 Q 68 [some (.inr (some (20, 0))), some (.inl (nI t)), some (.inl (nI k))] [] (mix a b) := by
  intro m
  induction m with
  | zero =>
    intro k b hk j K
    obtain rfl : q = k := hk
    refine v_iload_n dX7_isTurn_68 rfl ?_
    refine v_aload_n dX7_isTurn_69 rfl ?_
    refine m_gk (hq b j) (by decide) fX7_109 dX7_isTurn_70 rfl rfl Nat.zero_lt_one ?_
    refine v_icmp_ge 132 dX7_isTurn_73 (by decide) (fun h_73 => ?_) (fun h_73 => absurd (Int32.le_refl _) h_73)
    exact K _
  | succ m ih =>
    intro k b hk j K
    by_cases hc : b.1 24 0 t = 0 ∧ b.1 20 0 34 = 0
    · have e1 : mTL t (m + 1) b = mTL t m (mStA b t) := if_pos hc
      rw [e1] at K
      obtain ⟨⟨T, P, p, n, z, rr, L, htT, Z, I, ep, hp12, en, hn20, ez, hz20, hg, eP, hrr, h100⟩, j2⟩ := hF b j hc.1 hc.2
      have hT24 := Z.2.1
      have eT : nv (b.1 20 0 11) = T := by rw [Z.1, nv_nI (by omega)]
      have epn : nv (b.1 25 0 t) = p := by rw [ep, nv_nI (by omega)]
      by_cases hnz : n < z
      · have e2 : mStA b t = mAct b T t := by
          unfold mStA
          rw [eT, epn, en, ez, if_pos (nI_lt hnz (by omega))]
        refine v_iload_n dX7_isTurn_68 rfl ?_
        refine v_aload_n dX7_isTurn_69 rfl ?_
        refine m_gk (hq b j) (by decide) fX7_109 dX7_isTurn_70 rfl rfl Nat.zero_lt_one ?_
        refine v_icmp_ge 132 dX7_isTurn_73 (by decide) (fun h_73 => absurd h_73 (nI_ge (by omega) (by omega))) (fun h_73 => ?_)
        refine v_aload_n dX7_isTurn_76 rfl ?_
        refine v_gr 0 fX7_19 dX7_isTurn_77 rfl rfl rfl Nat.zero_lt_one ?_
        refine v_iload_n dX7_isTurn_80 rfl ?_
        refine m_ialk t hc.1 (by decide) rfl dX7_isTurn_81 Nat.zero_lt_one rfl ht24 ?_
        refine v_if_ne 132 dX7_isTurn_82 (by decide) (fun h_82 => absurd rfl h_82) (fun h_82 => ?_)
        refine v_aload_n dX7_isTurn_85 rfl ?_
        refine m_gk hc.2 (by decide) fX7_163 dX7_isTurn_86 rfl rfl Nat.zero_lt_one ?_
        refine v_if_ne 132 dX7_isTurn_89 (by decide) (fun h_89 => absurd rfl h_89) (fun h_89 => ?_)
        refine v_aload_n dX7_isTurn_92 rfl ?_
        refine v_gr 0 fX7_25 dX7_isTurn_93 rfl rfl rfl Nat.zero_lt_one ?_
        refine v_iload_n dX7_isTurn_96 rfl ?_
        refine m_ialk t en (by decide) rfl dX7_isTurn_97 Nat.zero_lt_one rfl ht24 ?_
        refine v_aload_n dX7_isTurn_98 rfl ?_
        refine v_gr 0 fX7_7 dX7_isTurn_99 rfl rfl rfl Nat.zero_lt_one ?_
        refine v_aload_n dX7_isTurn_102 rfl ?_
        refine v_gr 0 fX7_22 dX7_isTurn_103 rfl rfl rfl Nat.zero_lt_one ?_
        refine v_iload_n dX7_isTurn_106 rfl ?_
        refine m_ialk t ep (by decide) rfl dX7_isTurn_107 Nat.zero_lt_one rfl ht24 ?_
        refine m_ialk p ez (by decide) rfl dX7_isTurn_108 Nat.zero_lt_one rfl hp12 ?_
        refine v_icmp_lt 121 dX7_isTurn_109 (by decide) (fun h_109 => ?_) (fun h_109 => absurd (nI_lt hnz (by omega)) h_109)
        refine v_aload_n dX7_isTurn_121 rfl ?_
        refine v_iload_n dX7_isTurn_122 rfl ?_
        refine v_call1n lX7_175 kX7_doAct (c_X7_doAct (T := T) (P := P) (rr := rr) htT Z I (fun r e => by cases e; exact hc.1) ep en (by omega) (hg hnz) eP hrr h100) dX7_isTurn_123 rfl rfl Nat.zero_lt_one rfl (by decide) (by decide) (st8 rfl) ?_
        refine v_iinc [_, _, _] dX7_isTurn_126 rfl (by first | exact inc1 _ | rfl) rfl (by decide) ?_
        refine v_goto 68 dX7_isTurn_129 (by decide) ?_
        rw [e2] at K j2
        exact ih (k + 1) _ (by omega) j2 K
      · have e2 : mStA b t = mFin b T t 5 := by
          unfold mStA
          rw [eT, epn, en, ez, if_neg (nI_nlt (by omega) (by omega))]
        refine v_iload_n dX7_isTurn_68 rfl ?_
        refine v_aload_n dX7_isTurn_69 rfl ?_
        refine m_gk (hq b j) (by decide) fX7_109 dX7_isTurn_70 rfl rfl Nat.zero_lt_one ?_
        refine v_icmp_ge 132 dX7_isTurn_73 (by decide) (fun h_73 => absurd h_73 (nI_ge (by omega) (by omega))) (fun h_73 => ?_)
        refine v_aload_n dX7_isTurn_76 rfl ?_
        refine v_gr 0 fX7_19 dX7_isTurn_77 rfl rfl rfl Nat.zero_lt_one ?_
        refine v_iload_n dX7_isTurn_80 rfl ?_
        refine m_ialk t hc.1 (by decide) rfl dX7_isTurn_81 Nat.zero_lt_one rfl ht24 ?_
        refine v_if_ne 132 dX7_isTurn_82 (by decide) (fun h_82 => absurd rfl h_82) (fun h_82 => ?_)
        refine v_aload_n dX7_isTurn_85 rfl ?_
        refine m_gk hc.2 (by decide) fX7_163 dX7_isTurn_86 rfl rfl Nat.zero_lt_one ?_
        refine v_if_ne 132 dX7_isTurn_89 (by decide) (fun h_89 => absurd rfl h_89) (fun h_89 => ?_)
        refine v_aload_n dX7_isTurn_92 rfl ?_
        refine v_gr 0 fX7_25 dX7_isTurn_93 rfl rfl rfl Nat.zero_lt_one ?_
        refine v_iload_n dX7_isTurn_96 rfl ?_
        refine m_ialk t en (by decide) rfl dX7_isTurn_97 Nat.zero_lt_one rfl ht24 ?_
        refine v_aload_n dX7_isTurn_98 rfl ?_
        refine v_gr 0 fX7_7 dX7_isTurn_99 rfl rfl rfl Nat.zero_lt_one ?_
        refine v_aload_n dX7_isTurn_102 rfl ?_
        refine v_gr 0 fX7_22 dX7_isTurn_103 rfl rfl rfl Nat.zero_lt_one ?_
        refine v_iload_n dX7_isTurn_106 rfl ?_
        refine m_ialk t ep (by decide) rfl dX7_isTurn_107 Nat.zero_lt_one rfl ht24 ?_
        refine m_ialk p ez (by decide) rfl dX7_isTurn_108 Nat.zero_lt_one rfl hp12 ?_
        refine v_icmp_lt 121 dX7_isTurn_109 (by decide) (fun h_109 => absurd h_109 (nI_nlt (by omega) (by omega))) (fun h_109 => ?_)
        refine v_aload_n dX7_isTurn_112 rfl ?_
        refine v_iload_n dX7_isTurn_113 rfl ?_
        refine v_iconst 5 dX7_isTurn_114 (by decide) ?_
        refine v_call2n lX7_141 kX7_finish (c_X7_finish (T := T) (q := L.length) htT Z (by exact Z.2.2.1) (by have := Z.len; omega)) dX7_isTurn_115 rfl rfl Nat.zero_lt_one rfl (by decide) (by decide) (st8 rfl) ?_
        refine v_goto 126 dX7_isTurn_118 (by decide) ?_
        refine v_iinc [_, _, _] dX7_isTurn_126 rfl (by first | exact inc1 _ | rfl) rfl (by decide) ?_
        refine v_goto 68 dX7_isTurn_129 (by decide) ?_
        rw [e2] at K j2
        exact ih (k + 1) _ (by omega) j2 K
    · have e1 : mTL t (m + 1) b = b := if_neg hc
      rw [e1] at K
      refine v_iload_n dX7_isTurn_68 rfl ?_
      refine v_aload_n dX7_isTurn_69 rfl ?_
      refine m_gk (hq b j) (by decide) fX7_109 dX7_isTurn_70 rfl rfl Nat.zero_lt_one ?_
      refine v_icmp_ge 132 dX7_isTurn_73 (by decide) (fun h_73 => absurd h_73 (nI_ge (by omega) (by omega))) (fun h_73 => ?_)
      refine v_aload_n dX7_isTurn_76 rfl ?_
      refine v_gr 0 fX7_19 dX7_isTurn_77 rfl rfl rfl Nat.zero_lt_one ?_
      refine v_iload_n dX7_isTurn_80 rfl ?_
      refine m_iald t (by decide) rfl dX7_isTurn_81 Nat.zero_lt_one rfl ht24 ?_
      refine v_if_ne 132 dX7_isTurn_82 (by decide) (fun h_82 => ?_) (fun h_82 => ?_)
      · exact K _
      · refine v_aload_n dX7_isTurn_85 rfl ?_
        refine m_gi (by decide) fX7_163 dX7_isTurn_86 rfl rfl Nat.zero_lt_one ?_
        refine v_if_ne 132 dX7_isTurn_89 (by decide) (fun h_89 => ?_) (fun h_89 => absurd ⟨h_82, h_89⟩ hc)
        exact K _
set_option maxHeartbeats 4000000 in
set_option maxRecDepth 100000 in
theorem c_X7_isTurn_over {a b : tH} (ho : ¬ b.1 20 0 6 = 0) : Ci yX7_isTurn cX7_isTurn 3 .boolean 6 [.inr (some (20, 0))] (mix a b) (0) (mix a (b)) := by
  refine Ct.of (by decide) [_, _, _] rfl (Nat.le_of_ble_eq_true rfl) ?_
  refine v_aload_n dX7_isTurn_0 rfl ?_
  refine m_gi (by decide) fX7_106 dX7_isTurn_1 rfl rfl Nat.zero_lt_one ?_
  refine v_if_eq 9 dX7_isTurn_4 (by decide) (fun h_4 => absurd h_4 ho) (fun h_4 => ?_)
  refine v_iconst 0 dX7_isTurn_7 (by decide) ?_
  exact v_zret dX7_isTurn_8 (by decide) ⟨rfl, rfl⟩
set_option maxHeartbeats 4000000 in
set_option maxRecDepth 100000 in
theorem c_X7_isTurn_none {a b : tH} {T : Nat} {L : List Nat} (Z : IQ b none T L) (I : IH b T) (U : IU b T) (ho : b.1 20 0 6 = 0) (h1 : ¬ (mFind b T).1 20 0 6 = 0 ∨ (mFind b T).1 20 0 27 = 0) : Ci yX7_isTurn cX7_isTurn 3 .boolean 6 [.inr (some (20, 0))] (mix a b) (0) (mix a (mFind b T)) := by
  refine Ct.of (by decide) [_, _, _] rfl (Nat.le_of_ble_eq_true rfl) ?_
  refine v_aload_n dX7_isTurn_0 rfl ?_
  refine m_gk ho (by decide) fX7_106 dX7_isTurn_1 rfl rfl Nat.zero_lt_one ?_
  refine v_if_eq 9 dX7_isTurn_4 (by decide) (fun h_4 => ?_) (fun h_4 => absurd rfl h_4)
  refine v_aload_n dX7_isTurn_9 rfl ?_
  refine v_call0n lX7_172 kX7_findReady (c_X7_findReady (T := T) Z I U) dX7_isTurn_10 rfl rfl Nat.zero_lt_one rfl (by decide) (by decide) (st8 rfl) ?_
  refine v_aload_n dX7_isTurn_13 rfl ?_
  refine m_gi (by decide) fX7_106 dX7_isTurn_14 rfl rfl Nat.zero_lt_one ?_
  refine v_if_ne 27 dX7_isTurn_17 (by decide) (fun h_17 => ?_) (fun h_17 => ?_)
  · refine v_iconst 0 dX7_isTurn_27 (by decide) ?_
    exact v_zret dX7_isTurn_28 (by decide) ⟨rfl, rfl⟩
  · refine v_aload_n dX7_isTurn_20 rfl ?_
    refine m_gi (by decide) fX7_99 dX7_isTurn_21 rfl rfl Nat.zero_lt_one ?_
    refine v_if_ne 29 dX7_isTurn_24 (by decide) (fun h_24 => h1.elim (fun z => absurd h_17 z) (fun z => absurd z h_24)) (fun h_24 => ?_)
    refine v_iconst 0 dX7_isTurn_27 (by decide) ?_
    exact v_zret dX7_isTurn_28 (by decide) ⟨rfl, rfl⟩
theorem mTL_J {t : Nat} (J : tH → Prop) (hF : ∀ b, J b → b.1 24 0 t = 0 → b.1 20 0 34 = 0 → FA b t ∧ J (mStA b t)) : ∀ (m : Nat) (b : tH), J b → J (mTL t m b)
  | 0, b, j => j
  | m + 1, b, j => by
    by_cases hc : b.1 24 0 t = 0 ∧ b.1 20 0 34 = 0
    · have e1 : mTL t (m + 1) b = mTL t m (mStA b t) := if_pos hc
      rw [e1]
      exact mTL_J J hF m _ (hF b j hc.1 hc.2).2
    · have e1 : mTL t (m + 1) b = b := if_neg hc
      rw [e1]
      exact j
set_option maxHeartbeats 4000000 in
set_option maxRecDepth 100000 in
theorem c_X7_isTurn_turn {a b : tH} {T : Nat} {L : List Nat} (Z : IQ b none T L) (I : IH b T) (U : IU b T) {t q qq : Nat} (ho : b.1 20 0 6 = 0) (h1 : (mFind b T).1 20 0 6 = 0) (hq : (mFind b T).1 20 0 27 = nI (qq + 1)) (h24 : qq < 24) (e0 : (mFind b T).1 38 0 0 = nI t) (ht24 : t < 24) (h10 : q ≤ 10) (J : tH → Prop) (hqJ : ∀ b, J b → b.1 20 0 7 = nI q) (hF : ∀ b, J b → b.1 24 0 t = 0 → b.1 20 0 34 = 0 → FA b t ∧ J (mStA b t)) (j0 : J (mTb (mFind b T) t)) (jE : J (mTL t q (mTb (mFind b T) t)) → (mTL t q (mTb (mFind b T) t)).1 24 0 t = 0 → ∃ y, y ≤ 24 ∧ (mTL t q (mTb (mFind b T) t)).1 20 0 27 = nI y) : Ci yX7_isTurn cX7_isTurn 3 .boolean 6 [.inr (some (20, 0))] (mix a b) (1) (mix a (mTurnB (mFind b T) t q)) := by
  refine Ct.of (by decide) [_, _, _] rfl (Nat.le_of_ble_eq_true rfl) ?_
  refine v_aload_n dX7_isTurn_0 rfl ?_
  refine m_gk ho (by decide) fX7_106 dX7_isTurn_1 rfl rfl Nat.zero_lt_one ?_
  refine v_if_eq 9 dX7_isTurn_4 (by decide) (fun h_4 => ?_) (fun h_4 => absurd rfl h_4)
  refine v_aload_n dX7_isTurn_9 rfl ?_
  refine v_call0n lX7_172 kX7_findReady (c_X7_findReady (T := T) Z I U) dX7_isTurn_10 rfl rfl Nat.zero_lt_one rfl (by decide) (by decide) (st8 rfl) ?_
  refine v_aload_n dX7_isTurn_13 rfl ?_
  refine m_gk h1 (by decide) fX7_106 dX7_isTurn_14 rfl rfl Nat.zero_lt_one ?_
  refine v_if_ne 27 dX7_isTurn_17 (by decide) (fun h_17 => absurd rfl h_17) (fun h_17 => ?_)
  refine v_aload_n dX7_isTurn_20 rfl ?_
  refine m_gk hq (by decide) fX7_99 dX7_isTurn_21 rfl rfl Nat.zero_lt_one ?_
  refine v_if_ne 29 dX7_isTurn_24 (by decide) (fun h_24 => ?_) (fun h_24 => absurd h_24 (nI_ne0 (by omega) (by omega)))
  refine v_aload_n dX7_isTurn_29 rfl ?_
  refine v_gr 0 fX7_62 dX7_isTurn_30 rfl rfl rfl Nat.zero_lt_one ?_
  refine v_iconst 0 dX7_isTurn_33 (by decide) ?_
  refine m_ialk 0 e0 (by decide) rfl dX7_isTurn_34 Nat.zero_lt_one rfl (by decide) ?_
  refine v_istore_n [_, _, _] dX7_isTurn_35 rfl (by decide) ?_
  refine v_aload_n dX7_isTurn_36 rfl ?_
  refine v_iload_n dX7_isTurn_37 rfl ?_
  refine v_call1n lX7_144 kX7_leaveQueue (c_X7_leaveQueue (q := qq + 1) hq (by omega)) dX7_isTurn_38 rfl rfl Nat.zero_lt_one rfl (by decide) (by decide) (st8 rfl) ?_
  refine v_aload_n dX7_isTurn_41 rfl ?_
  refine v_iconst 0 dX7_isTurn_42 (by decide) ?_
  refine m_pz (by decide) fX7_163 dX7_isTurn_43 rfl rfl Nat.zero_lt_one (by decide) ?_
  refine v_aload_n dX7_isTurn_46 rfl ?_
  refine v_gr 0 fX7_50 dX7_isTurn_47 rfl rfl rfl Nat.zero_lt_one ?_
  refine v_iload_n dX7_isTurn_50 rfl ?_
  refine v_dup2 dX7_isTurn_51 ?_
  refine m_iald t (by decide) rfl dX7_isTurn_52 Nat.zero_lt_one rfl ht24 ?_
  refine v_iconst 1 dX7_isTurn_53 (by decide) ?_
  refine v_iadd dX7_isTurn_54 ?_
  refine m_iast t (by decide) rfl dX7_isTurn_55 Nat.zero_lt_one rfl ht24 ?_
  refine v_aload_n dX7_isTurn_56 rfl ?_
  refine v_dup dX7_isTurn_57 ?_
  refine m_gi (by decide) fX7_115 dX7_isTurn_58 rfl rfl Nat.zero_lt_one ?_
  refine v_iconst 1 dX7_isTurn_61 (by decide) ?_
  refine v_iadd dX7_isTurn_62 ?_
  refine m_pi (by decide) fX7_115 dX7_isTurn_63 rfl rfl Nat.zero_lt_one ?_
  refine v_iconst 0 dX7_isTurn_66 (by decide) ?_
  refine v_istore_n [_, _, _] dX7_isTurn_67 rfl (by decide) ?_
  refine l_X7_isTurn J hqJ ht24 h10 hF q 0 (mTb (mFind b T) t) (by omega) j0 (fun L2 => ?_)
  have jj := mTL_J J hF q _ j0
  refine v_aload_n dX7_isTurn_132 rfl ?_
  refine v_gr 0 fX7_19 dX7_isTurn_133 rfl rfl rfl Nat.zero_lt_one ?_
  refine v_iload_n dX7_isTurn_136 rfl ?_
  refine m_iald t (by decide) rfl dX7_isTurn_137 Nat.zero_lt_one rfl ht24 ?_
  refine v_if_ne 146 dX7_isTurn_138 (by decide) (fun h_138 => ?_) (fun h_138 => ?_)
  · refine v_aload_n dX7_isTurn_146 rfl ?_
    refine v_dup dX7_isTurn_147 ?_
    refine m_gi (by decide) fX7_112 dX7_isTurn_148 rfl rfl Nat.zero_lt_one ?_
    refine v_iconst 1 dX7_isTurn_151 (by decide) ?_
    refine v_iadd dX7_isTurn_152 ?_
    refine m_pi (by decide) fX7_112 dX7_isTurn_153 rfl rfl Nat.zero_lt_one ?_
    refine v_iconst 1 dX7_isTurn_156 (by decide) ?_
    exact v_zret dX7_isTurn_157 (by decide) ⟨rfl, by unfold mTurnB mTe mTe1; first | (rw [if_neg h_138]; done) | (rw [if_pos h_138])⟩
  · obtain ⟨y, hy, ey⟩ := jE jj h_138
    refine v_aload_n dX7_isTurn_141 rfl ?_
    refine v_iload_n dX7_isTurn_142 rfl ?_
    refine v_call1n lX7_95 kX7_enqueue (c_X7_enqueue (q := y) ht24 ey hy) dX7_isTurn_143 rfl rfl Nat.zero_lt_one rfl (by decide) (by decide) (st8 rfl) ?_
    refine v_aload_n dX7_isTurn_146 rfl ?_
    refine v_dup dX7_isTurn_147 ?_
    refine m_gi (by decide) fX7_112 dX7_isTurn_148 rfl rfl Nat.zero_lt_one ?_
    refine v_iconst 1 dX7_isTurn_151 (by decide) ?_
    refine v_iadd dX7_isTurn_152 ?_
    refine m_pi (by decide) fX7_112 dX7_isTurn_153 rfl rfl Nat.zero_lt_one ?_
    refine v_iconst 1 dX7_isTurn_156 (by decide) ?_
    exact v_zret dX7_isTurn_157 (by decide) ⟨rfl, by unfold mTurnB mTe mTe1; first | (rw [if_neg h_138]; done) | (rw [if_pos h_138])⟩
/-- what a turn of the reference needs: its contract, by its three ends -/
def TO (b : tH) : Prop := ∀ a : tH, Ci yX7_isTurn cX7_isTurn 3 .boolean 6 [.inr (some (20, 0))] (mix a b) (mTurn b).1 (mix a (mTurn b).2)
def STn : Nat → tH → Prop
  | 0, _ => True
  | m + 1, b => TO b ∧ (¬ (mTurn b).1 = 0 → STn m (mTurn b).2)
set_option maxHeartbeats 4000000 in
set_option maxRecDepth 100000 in
theorem l_X7_step {a : tH} {n : Nat} (h500 : n ≤ 500) : ∀ (m d : Nat) (b : tH), n = d + m → STn m b → Vw yX7_step.cls cX7_step 3 (some .int) 7 (fun r h' => r = some (.inl (nI (mStepL m d b).1)) ∧ h' = mix a (mStepL m d b).2) 46 [some (.inr (some (20, 0))), some (.inl (nI n)), some (.inl (nI d))] [] (mix a b) := by
  intro m
  induction m with
  | zero =>
    intro d b hd S
    obtain rfl : n = d := hd
    refine v_iload_n dX7_step_46 rfl ?_
    refine v_iload_n dX7_step_47 rfl ?_
    refine v_icmp_ge 64 dX7_step_48 (by decide) (fun h_48 => ?_) (fun h_48 => absurd (Int32.le_refl _) h_48)
    refine v_iload_n dX7_step_64 rfl ?_
    exact v_iret dX7_step_65 ⟨rfl, rfl⟩
  | succ m ih =>
    intro d b hd S
    refine v_iload_n dX7_step_46 rfl ?_
    refine v_iload_n dX7_step_47 rfl ?_
    refine v_icmp_ge 64 dX7_step_48 (by decide) (fun h_48 => absurd h_48 (nI_ge (by omega) (by omega))) (fun h_48 => ?_)
    refine v_aload_n dX7_step_51 rfl ?_
    refine v_call0i lX7_178 kX7_isTurn (S.1 a) dX7_step_52 rfl rfl Nat.zero_lt_one rfl (by decide) (by decide) (st8 rfl) ?_
    refine v_if_eq 64 dX7_step_55 (by decide) (fun h_55 => ?_) (fun h_55 => ?_)
    · have e1 : mStepL (m + 1) d b = (d, (mTurn b).2) := if_pos h_55
      rw [e1]
      refine v_iload_n dX7_step_64 rfl ?_
      exact v_iret dX7_step_65 ⟨rfl, rfl⟩
    · have e1 : mStepL (m + 1) d b = mStepL m (d + 1) (mTurn b).2 := if_neg h_55
      rw [e1]
      refine v_iinc [_, _, _] dX7_step_58 rfl (by first | exact inc1 _ | rfl) rfl (by decide) ?_
      refine v_goto 46 dX7_step_61 (by decide) ?_
      exact ih (d + 1) (mTurn b).2 (by omega) (S.2 h_55)
set_option maxHeartbeats 4000000 in
set_option maxRecDepth 100000 in
theorem c_X7_step2 {a b : tH} {n : Int32} (hn : n < 1 ∨ 500 < n) : Ci yX7_step cX7_step 3 .int 7 [.inr (some (20, 0)), .inl n] (mix a b) ((-2)) (mix a (put b 20 0 0 0)) := by
  refine Ct.of (by decide) [_, _, _] rfl (Nat.le_of_ble_eq_true rfl) ?_
  refine v_aload_n dX7_step_0 rfl ?_
  refine v_iconst 0 dX7_step_1 (by decide) ?_
  refine m_pi (by decide) fX7_77 dX7_step_2 rfl rfl Nat.zero_lt_one ?_
  refine v_iload_n dX7_step_5 rfl ?_
  refine v_iconst 1 dX7_step_6 (by decide) ?_
  refine v_sipush 500 dX7_step_7 (by decide) ?_
  refine v_calls3i lX7_84 kX7_in (c_X7_in) dX7_step_10 rfl (by decide) (by decide) (st8 rfl) ?_
  refine v_if_ne 19 dX7_step_13 (by decide) (fun h_13 => absurd (by rw [i001]; exact hn) h_13) (fun h_13 => ?_)
  refine v_bipush (-2) dX7_step_16 (by decide) ?_
  exact v_iret dX7_step_18 ⟨rfl, rfl⟩
set_option maxHeartbeats 4000000 in
set_option maxRecDepth 100000 in
theorem c_X7_step3 {a b : tH} {n : Nat} (h1 : 1 ≤ n) (h500 : n ≤ 500) (hh : b.1 20 0 5 = 0) : Ci yX7_step cX7_step 3 .int 7 [.inr (some (20, 0)), .inl (nI n)] (mix a b) ((-3)) (mix a (put b 20 0 0 0)) := by
  refine Ct.of (by decide) [_, _, _] rfl (Nat.le_of_ble_eq_true rfl) ?_
  refine v_aload_n dX7_step_0 rfl ?_
  refine v_iconst 0 dX7_step_1 (by decide) ?_
  refine m_pi (by decide) fX7_77 dX7_step_2 rfl rfl Nat.zero_lt_one ?_
  refine v_iload_n dX7_step_5 rfl ?_
  refine v_iconst 1 dX7_step_6 (by decide) ?_
  refine v_sipush 500 dX7_step_7 (by decide) ?_
  refine v_calls3i lX7_84 kX7_in (c_X7_in) dX7_step_10 rfl (by decide) (by decide) (st8 rfl) ?_
  refine v_if_ne 19 dX7_step_13 (by decide) (fun h_13 => ?_) (fun h_13 => absurd h_13 (by rw [i001]; exact fun z => z.elim (nI_nlt (b := 1) h1 (by omega)) (fun y => absurd y (nI_nlt (a := 500) (b := n) h500 (by omega)))))
  refine v_aload_n dX7_step_19 rfl ?_
  refine m_gk (by exact hh) (by decide) fX7_102 dX7_step_20 rfl rfl Nat.zero_lt_one ?_
  refine v_if_ne 29 dX7_step_23 (by decide) (fun h_23 => absurd rfl h_23) (fun h_23 => ?_)
  refine v_bipush (-3) dX7_step_26 (by decide) ?_
  exact v_iret dX7_step_28 ⟨rfl, rfl⟩
set_option maxHeartbeats 4000000 in
set_option maxRecDepth 100000 in
theorem c_X7_step4 {a b : tH} {n N : Nat} (h1 : 1 ≤ n) (h500 : n ≤ 500) (hh : ¬ b.1 20 0 5 = 0) (hN : b.1 20 0 9 = nI N) (hN2 : N < 2 ^ 30) (h3 : 3000 < N + n) : Ci yX7_step cX7_step 3 .int 7 [.inr (some (20, 0)), .inl (nI n)] (mix a b) ((-4)) (mix a (put b 20 0 0 0)) := by
  refine Ct.of (by decide) [_, _, _] rfl (Nat.le_of_ble_eq_true rfl) ?_
  refine v_aload_n dX7_step_0 rfl ?_
  refine v_iconst 0 dX7_step_1 (by decide) ?_
  refine m_pi (by decide) fX7_77 dX7_step_2 rfl rfl Nat.zero_lt_one ?_
  refine v_iload_n dX7_step_5 rfl ?_
  refine v_iconst 1 dX7_step_6 (by decide) ?_
  refine v_sipush 500 dX7_step_7 (by decide) ?_
  refine v_calls3i lX7_84 kX7_in (c_X7_in) dX7_step_10 rfl (by decide) (by decide) (st8 rfl) ?_
  refine v_if_ne 19 dX7_step_13 (by decide) (fun h_13 => ?_) (fun h_13 => absurd h_13 (by rw [i001]; exact fun z => z.elim (nI_nlt (b := 1) h1 (by omega)) (fun y => absurd y (nI_nlt (a := 500) (b := n) h500 (by omega)))))
  refine v_aload_n dX7_step_19 rfl ?_
  refine m_gi (by decide) fX7_102 dX7_step_20 rfl rfl Nat.zero_lt_one ?_
  refine v_if_ne 29 dX7_step_23 (by decide) (fun h_23 => ?_) (fun h_23 => absurd h_23 (by exact hh))
  refine v_aload_n dX7_step_29 rfl ?_
  refine m_gk (by exact hN) (by decide) fX7_115 dX7_step_30 rfl rfl Nat.zero_lt_one ?_
  refine v_iload_n dX7_step_33 rfl ?_
  refine v_iadd dX7_step_34 ?_
  refine v_sipush 3000 dX7_step_35 (by decide) ?_
  rw [nI_add]
  refine v_icmp_le 44 dX7_step_38 (by decide) (fun h_38 => absurd h_38 (nI_ge (a := 3000) h3 (by omega))) (fun h_38 => ?_)
  refine v_bipush (-4) dX7_step_41 (by decide) ?_
  exact v_iret dX7_step_43 ⟨rfl, rfl⟩
set_option maxHeartbeats 4000000 in
set_option maxRecDepth 100000 in
theorem c_X7_step_ok {a b : tH} {n N : Nat} (h1 : 1 ≤ n) (h500 : n ≤ 500) (hh : ¬ b.1 20 0 5 = 0) (hN : b.1 20 0 9 = nI N) (h3 : N + n ≤ 3000) (S : STn n (put b 20 0 0 0)) : Ci yX7_step cX7_step 3 .int 7 [.inr (some (20, 0)), .inl (nI n)] (mix a b) (nI (mStepL n 0 (put b 20 0 0 0)).1) (mix a ((mStepL n 0 (put b 20 0 0 0)).2)) := by
  refine Ct.of (by decide) [_, _, _] rfl (Nat.le_of_ble_eq_true rfl) ?_
  refine v_aload_n dX7_step_0 rfl ?_
  refine v_iconst 0 dX7_step_1 (by decide) ?_
  refine m_pi (by decide) fX7_77 dX7_step_2 rfl rfl Nat.zero_lt_one ?_
  refine v_iload_n dX7_step_5 rfl ?_
  refine v_iconst 1 dX7_step_6 (by decide) ?_
  refine v_sipush 500 dX7_step_7 (by decide) ?_
  refine v_calls3i lX7_84 kX7_in (c_X7_in) dX7_step_10 rfl (by decide) (by decide) (st8 rfl) ?_
  refine v_if_ne 19 dX7_step_13 (by decide) (fun h_13 => ?_) (fun h_13 => absurd h_13 (by rw [i001]; exact fun z => z.elim (nI_nlt (b := 1) h1 (by omega)) (fun y => absurd y (nI_nlt (a := 500) (b := n) h500 (by omega)))))
  refine v_aload_n dX7_step_19 rfl ?_
  refine m_gi (by decide) fX7_102 dX7_step_20 rfl rfl Nat.zero_lt_one ?_
  refine v_if_ne 29 dX7_step_23 (by decide) (fun h_23 => ?_) (fun h_23 => absurd h_23 (by exact hh))
  refine v_aload_n dX7_step_29 rfl ?_
  refine m_gk (by exact hN) (by decide) fX7_115 dX7_step_30 rfl rfl Nat.zero_lt_one ?_
  refine v_iload_n dX7_step_33 rfl ?_
  refine v_iadd dX7_step_34 ?_
  refine v_sipush 3000 dX7_step_35 (by decide) ?_
  rw [nI_add]
  refine v_icmp_le 44 dX7_step_38 (by decide) (fun h_38 => ?_) (fun h_38 => absurd (nI_le (b := 3000) h3 (by omega)) h_38)
  refine v_iconst 0 dX7_step_44 (by decide) ?_
  refine v_istore_n [_, _, _] dX7_step_45 rfl (by decide) ?_
  exact l_X7_step h500 n 0 _ (by omega) S
