/-! The class's Run: an act, waking, idleness, a turn -/
theorem nI_nm1 {j : Nat} (h : j < 2 ^ 31) : ¬ nI j = -1 := fun z => absurd (show nI j < 0 by rw [z]; decide) (nI_pos h)
def xWake (T : Nat) : Nat → tH → tH
  | 0, a => a
  | f + 1, a => match xDelayed a T with
    | none => a
    | some t => if a.1 7 t 12 ≤ a.1 18 0 9 then xWake T f (xReady a t) else a
theorem xWake_none {T f : Nat} {a : tH} (h : xDelayed a T = none) : xWake T f a = a := by
  cases f with
  | zero => rfl
  | succ f => unfold xWake; rw [h]
theorem xWake_late {T f t : Nat} {a : tH} (h : xDelayed a T = some t) (hn : ¬ a.1 7 t 12 ≤ a.1 18 0 9) : xWake T f a = a := by
  cases f with
  | zero => rfl
  | succ f => unfold xWake; rw [h]; exact if_neg hn
theorem xWake_some {T f t : Nat} {a : tH} (h : xDelayed a T = some t) (hn : a.1 7 t 12 ≤ a.1 18 0 9) : xWake T (f + 1) a = xWake T f (xReady a t) := by
  conv => lhs; unfold xWake
  rw [h]
  exact if_pos hn
def xRes1 (a : tH) (T k : Nat) : tH := if a.1 7 k 3 < 1 ∨ 3 < a.1 7 k 3 then a else xClose (xRaise (put a 18 0 11 (a.1 18 0 11 + 1)) k 10) T
def xResc (T : Nat) : Nat → Nat → tH → tH
  | 0, _, a => a
  | m + 1, k, a => xResc T m (k + 1) (xRes1 a T k)
def xIdle (a : tH) (T : Nat) : tH := match xDelayed a T with
  | none => xResc T T 0 a
  | some t => xWake T T (put a 18 0 9 (a.1 7 t 12))
def xNext (a : tH) (T : Nat) : tH := if (xWake T T a).1 10 0 1 = 0 then xIdle (xWake T T a) T else xWake T T a
theorem xDelayed_st {a : tH} {T t : Nat} (h : xDelayed a T = some t) : t < T ∧ a.1 7 t 3 = 4 := by
  have h1 := mins_lt h
  exact ⟨h1.1, of_decide_eq_true h1.2⟩
theorem XQ.cg {a a' : tH} {ρ : Option Nat} {T : Nat} {L : List Nat} (h : XQ a ρ T L) (e1 : a'.1 18 0 5 = a.1 18 0 5) (e2 : a'.1 10 0 1 = a.1 10 0 1) (e3 : a'.2 = a.2) (e4 : ∀ t ∈ L, a'.1 7 t 3 = a.1 7 t 3) : XQ a' ρ T L :=
  ⟨e1.trans h.1, h.2.1, e2.trans h.2.2.1, fun j s hj => by rw [e3]; exact h.2.2.2.1 j s hj, h.2.2.2.2.1, fun t ht => ⟨(h.2.2.2.2.2.1 t ht).1, (e4 t ht).trans (h.2.2.2.2.2.1 t ht).2.1, (h.2.2.2.2.2.1 t ht).2.2⟩, fun j s e => h.2.2.2.2.2.2 j s (by rw [← e3]; exact e)⟩
/-- removing t, whose state is another now -/
theorem XQ.rem {a a' : tH} {ρ : Option Nat} {T t : Nat} {L : List Nat} (h : XQ a ρ T L) (e1 : a'.1 18 0 5 = a.1 18 0 5) (e2 : a'.1 10 0 1 = a.1 10 0 1) (e3 : a'.2 = a.2) (e4 : ∀ s, s ≠ t → a'.1 7 s 3 = a.1 7 s 3) : XQ (xRemove a' t) ρ T (L.filter (neb t)) ∧ offL a' (xRemove a' t) := by
  have hl := h.len
  obtain ⟨h1, h2, h3, h4, h5, h6, h7⟩ := h
  have e0 : xRemove a' t = xRmL t L.length ([] : List Nat).length 0 a' := by unfold xRemove; rw [e2, h3, nv_nI (by omega)]; rfl
  obtain ⟨r1, r2, r3, r4⟩ := xRmL_spec (t := t) L [] 0 a' (by simp) (fun j s hj => by simp at hj) (fun j s hj => by rw [Nat.zero_add, e3]; exact h4 j s hj) (fun j s e => h7 j s (by rw [← e3]; exact e))
  rw [e0]
  refine ⟨⟨(r3 18 0 5 (by omega)).trans (e1.trans h1), h2, by simpa using r1, fun j s hj => r2 j s (by simpa using hj), h5.filter _, fun s hs => ?_, r4⟩, r3⟩
  have hm := List.mem_filter.mp hs
  have hne : s ≠ t := fun e => by rw [e, neb_eq] at hm; cases hm.2
  exact ⟨(h6 s hm.1).1, (r3 7 s 3 (by omega)).trans ((e4 s hne).trans (h6 s hm.1).2.1), (h6 s hm.1).2.2⟩
theorem XQ.add {a : tH} {ρ : Option Nat} {T t : Nat} {L : List Nat} (h : XQ a ρ T L) (ht : t < T) (hn : t ∉ L) (hρ : ρ ≠ some t) (h0 : a.1 7 t 3 = 0) : XQ (xAdd a t) ρ T (L ++ [t]) := by
  have e : XQ (xReady a t) ρ T (L ++ [t]) := h.ready ht hn hρ
  have : xReady a t = xAdd a t := by
    unfold xReady
    have e2 : put a 7 t 3 0 = a := by
      refine Prod.ext (funext fun c => funext fun i => funext fun k => ?_) rfl
      rw [put_rd]
      split
      · rename_i z; rw [z.1, z.2.1, z.2.2, h0]
      · rfl
    rw [e2]
  rw [← this]
  exact e
theorem XM_raise {a : tH} {ρ : Option Nat} {T t : Nat} {n : Int32} {L : List Nat} (Z : XQ a ρ T L) (I : XH a T) (ht : t < T) (hρ : ρ = some t → a.1 7 t 3 = 0) : (∃ L', XQ (xRaise a t n) ρ T L') ∧ XH (xRaise a t n) T := by
  have hT24 := Z.2.1
  obtain ⟨hc, pc, h4, p4, e1, e2⟩ := I t ht
  cases hc with
  | zero =>
    rw [xRaise_0 e1]
    obtain ⟨Z1, off⟩ := Z.rem (a' := xEndE a t n) (t := t) rfl rfl rfl (fun s hs => by unfold xEndE; rw [put_ne (by omega), put_ne (by omega)])
    refine ⟨⟨_, Z1⟩, fun s hs => ?_⟩
    obtain ⟨hc, pc, g4, q4, f1, f2⟩ := I s hs
    exact ⟨hc, pc, g4, q4, (off 7 s 7 (by omega)).trans (by unfold xEndE; rw [put_ne (by omega), put_ne (by omega)]; exact f1), (off 7 s 8 (by omega)).trans (by unfold xEndE; rw [put_ne (by omega), put_ne (by omega)]; exact f2)⟩
  | succ hc =>
    rw [xRaise_1 e1 (by omega)]
    have Zh : XQ (xHnd a t n hc) ρ T L := ((Z.slot (by decide)).slot (by decide)).slot (by decide)
    have Ih : ∀ (d : tH), (∀ s k, k ≠ 3 → d.1 7 s k = (xHnd a t n hc).1 7 s k) → XH d T := by
      intro d hd s hs
      obtain ⟨hc', pc', g4, q4, f1, f2⟩ := I s hs
      by_cases e : s = t
      · subst e
        exact ⟨hc, pc', by omega, q4, (hd s 7 (by omega)).trans (by unfold xHnd; rw [put_ne (by omega), put_ne (by omega), put_eq]), (hd s 8 (by omega)).trans (by unfold xHnd; rw [put_ne (by omega), put_ne (by omega), put_ne (by omega)]; exact f2)⟩
      · exact ⟨hc', pc', g4, q4, (hd s 7 (by omega)).trans (by unfold xHnd; rw [put_ne (by omega), put_ne (by omega), put_ne (by omega)]; exact f1), (hd s 8 (by omega)).trans (by unfold xHnd; rw [put_ne (by omega), put_ne (by omega), put_ne (by omega)]; exact f2)⟩
    split
    · exact ⟨⟨L, Zh⟩, Ih _ (fun _ _ _ => rfl)⟩
    · rename_i hs
      have hs0 : a.1 7 t 3 ≠ 0 := fun z => hs (Or.inl (by rw [z]; decide))
      have hn : t ∉ L := Z.notin hs0
      refine ⟨⟨_, XQ.ready Zh ht hn (fun e => hs0 (hρ e))⟩, Ih _ (fun s k hk => ?_)⟩
      show (xReady (xHnd a t n hc) t).1 7 s k = _
      unfold xReady xAdd
      rw [put_ne (by omega)]
      show (put (xHnd a t n hc) 7 t 3 0).1 7 s k = _
      rw [put_ne (by omega)]
theorem xClS_off {a : tH} {k c i j : Nat} (h : ¬ (c = 7 ∧ j = 3)) : (xClS a k).1 c i j = a.1 c i j := by
  unfold xClS
  split
  · rw [put_ne (by omega)]
  · rfl
theorem xClS_2 {a : tH} {k : Nat} : (xClS a k).2 = a.2 := by unfold xClS; split <;> rfl
theorem xClL_off : ∀ (m k : Nat) (a : tH), (∀ c i j, ¬ (c = 7 ∧ j = 3) → (xClL m k a).1 c i j = a.1 c i j) ∧ (xClL m k a).2 = a.2
  | 0, _, a => ⟨fun _ _ _ _ => rfl, rfl⟩
  | m + 1, k, a => by
    obtain ⟨h1, h2⟩ := xClL_off m (k + 1) (xClS a k)
    exact ⟨fun c i j h => (h1 c i j h).trans (xClS_off h), h2.trans xClS_2⟩
theorem xClose_rd {a : tH} {T c i j : Nat} (h : ¬ (c = 7 ∧ j = 3)) (h2 : c ≠ 18) (h3 : c ≠ 10) : (xClose a T).1 c i j = a.1 c i j := by
  unfold xClose
  split
  · exact ((xClL_off _ _ _).1 c i j h).trans ((put_ne (by omega)).trans (put_ne (by omega)))
  · rfl
theorem XM_close {a : tH} {ρ : Option Nat} {T : Nat} {L : List Nat} (Z : XQ a ρ T L) (I : XH a T) : (∃ L', XQ (xClose a T) ρ T L') ∧ XH (xClose a T) T := by
  refine ⟨?_, fun s hs => ?_⟩
  · unfold xClose
    split
    · obtain ⟨h1, h2⟩ := xClL_off (T - 1) 1 (put (put a 18 0 7 1) 10 0 1 0)
      exact ⟨[], (h1 18 0 5 (by omega)).trans Z.1, Z.2.1, h1 10 0 1 (by omega), fun j s hj => by simp at hj, by simp, fun t ht => by simp at ht, fun j s e => Z.2.2.2.2.2.2 j s (by rw [h2] at e; exact e)⟩
    · exact ⟨L, Z⟩
  · obtain ⟨hc, pc, g4, q4, f1, f2⟩ := I s hs
    exact ⟨hc, pc, g4, q4, (xClose_rd (by omega) (by omega) (by omega)).trans f1, (xClose_rd (by omega) (by omega) (by omega)).trans f2⟩
theorem XM_res1 {a : tH} {T k : Nat} {L : List Nat} (Z : XQ a none T L) (I : XH a T) (hk : k < T) : (∃ L', XQ (xRes1 a T k) none T L') ∧ XH (xRes1 a T k) T := by
  unfold xRes1
  split
  · exact ⟨⟨L, Z⟩, I⟩
  · obtain ⟨⟨L', Z'⟩, I'⟩ := XM_raise (a := put a 18 0 11 (a.1 18 0 11 + 1)) (n := 10) (Z.cg rfl rfl rfl (fun _ _ => rfl)) I hk (fun e => by cases e)
    exact XM_close Z' I'

set_option maxHeartbeats 4000000 in
set_option maxRecDepth 100000 in
theorem c_X5_doAct_end {a b : tH} {t : Nat} {x : Int32} (ht : t < 24) : Cn yX5_doAct cX5_doAct 5 4 [.inr (some (18, 0)), .inr (some (7, t)), .inl (-1), .inl x] (mix a b) (mix (put a 7 t 3 5) b) := by
  refine Ct.of (by decide) [_, _, _, _, _] rfl (Nat.le_of_ble_eq_true rfl) ?_
  refine v_iload_n dX5_doAct_0 rfl ?_
  refine v_iconst (-1) dX5_doAct_1 (by decide) ?_
  refine v_icmp_ne 11 dX5_doAct_2 (by decide) (fun h_2 => absurd rfl h_2) (fun h_2 => ?_)
  refine v_aload_n dX5_doAct_5 rfl ?_
  refine v_iconst 5 dX5_doAct_6 (by decide) ?_
  refine x_pi (by decide) fX5_91 dX5_doAct_7 rfl rfl ht ?_
  exact v_vret dX5_doAct_10 ⟨rfl, rfl⟩
set_option maxHeartbeats 4000000 in
set_option maxRecDepth 100000 in
theorem c_X5_doAct_gen {a b : tH} {t j q : Nat} {x s : Int32} {p : tH} (ht : t < 24) (hj : j ≤ 16) (cS : Ci yX5_stateAfter cX5_stateAfter 3 .int 2 [.inr (some (18, 0)), .inl (nI j), .inl x] (mix (xNx a t) b) s (mix (xNx a t) b)) (cP : s = 0 → Cn yX5_perform cX5_perform 4 3 [.inr (some (18, 0)), .inr (some (7, t)), .inl (nI j), .inl x] (mix (xNx a t) b) (mix p b)) (Ih : ∃ hc, hc ≤ 4 ∧ a.1 7 t 7 = nI hc) (Ip : ∃ pc, pc ≤ 4 ∧ a.1 7 t 8 = nI pc) (h0 : a.1 7 t 3 = 0) (hq : a.1 10 0 1 = nI q) (h24 : q ≤ 24) (hok : okq a) : Cn yX5_doAct cX5_doAct 5 4 [.inr (some (18, 0)), .inr (some (7, t)), .inl (nI j), .inl x] (mix a b) (mix (if s = 0 then p else xWt (xNx a t) t s x) b) := by
  obtain ⟨pc, p4, ep⟩ := Ip
  have ep1 : (xNx a t).1 7 t 8 = nI pc := (put_ne (by omega)).trans ep
  have e3 : (xNx a t).1 7 t 3 = 0 := (put_ne (by omega)).trans h0
  have Ih1 : ∃ hc, hc ≤ 4 ∧ (xNx a t).1 7 t 7 = nI hc := Ih.elim fun hc e => ⟨hc, e.1, (put_ne (by omega)).trans e.2⟩
  refine Ct.of (by decide) [_, _, _, _, _] rfl (Nat.le_of_ble_eq_true rfl) ?_
  refine v_iload_n dX5_doAct_0 rfl ?_
  refine v_iconst (-1) dX5_doAct_1 (by decide) ?_
  refine v_icmp_ne 11 dX5_doAct_2 (by decide) (fun h_2 => ?_) (fun h_2 => absurd h_2 (nI_nm1 (by omega)))
  refine v_aload_n dX5_doAct_11 rfl ?_
  refine v_dup dX5_doAct_12 ?_
  refine x_gi (by decide) fX5_97 dX5_doAct_13 rfl rfl ht ?_
  refine v_iconst 1 dX5_doAct_16 (by decide) ?_
  refine v_iadd dX5_doAct_17 ?_
  refine x_pi (by decide) fX5_97 dX5_doAct_18 rfl rfl ht ?_
  refine v_aload_n dX5_doAct_21 rfl ?_
  refine v_iload_n dX5_doAct_22 rfl ?_
  refine v_iload_n dX5_doAct_23 rfl ?_
  refine v_call2i lX5_155 kX5_stateAfter (cS) dX5_doAct_24 rfl rfl Nat.zero_lt_one rfl (by decide) (by decide) (st8 rfl) ?_
  refine v_istore [_, _, _, _, _] dX5_doAct_27 rfl (by decide) ?_
  refine v_iload dX5_doAct_29 rfl ?_
  refine v_if_ne 44 dX5_doAct_31 (by decide) (fun h_31 => ?_) (fun h_31 => ?_)
  · refine v_aload_n dX5_doAct_44 rfl ?_
    refine x_gk (by exact ep1) (by decide) fX5_161 dX5_doAct_45 rfl rfl ht ?_
    refine v_if_le 63 dX5_doAct_48 (by decide) (fun h_48 => ?_) (fun h_48 => ?_)
    · have hp0 : (xNx a t).1 7 t 8 = 0 := by
        rw [ep1]
        rcases Nat.eq_zero_or_pos pc with e | e
        · rw [e]; rfl
        · exact absurd h_48 (nI_nle e (by omega))
      refine v_aload_n dX5_doAct_63 rfl ?_
      refine v_aload_n dX5_doAct_64 rfl ?_
      refine v_iload dX5_doAct_65 rfl ?_
      refine v_iload_n dX5_doAct_67 rfl ?_
      refine v_call3n lX5_167 kX5_pause (c_X5_pause ht) dX5_doAct_68 rfl rfl Nat.zero_lt_one rfl (by decide) (by decide) (st8 rfl) ?_
      exact v_vret dX5_doAct_71 ⟨rfl, by first | (rw [if_pos h_31]; done) | (rw [if_neg h_31]; unfold xWt; rw [if_pos hp0]; done) | (rw [if_neg h_31]; unfold xWt; rw [if_neg (by rw [ep1]; exact nI_ne0 (by omega) (by omega))])⟩
    · obtain ⟨pc2, rfl⟩ : ∃ pc2, pc = pc2 + 1 := by
        cases pc with
        | zero => exact absurd (Int32.le_refl 0) h_48
        | succ k => exact ⟨k, rfl⟩
      have eE : xElde (xNx a t) t = put (put (put (put (xNx a t) 9 t 0 ((xNx a t).1 9 t 1)) 9 t 1 ((xNx a t).1 9 t 2)) 9 t 2 ((xNx a t).1 9 t 3)) 7 t 8 (nI pc2) := by unfold xElde; rw [ep1, nv_nI (by omega)]; rfl
      have cT : Ci yX1_takeEldest cX1_takeEldest 3 .int 0 [.inr (some (7, t))] (mix (xNx a t) b) ((xNx a t).1 9 t 0) (mix (xElde (xNx a t) t) b) := by rw [eE]; exact c_X1_takeEldest ht ep1 (by omega)
      have e7 : (xElde (xNx a t) t).1 7 t 7 = (xNx a t).1 7 t 7 := xElde_rd (by omega) (by omega)
      refine v_aload_n dX5_doAct_51 rfl ?_
      refine v_aload_n dX5_doAct_52 rfl ?_
      refine v_aload_n dX5_doAct_53 rfl ?_
      refine v_call0i lX5_164 kX1_takeEldest (cT) dX5_doAct_54 rfl rfl ht rfl (by decide) (by decide) (st8 rfl) ?_
      refine v_call2n lX5_148 kX5_raise (c_X5_raise (a := xElde (xNx a t) t) (q := q) ht (by rw [e7]; exact Ih1) (by exact (xElde_rd (by omega) (by omega)).trans hq) h24 (fun z => absurd (Or.inl (by rw [show (xElde (xNx a t) t).1 7 t 3 = 0 from (xElde_rd (by omega) (by omega)).trans e3]; decide)) z) hok) dX5_doAct_57 rfl rfl Nat.zero_lt_one rfl (by decide) (by decide) (st8 rfl) ?_
      refine v_goto 71 dX5_doAct_60 (by decide) ?_
      exact v_vret dX5_doAct_71 ⟨rfl, by first | (rw [if_pos h_31]; done) | (rw [if_neg h_31]; unfold xWt; rw [if_pos hp0]; done) | (rw [if_neg h_31]; unfold xWt; rw [if_neg (by rw [ep1]; exact nI_ne0 (by omega) (by omega))])⟩
  · refine v_aload_n dX5_doAct_34 rfl ?_
    refine v_aload_n dX5_doAct_35 rfl ?_
    refine v_iload_n dX5_doAct_36 rfl ?_
    refine v_iload_n dX5_doAct_37 rfl ?_
    refine v_call3n lX5_158 kX5_perform (cP h_31) dX5_doAct_38 rfl rfl Nat.zero_lt_one rfl (by decide) (by decide) (st8 rfl) ?_
    refine v_goto 71 dX5_doAct_41 (by decide) ?_
    exact v_vret dX5_doAct_71 ⟨rfl, by first | (rw [if_pos h_31]; done) | (rw [if_neg h_31]; unfold xWt; rw [if_pos hp0]; done) | (rw [if_neg h_31]; unfold xWt; rw [if_neg (by rw [ep1]; exact nI_ne0 (by omega) (by omega))])⟩
set_option maxHeartbeats 4000000 in
set_option maxRecDepth 100000 in
theorem l_X5_wakeDelayed {b : tH} {T : Nat} : ∀ (f k : Nat) (a : tH) (L : List Nat) (L2 : Option tV), T = k + f → XQ a none T L → Vw yX5_wakeDelayed.cls cX5_wakeDelayed 3 none 2 (fun r h' => r = none ∧ h' = mix (xWake T f a) b) 2 [some (.inr (some (18, 0))), some (.inl (nI k)), L2] [] (mix a b) := by
  intro f
  induction f with
  | zero =>
    intro k a L L2 hk Z
    obtain rfl : T = k := hk
    refine v_iload_n dX5_wakeDelayed_2 rfl ?_
    refine v_aload_n dX5_wakeDelayed_3 rfl ?_
    refine x_gk Z.1 (by decide) fX5_38 dX5_wakeDelayed_4 rfl rfl Nat.zero_lt_one ?_
    refine v_icmp_ge 42 dX5_wakeDelayed_7 (by decide) (fun h_7 => ?_) (fun h_7 => absurd (Int32.le_refl _) h_7)
    exact v_vret dX5_wakeDelayed_42 ⟨rfl, rfl⟩
  | succ f ih =>
    intro k a L L2 hk Z
    have hT24 := Z.2.1
    refine v_iload_n dX5_wakeDelayed_2 rfl ?_
    refine v_aload_n dX5_wakeDelayed_3 rfl ?_
    refine x_gk Z.1 (by decide) fX5_38 dX5_wakeDelayed_4 rfl rfl Nat.zero_lt_one ?_
    refine v_icmp_ge 42 dX5_wakeDelayed_7 (by decide) (fun h_7 => absurd h_7 (nI_ge (by omega) (by omega))) (fun h_7 => ?_)
    refine v_aload_n dX5_wakeDelayed_10 rfl ?_
    refine v_call0r lX5_132 kX5_firstDelayed (c_X5_firstDelayed (T := T) Z.1 Z.2.1) dX5_wakeDelayed_11 rfl rfl Nat.zero_lt_one rfl (by decide) (by decide) (st8 rfl) ?_
    refine v_astore_n [_, _, _] dX5_wakeDelayed_14 rfl (by decide) ?_
    refine v_aload_n dX5_wakeDelayed_15 rfl ?_
    refine v_ifnull 30 dX5_wakeDelayed_16 (by decide) (fun h_16 => ?_) (fun q_16 h_16 => ?_)
    · have hj : xDelayed a T = none := by
        cases e : xDelayed a T with
        | none => rfl
        | some t => rw [e] at h_16; cases h_16
      exact v_vret dX5_wakeDelayed_30 ⟨rfl, by first | (rw [xWake_none hj]; done) | (rw [xWake_late hj h_27])⟩
    · obtain ⟨t, hj⟩ : ∃ t, xDelayed a T = some t := by
        cases e : xDelayed a T with
        | none => rw [e] at h_16; cases h_16
        | some t => exact ⟨t, rfl⟩
      have hs := xDelayed_st hj
      have ht24 : t < 24 := by have := Z.2.1; omega
      have h0 : a.1 7 t 3 ≠ 0 := by rw [hs.2]; decide
      have hnL : t ∉ L := Z.notin h0
      rw [hj]
      refine v_aload_n dX5_wakeDelayed_19 rfl ?_
      refine x_gi (by decide) fX5_135 dX5_wakeDelayed_20 rfl rfl ht24 ?_
      refine v_aload_n dX5_wakeDelayed_23 rfl ?_
      refine x_gi (by decide) fX5_52 dX5_wakeDelayed_24 rfl rfl Nat.zero_lt_one ?_
      refine v_icmp_le 31 dX5_wakeDelayed_27 (by decide) (fun h_27 => ?_) (fun h_27 => ?_)
      · refine v_aload_n dX5_wakeDelayed_31 rfl ?_
        refine v_aload_n dX5_wakeDelayed_32 rfl ?_
        refine v_call1n lX5_138 kX5_makeReady (c_X5_makeReady (q := L.length) ht24 (by exact Z.2.2.1) (Z.lenn hs.1 hnL)) dX5_wakeDelayed_33 rfl rfl Nat.zero_lt_one rfl (by decide) (by decide) (st8 rfl) ?_
        refine v_iinc [_, _, _] dX5_wakeDelayed_36 rfl (by first | exact inc1 _ | rfl) rfl (by decide) ?_
        refine v_goto 2 dX5_wakeDelayed_39 (by decide) ?_
        rw [xWake_some hj h_27]
        exact ih (k + 1) (xReady a t) (L ++ [t]) _ (by omega) (Z.ready hs.1 hnL (fun e => by cases e))
      · exact v_vret dX5_wakeDelayed_30 ⟨rfl, by first | (rw [xWake_none hj]; done) | (rw [xWake_late hj h_27])⟩
set_option maxHeartbeats 4000000 in
set_option maxRecDepth 100000 in
theorem c_X5_wakeDelayed {a b : tH} {T : Nat} {L : List Nat} (Z : XQ a none T L) : Cn yX5_wakeDelayed cX5_wakeDelayed 3 2 [.inr (some (18, 0))] (mix a b) (mix (xWake T T a) b) := by
  refine Ct.of (by decide) [_, _, _] rfl (Nat.le_of_ble_eq_true rfl) ?_
  refine v_iconst 0 dX5_wakeDelayed_0 (by decide) ?_
  refine v_istore_n [_, _, _] dX5_wakeDelayed_1 rfl (by decide) ?_
  exact l_X5_wakeDelayed T 0 a L none (by omega) Z
theorem XQ.wake {T : Nat} : ∀ (f : Nat) (a : tH) (L : List Nat), XQ a none T L → ∃ L', XQ (xWake T f a) none T L'
  | 0, a, L, Z => ⟨L, Z⟩
  | f + 1, a, L, Z => by
    cases hj : xDelayed a T with
    | none => rw [xWake_none hj]; exact ⟨L, Z⟩
    | some t =>
      have hs := xDelayed_st hj
      have h0 : a.1 7 t 3 ≠ 0 := by rw [hs.2]; decide
      by_cases hn : a.1 7 t 12 ≤ a.1 18 0 9
      · rw [xWake_some hj hn]
        exact XQ.wake f (xReady a t) (L ++ [t]) (Z.ready hs.1 (Z.notin h0) (fun e => by cases e))
      · rw [xWake_late hj hn]; exact ⟨L, Z⟩
theorem xReady_off {a : tH} {t c i k : Nat} (h1 : ¬ (c = 7 ∧ i = t ∧ k = 3)) (h2 : c ≠ 10) : (xReady a t).1 c i k = a.1 c i k := by
  unfold xReady xAdd
  rw [put_ne (by omega)]
  show (put a 7 t 3 0).1 c i k = _
  rw [put_ne (by omega)]
theorem xWake_off {T c i k : Nat} (h1 : ¬ (c = 7 ∧ k = 3)) (h2 : c ≠ 10) : ∀ (f : Nat) (a : tH), (xWake T f a).1 c i k = a.1 c i k
  | 0, a => rfl
  | f + 1, a => by
    cases hj : xDelayed a T with
    | none => rw [xWake_none hj]
    | some t =>
      by_cases hn : a.1 7 t 12 ≤ a.1 18 0 9
      · rw [xWake_some hj hn, xWake_off h1 h2 f, xReady_off (by omega) h2]
      · rw [xWake_late hj hn]
theorem XH.wake {T : Nat} {a : tH} (I : XH a T) (f : Nat) : XH (xWake T f a) T := by
  intro t ht
  obtain ⟨hc, pc, h4, p4, e1, e2⟩ := I t ht
  exact ⟨hc, pc, h4, p4, (xWake_off (by omega) (by omega) f a).trans e1, (xWake_off (by omega) (by omega) f a).trans e2⟩
set_option maxHeartbeats 4000000 in
set_option maxRecDepth 100000 in
theorem l_X5_rescueWaiting {b : tH} {T : Nat} (h1 : 1 ≤ T) : ∀ (m k : Nat) (a : tH) (L : List Nat), T = k + m → XQ a none T L → XH a T → Vw yX5_rescueWaiting.cls cX5_rescueWaiting 2 none 2 (fun r h' => r = none ∧ h' = mix (xResc T m k a) b) 2 [some (.inr (some (18, 0))), some (.inl (nI k))] [] (mix a b) := by
  intro m
  induction m with
  | zero =>
    intro k a L hk Z I
    obtain rfl : T = k := hk
    refine v_iload_n dX5_rescueWaiting_2 rfl ?_
    refine v_aload_n dX5_rescueWaiting_3 rfl ?_
    refine x_gk Z.1 (by decide) fX5_38 dX5_rescueWaiting_4 rfl rfl Nat.zero_lt_one ?_
    refine v_icmp_ge 54 dX5_rescueWaiting_7 (by decide) (fun h_7 => ?_) (fun h_7 => absurd (Int32.le_refl _) h_7)
    exact v_vret dX5_rescueWaiting_54 ⟨rfl, rfl⟩
  | succ m ih =>
    intro k a L hk Z I
    have hT24 := Z.2.1
    have hk24 : k < 24 := by omega
    have hkT : k < T := by omega
    obtain ⟨⟨L', Z'⟩, I'⟩ := XM_res1 Z I hkT
    obtain ⟨hc, pc, h4, p4, c1, c2⟩ := I k hkT
    have ZR := XM_raise (a := put a 18 0 11 (a.1 18 0 11 + 1)) (n := 10) (Z.cg rfl rfl rfl (fun _ _ => rfl)) I hkT (fun e => by cases e)
    obtain ⟨⟨L2, Z2⟩, I2⟩ := ZR
    refine v_iload_n dX5_rescueWaiting_2 rfl ?_
    refine v_aload_n dX5_rescueWaiting_3 rfl ?_
    refine x_gk Z.1 (by decide) fX5_38 dX5_rescueWaiting_4 rfl rfl Nat.zero_lt_one ?_
    refine v_icmp_ge 54 dX5_rescueWaiting_7 (by decide) (fun h_7 => absurd h_7 (nI_ge (by omega) (by omega))) (fun h_7 => ?_)
    refine v_aload_n dX5_rescueWaiting_10 rfl ?_
    refine v_gr 0 fX5_11 dX5_rescueWaiting_11 rfl rfl rfl Nat.zero_lt_one ?_
    refine v_iload_n dX5_rescueWaiting_14 rfl ?_
    refine v_aaldF k rfl dX5_rescueWaiting_15 Nat.zero_lt_one rfl hk24 ?_
    refine v_call0i lX5_144 kX1_waits (c_X1_waits hk24) dX5_rescueWaiting_16 rfl rfl hk24 rfl (by decide) (by decide) (st8 rfl) ?_
    refine v_if_eq 48 dX5_rescueWaiting_19 (by decide) (fun h_19 => ?_) (fun h_19 => ?_)
    · rw [i001] at h_19
      refine v_iinc [_, _] dX5_rescueWaiting_48 rfl (by first | exact inc1 _ | rfl) rfl (by decide) ?_
      refine v_goto 2 dX5_rescueWaiting_51 (by decide) ?_
      have e1 : xRes1 a T k = a := if_pos h_19
      have q := ih (k + 1) (xRes1 a T k) L' (by omega) Z' I'
      have e2 : xResc T (m + 1) k a = xResc T m (k + 1) (xRes1 a T k) := rfl
      rw [e2]
      rw [e1] at q ⊢
      exact q
    · rw [i001] at h_19
      refine v_aload_n dX5_rescueWaiting_22 rfl ?_
      refine v_dup dX5_rescueWaiting_23 ?_
      refine x_gi (by decide) fX5_58 dX5_rescueWaiting_24 rfl rfl Nat.zero_lt_one ?_
      refine v_iconst 1 dX5_rescueWaiting_27 (by decide) ?_
      refine v_iadd dX5_rescueWaiting_28 ?_
      refine x_pi (by decide) fX5_58 dX5_rescueWaiting_29 rfl rfl Nat.zero_lt_one ?_
      refine v_aload_n dX5_rescueWaiting_32 rfl ?_
      refine v_aload_n dX5_rescueWaiting_33 rfl ?_
      refine v_gr 0 fX5_11 dX5_rescueWaiting_34 rfl rfl rfl Nat.zero_lt_one ?_
      refine v_iload_n dX5_rescueWaiting_37 rfl ?_
      refine v_aaldF k rfl dX5_rescueWaiting_38 Nat.zero_lt_one rfl hk24 ?_
      refine v_bipush 10 dX5_rescueWaiting_39 (by decide) ?_
      refine v_call2n lX5_148 kX5_raise (c_X5_raise (q := L.length) hk24 ⟨hc, h4, c1⟩ (by exact Z.2.2.1) Z.len (fun z => Z.lenn hkT (Z.notin (fun e => z (Or.inl (by exact (by rw [e]; decide : a.1 7 k 3 < 1)))))) Z.2.2.2.2.2.2) dX5_rescueWaiting_41 rfl rfl Nat.zero_lt_one rfl (by decide) (by decide) (st8 rfl) ?_
      refine v_aload_n dX5_rescueWaiting_44 rfl ?_
      refine v_call0n lX5_112 kX5_closeIfOver (c_X5_closeIfOver Z2.1 hT24 h1) dX5_rescueWaiting_45 rfl rfl Nat.zero_lt_one rfl (by decide) (by decide) (st8 rfl) ?_
      refine v_iinc [_, _] dX5_rescueWaiting_48 rfl (by first | exact inc1 _ | rfl) rfl (by decide) ?_
      refine v_goto 2 dX5_rescueWaiting_51 (by decide) ?_
      have e1 : xRes1 a T k = xClose (xRaise (put a 18 0 11 (a.1 18 0 11 + 1)) k 10) T := if_neg h_19
      have q := ih (k + 1) (xRes1 a T k) L' (by omega) Z' I'
      have e2 : xResc T (m + 1) k a = xResc T m (k + 1) (xRes1 a T k) := rfl
      rw [e2]
      rw [e1] at q ⊢
      exact q
set_option maxHeartbeats 4000000 in
set_option maxRecDepth 100000 in
theorem c_X5_rescueWaiting {a b : tH} {T : Nat} {L : List Nat} (Z : XQ a none T L) (I : XH a T) (h1 : 1 ≤ T) : Cn yX5_rescueWaiting cX5_rescueWaiting 2 2 [.inr (some (18, 0))] (mix a b) (mix (xResc T T 0 a) b) := by
  refine Ct.of (by decide) [_, _] rfl (Nat.le_of_ble_eq_true rfl) ?_
  refine v_iconst 0 dX5_rescueWaiting_0 (by decide) ?_
  refine v_istore_n [_, _] dX5_rescueWaiting_1 rfl (by decide) ?_
  exact l_X5_rescueWaiting h1 T 0 a L (by omega) Z I
set_option maxHeartbeats 4000000 in
set_option maxRecDepth 100000 in
theorem c_X5_endIdleness {a b : tH} {T : Nat} {L : List Nat} (Z : XQ a none T L) (I : XH a T) (h1 : 1 ≤ T) : Cn yX5_endIdleness cX5_endIdleness 2 3 [.inr (some (18, 0))] (mix a b) (mix (xIdle a T) b) := by
  refine Ct.of (by decide) [_, _] rfl (Nat.le_of_ble_eq_true rfl) ?_
  refine v_aload_n dX5_endIdleness_0 rfl ?_
  refine v_call0r lX5_132 kX5_firstDelayed (c_X5_firstDelayed (T := T) Z.1 Z.2.1) dX5_endIdleness_1 rfl rfl Nat.zero_lt_one rfl (by decide) (by decide) (st8 rfl) ?_
  refine v_astore_n [_, _] dX5_endIdleness_4 rfl (by decide) ?_
  refine v_aload_n dX5_endIdleness_5 rfl ?_
  refine v_ifnull 24 dX5_endIdleness_6 (by decide) (fun h_6 => ?_) (fun q_6 h_6 => ?_)
  · have hj : xDelayed a T = none := by
      cases e : xDelayed a T with
      | none => rfl
      | some t => rw [e] at h_6; cases h_6
    refine v_aload_n dX5_endIdleness_24 rfl ?_
    refine v_call0n lX5_141 kX5_rescueWaiting (c_X5_rescueWaiting (T := T) Z I h1) dX5_endIdleness_25 rfl rfl Nat.zero_lt_one rfl (by decide) (by decide) (st8 rfl) ?_
    exact v_vret dX5_endIdleness_28 ⟨rfl, by unfold xIdle; rw [hj]⟩
  · obtain ⟨t, hj⟩ : ∃ t, xDelayed a T = some t := by
      cases e : xDelayed a T with
      | none => rw [e] at h_6; cases h_6
      | some t => exact ⟨t, rfl⟩
    have hs := xDelayed_st hj
    have ht24 : t < 24 := by have := Z.2.1; omega
    have h0 : a.1 7 t 3 ≠ 0 := by rw [hs.2]; decide
    have hnL : t ∉ L := Z.notin h0
    rw [hj]
    refine v_aload_n dX5_endIdleness_9 rfl ?_
    refine v_aload_n dX5_endIdleness_10 rfl ?_
    refine x_gi (by decide) fX5_135 dX5_endIdleness_11 rfl rfl ht24 ?_
    refine x_pi (by decide) fX5_52 dX5_endIdleness_14 rfl rfl Nat.zero_lt_one ?_
    refine v_aload_n dX5_endIdleness_17 rfl ?_
    refine v_call0n lX5_119 kX5_wakeDelayed (c_X5_wakeDelayed (T := T) (L := L) (Z.cg rfl rfl rfl (fun _ _ => rfl))) dX5_endIdleness_18 rfl rfl Nat.zero_lt_one rfl (by decide) (by decide) (st8 rfl) ?_
    refine v_goto 28 dX5_endIdleness_21 (by decide) ?_
    exact v_vret dX5_endIdleness_28 ⟨rfl, by unfold xIdle; rw [hj]⟩
set_option maxHeartbeats 4000000 in
set_option maxRecDepth 100000 in
theorem c_X5_nextToRun0 {a b : tH} {T : Nat} {L : List Nat} (Z : XQ a none T L) (I : XH a T) (h1 : 1 ≤ T) (hq : (xNext a T).1 10 0 1 = 0) : Cr yX5_nextToRun cX5_nextToRun 1 (.object "TurnThreads$Fiber") 4 [.inr (some (18, 0))] (mix a b) (none) (mix (put (xNext a T) 10 0 1 0) b) := by
  obtain ⟨L1, Z1⟩ := Z.wake T
  have I1 := I.wake T
  have hl := Z1.len
  refine Ct.of (by decide) [_] rfl (Nat.le_of_ble_eq_true rfl) ?_
  refine v_aload_n dX5_nextToRun_0 rfl ?_
  refine v_call0n lX5_119 kX5_wakeDelayed (c_X5_wakeDelayed (T := T) Z) dX5_nextToRun_1 rfl rfl Nat.zero_lt_one rfl (by decide) (by decide) (st8 rfl) ?_
  refine v_aload_n dX5_nextToRun_4 rfl ?_
  refine v_gr 0 fX5_20 dX5_nextToRun_5 rfl rfl rfl Nat.zero_lt_one ?_
  refine v_call0i lX5_122 kX2_size (c_X2_size) dX5_nextToRun_8 rfl rfl Nat.zero_lt_one rfl (by decide) (by decide) (st8 rfl) ?_
  refine v_if_ne 18 dX5_nextToRun_11 (by decide) (fun h_11 => ?_) (fun h_11 => ?_)
  · have e1 : xNext a T = xWake T T a := if_neg h_11
    rw [e1] at hq ⊢
    refine v_aload_n dX5_nextToRun_18 rfl ?_
    refine v_gr 0 fX5_20 dX5_nextToRun_19 rfl rfl rfl Nat.zero_lt_one ?_
    refine v_call0r lX5_129 kX2_removeFirst (c_X2_removeFirst0 hq) dX5_nextToRun_22 rfl rfl Nat.zero_lt_one rfl (by decide) (by decide) (st8 rfl) ?_
    exact v_aret dX5_nextToRun_25 ⟨rfl, rfl⟩
  · have e1 : xNext a T = xIdle (xWake T T a) T := if_pos h_11
    rw [e1] at hq ⊢
    refine v_aload_n dX5_nextToRun_14 rfl ?_
    refine v_call0n lX5_126 kX5_endIdleness (c_X5_endIdleness (T := T) Z1 I1 h1) dX5_nextToRun_15 rfl rfl Nat.zero_lt_one rfl (by decide) (by decide) (st8 rfl) ?_
    refine v_aload_n dX5_nextToRun_18 rfl ?_
    refine v_gr 0 fX5_20 dX5_nextToRun_19 rfl rfl rfl Nat.zero_lt_one ?_
    refine v_call0r lX5_129 kX2_removeFirst (c_X2_removeFirst0 hq) dX5_nextToRun_22 rfl rfl Nat.zero_lt_one rfl (by decide) (by decide) (st8 rfl) ?_
    exact v_aret dX5_nextToRun_25 ⟨rfl, rfl⟩
set_option maxHeartbeats 4000000 in
set_option maxRecDepth 100000 in
theorem c_X5_nextToRun1 {a b : tH} {T : Nat} {L : List Nat} (Z : XQ a none T L) (I : XH a T) (h1 : 1 ≤ T) {t q : Nat} (ht : t < 24) (hq : (xNext a T).1 10 0 1 = nI (q + 1)) (h24 : q < 24) (hn : (xNext a T).2 0 = some t) (hok : okq (xNext a T)) : Cr yX5_nextToRun cX5_nextToRun 1 (.object "TurnThreads$Fiber") 4 [.inr (some (18, 0))] (mix a b) (some (7, t)) (mix (xRemove (xNext a T) t) b) := by
  obtain ⟨L1, Z1⟩ := Z.wake T
  have I1 := I.wake T
  have hl := Z1.len
  refine Ct.of (by decide) [_] rfl (Nat.le_of_ble_eq_true rfl) ?_
  refine v_aload_n dX5_nextToRun_0 rfl ?_
  refine v_call0n lX5_119 kX5_wakeDelayed (c_X5_wakeDelayed (T := T) Z) dX5_nextToRun_1 rfl rfl Nat.zero_lt_one rfl (by decide) (by decide) (st8 rfl) ?_
  refine v_aload_n dX5_nextToRun_4 rfl ?_
  refine v_gr 0 fX5_20 dX5_nextToRun_5 rfl rfl rfl Nat.zero_lt_one ?_
  refine v_call0i lX5_122 kX2_size (c_X2_size) dX5_nextToRun_8 rfl rfl Nat.zero_lt_one rfl (by decide) (by decide) (st8 rfl) ?_
  refine v_if_ne 18 dX5_nextToRun_11 (by decide) (fun h_11 => ?_) (fun h_11 => ?_)
  · have e1 : xNext a T = xWake T T a := if_neg h_11
    rw [e1] at hn hq hok ⊢
    refine v_aload_n dX5_nextToRun_18 rfl ?_
    refine v_gr 0 fX5_20 dX5_nextToRun_19 rfl rfl rfl Nat.zero_lt_one ?_
    refine v_call0r lX5_129 kX2_removeFirst (c_X2_removeFirst ht hq h24 hn hok) dX5_nextToRun_22 rfl rfl Nat.zero_lt_one rfl (by decide) (by decide) (st8 rfl) ?_
    exact v_aret dX5_nextToRun_25 ⟨rfl, rfl⟩
  · have e1 : xNext a T = xIdle (xWake T T a) T := if_pos h_11
    rw [e1] at hn hq hok ⊢
    refine v_aload_n dX5_nextToRun_14 rfl ?_
    refine v_call0n lX5_126 kX5_endIdleness (c_X5_endIdleness (T := T) Z1 I1 h1) dX5_nextToRun_15 rfl rfl Nat.zero_lt_one rfl (by decide) (by decide) (st8 rfl) ?_
    refine v_aload_n dX5_nextToRun_18 rfl ?_
    refine v_gr 0 fX5_20 dX5_nextToRun_19 rfl rfl rfl Nat.zero_lt_one ?_
    refine v_call0r lX5_129 kX2_removeFirst (c_X2_removeFirst ht hq h24 hn hok) dX5_nextToRun_22 rfl rfl Nat.zero_lt_one rfl (by decide) (by decide) (st8 rfl) ?_
    exact v_aret dX5_nextToRun_25 ⟨rfl, rfl⟩
