/-! The reference's acts -/
theorem nI_sub1 {T : Nat} (h : 0 < T) : nI T - 1 = nI (T - 1) := by
  cases T with
  | zero => exact absurd h (Nat.lt_irrefl 0)
  | succ T => exact nI_pred T
def offC (b b' : tH) : Prop := (∀ c i k, c ≠ 24 → c ≠ 35 → c ≠ 36 → b'.1 c i k = b.1 c i k) ∧ b'.2 = b.2
theorem mClS_off {b : tH} {k : Nat} : offC b (mClS b k) := ⟨fun c i k' h1 h2 h3 => by unfold mClS; rw [put_ne (by omega), put_ne (by omega), put_ne (by omega)], rfl⟩
theorem mClL_off : ∀ (m k : Nat) (b : tH), offC b (mClL m k b)
  | 0, _, b => ⟨fun _ _ _ _ _ _ => rfl, rfl⟩
  | m + 1, k, b => by
    obtain ⟨h1, h2⟩ := mClL_off m (k + 1) (mClS b k)
    obtain ⟨h3, h4⟩ := mClS_off (b := b) (k := k)
    exact ⟨fun c i k' q1 q2 q3 => (h1 c i k' q1 q2 q3).trans (h3 c i k' q1 q2 q3), h2.trans h4⟩
theorem IQ.finN {b : tH} {ρ : Option Nat} {T t : Nat} {s : Int32} {L : List Nat} (h : IQ b ρ T L) (ht : t < 24) : IQ (mFinN b t s) ρ T (L.filter (neb t)) := by
  have hl := h.len
  obtain ⟨h1, h2, h3, h4, h5, h6⟩ := h
  have e0 : mFinN b t s = mLvL t L.length ([] : List Nat).length 0 (put b 24 0 t s) := by
    unfold mFinN mLeave
    rw [show (put b 24 0 t s).1 20 0 27 = nI L.length from h3, nv_nI (by omega)]
    rfl
  obtain ⟨r1, r2, r3⟩ := mLvL_spec (t := t) (by omega) L [] 0 (put b 24 0 t s) (by simp) (fun j s hj => by simp at hj) (fun j s hj => by rw [Nat.zero_add]; exact h4 j s hj) (fun s hs => by have := (h6 s hs).1; omega)
  rw [e0]
  refine ⟨(r3.1 20 0 11 (by omega) (by omega)).trans h1, h2, by simpa using r1, fun j s hj => r2 j s (by simpa using hj), h5.filter _, fun s hs => ?_⟩
  have hm := List.mem_filter.mp hs
  have hne : s ≠ t := fun e => by rw [e, neb_eq] at hm; cases hm.2
  exact ⟨(h6 s hm.1).1, (r3.1 24 0 s (by omega) (by omega)).trans ((put_ne (by omega)).trans (h6 s hm.1).2.1), (h6 s hm.1).2.2⟩
theorem IQ.close {b : tH} {ρ : Option Nat} {T : Nat} {L : List Nat} (h : IQ b ρ T L) : IQ (mClose b T) ρ T [] := by
  have e := (mClL_off T 0 (put (put b 20 0 6 1) 20 0 27 0)).1
  exact ⟨(e 20 0 11 (by omega) (by omega) (by omega)).trans h.1, h.2.1, e 20 0 27 (by omega) (by omega) (by omega), fun j s hj => by simp at hj, by simp, fun t ht => by simp at ht⟩
theorem mFin_rd {b : tH} {T t c i k : Nat} {s : Int32} (hc : 25 ≤ c) (h1 : c ≠ 35) (h2 : c ≠ 36) (h3 : c ≠ 38) : (mFin b T t s).1 c i k = b.1 c i k := by
  have e1 : (mFinN b t s).1 c i k = b.1 c i k := ((mLeave_off (b := put b 24 0 t s) (t := t)).1 c i k h3 (by omega)).trans (put_ne (by omega))
  unfold mFin
  split
  · exact (((mClL_off T 0 (put (put (mFinN b t s) 20 0 6 1) 20 0 27 0)).1 c i k (by omega) h1 h2).trans ((put_ne (by omega)).trans (put_ne (by omega)))).trans e1
  · exact e1
/-- what an exception keeps of the queue and of the counts -/
theorem IM_exc {b : tH} {ρ : Option Nat} {T t : Nat} {n : Int32} {L : List Nat} (Z : IQ b ρ T L) (I : IH b T) (ht : t < T) (hρ : ρ = some t → b.1 24 0 t = 0) : (∃ L', IQ (mExc b T t n) ρ T L') ∧ IH (mExc b T t n) T ∧ (mExc b T t n).1 31 0 t = b.1 31 0 t ∧ (mExc b T t n).1 30 0 t = b.1 30 0 t := by
  have ht24 : t < 24 := by have := Z.2.1; omega
  obtain ⟨hc, pc, h4, p4, e1, e2⟩ := I t ht
  cases hc with
  | zero =>
    rw [mExc_0 e1]
    have Z1 : IQ (mFinN (mExE b t n) t 6) ρ T (L.filter (neb t)) := IQ.finN (b := mExE b t n) Z ht24
    refine ⟨?_, fun s hs => ?_, ?_, ?_⟩
    · unfold mFin
      split
      · exact ⟨_, Z1.close⟩
      · exact ⟨_, Z1⟩
    · obtain ⟨hc, pc, g4, q4, f1, f2⟩ := I s hs
      exact ⟨hc, pc, g4, q4, (mFin_rd (by omega) (by omega) (by omega) (by omega)).trans f1, (mFin_rd (by omega) (by omega) (by omega) (by omega)).trans f2⟩
    · exact mFin_rd (by omega) (by omega) (by omega) (by omega)
    · exact mFin_rd (by omega) (by omega) (by omega) (by omega)
  | succ hc =>
    rw [mExc_1 e1 (by omega)]
    have ih : ∀ s, s < T → ∃ hc' pc', hc' ≤ 4 ∧ pc' ≤ 4 ∧ (mExB b t n hc).1 28 0 s = nI hc' ∧ (mExB b t n hc).1 31 0 s = nI pc' := by
      intro s hs
      obtain ⟨hc', pc', g4, q4, f1, f2⟩ := I s hs
      by_cases e : s = t
      · subst e
        exact ⟨hc, pc', by omega, q4, by simp [mExB, put_rd], f2⟩
      · refine ⟨hc', pc', g4, q4, ?_, f2⟩
        simp [mExB, put_rd, e]
        exact f1
    split
    · exact ⟨⟨L, Z⟩, ih, rfl, rfl⟩
    · rename_i hs
      have hn : t ∉ L := Z.notin hs
      exact ⟨⟨_, IQ.enq (b := mExB b t n hc) Z ht hn (fun e => hs (hρ e))⟩, ih, rfl, rfl⟩
def mTgt (b : tH) (t : Nat) : Option Nat := if b.1 27 0 t < 0 then none else if b.1 20 0 11 ≤ b.1 27 0 t then none else some (nv (b.1 27 0 t))
def mThr (b : tH) (T u : Nat) (n : Int32) : tH := if 5 ≤ b.1 24 0 u then b else if b.1 30 0 u = 0 ∨ ¬ b.1 24 0 u = 0 then mExc b T u n else if 4 ≤ b.1 31 0 u then b else put (put b 32 0 (4 * u + nv (b.1 31 0 u)) n) 31 0 u (b.1 31 0 u + 1)
def mThrow (b : tH) (T t : Nat) (n : Int32) : tH := if b.1 27 0 t = nI t then mExc b T t n else match mTgt b t with
  | none => b
  | some u => mThr b T u n
def mMkL (T t : Nat) : Nat → tH → tH
  | 0, b => b
  | f + 1, b => if b.1 30 0 t = 0 ∧ ¬ b.1 31 0 t = 0 ∧ b.1 24 0 t = 0 then mMkL T t f (mPop b T t) else b
def mMask (b : tH) (T t : Nat) (x : Int32) : tH := mMkL T t 4 (put b 30 0 t (if x = 1 then 1 else 0))
def mDelay (b : tH) (T t : Nat) (x : Int32) : tH := if b.1 31 0 t = 0 then put (put b 24 0 t 4) 35 0 t (b.1 20 0 8 + x) else mPop b T t
def mFork (b : tH) (T t : Nat) (x : Int32) : tH := if b.1 20 0 11 = 24 ∨ b.1 20 0 1 ≤ x then put b 27 0 t (-1) else put (mNew b T x (b.1 27 0 t)) 27 0 t (nI T)
def mLog (b : tH) (t : Nat) : tH := if 100 ≤ b.1 20 0 31 then b else put (put (put b 41 0 (nv (b.1 20 0 31)) (nI t)) 42 0 (nv (b.1 20 0 31)) (b.1 27 0 t)) 20 0 31 (b.1 20 0 31 + 1)
def mCatch (b : tH) (t : Nat) (x : Int32) : tH := if 4 ≤ b.1 28 0 t then b else put (put b 29 0 (4 * t + nv (b.1 28 0 t)) x) 28 0 t (b.1 28 0 t + 1)
def mDrop (b : tH) (t : Nat) : tH := put b 28 0 t (b.1 28 0 t - (if b.1 28 0 t ≤ 0 then 0 else 1))

set_option maxHeartbeats 4000000 in
set_option maxRecDepth 100000 in
theorem c_X7_throwTo {a b : tH} {T : Nat} {t : Nat} {n : Int32} (ht : t < T) {ρ : Option Nat} {L : List Nat} (Z : IQ b ρ T L) (I : IH b T) : Cn yX7_throwTo cX7_throwTo 4 3 [.inr (some (20, 0)), .inl (nI t), .inl n] (mix a b) (mix a (mThrow b T t n)) := by
  have hT24 := Z.2.1
  have ht24 : t < 24 := by omega
  refine Ct.of (by decide) [_, _, _, _] rfl (Nat.le_of_ble_eq_true rfl) ?_
  refine v_aload_n dX7_throwTo_0 rfl ?_
  refine v_gr 0 fX7_28 dX7_throwTo_1 rfl rfl rfl Nat.zero_lt_one ?_
  refine v_iload_n dX7_throwTo_4 rfl ?_
  refine m_iald t (by decide) rfl dX7_throwTo_5 Nat.zero_lt_one rfl ht24 ?_
  refine v_istore_n [_, _, _, _] dX7_throwTo_6 rfl (by decide) ?_
  refine v_iload_n dX7_throwTo_7 rfl ?_
  refine v_iload_n dX7_throwTo_8 rfl ?_
  refine v_icmp_ne 21 dX7_throwTo_9 (by decide) (fun h_9 => ?_) (fun h_9 => ?_)
  · refine v_iload_n dX7_throwTo_21 rfl ?_
    refine v_iconst 0 dX7_throwTo_22 (by decide) ?_
    refine v_aload_n dX7_throwTo_23 rfl ?_
    refine m_gi (by decide) fX7_92 dX7_throwTo_24 rfl rfl Nat.zero_lt_one ?_
    refine v_iconst 1 dX7_throwTo_27 (by decide) ?_
    refine v_isub dX7_throwTo_28 ?_
    refine v_calls3i lX7_84 kX7_in (c_X7_in) dX7_throwTo_29 rfl (by decide) (by decide) (st8 rfl) ?_
    refine v_if_eq 108 dX7_throwTo_32 (by decide) (fun h_32 => ?_) (fun h_32 => ?_)
    · have eM : mThrow b T t n = b := by
        rw [i001] at h_32
        unfold mThrow
        rw [if_neg h_9]
        have eT : mTgt b t = none := by
          unfold mTgt
          rcases h_32 with z | z
          · rw [if_pos z]
          · by_cases z0 : b.1 27 0 t < 0
            · rw [if_pos z0]
            · rw [if_neg z0, if_pos ?_]
              obtain ⟨u, hu31, hu⟩ := nI_of z0
              rw [hu, Z.1, nI_sub1 (by omega)] at z
              rw [hu, Z.1]
              have z2 := (nI_ltI (by omega) hu31).mp z
              exact nI_le (by omega) hu31
        rw [eT]
      rw [eM]
      exact v_vret dX7_throwTo_108 ⟨rfl, by first | (unfold mThrow; rw [if_pos h_9]; done) | rfl | (unfold mThr; rw [if_pos h_42]; done) | (unfold mThr; rw [if_neg h_42, if_pos (Or.inl h_51)]; done) | (unfold mThr; rw [if_neg h_42, if_pos (Or.inr h_60)]; done) | (unfold mThr; rw [if_neg h_42, if_neg (fun z => z.elim h_51 (fun y => y h_60)), if_pos h_79]; done) | (unfold mThr; rw [if_neg h_42, if_neg (fun z => z.elim h_51 (fun y => y h_60)), if_neg h_79, e2, nv_nI (by omega)])⟩
    · obtain ⟨u, hu, hu2⟩ : ∃ u, u < T ∧ b.1 27 0 t = nI u := by
        rw [i001] at h_32
        obtain ⟨u, hu31, hu⟩ := nI_of (fun z => h_32 (Or.inl z))
        refine ⟨u, ?_, hu⟩
        rcases Nat.lt_or_ge u T with q | q
        · exact q
        · exfalso
          refine h_32 (Or.inr ?_)
          rw [hu, Z.1, nI_sub1 (by omega)]
          exact nI_lt (by omega) (by omega)
      have hu24 : u < 24 := by have := Z.2.1; omega
      have eT : mTgt b t = some u := by
        unfold mTgt
        rw [hu2, Z.1, if_neg (nI_pos (by omega)), if_neg (nI_ge hu (by omega)), nv_nI (by omega)]
      have eM : mThrow b T t n = mThr b T u n := by unfold mThrow; rw [if_neg h_9, eT]
      rw [eM, hu2]
      refine v_aload_n dX7_throwTo_35 rfl ?_
      refine v_gr 0 fX7_19 dX7_throwTo_36 rfl rfl rfl Nat.zero_lt_one ?_
      refine v_iload_n dX7_throwTo_39 rfl ?_
      refine m_iald u (by decide) rfl dX7_throwTo_40 Nat.zero_lt_one rfl hu24 ?_
      refine v_iconst 5 dX7_throwTo_41 (by decide) ?_
      refine v_icmp_ge 108 dX7_throwTo_42 (by decide) (fun h_42 => ?_) (fun h_42 => ?_)
      · exact v_vret dX7_throwTo_108 ⟨rfl, by first | (unfold mThrow; rw [if_pos h_9]; done) | rfl | (unfold mThr; rw [if_pos h_42]; done) | (unfold mThr; rw [if_neg h_42, if_pos (Or.inl h_51)]; done) | (unfold mThr; rw [if_neg h_42, if_pos (Or.inr h_60)]; done) | (unfold mThr; rw [if_neg h_42, if_neg (fun z => z.elim h_51 (fun y => y h_60)), if_pos h_79]; done) | (unfold mThr; rw [if_neg h_42, if_neg (fun z => z.elim h_51 (fun y => y h_60)), if_neg h_79, e2, nv_nI (by omega)])⟩
      · refine v_aload_n dX7_throwTo_45 rfl ?_
        refine v_gr 0 fX7_37 dX7_throwTo_46 rfl rfl rfl Nat.zero_lt_one ?_
        refine v_iload_n dX7_throwTo_49 rfl ?_
        refine m_zald u (by decide) rfl dX7_throwTo_50 Nat.zero_lt_one rfl hu24 ?_
        refine v_if_eq 63 dX7_throwTo_51 (by decide) (fun h_51 => ?_) (fun h_51 => ?_)
        · refine v_aload_n dX7_throwTo_63 rfl ?_
          refine v_iload_n dX7_throwTo_64 rfl ?_
          refine v_iload_n dX7_throwTo_65 rfl ?_
          refine v_call2n lX7_147 kX7_except (c_X7_except (T := T) hu Z (by obtain ⟨hc, pc, h4, p4, e1, e2⟩ := I u hu; exact ⟨hc, h4, e1⟩)) dX7_throwTo_66 rfl rfl Nat.zero_lt_one rfl (by decide) (by decide) (st8 rfl) ?_
          refine v_goto 108 dX7_throwTo_69 (by decide) ?_
          exact v_vret dX7_throwTo_108 ⟨rfl, by first | (unfold mThrow; rw [if_pos h_9]; done) | rfl | (unfold mThr; rw [if_pos h_42]; done) | (unfold mThr; rw [if_neg h_42, if_pos (Or.inl h_51)]; done) | (unfold mThr; rw [if_neg h_42, if_pos (Or.inr h_60)]; done) | (unfold mThr; rw [if_neg h_42, if_neg (fun z => z.elim h_51 (fun y => y h_60)), if_pos h_79]; done) | (unfold mThr; rw [if_neg h_42, if_neg (fun z => z.elim h_51 (fun y => y h_60)), if_neg h_79, e2, nv_nI (by omega)])⟩
        · refine v_aload_n dX7_throwTo_54 rfl ?_
          refine v_gr 0 fX7_19 dX7_throwTo_55 rfl rfl rfl Nat.zero_lt_one ?_
          refine v_iload_n dX7_throwTo_58 rfl ?_
          refine m_iald u (by decide) rfl dX7_throwTo_59 Nat.zero_lt_one rfl hu24 ?_
          refine v_if_eq 72 dX7_throwTo_60 (by decide) (fun h_60 => ?_) (fun h_60 => ?_)
          · refine v_aload_n dX7_throwTo_72 rfl ?_
            refine v_gr 0 fX7_41 dX7_throwTo_73 rfl rfl rfl Nat.zero_lt_one ?_
            refine v_iload_n dX7_throwTo_76 rfl ?_
            refine m_iald u (by decide) rfl dX7_throwTo_77 Nat.zero_lt_one rfl hu24 ?_
            refine v_iconst 4 dX7_throwTo_78 (by decide) ?_
            refine v_icmp_ge 108 dX7_throwTo_79 (by decide) (fun h_79 => ?_) (fun h_79 => ?_)
            · exact v_vret dX7_throwTo_108 ⟨rfl, by first | (unfold mThrow; rw [if_pos h_9]; done) | rfl | (unfold mThr; rw [if_pos h_42]; done) | (unfold mThr; rw [if_neg h_42, if_pos (Or.inl h_51)]; done) | (unfold mThr; rw [if_neg h_42, if_pos (Or.inr h_60)]; done) | (unfold mThr; rw [if_neg h_42, if_neg (fun z => z.elim h_51 (fun y => y h_60)), if_pos h_79]; done) | (unfold mThr; rw [if_neg h_42, if_neg (fun z => z.elim h_51 (fun y => y h_60)), if_neg h_79, e2, nv_nI (by omega)])⟩
            · obtain ⟨hc, pc, h4, p4, e1, e2⟩ := I u hu
              have p4n : pc < 4 := nlt_of e2 (by omega) (by decide) h_79
              refine v_aload_n dX7_throwTo_82 rfl ?_
              refine v_gr 0 fX7_44 dX7_throwTo_83 rfl rfl rfl Nat.zero_lt_one ?_
              refine v_iconst 4 dX7_throwTo_86 (by decide) ?_
              refine v_iload_n dX7_throwTo_87 rfl ?_
              refine v_imul dX7_throwTo_88 ?_
              refine v_aload_n dX7_throwTo_89 rfl ?_
              refine v_gr 0 fX7_41 dX7_throwTo_90 rfl rfl rfl Nat.zero_lt_one ?_
              refine v_iload_n dX7_throwTo_93 rfl ?_
              refine m_ialk u e2 (by decide) rfl dX7_throwTo_94 Nat.zero_lt_one rfl hu24 ?_
              refine v_iadd dX7_throwTo_95 ?_
              refine v_iload_n dX7_throwTo_96 rfl ?_
              refine m_iast (4 * u + pc) (by decide) rfl dX7_throwTo_97 Nat.zero_lt_one (by rw [show (4 : Int32) = nI 4 from rfl, pk_mul, nI_add]) (by omega) ?_
              refine v_aload_n dX7_throwTo_98 rfl ?_
              refine v_gr 0 fX7_41 dX7_throwTo_99 rfl rfl rfl Nat.zero_lt_one ?_
              refine v_iload_n dX7_throwTo_102 rfl ?_
              refine v_dup2 dX7_throwTo_103 ?_
              refine m_ialk u (by exact e2) (by decide) rfl dX7_throwTo_104 Nat.zero_lt_one rfl hu24 ?_
              refine v_iconst 1 dX7_throwTo_105 (by decide) ?_
              refine v_iadd dX7_throwTo_106 ?_
              refine m_iast u (by decide) rfl dX7_throwTo_107 Nat.zero_lt_one rfl hu24 ?_
              exact v_vret dX7_throwTo_108 ⟨rfl, by first | (unfold mThrow; rw [if_pos h_9]; done) | rfl | (unfold mThr; rw [if_pos h_42]; done) | (unfold mThr; rw [if_neg h_42, if_pos (Or.inl h_51)]; done) | (unfold mThr; rw [if_neg h_42, if_pos (Or.inr h_60)]; done) | (unfold mThr; rw [if_neg h_42, if_neg (fun z => z.elim h_51 (fun y => y h_60)), if_pos h_79]; done) | (unfold mThr; rw [if_neg h_42, if_neg (fun z => z.elim h_51 (fun y => y h_60)), if_neg h_79, e2, nv_nI (by omega)])⟩
          · refine v_aload_n dX7_throwTo_63 rfl ?_
            refine v_iload_n dX7_throwTo_64 rfl ?_
            refine v_iload_n dX7_throwTo_65 rfl ?_
            refine v_call2n lX7_147 kX7_except (c_X7_except (T := T) hu Z (by obtain ⟨hc, pc, h4, p4, e1, e2⟩ := I u hu; exact ⟨hc, h4, e1⟩)) dX7_throwTo_66 rfl rfl Nat.zero_lt_one rfl (by decide) (by decide) (st8 rfl) ?_
            refine v_goto 108 dX7_throwTo_69 (by decide) ?_
            exact v_vret dX7_throwTo_108 ⟨rfl, by first | (unfold mThrow; rw [if_pos h_9]; done) | rfl | (unfold mThr; rw [if_pos h_42]; done) | (unfold mThr; rw [if_neg h_42, if_pos (Or.inl h_51)]; done) | (unfold mThr; rw [if_neg h_42, if_pos (Or.inr h_60)]; done) | (unfold mThr; rw [if_neg h_42, if_neg (fun z => z.elim h_51 (fun y => y h_60)), if_pos h_79]; done) | (unfold mThr; rw [if_neg h_42, if_neg (fun z => z.elim h_51 (fun y => y h_60)), if_neg h_79, e2, nv_nI (by omega)])⟩
  · refine v_aload_n dX7_throwTo_12 rfl ?_
    refine v_iload_n dX7_throwTo_13 rfl ?_
    refine v_iload_n dX7_throwTo_14 rfl ?_
    refine v_call2n lX7_147 kX7_except (c_X7_except (T := T) ht Z (by obtain ⟨hc, pc, h4, p4, e1, e2⟩ := I t ht; exact ⟨hc, h4, e1⟩)) dX7_throwTo_15 rfl rfl Nat.zero_lt_one rfl (by decide) (by decide) (st8 rfl) ?_
    refine v_goto 108 dX7_throwTo_18 (by decide) ?_
    exact v_vret dX7_throwTo_108 ⟨rfl, by first | (unfold mThrow; rw [if_pos h_9]; done) | rfl | (unfold mThr; rw [if_pos h_42]; done) | (unfold mThr; rw [if_neg h_42, if_pos (Or.inl h_51)]; done) | (unfold mThr; rw [if_neg h_42, if_pos (Or.inr h_60)]; done) | (unfold mThr; rw [if_neg h_42, if_neg (fun z => z.elim h_51 (fun y => y h_60)), if_pos h_79]; done) | (unfold mThr; rw [if_neg h_42, if_neg (fun z => z.elim h_51 (fun y => y h_60)), if_neg h_79, e2, nv_nI (by omega)])⟩
set_option maxHeartbeats 4000000 in
set_option maxRecDepth 100000 in
theorem c_X7_oth3 {a b : tH} {T : Nat} {t : Nat} {x : Int32} (ht : t < T) {ρ : Option Nat} {L : List Nat} (Z : IQ b ρ T L) : Cn yX7_doOther cX7_doOther 4 4 [.inr (some (20, 0)), .inl (nI t), .inl 3, .inl x] (mix a b) (mix a (put b 27 0 t x)) := by
  have hT24 := Z.2.1
  have ht24 : t < 24 := by omega
  refine Ct.of (by decide) [_, _, _, _] rfl (Nat.le_of_ble_eq_true rfl) ?_
  refine v_iload_n dX7_doOther_0 rfl ?_
  refine v_tsIn (off := 67) 68 3 dX7_doOther_1 rfl (by decide) (by decide) (by decide) (by decide) ?_
  refine v_aload_n dX7_doOther_68 rfl ?_
  refine v_gr 0 fX7_28 dX7_doOther_69 rfl rfl rfl Nat.zero_lt_one ?_
  refine v_iload_n dX7_doOther_72 rfl ?_
  refine v_iload_n dX7_doOther_73 rfl ?_
  refine m_iast t (by decide) rfl dX7_doOther_74 Nat.zero_lt_one rfl ht24 ?_
  refine v_goto 367 dX7_doOther_75 (by decide) ?_
  exact v_vret dX7_doOther_367 ⟨rfl, rfl⟩
set_option maxHeartbeats 4000000 in
set_option maxRecDepth 100000 in
theorem c_X7_oth4 {a b : tH} {T : Nat} {t : Nat} {x : Int32} (ht : t < T) {ρ : Option Nat} {L : List Nat} (Z : IQ b ρ T L) : Cn yX7_doOther cX7_doOther 4 4 [.inr (some (20, 0)), .inl (nI t), .inl 4, .inl x] (mix a b) (mix a (put b 27 0 t (b.1 27 0 t + x))) := by
  have hT24 := Z.2.1
  have ht24 : t < 24 := by omega
  refine Ct.of (by decide) [_, _, _, _] rfl (Nat.le_of_ble_eq_true rfl) ?_
  refine v_iload_n dX7_doOther_0 rfl ?_
  refine v_tsIn (off := 77) 78 4 dX7_doOther_1 rfl (by decide) (by decide) (by decide) (by decide) ?_
  refine v_aload_n dX7_doOther_78 rfl ?_
  refine v_gr 0 fX7_28 dX7_doOther_79 rfl rfl rfl Nat.zero_lt_one ?_
  refine v_iload_n dX7_doOther_82 rfl ?_
  refine v_dup2 dX7_doOther_83 ?_
  refine m_iald t (by decide) rfl dX7_doOther_84 Nat.zero_lt_one rfl ht24 ?_
  refine v_iload_n dX7_doOther_85 rfl ?_
  refine v_iadd dX7_doOther_86 ?_
  refine m_iast t (by decide) rfl dX7_doOther_87 Nat.zero_lt_one rfl ht24 ?_
  refine v_goto 367 dX7_doOther_88 (by decide) ?_
  exact v_vret dX7_doOther_367 ⟨rfl, rfl⟩
set_option maxHeartbeats 4000000 in
set_option maxRecDepth 100000 in
theorem c_X7_oth6 {a b : tH} {T : Nat} {t : Nat} {x : Int32} (ht : t < T) {ρ : Option Nat} {L : List Nat} (Z : IQ b ρ T L) : Cn yX7_doOther cX7_doOther 4 4 [.inr (some (20, 0)), .inl (nI t), .inl 6, .inl x] (mix a b) (mix a (put b 20 0 34 1)) := by
  have hT24 := Z.2.1
  have ht24 : t < 24 := by omega
  refine Ct.of (by decide) [_, _, _, _] rfl (Nat.le_of_ble_eq_true rfl) ?_
  refine v_iload_n dX7_doOther_0 rfl ?_
  refine v_tsIn (off := 131) 132 6 dX7_doOther_1 rfl (by decide) (by decide) (by decide) (by decide) ?_
  refine v_aload_n dX7_doOther_132 rfl ?_
  refine v_iconst 1 dX7_doOther_133 (by decide) ?_
  refine m_pz (by decide) fX7_163 dX7_doOther_134 rfl rfl Nat.zero_lt_one (by decide) ?_
  refine v_goto 367 dX7_doOther_137 (by decide) ?_
  exact v_vret dX7_doOther_367 ⟨rfl, rfl⟩
set_option maxHeartbeats 4000000 in
set_option maxRecDepth 100000 in
theorem c_X7_oth16 {a b : tH} {T : Nat} {t : Nat} {x : Int32} (ht : t < T) {ρ : Option Nat} {L : List Nat} (Z : IQ b ρ T L) : Cn yX7_doOther cX7_doOther 4 4 [.inr (some (20, 0)), .inl (nI t), .inl 16, .inl x] (mix a b) (mix a (put b 27 0 t (nI t))) := by
  have hT24 := Z.2.1
  have ht24 : t < 24 := by omega
  refine Ct.of (by decide) [_, _, _, _] rfl (Nat.le_of_ble_eq_true rfl) ?_
  refine v_iload_n dX7_doOther_0 rfl ?_
  refine v_tsOut 360 dX7_doOther_1 (Or.inr (by decide)) (by decide) ?_
  refine v_aload_n dX7_doOther_360 rfl ?_
  refine v_gr 0 fX7_28 dX7_doOther_361 rfl rfl rfl Nat.zero_lt_one ?_
  refine v_iload_n dX7_doOther_364 rfl ?_
  refine v_iload_n dX7_doOther_365 rfl ?_
  refine m_iast t (by decide) rfl dX7_doOther_366 Nat.zero_lt_one rfl ht24 ?_
  exact v_vret dX7_doOther_367 ⟨rfl, rfl⟩
set_option maxHeartbeats 4000000 in
set_option maxRecDepth 100000 in
theorem c_X7_oth11 {a b : tH} {T : Nat} {t : Nat} {x : Int32} (ht : t < T) {ρ : Option Nat} {L : List Nat} (Z : IQ b ρ T L) (I : IH b T) : Cn yX7_doOther cX7_doOther 4 4 [.inr (some (20, 0)), .inl (nI t), .inl 11, .inl x] (mix a b) (mix a (mExc b T t x)) := by
  have hT24 := Z.2.1
  have ht24 : t < 24 := by omega
  refine Ct.of (by decide) [_, _, _, _] rfl (Nat.le_of_ble_eq_true rfl) ?_
  refine v_iload_n dX7_doOther_0 rfl ?_
  refine v_tsIn (off := 225) 226 11 dX7_doOther_1 rfl (by decide) (by decide) (by decide) (by decide) ?_
  refine v_aload_n dX7_doOther_226 rfl ?_
  refine v_iload_n dX7_doOther_227 rfl ?_
  refine v_iload_n dX7_doOther_228 rfl ?_
  refine v_call2n lX7_147 kX7_except (c_X7_except (T := T) ht Z (by obtain ⟨hc, pc, h4, p4, e1, e2⟩ := I t ht; exact ⟨hc, h4, e1⟩)) dX7_doOther_229 rfl rfl Nat.zero_lt_one rfl (by decide) (by decide) (st8 rfl) ?_
  refine v_goto 367 dX7_doOther_232 (by decide) ?_
  exact v_vret dX7_doOther_367 ⟨rfl, rfl⟩
set_option maxHeartbeats 4000000 in
set_option maxRecDepth 100000 in
theorem c_X7_oth12 {a b : tH} {T : Nat} {t : Nat} {x : Int32} (ht : t < T) {ρ : Option Nat} {L : List Nat} (Z : IQ b ρ T L) (I : IH b T) : Cn yX7_doOther cX7_doOther 4 4 [.inr (some (20, 0)), .inl (nI t), .inl 12, .inl x] (mix a b) (mix a (mThrow b T t x)) := by
  have hT24 := Z.2.1
  have ht24 : t < 24 := by omega
  refine Ct.of (by decide) [_, _, _, _] rfl (Nat.le_of_ble_eq_true rfl) ?_
  refine v_iload_n dX7_doOther_0 rfl ?_
  refine v_tsIn (off := 234) 235 12 dX7_doOther_1 rfl (by decide) (by decide) (by decide) (by decide) ?_
  refine v_aload_n dX7_doOther_235 rfl ?_
  refine v_iload_n dX7_doOther_236 rfl ?_
  refine v_iload_n dX7_doOther_237 rfl ?_
  refine v_call2n lX7_166 kX7_throwTo (c_X7_throwTo (T := T) ht Z I) dX7_doOther_238 rfl rfl Nat.zero_lt_one rfl (by decide) (by decide) (st8 rfl) ?_
  refine v_goto 367 dX7_doOther_241 (by decide) ?_
  exact v_vret dX7_doOther_367 ⟨rfl, rfl⟩
set_option maxHeartbeats 4000000 in
set_option maxRecDepth 100000 in
theorem c_X7_oth13 {a b : tH} {T : Nat} {t : Nat} {x : Int32} (ht : t < T) {ρ : Option Nat} {L : List Nat} (Z : IQ b ρ T L) {hc : Nat} (h4 : hc ≤ 4) (e1 : b.1 28 0 t = nI hc) : Cn yX7_doOther cX7_doOther 4 4 [.inr (some (20, 0)), .inl (nI t), .inl 13, .inl x] (mix a b) (mix a (mCatch b t x)) := by
  have hT24 := Z.2.1
  have ht24 : t < 24 := by omega
  refine Ct.of (by decide) [_, _, _, _] rfl (Nat.le_of_ble_eq_true rfl) ?_
  refine v_iload_n dX7_doOther_0 rfl ?_
  refine v_tsIn (off := 243) 244 13 dX7_doOther_1 rfl (by decide) (by decide) (by decide) (by decide) ?_
  refine v_aload_n dX7_doOther_244 rfl ?_
  refine v_gr 0 fX7_31 dX7_doOther_245 rfl rfl rfl Nat.zero_lt_one ?_
  refine v_iload_n dX7_doOther_248 rfl ?_
  refine m_iald t (by decide) rfl dX7_doOther_249 Nat.zero_lt_one rfl ht24 ?_
  refine v_iconst 4 dX7_doOther_250 (by decide) ?_
  refine v_icmp_ge 367 dX7_doOther_251 (by decide) (fun h_251 => ?_) (fun h_251 => ?_)
  · exact v_vret dX7_doOther_367 ⟨rfl, by unfold mCatch; first | (rw [if_pos h_251]; done) | (rw [if_neg h_251, e1, nv_nI (by omega)])⟩
  · have h4n : hc < 4 := nlt_of e1 (by omega) (by decide) h_251
    refine v_aload_n dX7_doOther_254 rfl ?_
    refine v_gr 0 fX7_34 dX7_doOther_255 rfl rfl rfl Nat.zero_lt_one ?_
    refine v_iconst 4 dX7_doOther_258 (by decide) ?_
    refine v_iload_n dX7_doOther_259 rfl ?_
    refine v_imul dX7_doOther_260 ?_
    refine v_aload_n dX7_doOther_261 rfl ?_
    refine v_gr 0 fX7_31 dX7_doOther_262 rfl rfl rfl Nat.zero_lt_one ?_
    refine v_iload_n dX7_doOther_265 rfl ?_
    refine m_ialk t e1 (by decide) rfl dX7_doOther_266 Nat.zero_lt_one rfl ht24 ?_
    refine v_iadd dX7_doOther_267 ?_
    refine v_iload_n dX7_doOther_268 rfl ?_
    refine m_iast (4 * t + hc) (by decide) rfl dX7_doOther_269 Nat.zero_lt_one (by rw [show (4 : Int32) = nI 4 from rfl, pk_mul, nI_add]) (by omega) ?_
    refine v_aload_n dX7_doOther_270 rfl ?_
    refine v_gr 0 fX7_31 dX7_doOther_271 rfl rfl rfl Nat.zero_lt_one ?_
    refine v_iload_n dX7_doOther_274 rfl ?_
    refine v_dup2 dX7_doOther_275 ?_
    refine m_ialk t (by exact e1) (by decide) rfl dX7_doOther_276 Nat.zero_lt_one rfl ht24 ?_
    refine v_iconst 1 dX7_doOther_277 (by decide) ?_
    refine v_iadd dX7_doOther_278 ?_
    refine m_iast t (by decide) rfl dX7_doOther_279 Nat.zero_lt_one rfl ht24 ?_
    refine v_goto 367 dX7_doOther_280 (by decide) ?_
    exact v_vret dX7_doOther_367 ⟨rfl, by unfold mCatch; first | (rw [if_pos h_251]; done) | (rw [if_neg h_251, e1, nv_nI (by omega)])⟩
set_option maxHeartbeats 4000000 in
set_option maxRecDepth 100000 in
theorem c_X7_oth14 {a b : tH} {T : Nat} {t : Nat} {x : Int32} (ht : t < T) {ρ : Option Nat} {L : List Nat} (Z : IQ b ρ T L) : Cn yX7_doOther cX7_doOther 4 4 [.inr (some (20, 0)), .inl (nI t), .inl 14, .inl x] (mix a b) (mix a (mDrop b t)) := by
  have hT24 := Z.2.1
  have ht24 : t < 24 := by omega
  refine Ct.of (by decide) [_, _, _, _] rfl (Nat.le_of_ble_eq_true rfl) ?_
  refine v_iload_n dX7_doOther_0 rfl ?_
  refine v_tsIn (off := 282) 283 14 dX7_doOther_1 rfl (by decide) (by decide) (by decide) (by decide) ?_
  refine v_aload_n dX7_doOther_283 rfl ?_
  refine v_gr 0 fX7_31 dX7_doOther_284 rfl rfl rfl Nat.zero_lt_one ?_
  refine v_iload_n dX7_doOther_287 rfl ?_
  refine v_dup2 dX7_doOther_288 ?_
  refine m_iald t (by decide) rfl dX7_doOther_289 Nat.zero_lt_one rfl ht24 ?_
  refine v_aload_n dX7_doOther_290 rfl ?_
  refine v_gr 0 fX7_31 dX7_doOther_291 rfl rfl rfl Nat.zero_lt_one ?_
  refine v_iload_n dX7_doOther_294 rfl ?_
  refine m_iald t (by decide) rfl dX7_doOther_295 Nat.zero_lt_one rfl ht24 ?_
  refine v_if_le 303 dX7_doOther_296 (by decide) (fun h_296 => ?_) (fun h_296 => ?_)
  · refine v_iconst 0 dX7_doOther_303 (by decide) ?_
    refine v_isub dX7_doOther_304 ?_
    refine m_iast t (by decide) rfl dX7_doOther_305 Nat.zero_lt_one rfl ht24 ?_
    refine v_goto 367 dX7_doOther_306 (by decide) ?_
    exact v_vret dX7_doOther_367 ⟨rfl, by unfold mDrop; first | (rw [if_pos h_296]; done) | (rw [if_neg h_296])⟩
  · refine v_iconst 1 dX7_doOther_299 (by decide) ?_
    refine v_goto 304 dX7_doOther_300 (by decide) ?_
    refine v_isub dX7_doOther_304 ?_
    refine m_iast t (by decide) rfl dX7_doOther_305 Nat.zero_lt_one rfl ht24 ?_
    refine v_goto 367 dX7_doOther_306 (by decide) ?_
    exact v_vret dX7_doOther_367 ⟨rfl, by unfold mDrop; first | (rw [if_pos h_296]; done) | (rw [if_neg h_296])⟩
set_option maxHeartbeats 4000000 in
set_option maxRecDepth 100000 in
theorem c_X7_oth10 {a b : tH} {T : Nat} {t : Nat} {x : Int32} (ht : t < T) {ρ : Option Nat} {L : List Nat} (Z : IQ b ρ T L) {r : Nat} (hr : b.1 20 0 31 = nI r) (h100 : r ≤ 100) : Cn yX7_doOther cX7_doOther 4 4 [.inr (some (20, 0)), .inl (nI t), .inl 10, .inl x] (mix a b) (mix a (mLog b t)) := by
  have hT24 := Z.2.1
  have ht24 : t < 24 := by omega
  refine Ct.of (by decide) [_, _, _, _] rfl (Nat.le_of_ble_eq_true rfl) ?_
  refine v_iload_n dX7_doOther_0 rfl ?_
  refine v_tsIn (off := 178) 179 10 dX7_doOther_1 rfl (by decide) (by decide) (by decide) (by decide) ?_
  refine v_aload_n dX7_doOther_179 rfl ?_
  refine m_gi (by decide) fX7_121 dX7_doOther_180 rfl rfl Nat.zero_lt_one ?_
  refine v_bipush 100 dX7_doOther_183 (by decide) ?_
  refine v_icmp_ge 367 dX7_doOther_185 (by decide) (fun h_185 => ?_) (fun h_185 => ?_)
  · exact v_vret dX7_doOther_367 ⟨rfl, by unfold mLog; first | (rw [if_pos h_185]; done) | (rw [if_neg h_185, hr, nv_nI (by omega)]; try rfl)⟩
  · have r1 : r < 100 := nlt_of hr (by omega) (by decide) h_185
    refine v_aload_n dX7_doOther_188 rfl ?_
    refine v_gr 0 fX7_71 dX7_doOther_189 rfl rfl rfl Nat.zero_lt_one ?_
    refine v_aload_n dX7_doOther_192 rfl ?_
    refine m_gk hr (by decide) fX7_121 dX7_doOther_193 rfl rfl Nat.zero_lt_one ?_
    refine v_iload_n dX7_doOther_196 rfl ?_
    refine m_iast r (by decide) rfl dX7_doOther_197 Nat.zero_lt_one rfl r1 ?_
    refine v_aload_n dX7_doOther_198 rfl ?_
    refine v_gr 0 fX7_74 dX7_doOther_199 rfl rfl rfl Nat.zero_lt_one ?_
    refine v_aload_n dX7_doOther_202 rfl ?_
    refine m_gk (by exact hr) (by decide) fX7_121 dX7_doOther_203 rfl rfl Nat.zero_lt_one ?_
    refine v_aload_n dX7_doOther_206 rfl ?_
    refine v_gr 0 fX7_28 dX7_doOther_207 rfl rfl rfl Nat.zero_lt_one ?_
    refine v_iload_n dX7_doOther_210 rfl ?_
    refine m_iald t (by decide) rfl dX7_doOther_211 Nat.zero_lt_one rfl ht24 ?_
    refine m_iast r (by decide) rfl dX7_doOther_212 Nat.zero_lt_one rfl r1 ?_
    refine v_aload_n dX7_doOther_213 rfl ?_
    refine v_dup dX7_doOther_214 ?_
    refine m_gk (by exact hr) (by decide) fX7_121 dX7_doOther_215 rfl rfl Nat.zero_lt_one ?_
    refine v_iconst 1 dX7_doOther_218 (by decide) ?_
    refine v_iadd dX7_doOther_219 ?_
    refine m_pi (by decide) fX7_121 dX7_doOther_220 rfl rfl Nat.zero_lt_one ?_
    refine v_goto 367 dX7_doOther_223 (by decide) ?_
    exact v_vret dX7_doOther_367 ⟨rfl, by unfold mLog; first | (rw [if_pos h_185]; done) | (rw [if_neg h_185, hr, nv_nI (by omega)]; try rfl)⟩
set_option maxHeartbeats 4000000 in
set_option maxRecDepth 100000 in
theorem c_X7_oth7a {a b : tH} {T : Nat} {t : Nat} {x : Int32} (ht : t < T) {ρ : Option Nat} {L : List Nat} (Z : IQ b ρ T L) (hp : b.1 31 0 t = 0) : Cn yX7_doOther cX7_doOther 4 4 [.inr (some (20, 0)), .inl (nI t), .inl 7, .inl x] (mix a b) (mix a (mDelay b T t x)) := by
  have hT24 := Z.2.1
  have ht24 : t < 24 := by omega
  refine Ct.of (by decide) [_, _, _, _] rfl (Nat.le_of_ble_eq_true rfl) ?_
  refine v_iload_n dX7_doOther_0 rfl ?_
  refine v_tsIn (off := 139) 140 7 dX7_doOther_1 rfl (by decide) (by decide) (by decide) (by decide) ?_
  refine v_aload_n dX7_doOther_140 rfl ?_
  refine v_gr 0 fX7_41 dX7_doOther_141 rfl rfl rfl Nat.zero_lt_one ?_
  refine v_iload_n dX7_doOther_144 rfl ?_
  refine m_ialk t hp (by decide) rfl dX7_doOther_145 Nat.zero_lt_one rfl ht24 ?_
  refine v_if_le 157 dX7_doOther_146 (by decide) (fun h_146 => ?_) (fun h_146 => absurd (Int32.le_refl 0) h_146)
  refine v_aload_n dX7_doOther_157 rfl ?_
  refine v_gr 0 fX7_19 dX7_doOther_158 rfl rfl rfl Nat.zero_lt_one ?_
  refine v_iload_n dX7_doOther_161 rfl ?_
  refine v_iconst 4 dX7_doOther_162 (by decide) ?_
  refine m_iast t (by decide) rfl dX7_doOther_163 Nat.zero_lt_one rfl ht24 ?_
  refine v_aload_n dX7_doOther_164 rfl ?_
  refine v_gr 0 fX7_53 dX7_doOther_165 rfl rfl rfl Nat.zero_lt_one ?_
  refine v_iload_n dX7_doOther_168 rfl ?_
  refine v_aload_n dX7_doOther_169 rfl ?_
  refine m_gi (by decide) fX7_112 dX7_doOther_170 rfl rfl Nat.zero_lt_one ?_
  refine v_iload_n dX7_doOther_173 rfl ?_
  refine v_iadd dX7_doOther_174 ?_
  refine m_iast t (by decide) rfl dX7_doOther_175 Nat.zero_lt_one rfl ht24 ?_
  refine v_goto 367 dX7_doOther_176 (by decide) ?_
  exact v_vret dX7_doOther_367 ⟨rfl, by unfold mDelay; rw [if_pos hp]; rfl⟩
set_option maxHeartbeats 4000000 in
set_option maxRecDepth 100000 in
theorem c_X7_oth7b {a b : tH} {T : Nat} {t : Nat} {x : Int32} (ht : t < T) {ρ : Option Nat} {L : List Nat} (Z : IQ b ρ T L) {pc : Nat} (I : ∃ hc, hc ≤ 4 ∧ b.1 28 0 t = nI hc) (hp : b.1 31 0 t = nI (pc + 1)) (h4 : pc < 4) : Cn yX7_doOther cX7_doOther 4 4 [.inr (some (20, 0)), .inl (nI t), .inl 7, .inl x] (mix a b) (mix a (mDelay b T t x)) := by
  have hT24 := Z.2.1
  have ht24 : t < 24 := by omega
  refine Ct.of (by decide) [_, _, _, _] rfl (Nat.le_of_ble_eq_true rfl) ?_
  refine v_iload_n dX7_doOther_0 rfl ?_
  refine v_tsIn (off := 139) 140 7 dX7_doOther_1 rfl (by decide) (by decide) (by decide) (by decide) ?_
  refine v_aload_n dX7_doOther_140 rfl ?_
  refine v_gr 0 fX7_41 dX7_doOther_141 rfl rfl rfl Nat.zero_lt_one ?_
  refine v_iload_n dX7_doOther_144 rfl ?_
  refine m_ialk t hp (by decide) rfl dX7_doOther_145 Nat.zero_lt_one rfl ht24 ?_
  refine v_if_le 157 dX7_doOther_146 (by decide) (fun h_146 => absurd h_146 (nI_nle (by omega) (by omega))) (fun h_146 => ?_)
  refine v_aload_n dX7_doOther_149 rfl ?_
  refine v_iload_n dX7_doOther_150 rfl ?_
  refine v_call1n lX7_150 kX7_popPending (c_X7_popPending (T := T) ht Z I hp h4) dX7_doOther_151 rfl rfl Nat.zero_lt_one rfl (by decide) (by decide) (st8 rfl) ?_
  refine v_goto 367 dX7_doOther_154 (by decide) ?_
  exact v_vret dX7_doOther_367 ⟨rfl, by unfold mDelay; rw [hp, if_neg (nI_ne0 (by omega) (by omega))]⟩
set_option maxHeartbeats 4000000 in
set_option maxRecDepth 100000 in
theorem c_X7_oth5 {a b : tH} {T : Nat} {t P : Nat} {x : Int32} (ht : t < T) {ρ : Option Nat} {L : List Nat} (Z : IQ b ρ T L) (hP : b.1 20 0 1 = nI P) : Cn yX7_doOther cX7_doOther 4 4 [.inr (some (20, 0)), .inl (nI t), .inl 5, .inl x] (mix a b) (mix a (mFork b T t x)) := by
  have hT24 := Z.2.1
  have ht24 : t < 24 := by omega
  refine Ct.of (by decide) [_, _, _, _] rfl (Nat.le_of_ble_eq_true rfl) ?_
  refine v_iload_n dX7_doOther_0 rfl ?_
  refine v_tsIn (off := 90) 91 5 dX7_doOther_1 rfl (by decide) (by decide) (by decide) (by decide) ?_
  refine v_aload_n dX7_doOther_91 rfl ?_
  refine v_gr 0 fX7_28 dX7_doOther_92 rfl rfl rfl Nat.zero_lt_one ?_
  refine v_iload_n dX7_doOther_95 rfl ?_
  refine v_aload_n dX7_doOther_96 rfl ?_
  refine m_gi (by decide) fX7_92 dX7_doOther_97 rfl rfl Nat.zero_lt_one ?_
  refine v_bipush 24 dX7_doOther_100 (by decide) ?_
  refine v_icmp_eq 113 dX7_doOther_102 (by decide) (fun h_102 => ?_) (fun h_102 => ?_)
  · refine v_iconst (-1) dX7_doOther_113 (by decide) ?_
    refine v_goto 128 dX7_doOther_114 (by decide) ?_
    refine m_iast t (by decide) rfl dX7_doOther_128 Nat.zero_lt_one rfl ht24 ?_
    refine v_goto 367 dX7_doOther_129 (by decide) ?_
    exact v_vret dX7_doOther_367 ⟨rfl, by unfold mFork; first | (rw [if_pos (Or.inl h_102)]; done) | (rw [if_pos (Or.inr (Int32.not_lt.mp h_110))]; done) | (rw [if_neg (fun z => z.elim h_102 (fun y => absurd h_110 (Int32.not_lt.mpr y)))])⟩
  · have hTn : T < 24 := by
      have h2 : T ≠ 24 := fun e => h_102 (by rw [Z.1, e]; rfl)
      omega
    refine v_iload_n dX7_doOther_105 rfl ?_
    refine v_aload_n dX7_doOther_106 rfl ?_
    refine m_gi (by decide) fX7_81 dX7_doOther_107 rfl rfl Nat.zero_lt_one ?_
    refine v_icmp_lt 117 dX7_doOther_110 (by decide) (fun h_110 => ?_) (fun h_110 => ?_)
    · refine v_aload_n dX7_doOther_117 rfl ?_
      refine v_iload_n dX7_doOther_118 rfl ?_
      refine v_aload_n dX7_doOther_119 rfl ?_
      refine v_gr 0 fX7_28 dX7_doOther_120 rfl rfl rfl Nat.zero_lt_one ?_
      refine v_iload_n dX7_doOther_123 rfl ?_
      refine m_iald t (by decide) rfl dX7_doOther_124 Nat.zero_lt_one rfl ht24 ?_
      refine v_call2i lX7_127 kX7_newThread (c_X7_newThread (q := L.length) (by exact Z.1) hTn (by exact Z.2.2.1) Z.len) dX7_doOther_125 rfl rfl Nat.zero_lt_one rfl (by decide) (by decide) (st8 rfl) ?_
      refine m_iast t (by decide) rfl dX7_doOther_128 Nat.zero_lt_one rfl ht24 ?_
      refine v_goto 367 dX7_doOther_129 (by decide) ?_
      exact v_vret dX7_doOther_367 ⟨rfl, by unfold mFork; first | (rw [if_pos (Or.inl h_102)]; done) | (rw [if_pos (Or.inr (Int32.not_lt.mp h_110))]; done) | (rw [if_neg (fun z => z.elim h_102 (fun y => absurd h_110 (Int32.not_lt.mpr y)))])⟩
    · refine v_iconst (-1) dX7_doOther_113 (by decide) ?_
      refine v_goto 128 dX7_doOther_114 (by decide) ?_
      refine m_iast t (by decide) rfl dX7_doOther_128 Nat.zero_lt_one rfl ht24 ?_
      refine v_goto 367 dX7_doOther_129 (by decide) ?_
      exact v_vret dX7_doOther_367 ⟨rfl, by unfold mFork; first | (rw [if_pos (Or.inl h_102)]; done) | (rw [if_pos (Or.inr (Int32.not_lt.mp h_110))]; done) | (rw [if_neg (fun z => z.elim h_102 (fun y => absurd h_110 (Int32.not_lt.mpr y)))])⟩
theorem mShL_off {t : Nat} : ∀ (m k : Nat) (b : tH), (∀ c i k', c ≠ 32 → (mShL t m k b).1 c i k' = b.1 c i k') ∧ (mShL t m k b).2 = b.2
  | 0, _, b => ⟨fun _ _ _ _ => rfl, rfl⟩
  | m + 1, k, b => by
    obtain ⟨h1, h2⟩ := mShL_off (t := t) m (k + 1) (put b 32 0 (4 * t + k) (b.1 32 0 (4 * t + k + 1)))
    exact ⟨fun c i k' hc => (h1 c i k' hc).trans (put_ne (by omega)), h2⟩
theorem IQ.sh {b : tH} {ρ : Option Nat} {T t m k : Nat} {L : List Nat} (h : IQ b ρ T L) : IQ (mShL t m k b) ρ T L :=
  h.cg ((mShL_off m k b).1 _ _ _ (by omega)) ((mShL_off m k b).1 _ _ _ (by omega)) (funext fun j => (mShL_off m k b).1 _ _ _ (by omega)) (fun t _ => (mShL_off m k b).1 _ _ _ (by omega))
theorem IM_pop {b : tH} {ρ : Option Nat} {T t pc : Nat} {L : List Nat} (Z : IQ b ρ T L) (I : IH b T) (ht : t < T) (hρ : ρ = some t → b.1 24 0 t = 0) (hp : b.1 31 0 t = nI (pc + 1)) (h4 : pc < 4) : (∃ L', IQ (mPop b T t) ρ T L') ∧ IH (mPop b T t) T ∧ (mPop b T t).1 31 0 t = nI pc ∧ (mPop b T t).1 30 0 t = b.1 30 0 t := by
  have e0 : mPop b T t = mExc (mShL t pc 0 (put b 31 0 t (nI pc))) T t (b.1 32 0 (4 * t)) := by unfold mPop; rw [mPopS_1 hp h4]
  rw [e0]
  have off := (mShL_off (t := t) pc 0 (put b 31 0 t (nI pc))).1
  have Z1 : IQ (mShL t pc 0 (put b 31 0 t (nI pc))) ρ T L := IQ.sh (b := put b 31 0 t (nI pc)) Z
  have I1 : IH (mShL t pc 0 (put b 31 0 t (nI pc))) T := by
    intro s hs
    obtain ⟨hc, pc', g4, q4, f1, f2⟩ := I s hs
    by_cases e : s = t
    · subst e
      exact ⟨hc, pc, g4, by omega, (off 28 0 s (by omega)).trans f1, (off 31 0 s (by omega)).trans put_eq⟩
    · exact ⟨hc, pc', g4, q4, (off 28 0 s (by omega)).trans f1, (off 31 0 s (by omega)).trans ((put_ne (by omega)).trans f2)⟩
  obtain ⟨r1, r2, r3, r4⟩ := IM_exc (n := b.1 32 0 (4 * t)) Z1 I1 ht (fun e => (off 24 0 t (by omega)).trans (hρ e))
  exact ⟨r1, r2, r3.trans ((off 31 0 t (by omega)).trans put_eq), r4.trans (off 30 0 t (by omega))⟩
set_option maxHeartbeats 4000000 in
set_option maxRecDepth 100000 in
theorem l_X7_mask {a : tH} {T t : Nat} {x : Int32} (ht : t < T) {ρ : Option Nat} : ∀ (f : Nat) (b : tH) (L : List Nat), f ≤ 4 → IQ b ρ T L → IH b T → (ρ = some t → b.1 24 0 t = 0) → (∃ pc, pc ≤ f ∧ b.1 31 0 t = nI pc) → Vw yX7_doOther.cls cX7_doOther 4 none 4 (fun r h' => r = none ∧ h' = mix a (mMkL T t f b)) 325 [some (.inr (some (20, 0))), some (.inl (nI t)), some (.inl 15), some (.inl x)] [] (mix a b) := by
  intro f
  induction f with
  | zero =>
    intro b L hf Z I hρ hp
    have hT24 := Z.2.1
    have ht24 : t < 24 := by omega
    obtain ⟨pc, p0, hp⟩ := hp
    obtain rfl : pc = 0 := by omega
    refine v_aload_n dX7_doOther_325 rfl ?_
    refine v_gr 0 fX7_37 dX7_doOther_326 rfl rfl rfl Nat.zero_lt_one ?_
    refine v_iload_n dX7_doOther_329 rfl ?_
    refine m_zald t (by decide) rfl dX7_doOther_330 Nat.zero_lt_one rfl ht24 ?_
    refine v_if_ne 367 dX7_doOther_331 (by decide) (fun h_331 => ?_) (fun h_331 => ?_)
    · exact v_vret dX7_doOther_367 ⟨rfl, rfl⟩
    · refine v_aload_n dX7_doOther_334 rfl ?_
      refine v_gr 0 fX7_41 dX7_doOther_335 rfl rfl rfl Nat.zero_lt_one ?_
      refine v_iload_n dX7_doOther_338 rfl ?_
      refine m_ialk t hp (by decide) rfl dX7_doOther_339 Nat.zero_lt_one rfl ht24 ?_
      refine v_if_le 367 dX7_doOther_340 (by decide) (fun h_340 => ?_) (fun h_340 => absurd (Int32.le_refl 0) h_340)
      exact v_vret dX7_doOther_367 ⟨rfl, rfl⟩
  | succ f ih =>
    intro b L hf Z I hρ hp
    have hT24 := Z.2.1
    have ht24 : t < 24 := by omega
    obtain ⟨pc, p0, hp⟩ := hp
    by_cases hc : b.1 30 0 t = 0 ∧ ¬ b.1 31 0 t = 0 ∧ b.1 24 0 t = 0
    · have e1 : mMkL T t (f + 1) b = mMkL T t f (mPop b T t) := if_pos hc
      rw [e1]
      cases pc with
      | zero => exact absurd hp hc.2.1
      | succ pc =>
        have IM := IM_pop Z I ht hρ hp (by omega)
        obtain ⟨L', Z'⟩ := IM.1
        obtain ⟨hh, _, hh4, _, ehh, _⟩ := I t ht
        by_cases hs : (mPop b T t).1 24 0 t = 0
        · refine v_aload_n dX7_doOther_325 rfl ?_
          refine v_gr 0 fX7_37 dX7_doOther_326 rfl rfl rfl Nat.zero_lt_one ?_
          refine v_iload_n dX7_doOther_329 rfl ?_
          refine m_zalk t hc.1 (by decide) rfl dX7_doOther_330 Nat.zero_lt_one rfl ht24 ?_
          refine v_if_ne 367 dX7_doOther_331 (by decide) (fun h_331 => absurd rfl h_331) (fun h_331 => ?_)
          refine v_aload_n dX7_doOther_334 rfl ?_
          refine v_gr 0 fX7_41 dX7_doOther_335 rfl rfl rfl Nat.zero_lt_one ?_
          refine v_iload_n dX7_doOther_338 rfl ?_
          refine m_ialk t hp (by decide) rfl dX7_doOther_339 Nat.zero_lt_one rfl ht24 ?_
          refine v_if_le 367 dX7_doOther_340 (by decide) (fun h_340 => absurd h_340 (nI_nle (by omega) (by omega))) (fun h_340 => ?_)
          refine v_aload_n dX7_doOther_343 rfl ?_
          refine v_gr 0 fX7_19 dX7_doOther_344 rfl rfl rfl Nat.zero_lt_one ?_
          refine v_iload_n dX7_doOther_347 rfl ?_
          refine m_ialk t hc.2.2 (by decide) rfl dX7_doOther_348 Nat.zero_lt_one rfl ht24 ?_
          refine v_if_ne 367 dX7_doOther_349 (by decide) (fun h_349 => absurd rfl h_349) (fun h_349 => ?_)
          refine v_aload_n dX7_doOther_352 rfl ?_
          refine v_iload_n dX7_doOther_353 rfl ?_
          refine v_call1n lX7_150 kX7_popPending (c_X7_popPending (T := T) ht Z ⟨hh, hh4, ehh⟩ hp (by omega)) dX7_doOther_354 rfl rfl Nat.zero_lt_one rfl (by decide) (by decide) (st8 rfl) ?_
          refine v_goto 325 dX7_doOther_357 (by decide) ?_
          exact ih (mPop b T t) L' (by omega) Z' IM.2.1 (fun _ => hs) ⟨pc, by omega, IM.2.2.1⟩
        · have e2 : mMkL T t f (mPop b T t) = mPop b T t := by
            cases f with
            | zero => rfl
            | succ f => exact if_neg (fun z => hs z.2.2)
          rw [e2]
          refine v_aload_n dX7_doOther_325 rfl ?_
          refine v_gr 0 fX7_37 dX7_doOther_326 rfl rfl rfl Nat.zero_lt_one ?_
          refine v_iload_n dX7_doOther_329 rfl ?_
          refine m_zalk t hc.1 (by decide) rfl dX7_doOther_330 Nat.zero_lt_one rfl ht24 ?_
          refine v_if_ne 367 dX7_doOther_331 (by decide) (fun h_331 => absurd rfl h_331) (fun h_331 => ?_)
          refine v_aload_n dX7_doOther_334 rfl ?_
          refine v_gr 0 fX7_41 dX7_doOther_335 rfl rfl rfl Nat.zero_lt_one ?_
          refine v_iload_n dX7_doOther_338 rfl ?_
          refine m_ialk t hp (by decide) rfl dX7_doOther_339 Nat.zero_lt_one rfl ht24 ?_
          refine v_if_le 367 dX7_doOther_340 (by decide) (fun h_340 => absurd h_340 (nI_nle (by omega) (by omega))) (fun h_340 => ?_)
          refine v_aload_n dX7_doOther_343 rfl ?_
          refine v_gr 0 fX7_19 dX7_doOther_344 rfl rfl rfl Nat.zero_lt_one ?_
          refine v_iload_n dX7_doOther_347 rfl ?_
          refine m_ialk t hc.2.2 (by decide) rfl dX7_doOther_348 Nat.zero_lt_one rfl ht24 ?_
          refine v_if_ne 367 dX7_doOther_349 (by decide) (fun h_349 => absurd rfl h_349) (fun h_349 => ?_)
          refine v_aload_n dX7_doOther_352 rfl ?_
          refine v_iload_n dX7_doOther_353 rfl ?_
          refine v_call1n lX7_150 kX7_popPending (c_X7_popPending (T := T) ht Z ⟨hh, hh4, ehh⟩ hp (by omega)) dX7_doOther_354 rfl rfl Nat.zero_lt_one rfl (by decide) (by decide) (st8 rfl) ?_
          refine v_goto 325 dX7_doOther_357 (by decide) ?_
          refine v_aload_n dX7_doOther_325 rfl ?_
          refine v_gr 0 fX7_37 dX7_doOther_326 rfl rfl rfl Nat.zero_lt_one ?_
          refine v_iload_n dX7_doOther_329 rfl ?_
          refine m_zald t (by decide) rfl dX7_doOther_330 Nat.zero_lt_one rfl ht24 ?_
          refine v_if_ne 367 dX7_doOther_331 (by decide) (fun h_331_3 => ?_) (fun h_331_3 => ?_)
          · exact v_vret dX7_doOther_367 ⟨rfl, rfl⟩
          · refine v_aload_n dX7_doOther_334 rfl ?_
            refine v_gr 0 fX7_41 dX7_doOther_335 rfl rfl rfl Nat.zero_lt_one ?_
            refine v_iload_n dX7_doOther_338 rfl ?_
            refine m_iald t (by decide) rfl dX7_doOther_339 Nat.zero_lt_one rfl ht24 ?_
            refine v_if_le 367 dX7_doOther_340 (by decide) (fun h_340_4 => ?_) (fun h_340_4 => ?_)
            · exact v_vret dX7_doOther_367 ⟨rfl, rfl⟩
            · refine v_aload_n dX7_doOther_343 rfl ?_
              refine v_gr 0 fX7_19 dX7_doOther_344 rfl rfl rfl Nat.zero_lt_one ?_
              refine v_iload_n dX7_doOther_347 rfl ?_
              refine m_iald t (by decide) rfl dX7_doOther_348 Nat.zero_lt_one rfl ht24 ?_
              refine v_if_ne 367 dX7_doOther_349 (by decide) (fun h_349_5 => ?_) (fun h_349_5 => absurd h_349_5 hs)
              exact v_vret dX7_doOther_367 ⟨rfl, rfl⟩
    · have e1 : mMkL T t (f + 1) b = b := if_neg hc
      rw [e1]
      refine v_aload_n dX7_doOther_325 rfl ?_
      refine v_gr 0 fX7_37 dX7_doOther_326 rfl rfl rfl Nat.zero_lt_one ?_
      refine v_iload_n dX7_doOther_329 rfl ?_
      refine m_zald t (by decide) rfl dX7_doOther_330 Nat.zero_lt_one rfl ht24 ?_
      refine v_if_ne 367 dX7_doOther_331 (by decide) (fun h_331 => ?_) (fun h_331 => ?_)
      · exact v_vret dX7_doOther_367 ⟨rfl, rfl⟩
      · refine v_aload_n dX7_doOther_334 rfl ?_
        refine v_gr 0 fX7_41 dX7_doOther_335 rfl rfl rfl Nat.zero_lt_one ?_
        refine v_iload_n dX7_doOther_338 rfl ?_
        refine m_iald t (by decide) rfl dX7_doOther_339 Nat.zero_lt_one rfl ht24 ?_
        refine v_if_le 367 dX7_doOther_340 (by decide) (fun h_340 => ?_) (fun h_340 => ?_)
        · exact v_vret dX7_doOther_367 ⟨rfl, rfl⟩
        · have g340 : ¬ b.1 31 0 t = 0 := fun z => h_340 (by rw [z]; exact Int32.le_refl 0)
          refine v_aload_n dX7_doOther_343 rfl ?_
          refine v_gr 0 fX7_19 dX7_doOther_344 rfl rfl rfl Nat.zero_lt_one ?_
          refine v_iload_n dX7_doOther_347 rfl ?_
          refine m_iald t (by decide) rfl dX7_doOther_348 Nat.zero_lt_one rfl ht24 ?_
          refine v_if_ne 367 dX7_doOther_349 (by decide) (fun h_349 => ?_) (fun h_349 => absurd ⟨h_331, g340, h_349⟩ hc)
          exact v_vret dX7_doOther_367 ⟨rfl, rfl⟩
set_option maxHeartbeats 4000000 in
set_option maxRecDepth 100000 in
theorem c_X7_oth15 {a b : tH} {T : Nat} {t : Nat} {x : Int32} (ht : t < T) {ρ : Option Nat} {L : List Nat} (Z : IQ b ρ T L) (I : IH b T) (hρ : ρ = some t → b.1 24 0 t = 0) : Cn yX7_doOther cX7_doOther 4 4 [.inr (some (20, 0)), .inl (nI t), .inl 15, .inl x] (mix a b) (mix a (mMask b T t x)) := by
  have hT24 := Z.2.1
  have ht24 : t < 24 := by omega
  refine Ct.of (by decide) [_, _, _, _] rfl (Nat.le_of_ble_eq_true rfl) ?_
  refine v_iload_n dX7_doOther_0 rfl ?_
  refine v_tsIn (off := 308) 309 15 dX7_doOther_1 rfl (by decide) (by decide) (by decide) (by decide) ?_
  refine v_aload_n dX7_doOther_309 rfl ?_
  refine v_gr 0 fX7_37 dX7_doOther_310 rfl rfl rfl Nat.zero_lt_one ?_
  refine v_iload_n dX7_doOther_313 rfl ?_
  refine v_iload_n dX7_doOther_314 rfl ?_
  refine v_iconst 1 dX7_doOther_315 (by decide) ?_
  refine v_icmp_ne 323 dX7_doOther_316 (by decide) (fun h_316 => ?_) (fun h_316 => ?_)
  · refine v_iconst 0 dX7_doOther_323 (by decide) ?_
    refine m_zast t (by decide) rfl dX7_doOther_324 Nat.zero_lt_one rfl ht24 (by decide) ?_
    have e0 : mMask b T t x = mMkL T t 4 (put b 30 0 t 0) := by unfold mMask; rw [if_neg h_316]
    rw [e0]
    obtain ⟨hc, pc, h4, p4, e1, e2⟩ := I t ht
    exact l_X7_mask (x := x) (ρ := ρ) ht 4 _ L (Nat.le_refl 4) Z I hρ ⟨pc, p4, e2⟩
  · refine v_iconst 1 dX7_doOther_319 (by decide) ?_
    refine v_goto 324 dX7_doOther_320 (by decide) ?_
    refine m_zast t (by decide) rfl dX7_doOther_324 Nat.zero_lt_one rfl ht24 (by decide) ?_
    have e0 : mMask b T t x = mMkL T t 4 (put b 30 0 t 1) := by unfold mMask; rw [if_pos h_316]
    rw [e0]
    obtain ⟨hc, pc, h4, p4, e1, e2⟩ := I t ht
    exact l_X7_mask (x := x) (ρ := ρ) ht 4 _ L (Nat.le_refl 4) Z I hρ ⟨pc, p4, e2⟩
