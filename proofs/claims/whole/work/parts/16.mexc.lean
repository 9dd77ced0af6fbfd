/-! The reference's inner methods: boxes, ends, exceptions -/
def mClS (b : tH) (k : Nat) : tH := put (put (put b 24 0 k (if 5 ≤ b.1 24 0 k then b.1 24 0 k else 7)) 36 0 k (-1)) 35 0 k (-3)
def mClL : Nat → Nat → tH → tH
  | 0, _, b => b
  | m + 1, k, b => mClL m (k + 1) (mClS b k)
def mClose (b : tH) (T : Nat) : tH := mClL T 0 (put (put b 20 0 6 1) 20 0 27 0)
def mFinN (b : tH) (t : Nat) (s : Int32) : tH := mLeave (put b 24 0 t s) t
def mFin (b : tH) (T t : Nat) (s : Int32) : tH := if t = 0 then mClose (mFinN b t s) T else mFinN b t s
def mExB (b : tH) (t : Nat) (n : Int32) (hc : Nat) : tH := put (put (put (put (put b 36 0 t (-1)) 35 0 t (-3)) 28 0 t (nI hc)) 26 0 t (b.1 29 0 (4 * t + hc))) 27 0 t n
def mExE (b : tH) (t : Nat) (n : Int32) : tH := put (put (put b 36 0 t (-1)) 35 0 t (-3)) 33 0 t n
def mExc (b : tH) (T t : Nat) (n : Int32) : tH := match nv (b.1 28 0 t) with
  | 0 => mFin (mExE b t n) T t 6
  | hc + 1 => if b.1 24 0 t = 0 then mExB b t n hc else mEnq (mExB b t n hc) t
theorem mExc_0 {b : tH} {T t : Nat} {n : Int32} (h : b.1 28 0 t = 0) : mExc b T t n = mFin (mExE b t n) T t 6 := by
  unfold mExc; rw [h]; rfl
theorem mExc_1 {b : tH} {T t hc : Nat} {n : Int32} (h : b.1 28 0 t = nI (hc + 1)) (h4 : hc < 4) : mExc b T t n = if b.1 24 0 t = 0 then mExB b t n hc else mEnq (mExB b t n hc) t := by
  unfold mExc; rw [h, nv_nI (by omega)]
def mShL (t : Nat) : Nat → Nat → tH → tH
  | 0, _, b => b
  | m + 1, k, b => mShL t m (k + 1) (put b 32 0 (4 * t + k) (b.1 32 0 (4 * t + k + 1)))
def mPopS (b : tH) (t : Nat) : tH := mShL t (nv (b.1 31 0 t) - 1) 0 (put b 31 0 t (b.1 31 0 t - 1))
def mPop (b : tH) (T t : Nat) : tH := mExc (mPopS b t) T t (b.1 32 0 (4 * t))
theorem mPopS_1 {b : tH} {t pc : Nat} (h : b.1 31 0 t = nI (pc + 1)) (h4 : pc < 4) : mPopS b t = mShL t pc 0 (put b 31 0 t (nI pc)) := by
  unfold mPopS; rw [h, nv_nI (by omega), nI_pred]; rfl
def mWaitS (b : tH) (t : Nat) (x w : Int32) : tH := put (put (put (put b 24 0 t w) 36 0 t x) 37 0 t (b.1 20 0 26)) 20 0 26 (b.1 20 0 26 + 1)
def mWait (b : tH) (T t : Nat) (x w : Int32) : tH := if b.1 31 0 t = 0 then mWaitS b t x w else mPop b T t
def mRd (T x : Nat) (v : Int32) : Nat → tH → tH
  | 0, b => b
  | f + 1, b => match mFirst b T (nI x) 3 with
    | none => b
    | some t => mRd T x v f (mGo (put b 27 0 t v) t)
def mCom2 (b : tH) (T x : Nat) (v : Int32) : tH := match mFirst b T (nI x) 2 with
  | none => put (put b 40 0 x 1) 39 0 x v
  | some t => mGo (put b 27 0 t v) t
def mComes (b : tH) (T x : Nat) (v : Int32) : tH := mCom2 (mRd T x v 24 b) T x v
def mTaken (b : tH) (T x : Nat) : tH := match mFirst (put b 40 0 x 0) T (nI x) 1 with
  | none => put b 40 0 x 0
  | some t => mComes (mGo (put b 40 0 x 0) t) T x (b.1 27 0 t)
def IH (b : tH) (T : Nat) : Prop := ∀ t, t < T → ∃ hc pc, hc ≤ 4 ∧ pc ≤ 4 ∧ b.1 28 0 t = nI hc ∧ b.1 31 0 t = nI pc
theorem mGo_st {b : tH} {t s : Nat} : (mGo b t).1 24 0 s = if s = t then 0 else b.1 24 0 s := by
  by_cases h : s = t <;> simp [mGo, mEnq, put_rd, h]
theorem mGo_wa {b : tH} {t s : Nat} : (mGo b t).1 36 0 s = if s = t then -1 else b.1 36 0 s := by
  by_cases h : s = t <;> simp [mGo, mEnq, put_rd, h]
theorem mGo_ca {b : tH} {t s : Nat} : (mGo b t).1 37 0 s = b.1 37 0 s := by simp [mGo, mEnq, put_rd]
theorem IQ.go {b : tH} {ρ : Option Nat} {T t : Nat} {L : List Nat} (h : IQ b ρ T L) (ht : t < T) (hs : b.1 24 0 t ≠ 0) (hρ : ρ ≠ some t) : IQ (mGo b t) ρ T (L ++ [t]) :=
  IQ.enq (b := put (put b 26 0 t (b.1 26 0 t + 1)) 36 0 t (-1)) h ht (h.notin hs) hρ
theorem mFirst_st {b : tH} {T t : Nat} {x w : Int32} (h : mFirst b T x w = some t) : t < T ∧ b.1 24 0 t = w ∧ b.1 36 0 t = x := by
  have h1 := mins_lt h
  have h2 := Bool.and_eq_true_iff.mp h1.2
  exact ⟨h1.1, of_decide_eq_true h2.1, of_decide_eq_true h2.2⟩

theorem mLvL_off {t : Nat} : ∀ (m n k : Nat) (b : tH), offQ b (mLvL t m n k b)
  | 0, n, k, b => ⟨fun c i k' hc hn => put_ne (fun z => hn z), rfl⟩
  | m + 1, n, k, b => by
    unfold mLvL
    split
    · exact mLvL_off m n (k + 1) b
    · obtain ⟨h1, h2⟩ := mLvL_off (t := t) m (n + 1) (k + 1) (put b 38 0 n (b.1 38 0 k))
      exact ⟨fun c i k' hc hn => by rw [h1 c i k' hc hn, put_ne (by omega)], h2⟩
theorem mLeave_off {b : tH} {t : Nat} : offQ b (mLeave b t) := mLvL_off _ _ _ _
set_option maxHeartbeats 4000000 in
set_option maxRecDepth 100000 in
theorem l_X7_finish {a : tH} {s : Int32} {T : Nat} (h24 : T ≤ 24) : ∀ (m k : Nat) (b : tH), T = k + m → b.1 20 0 11 = nI T → Vw yX7_finish.cls cX7_finish 4 none 1 (fun r h' => r = none ∧ h' = mix a (mClL m k b)) 28 [some (.inr (some (20, 0))), some (.inl (nI 0)), some (.inl s), some (.inl (nI k))] [] (mix a b) := by
  intro m
  induction m with
  | zero =>
    intro k b hk hT
    obtain rfl : T = k := hk
    refine v_iload_n dX7_finish_28 rfl ?_
    refine v_aload_n dX7_finish_29 rfl ?_
    refine m_gk hT (by decide) fX7_92 dX7_finish_30 rfl rfl Nat.zero_lt_one ?_
    refine v_icmp_ge 84 dX7_finish_33 (by decide) (fun h_33 => ?_) (fun h_33 => absurd (Int32.le_refl _) h_33)
    exact v_vret dX7_finish_84 ⟨rfl, rfl⟩
  | succ m ih =>
    intro k b hk hT
    have hk24 : k < 24 := by omega
    refine v_iload_n dX7_finish_28 rfl ?_
    refine v_aload_n dX7_finish_29 rfl ?_
    refine m_gk hT (by decide) fX7_92 dX7_finish_30 rfl rfl Nat.zero_lt_one ?_
    refine v_icmp_ge 84 dX7_finish_33 (by decide) (fun h_33 => absurd h_33 (nI_ge (by omega) (by omega))) (fun h_33 => ?_)
    refine v_aload_n dX7_finish_36 rfl ?_
    refine v_gr 0 fX7_19 dX7_finish_37 rfl rfl rfl Nat.zero_lt_one ?_
    refine v_iload_n dX7_finish_40 rfl ?_
    refine v_aload_n dX7_finish_41 rfl ?_
    refine v_gr 0 fX7_19 dX7_finish_42 rfl rfl rfl Nat.zero_lt_one ?_
    refine v_iload_n dX7_finish_45 rfl ?_
    refine m_iald k (by decide) rfl dX7_finish_46 Nat.zero_lt_one rfl hk24 ?_
    refine v_iconst 5 dX7_finish_47 (by decide) ?_
    refine v_icmp_ge 56 dX7_finish_48 (by decide) (fun h_48 => ?_) (fun h_48 => ?_)
    · refine v_aload_n dX7_finish_56 rfl ?_
      refine v_gr 0 fX7_19 dX7_finish_57 rfl rfl rfl Nat.zero_lt_one ?_
      refine v_iload_n dX7_finish_60 rfl ?_
      refine m_iald k (by decide) rfl dX7_finish_61 Nat.zero_lt_one rfl hk24 ?_
      refine m_iast k (by decide) rfl dX7_finish_62 Nat.zero_lt_one rfl hk24 ?_
      refine v_aload_n dX7_finish_63 rfl ?_
      refine v_gr 0 fX7_56 dX7_finish_64 rfl rfl rfl Nat.zero_lt_one ?_
      refine v_iload_n dX7_finish_67 rfl ?_
      refine v_iconst (-1) dX7_finish_68 (by decide) ?_
      refine m_iast k (by decide) rfl dX7_finish_69 Nat.zero_lt_one rfl hk24 ?_
      refine v_aload_n dX7_finish_70 rfl ?_
      refine v_gr 0 fX7_53 dX7_finish_71 rfl rfl rfl Nat.zero_lt_one ?_
      refine v_iload_n dX7_finish_74 rfl ?_
      refine v_bipush (-3) dX7_finish_75 (by decide) ?_
      refine m_iast k (by decide) rfl dX7_finish_77 Nat.zero_lt_one rfl hk24 ?_
      refine v_iinc [_, _, _, _] dX7_finish_78 rfl (by first | exact inc1 _ | rfl) rfl (by decide) ?_
      refine v_goto 28 dX7_finish_81 (by decide) ?_
      have e1 : mClS b k = put (put (put b 24 0 k (b.1 24 0 k)) 36 0 k (-1)) 35 0 k (-3) := by unfold mClS; rw [if_pos h_48]
      have q := ih (k + 1) (mClS b k) (by omega) hT
      rw [e1] at q
      have e2 : mClL (m + 1) k b = mClL m (k + 1) (mClS b k) := rfl
      rw [e2, e1]
      exact q
    · refine v_bipush 7 dX7_finish_51 (by decide) ?_
      refine v_goto 62 dX7_finish_53 (by decide) ?_
      refine m_iast k (by decide) rfl dX7_finish_62 Nat.zero_lt_one rfl hk24 ?_
      refine v_aload_n dX7_finish_63 rfl ?_
      refine v_gr 0 fX7_56 dX7_finish_64 rfl rfl rfl Nat.zero_lt_one ?_
      refine v_iload_n dX7_finish_67 rfl ?_
      refine v_iconst (-1) dX7_finish_68 (by decide) ?_
      refine m_iast k (by decide) rfl dX7_finish_69 Nat.zero_lt_one rfl hk24 ?_
      refine v_aload_n dX7_finish_70 rfl ?_
      refine v_gr 0 fX7_53 dX7_finish_71 rfl rfl rfl Nat.zero_lt_one ?_
      refine v_iload_n dX7_finish_74 rfl ?_
      refine v_bipush (-3) dX7_finish_75 (by decide) ?_
      refine m_iast k (by decide) rfl dX7_finish_77 Nat.zero_lt_one rfl hk24 ?_
      refine v_iinc [_, _, _, _] dX7_finish_78 rfl (by first | exact inc1 _ | rfl) rfl (by decide) ?_
      refine v_goto 28 dX7_finish_81 (by decide) ?_
      have e1 : mClS b k = put (put (put b 24 0 k 7) 36 0 k (-1)) 35 0 k (-3) := by unfold mClS; rw [if_neg h_48]
      have q := ih (k + 1) (mClS b k) (by omega) hT
      rw [e1] at q
      have e2 : mClL (m + 1) k b = mClL m (k + 1) (mClS b k) := rfl
      rw [e2, e1]
      exact q
set_option maxHeartbeats 4000000 in
set_option maxRecDepth 100000 in
theorem c_X7_finish {a b : tH} {T : Nat} {t : Nat} {s : Int32} (ht : t < T) {ρ : Option Nat} {L : List Nat} (Z : IQ b ρ T L) {q : Nat} (hq : b.1 20 0 27 = nI q) (h24 : q ≤ 25) : Cn yX7_finish cX7_finish 4 1 [.inr (some (20, 0)), .inl (nI t), .inl s] (mix a b) (mix a (mFin b T t s)) := by
  refine Ct.of (by decide) [_, _, _, _] rfl (Nat.le_of_ble_eq_true rfl) ?_
  refine v_aload_n dX7_finish_0 rfl ?_
  refine v_gr 0 fX7_19 dX7_finish_1 rfl rfl rfl Nat.zero_lt_one ?_
  refine v_iload_n dX7_finish_4 rfl ?_
  refine v_iload_n dX7_finish_5 rfl ?_
  refine m_iast t (by decide) rfl dX7_finish_6 Nat.zero_lt_one rfl (by have := Z.2.1; omega) ?_
  refine v_aload_n dX7_finish_7 rfl ?_
  refine v_iload_n dX7_finish_8 rfl ?_
  refine v_call1n lX7_144 kX7_leaveQueue (c_X7_leaveQueue (q := q) (by exact hq) h24) dX7_finish_9 rfl rfl Nat.zero_lt_one rfl (by decide) (by decide) (st8 rfl) ?_
  refine v_iload_n dX7_finish_12 rfl ?_
  refine v_if_ne 84 dX7_finish_13 (by decide) (fun h_13 => ?_) (fun h_13 => ?_)
  · have ht0 : ¬ t = 0 := fun e => h_13 (by rw [e]; rfl)
    exact v_vret dX7_finish_84 ⟨rfl, by unfold mFin; rw [if_neg ht0]; rfl⟩
  · have ht0 : t = 0 := by
      rcases Nat.eq_zero_or_pos t with e | e
      · exact e
      · exact absurd h_13 (nI_ne0 e (by have := Z.2.1; omega))
    subst ht0
    refine v_aload_n dX7_finish_16 rfl ?_
    refine v_iconst 1 dX7_finish_17 (by decide) ?_
    refine m_pz (by decide) fX7_106 dX7_finish_18 rfl rfl Nat.zero_lt_one (by decide) ?_
    refine v_aload_n dX7_finish_21 rfl ?_
    refine v_iconst 0 dX7_finish_22 (by decide) ?_
    refine m_pi (by decide) fX7_99 dX7_finish_23 rfl rfl Nat.zero_lt_one ?_
    refine v_iconst 0 dX7_finish_26 (by decide) ?_
    refine v_istore_n [_, _, _, _] dX7_finish_27 rfl (by decide) ?_
    have e1 : mFin b T 0 s = mClL T 0 (put (put (mLeave (put b 24 0 0 s) 0) 20 0 6 1) 20 0 27 0) := if_pos rfl
    rw [e1]
    refine l_X7_finish Z.2.1 T 0 _ (by omega) ?_
    have h1 := (mLeave_off (b := put b 24 0 0 s) (t := 0)).1 20 0 11 (by omega) (by omega)
    exact h1.trans Z.1
set_option maxHeartbeats 4000000 in
set_option maxRecDepth 100000 in
theorem c_X7_except0 {a b : tH} {T : Nat} {t : Nat} {n : Int32} (ht : t < T) {ρ : Option Nat} {L : List Nat} (Z : IQ b ρ T L) (h0 : b.1 28 0 t = 0) : Cn yX7_except cX7_except 4 2 [.inr (some (20, 0)), .inl (nI t), .inl n] (mix a b) (mix a (mExc b T t n)) := by
  refine Ct.of (by decide) [_, _, _, _] rfl (Nat.le_of_ble_eq_true rfl) ?_
  refine v_aload_n dX7_except_0 rfl ?_
  refine v_gr 0 fX7_19 dX7_except_1 rfl rfl rfl Nat.zero_lt_one ?_
  refine v_iload_n dX7_except_4 rfl ?_
  refine m_iald t (by decide) rfl dX7_except_5 Nat.zero_lt_one rfl (by have := Z.2.1; omega) ?_
  refine v_if_eq 13 dX7_except_6 (by decide) (fun h_6 => ?_) (fun h_6 => ?_)
  · refine v_iconst 0 dX7_except_13 (by decide) ?_
    refine v_istore_n [_, _, _, _] dX7_except_14 rfl (by decide) ?_
    refine v_aload_n dX7_except_15 rfl ?_
    refine v_gr 0 fX7_56 dX7_except_16 rfl rfl rfl Nat.zero_lt_one ?_
    refine v_iload_n dX7_except_19 rfl ?_
    refine v_iconst (-1) dX7_except_20 (by decide) ?_
    refine m_iast t (by decide) rfl dX7_except_21 Nat.zero_lt_one rfl (by have := Z.2.1; omega) ?_
    refine v_aload_n dX7_except_22 rfl ?_
    refine v_gr 0 fX7_53 dX7_except_23 rfl rfl rfl Nat.zero_lt_one ?_
    refine v_iload_n dX7_except_26 rfl ?_
    refine v_bipush (-3) dX7_except_27 (by decide) ?_
    refine m_iast t (by decide) rfl dX7_except_29 Nat.zero_lt_one rfl (by have := Z.2.1; omega) ?_
    refine v_aload_n dX7_except_30 rfl ?_
    refine v_gr 0 fX7_31 dX7_except_31 rfl rfl rfl Nat.zero_lt_one ?_
    refine v_iload_n dX7_except_34 rfl ?_
    refine m_ialk t (by exact h0) (by decide) rfl dX7_except_35 Nat.zero_lt_one rfl (by have := Z.2.1; omega) ?_
    refine v_if_le 89 dX7_except_36 (by decide) (fun h_36 => ?_) (fun h_36 => absurd (Int32.le_refl 0) h_36)
    refine v_aload_n dX7_except_89 rfl ?_
    refine v_gr 0 fX7_47 dX7_except_90 rfl rfl rfl Nat.zero_lt_one ?_
    refine v_iload_n dX7_except_93 rfl ?_
    refine v_iload_n dX7_except_94 rfl ?_
    refine m_iast t (by decide) rfl dX7_except_95 Nat.zero_lt_one rfl (by have := Z.2.1; omega) ?_
    refine v_aload_n dX7_except_96 rfl ?_
    refine v_iload_n dX7_except_97 rfl ?_
    refine v_bipush 6 dX7_except_98 (by decide) ?_
    refine v_call2n lX7_141 kX7_finish (c_X7_finish (T := T) (ρ := ρ) (L := L) (q := L.length) ht (by exact Z) (by exact Z.2.2.1) (by have := Z.len; omega)) dX7_except_100 rfl rfl Nat.zero_lt_one rfl (by decide) (by decide) (st8 rfl) ?_
    exact v_vret dX7_except_103 ⟨rfl, by rw [mExc_0 h0]; rfl⟩
  · refine v_iconst 1 dX7_except_9 (by decide) ?_
    refine v_goto 14 dX7_except_10 (by decide) ?_
    refine v_istore_n [_, _, _, _] dX7_except_14 rfl (by decide) ?_
    refine v_aload_n dX7_except_15 rfl ?_
    refine v_gr 0 fX7_56 dX7_except_16 rfl rfl rfl Nat.zero_lt_one ?_
    refine v_iload_n dX7_except_19 rfl ?_
    refine v_iconst (-1) dX7_except_20 (by decide) ?_
    refine m_iast t (by decide) rfl dX7_except_21 Nat.zero_lt_one rfl (by have := Z.2.1; omega) ?_
    refine v_aload_n dX7_except_22 rfl ?_
    refine v_gr 0 fX7_53 dX7_except_23 rfl rfl rfl Nat.zero_lt_one ?_
    refine v_iload_n dX7_except_26 rfl ?_
    refine v_bipush (-3) dX7_except_27 (by decide) ?_
    refine m_iast t (by decide) rfl dX7_except_29 Nat.zero_lt_one rfl (by have := Z.2.1; omega) ?_
    refine v_aload_n dX7_except_30 rfl ?_
    refine v_gr 0 fX7_31 dX7_except_31 rfl rfl rfl Nat.zero_lt_one ?_
    refine v_iload_n dX7_except_34 rfl ?_
    refine m_ialk t (by exact h0) (by decide) rfl dX7_except_35 Nat.zero_lt_one rfl (by have := Z.2.1; omega) ?_
    refine v_if_le 89 dX7_except_36 (by decide) (fun h_36 => ?_) (fun h_36 => absurd (Int32.le_refl 0) h_36)
    refine v_aload_n dX7_except_89 rfl ?_
    refine v_gr 0 fX7_47 dX7_except_90 rfl rfl rfl Nat.zero_lt_one ?_
    refine v_iload_n dX7_except_93 rfl ?_
    refine v_iload_n dX7_except_94 rfl ?_
    refine m_iast t (by decide) rfl dX7_except_95 Nat.zero_lt_one rfl (by have := Z.2.1; omega) ?_
    refine v_aload_n dX7_except_96 rfl ?_
    refine v_iload_n dX7_except_97 rfl ?_
    refine v_bipush 6 dX7_except_98 (by decide) ?_
    refine v_call2n lX7_141 kX7_finish (c_X7_finish (T := T) (ρ := ρ) (L := L) (q := L.length) ht (by exact Z) (by exact Z.2.2.1) (by have := Z.len; omega)) dX7_except_100 rfl rfl Nat.zero_lt_one rfl (by decide) (by decide) (st8 rfl) ?_
    exact v_vret dX7_except_103 ⟨rfl, by rw [mExc_0 h0]; rfl⟩
set_option maxHeartbeats 4000000 in
set_option maxRecDepth 100000 in
theorem c_X7_except1 {a b : tH} {T : Nat} {t hc : Nat} {n : Int32} (ht : t < T) {ρ : Option Nat} {L : List Nat} (Z : IQ b ρ T L) (hn : b.1 28 0 t = nI (hc + 1)) (h4 : hc < 4) : Cn yX7_except cX7_except 4 2 [.inr (some (20, 0)), .inl (nI t), .inl n] (mix a b) (mix a (mExc b T t n)) := by
  refine Ct.of (by decide) [_, _, _, _] rfl (Nat.le_of_ble_eq_true rfl) ?_
  refine v_aload_n dX7_except_0 rfl ?_
  refine v_gr 0 fX7_19 dX7_except_1 rfl rfl rfl Nat.zero_lt_one ?_
  refine v_iload_n dX7_except_4 rfl ?_
  refine m_iald t (by decide) rfl dX7_except_5 Nat.zero_lt_one rfl (by have := Z.2.1; omega) ?_
  refine v_if_eq 13 dX7_except_6 (by decide) (fun h_6 => ?_) (fun h_6 => ?_)
  · refine v_iconst 0 dX7_except_13 (by decide) ?_
    refine v_istore_n [_, _, _, _] dX7_except_14 rfl (by decide) ?_
    refine v_aload_n dX7_except_15 rfl ?_
    refine v_gr 0 fX7_56 dX7_except_16 rfl rfl rfl Nat.zero_lt_one ?_
    refine v_iload_n dX7_except_19 rfl ?_
    refine v_iconst (-1) dX7_except_20 (by decide) ?_
    refine m_iast t (by decide) rfl dX7_except_21 Nat.zero_lt_one rfl (by have := Z.2.1; omega) ?_
    refine v_aload_n dX7_except_22 rfl ?_
    refine v_gr 0 fX7_53 dX7_except_23 rfl rfl rfl Nat.zero_lt_one ?_
    refine v_iload_n dX7_except_26 rfl ?_
    refine v_bipush (-3) dX7_except_27 (by decide) ?_
    refine m_iast t (by decide) rfl dX7_except_29 Nat.zero_lt_one rfl (by have := Z.2.1; omega) ?_
    refine v_aload_n dX7_except_30 rfl ?_
    refine v_gr 0 fX7_31 dX7_except_31 rfl rfl rfl Nat.zero_lt_one ?_
    refine v_iload_n dX7_except_34 rfl ?_
    refine m_ialk t (by exact hn) (by decide) rfl dX7_except_35 Nat.zero_lt_one rfl (by have := Z.2.1; omega) ?_
    refine v_if_le 89 dX7_except_36 (by decide) (fun h_36 => absurd h_36 (nI_nle (by omega) (by omega))) (fun h_36 => ?_)
    refine v_aload_n dX7_except_39 rfl ?_
    refine v_gr 0 fX7_31 dX7_except_40 rfl rfl rfl Nat.zero_lt_one ?_
    refine v_iload_n dX7_except_43 rfl ?_
    refine v_dup2 dX7_except_44 ?_
    refine m_ialk t (by exact hn) (by decide) rfl dX7_except_45 Nat.zero_lt_one rfl (by have := Z.2.1; omega) ?_
    refine v_iconst 1 dX7_except_46 (by decide) ?_
    refine v_isub dX7_except_47 ?_
    rw [nI_pred]
    refine m_iast t (by decide) rfl dX7_except_48 Nat.zero_lt_one rfl (by have := Z.2.1; omega) ?_
    refine v_aload_n dX7_except_49 rfl ?_
    refine v_gr 0 fX7_25 dX7_except_50 rfl rfl rfl Nat.zero_lt_one ?_
    refine v_iload_n dX7_except_53 rfl ?_
    refine v_aload_n dX7_except_54 rfl ?_
    refine v_gr 0 fX7_34 dX7_except_55 rfl rfl rfl Nat.zero_lt_one ?_
    refine v_iconst 4 dX7_except_58 (by decide) ?_
    refine v_iload_n dX7_except_59 rfl ?_
    refine v_imul dX7_except_60 ?_
    refine v_aload_n dX7_except_61 rfl ?_
    refine v_gr 0 fX7_31 dX7_except_62 rfl rfl rfl Nat.zero_lt_one ?_
    refine v_iload_n dX7_except_65 rfl ?_
    refine m_ialk t put_eq (by decide) rfl dX7_except_66 Nat.zero_lt_one rfl (by have := Z.2.1; omega) ?_
    refine v_iadd dX7_except_67 ?_
    refine m_ialk (4 * t + hc) (by exact rfl) (by decide) rfl dX7_except_68 Nat.zero_lt_one (by rw [show (4 : Int32) = nI 4 from rfl, pk_mul, nI_add]) (by have := Z.2.1; omega) ?_
    refine m_iast t (by decide) rfl dX7_except_69 Nat.zero_lt_one rfl (by have := Z.2.1; omega) ?_
    refine v_aload_n dX7_except_70 rfl ?_
    refine v_gr 0 fX7_28 dX7_except_71 rfl rfl rfl Nat.zero_lt_one ?_
    refine v_iload_n dX7_except_74 rfl ?_
    refine v_iload_n dX7_except_75 rfl ?_
    refine m_iast t (by decide) rfl dX7_except_76 Nat.zero_lt_one rfl (by have := Z.2.1; omega) ?_
    refine v_iload_n dX7_except_77 rfl ?_
    refine v_if_eq 103 dX7_except_78 (by decide) (fun h_78 => ?_) (fun h_78 => ?_)
    exact v_vret dX7_except_103 ⟨rfl, by first | exact absurd h_78 n10 | exact absurd rfl h_78 | (rw [mExc_1 hn h4, if_pos h_6]; rfl) | (rw [mExc_1 hn h4, if_neg h_6]; rfl)⟩
    · refine v_aload_n dX7_except_81 rfl ?_
      refine v_iload_n dX7_except_82 rfl ?_
      refine v_call1n lX7_95 kX7_enqueue (c_X7_enqueue (q := L.length) (by have := Z.2.1; omega) (by exact Z.2.2.1) Z.len) dX7_except_83 rfl rfl Nat.zero_lt_one rfl (by decide) (by decide) (st8 rfl) ?_
      refine v_goto 103 dX7_except_86 (by decide) ?_
      exact v_vret dX7_except_103 ⟨rfl, by first | exact absurd h_78 n10 | exact absurd rfl h_78 | (rw [mExc_1 hn h4, if_pos h_6]; rfl) | (rw [mExc_1 hn h4, if_neg h_6]; rfl)⟩
  · refine v_iconst 1 dX7_except_9 (by decide) ?_
    refine v_goto 14 dX7_except_10 (by decide) ?_
    refine v_istore_n [_, _, _, _] dX7_except_14 rfl (by decide) ?_
    refine v_aload_n dX7_except_15 rfl ?_
    refine v_gr 0 fX7_56 dX7_except_16 rfl rfl rfl Nat.zero_lt_one ?_
    refine v_iload_n dX7_except_19 rfl ?_
    refine v_iconst (-1) dX7_except_20 (by decide) ?_
    refine m_iast t (by decide) rfl dX7_except_21 Nat.zero_lt_one rfl (by have := Z.2.1; omega) ?_
    refine v_aload_n dX7_except_22 rfl ?_
    refine v_gr 0 fX7_53 dX7_except_23 rfl rfl rfl Nat.zero_lt_one ?_
    refine v_iload_n dX7_except_26 rfl ?_
    refine v_bipush (-3) dX7_except_27 (by decide) ?_
    refine m_iast t (by decide) rfl dX7_except_29 Nat.zero_lt_one rfl (by have := Z.2.1; omega) ?_
    refine v_aload_n dX7_except_30 rfl ?_
    refine v_gr 0 fX7_31 dX7_except_31 rfl rfl rfl Nat.zero_lt_one ?_
    refine v_iload_n dX7_except_34 rfl ?_
    refine m_ialk t (by exact hn) (by decide) rfl dX7_except_35 Nat.zero_lt_one rfl (by have := Z.2.1; omega) ?_
    refine v_if_le 89 dX7_except_36 (by decide) (fun h_36 => absurd h_36 (nI_nle (by omega) (by omega))) (fun h_36 => ?_)
    refine v_aload_n dX7_except_39 rfl ?_
    refine v_gr 0 fX7_31 dX7_except_40 rfl rfl rfl Nat.zero_lt_one ?_
    refine v_iload_n dX7_except_43 rfl ?_
    refine v_dup2 dX7_except_44 ?_
    refine m_ialk t (by exact hn) (by decide) rfl dX7_except_45 Nat.zero_lt_one rfl (by have := Z.2.1; omega) ?_
    refine v_iconst 1 dX7_except_46 (by decide) ?_
    refine v_isub dX7_except_47 ?_
    rw [nI_pred]
    refine m_iast t (by decide) rfl dX7_except_48 Nat.zero_lt_one rfl (by have := Z.2.1; omega) ?_
    refine v_aload_n dX7_except_49 rfl ?_
    refine v_gr 0 fX7_25 dX7_except_50 rfl rfl rfl Nat.zero_lt_one ?_
    refine v_iload_n dX7_except_53 rfl ?_
    refine v_aload_n dX7_except_54 rfl ?_
    refine v_gr 0 fX7_34 dX7_except_55 rfl rfl rfl Nat.zero_lt_one ?_
    refine v_iconst 4 dX7_except_58 (by decide) ?_
    refine v_iload_n dX7_except_59 rfl ?_
    refine v_imul dX7_except_60 ?_
    refine v_aload_n dX7_except_61 rfl ?_
    refine v_gr 0 fX7_31 dX7_except_62 rfl rfl rfl Nat.zero_lt_one ?_
    refine v_iload_n dX7_except_65 rfl ?_
    refine m_ialk t put_eq (by decide) rfl dX7_except_66 Nat.zero_lt_one rfl (by have := Z.2.1; omega) ?_
    refine v_iadd dX7_except_67 ?_
    refine m_ialk (4 * t + hc) (by exact rfl) (by decide) rfl dX7_except_68 Nat.zero_lt_one (by rw [show (4 : Int32) = nI 4 from rfl, pk_mul, nI_add]) (by have := Z.2.1; omega) ?_
    refine m_iast t (by decide) rfl dX7_except_69 Nat.zero_lt_one rfl (by have := Z.2.1; omega) ?_
    refine v_aload_n dX7_except_70 rfl ?_
    refine v_gr 0 fX7_28 dX7_except_71 rfl rfl rfl Nat.zero_lt_one ?_
    refine v_iload_n dX7_except_74 rfl ?_
    refine v_iload_n dX7_except_75 rfl ?_
    refine m_iast t (by decide) rfl dX7_except_76 Nat.zero_lt_one rfl (by have := Z.2.1; omega) ?_
    refine v_iload_n dX7_except_77 rfl ?_
    refine v_if_eq 103 dX7_except_78 (by decide) (fun h_78 => ?_) (fun h_78 => ?_)
    exact v_vret dX7_except_103 ⟨rfl, by first | exact absurd h_78 n10 | exact absurd rfl h_78 | (rw [mExc_1 hn h4, if_pos h_6]; rfl) | (rw [mExc_1 hn h4, if_neg h_6]; rfl)⟩
    · refine v_aload_n dX7_except_81 rfl ?_
      refine v_iload_n dX7_except_82 rfl ?_
      refine v_call1n lX7_95 kX7_enqueue (c_X7_enqueue (q := L.length) (by have := Z.2.1; omega) (by exact Z.2.2.1) Z.len) dX7_except_83 rfl rfl Nat.zero_lt_one rfl (by decide) (by decide) (st8 rfl) ?_
      refine v_goto 103 dX7_except_86 (by decide) ?_
      exact v_vret dX7_except_103 ⟨rfl, by first | exact absurd h_78 n10 | exact absurd rfl h_78 | (rw [mExc_1 hn h4, if_pos h_6]; rfl) | (rw [mExc_1 hn h4, if_neg h_6]; rfl)⟩
theorem nI_z {n : Nat} (h : n = 0) : nI n = 0 := by rw [h]; rfl
theorem c_X7_except {a b : tH} {T t : Nat} {n : Int32} (ht : t < T) {ρ : Option Nat} {L : List Nat} (Z : IQ b ρ T L) (I : ∃ hc, hc ≤ 4 ∧ b.1 28 0 t = nI hc) : Cn yX7_except cX7_except 4 2 [.inr (some (20, 0)), .inl (nI t), .inl n] (mix a b) (mix a (mExc b T t n)) := by
  obtain ⟨hc, h4, he⟩ := I
  cases hc with
  | zero => exact c_X7_except0 ht Z he
  | succ hc => exact c_X7_except1 ht Z he (by omega)
set_option maxHeartbeats 4000000 in
set_option maxRecDepth 100000 in
theorem l_X7_popPending {a : tH} {t T : Nat} {n : Int32} (ht : t < T) {ρ : Option Nat} {L : List Nat} {pc : Nat} (h4 : pc < 4) : ∀ (m k : Nat) (b : tH), pc = k + m → IQ b ρ T L → (∃ hc, hc ≤ 4 ∧ b.1 28 0 t = nI hc) → b.1 31 0 t = nI pc → Vw yX7_popPending.cls cX7_popPending 4 none 3 (fun r h' => r = none ∧ h' = mix a (mExc (mShL t m k b) T t n)) 21 [some (.inr (some (20, 0))), some (.inl (nI t)), some (.inl n), some (.inl (nI k))] [] (mix a b) := by
  intro m
  induction m with
  | zero =>
    intro k b hk Z I hp
    obtain rfl : pc = k := hk
    refine v_iload_n dX7_popPending_21 rfl ?_
    refine v_aload_n dX7_popPending_22 rfl ?_
    refine v_gr 0 fX7_41 dX7_popPending_23 rfl rfl rfl Nat.zero_lt_one ?_
    refine v_iload_n dX7_popPending_26 rfl ?_
    refine m_ialk t (by exact hp) (by decide) rfl dX7_popPending_27 Nat.zero_lt_one rfl (by have := Z.2.1; omega) ?_
    refine v_icmp_ge 59 dX7_popPending_28 (by decide) (fun h_28 => ?_) (fun h_28 => absurd (Int32.le_refl _) h_28)
    refine v_aload_n dX7_popPending_59 rfl ?_
    refine v_iload_n dX7_popPending_60 rfl ?_
    refine v_iload_n dX7_popPending_61 rfl ?_
    refine v_call2n lX7_147 kX7_except (c_X7_except (T := T) ht Z I) dX7_popPending_62 rfl rfl Nat.zero_lt_one rfl (by decide) (by decide) (st8 rfl) ?_
    exact v_vret dX7_popPending_65 ⟨rfl, rfl⟩
  | succ m ih =>
    intro k b hk Z I hp
    have ht24 : t < 24 := by have := Z.2.1; omega
    refine v_iload_n dX7_popPending_21 rfl ?_
    refine v_aload_n dX7_popPending_22 rfl ?_
    refine v_gr 0 fX7_41 dX7_popPending_23 rfl rfl rfl Nat.zero_lt_one ?_
    refine v_iload_n dX7_popPending_26 rfl ?_
    refine m_ialk t (by exact hp) (by decide) rfl dX7_popPending_27 Nat.zero_lt_one rfl ht24 ?_
    refine v_icmp_ge 59 dX7_popPending_28 (by decide) (fun h_28 => absurd h_28 (nI_ge (by omega) (by omega))) (fun h_28 => ?_)
    refine v_aload_n dX7_popPending_31 rfl ?_
    refine v_gr 0 fX7_44 dX7_popPending_32 rfl rfl rfl Nat.zero_lt_one ?_
    refine v_iconst 4 dX7_popPending_35 (by decide) ?_
    refine v_iload_n dX7_popPending_36 rfl ?_
    refine v_imul dX7_popPending_37 ?_
    refine v_iload_n dX7_popPending_38 rfl ?_
    refine v_iadd dX7_popPending_39 ?_
    refine v_aload_n dX7_popPending_40 rfl ?_
    refine v_gr 0 fX7_44 dX7_popPending_41 rfl rfl rfl Nat.zero_lt_one ?_
    refine v_iconst 4 dX7_popPending_44 (by decide) ?_
    refine v_iload_n dX7_popPending_45 rfl ?_
    refine v_imul dX7_popPending_46 ?_
    refine v_iload_n dX7_popPending_47 rfl ?_
    refine v_iadd dX7_popPending_48 ?_
    refine v_iconst 1 dX7_popPending_49 (by decide) ?_
    refine v_iadd dX7_popPending_50 ?_
    refine m_iald (4 * t + k + 1) (by decide) rfl dX7_popPending_51 Nat.zero_lt_one (by rw [show (4 : Int32) = nI 4 from rfl, pk_mul, nI_add, nI_1]) (by omega) ?_
    refine m_iast (4 * t + k) (by decide) rfl dX7_popPending_52 Nat.zero_lt_one (by rw [show (4 : Int32) = nI 4 from rfl, pk_mul, nI_add]) (by omega) ?_
    refine v_iinc [_, _, _, _] dX7_popPending_53 rfl (by first | exact inc1 _ | rfl) rfl (by decide) ?_
    refine v_goto 21 dX7_popPending_56 (by decide) ?_
    exact ih (k + 1) (put b 32 0 (4 * t + k) (b.1 32 0 (4 * t + k + 1))) (by omega) Z I hp
set_option maxHeartbeats 4000000 in
set_option maxRecDepth 100000 in
theorem c_X7_popPending {a b : tH} {T : Nat} {t pc : Nat} (ht : t < T) {ρ : Option Nat} {L : List Nat} (Z : IQ b ρ T L) (I : ∃ hc, hc ≤ 4 ∧ b.1 28 0 t = nI hc) (hp : b.1 31 0 t = nI (pc + 1)) (h4 : pc < 4) : Cn yX7_popPending cX7_popPending 4 3 [.inr (some (20, 0)), .inl (nI t)] (mix a b) (mix a (mPop b T t)) := by
  have ht24 : t < 24 := by have := Z.2.1; omega
  refine Ct.of (by decide) [_, _, _, _] rfl (Nat.le_of_ble_eq_true rfl) ?_
  refine v_aload_n dX7_popPending_0 rfl ?_
  refine v_gr 0 fX7_44 dX7_popPending_1 rfl rfl rfl Nat.zero_lt_one ?_
  refine v_iconst 4 dX7_popPending_4 (by decide) ?_
  refine v_iload_n dX7_popPending_5 rfl ?_
  refine v_imul dX7_popPending_6 ?_
  refine m_iald (4 * t) (by decide) rfl dX7_popPending_7 Nat.zero_lt_one (by rw [show (4 : Int32) = nI 4 from rfl, pk_mul]) (by omega) ?_
  refine v_istore_n [_, _, _, _] dX7_popPending_8 rfl (by decide) ?_
  refine v_aload_n dX7_popPending_9 rfl ?_
  refine v_gr 0 fX7_41 dX7_popPending_10 rfl rfl rfl Nat.zero_lt_one ?_
  refine v_iload_n dX7_popPending_13 rfl ?_
  refine v_dup2 dX7_popPending_14 ?_
  refine m_ialk t hp (by decide) rfl dX7_popPending_15 Nat.zero_lt_one rfl ht24 ?_
  refine v_iconst 1 dX7_popPending_16 (by decide) ?_
  refine v_isub dX7_popPending_17 ?_
  rw [nI_pred]
  refine m_iast t (by decide) rfl dX7_popPending_18 Nat.zero_lt_one rfl ht24 ?_
  refine v_iconst 0 dX7_popPending_19 (by decide) ?_
  refine v_istore_n [_, _, _, _] dX7_popPending_20 rfl (by decide) ?_
  have e1 : mPop b T t = mExc (mShL t pc 0 (put b 31 0 t (nI pc))) T t (b.1 32 0 (4 * t)) := by unfold mPop; rw [mPopS_1 hp h4]
  rw [e1]
  exact l_X7_popPending ht h4 pc 0 (put b 31 0 t (nI pc)) (by omega) Z I put_eq
set_option maxHeartbeats 4000000 in
set_option maxRecDepth 100000 in
theorem c_X7_waitAt0 {a b : tH} {T : Nat} {t : Nat} {x w : Int32} (ht : t < T) {ρ : Option Nat} {L : List Nat} (Z : IQ b ρ T L) (hp : b.1 31 0 t = 0) : Cn yX7_waitAt cX7_waitAt 4 4 [.inr (some (20, 0)), .inl (nI t), .inl x, .inl w] (mix a b) (mix a (mWait b T t x w)) := by
  have ht24 : t < 24 := by have := Z.2.1; omega
  refine Ct.of (by decide) [_, _, _, _] rfl (Nat.le_of_ble_eq_true rfl) ?_
  refine v_aload_n dX7_waitAt_0 rfl ?_
  refine v_gr 0 fX7_41 dX7_waitAt_1 rfl rfl rfl Nat.zero_lt_one ?_
  refine v_iload_n dX7_waitAt_4 rfl ?_
  refine m_ialk t hp (by decide) rfl dX7_waitAt_5 Nat.zero_lt_one rfl ht24 ?_
  refine v_if_le 15 dX7_waitAt_6 (by decide) (fun h_6 => ?_) (fun h_6 => absurd (Int32.le_refl 0) h_6)
  refine v_aload_n dX7_waitAt_15 rfl ?_
  refine v_gr 0 fX7_19 dX7_waitAt_16 rfl rfl rfl Nat.zero_lt_one ?_
  refine v_iload_n dX7_waitAt_19 rfl ?_
  refine v_iload_n dX7_waitAt_20 rfl ?_
  refine m_iast t (by decide) rfl dX7_waitAt_21 Nat.zero_lt_one rfl ht24 ?_
  refine v_aload_n dX7_waitAt_22 rfl ?_
  refine v_gr 0 fX7_56 dX7_waitAt_23 rfl rfl rfl Nat.zero_lt_one ?_
  refine v_iload_n dX7_waitAt_26 rfl ?_
  refine v_iload_n dX7_waitAt_27 rfl ?_
  refine m_iast t (by decide) rfl dX7_waitAt_28 Nat.zero_lt_one rfl ht24 ?_
  refine v_aload_n dX7_waitAt_29 rfl ?_
  refine v_gr 0 fX7_59 dX7_waitAt_30 rfl rfl rfl Nat.zero_lt_one ?_
  refine v_iload_n dX7_waitAt_33 rfl ?_
  refine v_aload_n dX7_waitAt_34 rfl ?_
  refine m_gi (by decide) fX7_124 dX7_waitAt_35 rfl rfl Nat.zero_lt_one ?_
  refine m_iast t (by decide) rfl dX7_waitAt_38 Nat.zero_lt_one rfl ht24 ?_
  refine v_aload_n dX7_waitAt_39 rfl ?_
  refine v_dup dX7_waitAt_40 ?_
  refine m_gi (by decide) fX7_124 dX7_waitAt_41 rfl rfl Nat.zero_lt_one ?_
  refine v_iconst 1 dX7_waitAt_44 (by decide) ?_
  refine v_iadd dX7_waitAt_45 ?_
  refine m_pi (by decide) fX7_124 dX7_waitAt_46 rfl rfl Nat.zero_lt_one ?_
  exact v_vret dX7_waitAt_49 ⟨rfl, by unfold mWait; rw [if_pos hp]; rfl⟩
set_option maxHeartbeats 4000000 in
set_option maxRecDepth 100000 in
theorem c_X7_waitAt1 {a b : tH} {T : Nat} {t : Nat} {x w : Int32} (ht : t < T) {ρ : Option Nat} {L : List Nat} (Z : IQ b ρ T L) {pc : Nat} (I : ∃ hc, hc ≤ 4 ∧ b.1 28 0 t = nI hc) (hp : b.1 31 0 t = nI (pc + 1)) (h4 : pc < 4) : Cn yX7_waitAt cX7_waitAt 4 4 [.inr (some (20, 0)), .inl (nI t), .inl x, .inl w] (mix a b) (mix a (mWait b T t x w)) := by
  have ht24 : t < 24 := by have := Z.2.1; omega
  refine Ct.of (by decide) [_, _, _, _] rfl (Nat.le_of_ble_eq_true rfl) ?_
  refine v_aload_n dX7_waitAt_0 rfl ?_
  refine v_gr 0 fX7_41 dX7_waitAt_1 rfl rfl rfl Nat.zero_lt_one ?_
  refine v_iload_n dX7_waitAt_4 rfl ?_
  refine m_ialk t hp (by decide) rfl dX7_waitAt_5 Nat.zero_lt_one rfl ht24 ?_
  refine v_if_le 15 dX7_waitAt_6 (by decide) (fun h_6 => absurd h_6 (nI_nle (by omega) (by omega))) (fun h_6 => ?_)
  refine v_aload_n dX7_waitAt_9 rfl ?_
  refine v_iload_n dX7_waitAt_10 rfl ?_
  refine v_call1n lX7_150 kX7_popPending (c_X7_popPending (T := T) ht Z I hp h4) dX7_waitAt_11 rfl rfl Nat.zero_lt_one rfl (by decide) (by decide) (st8 rfl) ?_
  exact v_vret dX7_waitAt_14 ⟨rfl, by unfold mWait; rw [hp, if_neg (nI_ne0 (by omega) (by omega))]⟩
set_option maxHeartbeats 4000000 in
set_option maxRecDepth 100000 in
theorem l2_X7_comesIn {a b : tH} {T x : Nat} {v : Int32} {L3 : Option tV} (hx : x < 8) {ρ : Option Nat} {L : List Nat} (Z : IQ b ρ T L) : Vw yX7_comesIn.cls cX7_comesIn 4 none 2 (fun r h' => r = none ∧ h' = mix a (mCom2 b T x v)) 33 [some (.inr (some (20, 0))), some (.inl (nI x)), some (.inl v), L3] [] (mix a b) := by
  refine v_aload_n dX7_comesIn_33 rfl ?_
  refine v_iload_n dX7_comesIn_34 rfl ?_
  refine v_iconst 2 dX7_comesIn_35 (by decide) ?_
  refine v_call2i lX7_131 kX7_firstAt (c_X7_firstAt (T := T) (by exact Z.1) Z.2.1) dX7_comesIn_36 rfl rfl Nat.zero_lt_one rfl (by decide) (by decide) (st8 rfl) ?_
  refine v_istore_n [_, _, _, _] dX7_comesIn_39 rfl (by decide) ?_
  refine v_iload_n dX7_comesIn_40 rfl ?_
  refine v_if_lt 59 dX7_comesIn_41 (by decide) (fun h_41 => ?_) (fun h_41 => ?_)
  · have hj : mFirst b T (nI x) 2 = none := by
      cases e : mFirst b T (nI x) 2 with
      | none => rfl
      | some t => rw [e] at h_41; exact absurd h_41 (nI_pos (by have := (mFirst_st e).1; have := Z.2.1; omega))
    refine v_aload_n dX7_comesIn_59 rfl ?_
    refine v_gr 0 fX7_68 dX7_comesIn_60 rfl rfl rfl Nat.zero_lt_one ?_
    refine v_iload_n dX7_comesIn_63 rfl ?_
    refine v_iconst 1 dX7_comesIn_64 (by decide) ?_
    refine m_zast x (by decide) rfl dX7_comesIn_65 Nat.zero_lt_one rfl hx (by decide) ?_
    refine v_aload_n dX7_comesIn_66 rfl ?_
    refine v_gr 0 fX7_65 dX7_comesIn_67 rfl rfl rfl Nat.zero_lt_one ?_
    refine v_iload_n dX7_comesIn_70 rfl ?_
    refine v_iload_n dX7_comesIn_71 rfl ?_
    refine m_iast x (by decide) rfl dX7_comesIn_72 Nat.zero_lt_one rfl hx ?_
    exact v_vret dX7_comesIn_73 ⟨rfl, by unfold mCom2; rw [hj]⟩
  · obtain ⟨t, hj⟩ : ∃ t, mFirst b T (nI x) 2 = some t := by
      cases e : mFirst b T (nI x) 2 with
      | none => rw [e] at h_41; exact absurd (by decide) h_41
      | some t => exact ⟨t, rfl⟩
    have hs := mFirst_st hj
    have ht24 : t < 24 := by have := Z.2.1; omega
    rw [hj]
    refine v_aload_n dX7_comesIn_44 rfl ?_
    refine v_gr 0 fX7_28 dX7_comesIn_45 rfl rfl rfl Nat.zero_lt_one ?_
    refine v_iload_n dX7_comesIn_48 rfl ?_
    refine v_iload_n dX7_comesIn_49 rfl ?_
    refine m_iast t (by decide) rfl dX7_comesIn_50 Nat.zero_lt_one rfl ht24 ?_
    refine v_aload_n dX7_comesIn_51 rfl ?_
    refine v_iload_n dX7_comesIn_52 rfl ?_
    refine v_call1n lX7_134 kX7_goesOn (c_X7_goesOn (q := L.length) ht24 (by exact Z.2.2.1) Z.len) dX7_comesIn_53 rfl rfl Nat.zero_lt_one rfl (by decide) (by decide) (st8 rfl) ?_
    refine v_goto 73 dX7_comesIn_56 (by decide) ?_
    exact v_vret dX7_comesIn_73 ⟨rfl, by unfold mCom2; rw [hj]⟩
theorem cnt_go {b : tH} {T x t : Nat} {w v : Int32} (hx : x < 8) (hs : t < T ∧ b.1 24 0 t = w ∧ b.1 36 0 t = nI x) (hw : w ≠ 0) : cnt (fun s => decide (b.1 24 0 s = w) && decide (b.1 36 0 s = nI x)) T = cnt (fun s => decide ((mGo (put b 27 0 t v) t).1 24 0 s = w) && decide ((mGo (put b 27 0 t v) t).1 36 0 s = nI x)) T + 1 := by
  refine cnt_off (t := t) ?_ ?_ hs.1 (fun j hj hne => ?_)
  · simp only [hs.2.1, hs.2.2, decide_true, Bool.and_self]
  · rw [mGo_st, if_pos rfl, decide_eq_false (fun e => hw e.symm)]; rfl
  · rw [mGo_st, if_neg hne, mGo_wa, if_neg hne]; rfl
theorem mRd_none {T x : Nat} {v : Int32} {f : Nat} {b : tH} (h : mFirst b T (nI x) 3 = none) : mRd T x v f b = b := by
  cases f with
  | zero => rfl
  | succ f => unfold mRd; rw [h]
theorem mRd_some {T x t : Nat} {v : Int32} {f : Nat} {b : tH} (h : mFirst b T (nI x) 3 = some t) : mRd T x v (f + 1) b = mRd T x v f (mGo (put b 27 0 t v) t) := by
  conv => lhs; unfold mRd
  rw [h]
set_option maxHeartbeats 4000000 in
set_option maxRecDepth 100000 in
theorem l_X7_comesIn {a : tH} {T x : Nat} {v : Int32} (hx : x < 8) {ρ : Option Nat} : ∀ (f : Nat) (b : tH) (L : List Nat), IQ b ρ T L → (∀ r, ρ = some r → b.1 24 0 r = 0) → cnt (fun t => decide (b.1 24 0 t = 3) && decide (b.1 36 0 t = nI x)) T ≤ f → Vw yX7_comesIn.cls cX7_comesIn 4 none 2 (fun r h' => r = none ∧ h' = mix a (mCom2 (mRd T x v f b) T x v)) 7 [some (.inr (some (20, 0))), some (.inl (nI x)), some (.inl v), some (.inl (enc (mFirst b T (nI x) 3)))] [] (mix a b) := by
  intro f
  induction f with
  | zero =>
    intro b L Z hr hc
    have hj : mFirst b T (nI x) 3 = none := mins_of_cnt (by omega)
    rw [hj]
    refine v_iload_n dX7_comesIn_7 rfl ?_
    refine v_if_lt 33 dX7_comesIn_8 (by decide) (fun h_8 => ?_) (fun h_8 => absurd (by decide) h_8)
    exact l2_X7_comesIn hx Z
  | succ f ih =>
    intro b L Z hr hc
    cases hj : mFirst b T (nI x) 3 with
    | none =>
      refine v_iload_n dX7_comesIn_7 rfl ?_
      refine v_if_lt 33 dX7_comesIn_8 (by decide) (fun h_8 => ?_) (fun h_8 => absurd (by decide) h_8)
      rw [mRd_none hj]
      exact l2_X7_comesIn hx Z
    | some t =>
      have hs := mFirst_st hj
      have ht24 : t < 24 := by have := Z.2.1; omega
      have Z2 : IQ (put b 27 0 t v) ρ T L := Z
      have h0 : b.1 24 0 t ≠ 0 := by rw [hs.2.1]; decide
      have Z3 := Z2.go hs.1 h0 (fun e => h0 (hr t e))
      refine v_iload_n dX7_comesIn_7 rfl ?_
      refine v_if_lt 33 dX7_comesIn_8 (by decide) (fun h_8 => absurd h_8 (nI_pos (by omega))) (fun h_8 => ?_)
      refine v_aload_n dX7_comesIn_11 rfl ?_
      refine v_gr 0 fX7_28 dX7_comesIn_12 rfl rfl rfl Nat.zero_lt_one ?_
      refine v_iload_n dX7_comesIn_15 rfl ?_
      refine v_iload_n dX7_comesIn_16 rfl ?_
      refine m_iast t (by decide) rfl dX7_comesIn_17 Nat.zero_lt_one rfl ht24 ?_
      refine v_aload_n dX7_comesIn_18 rfl ?_
      refine v_iload_n dX7_comesIn_19 rfl ?_
      refine v_call1n lX7_134 kX7_goesOn (c_X7_goesOn (q := L.length) ht24 (by exact Z.2.2.1) Z.len) dX7_comesIn_20 rfl rfl Nat.zero_lt_one rfl (by decide) (by decide) (st8 rfl) ?_
      refine v_aload_n dX7_comesIn_23 rfl ?_
      refine v_iload_n dX7_comesIn_24 rfl ?_
      refine v_iconst 3 dX7_comesIn_25 (by decide) ?_
      refine v_call2i lX7_131 kX7_firstAt (c_X7_firstAt (T := T) (by exact Z3.1) Z3.2.1) dX7_comesIn_26 rfl rfl Nat.zero_lt_one rfl (by decide) (by decide) (st8 rfl) ?_
      refine v_istore_n [_, _, _, _] dX7_comesIn_29 rfl (by decide) ?_
      refine v_goto 7 dX7_comesIn_30 (by decide) ?_
      rw [mRd_some hj]
      refine ih (mGo (put b 27 0 t v) t) (L ++ [t]) Z3 (fun r e => ?_) ?_
      · rw [mGo_st]
        split
        · rfl
        · exact hr r e
      · have := cnt_go (v := v) hx hs (by decide)
        omega
set_option maxHeartbeats 4000000 in
set_option maxRecDepth 100000 in
theorem c_X7_comesIn {a b : tH} {T : Nat} {x : Nat} {v : Int32} (hx : x < 8) {ρ : Option Nat} {L : List Nat} (Z : IQ b ρ T L) (hr : ∀ r, ρ = some r → b.1 24 0 r = 0) : Cn yX7_comesIn cX7_comesIn 4 2 [.inr (some (20, 0)), .inl (nI x), .inl v] (mix a b) (mix a (mComes b T x v)) := by
  refine Ct.of (by decide) [_, _, _, _] rfl (Nat.le_of_ble_eq_true rfl) ?_
  refine v_aload_n dX7_comesIn_0 rfl ?_
  refine v_iload_n dX7_comesIn_1 rfl ?_
  refine v_iconst 3 dX7_comesIn_2 (by decide) ?_
  refine v_call2i lX7_131 kX7_firstAt (c_X7_firstAt (T := T) (by exact Z.1) Z.2.1) dX7_comesIn_3 rfl rfl Nat.zero_lt_one rfl (by decide) (by decide) (st8 rfl) ?_
  refine v_istore_n [_, _, _, _] dX7_comesIn_6 rfl (by decide) ?_
  exact l_X7_comesIn hx 24 b L Z hr (Nat.le_trans (cnt_le _ T) Z.2.1)
set_option maxHeartbeats 4000000 in
set_option maxRecDepth 100000 in
theorem c_X7_taken {a b : tH} {T : Nat} {x : Nat} (hx : x < 8) {ρ : Option Nat} {L : List Nat} (Z : IQ b ρ T L) (hr : ∀ r, ρ = some r → b.1 24 0 r = 0) : Cn yX7_taken cX7_taken 4 3 [.inr (some (20, 0)), .inl (nI x)] (mix a b) (mix a (mTaken b T x)) := by
  have Z0 : IQ (put b 40 0 x 0) ρ T L := Z
  refine Ct.of (by decide) [_, _, _, _] rfl (Nat.le_of_ble_eq_true rfl) ?_
  refine v_aload_n dX7_taken_0 rfl ?_
  refine v_gr 0 fX7_68 dX7_taken_1 rfl rfl rfl Nat.zero_lt_one ?_
  refine v_iload_n dX7_taken_4 rfl ?_
  refine v_iconst 0 dX7_taken_5 (by decide) ?_
  refine m_zast x (by decide) rfl dX7_taken_6 Nat.zero_lt_one rfl hx (by decide) ?_
  refine v_aload_n dX7_taken_7 rfl ?_
  refine v_iload_n dX7_taken_8 rfl ?_
  refine v_iconst 1 dX7_taken_9 (by decide) ?_
  refine v_call2i lX7_131 kX7_firstAt (c_X7_firstAt (T := T) (by exact Z.1) Z.2.1) dX7_taken_10 rfl rfl Nat.zero_lt_one rfl (by decide) (by decide) (st8 rfl) ?_
  refine v_istore_n [_, _, _, _] dX7_taken_13 rfl (by decide) ?_
  refine v_iload_n dX7_taken_14 rfl ?_
  refine v_if_lt 36 dX7_taken_15 (by decide) (fun h_15 => ?_) (fun h_15 => ?_)
  · have hj : mFirst (put b 40 0 x 0) T (nI x) 1 = none := by
      cases e : mFirst (put b 40 0 x 0) T (nI x) 1 with
      | none => rfl
      | some t => rw [e] at h_15; exact absurd h_15 (nI_pos (by have := (mFirst_st e).1; have := Z.2.1; omega))
    exact v_vret dX7_taken_36 ⟨rfl, by unfold mTaken; rw [hj]; try rfl⟩
  · obtain ⟨t, hj⟩ : ∃ t, mFirst (put b 40 0 x 0) T (nI x) 1 = some t := by
      cases e : mFirst (put b 40 0 x 0) T (nI x) 1 with
      | none => rw [e] at h_15; exact absurd (by decide) h_15
      | some t => exact ⟨t, rfl⟩
    have hs := mFirst_st hj
    have ht24 : t < 24 := by have := Z.2.1; omega
    rw [hj]
    have h0 : b.1 24 0 t ≠ 0 := by rw [show b.1 24 0 t = 1 from hs.2.1]; decide
    have Z3 := Z0.go hs.1 h0 (fun e => h0 (hr t e))
    have hr3 : ∀ r, ρ = some r → (mGo (put b 40 0 x 0) t).1 24 0 r = 0 := fun r e => by rw [mGo_st]; split <;> first | rfl | exact hr r e
    refine v_aload_n dX7_taken_18 rfl ?_
    refine v_gr 0 fX7_28 dX7_taken_19 rfl rfl rfl Nat.zero_lt_one ?_
    refine v_iload_n dX7_taken_22 rfl ?_
    refine m_iald t (by decide) rfl dX7_taken_23 Nat.zero_lt_one rfl ht24 ?_
    refine v_istore_n [_, _, _, _] dX7_taken_24 rfl (by decide) ?_
    refine v_aload_n dX7_taken_25 rfl ?_
    refine v_iload_n dX7_taken_26 rfl ?_
    refine v_call1n lX7_134 kX7_goesOn (c_X7_goesOn (q := L.length) ht24 (by exact Z.2.2.1) Z.len) dX7_taken_27 rfl rfl Nat.zero_lt_one rfl (by decide) (by decide) (st8 rfl) ?_
    refine v_aload_n dX7_taken_30 rfl ?_
    refine v_iload_n dX7_taken_31 rfl ?_
    refine v_iload_n dX7_taken_32 rfl ?_
    refine v_call2n lX7_137 kX7_comesIn (c_X7_comesIn (T := T) hx Z3 hr3) dX7_taken_33 rfl rfl Nat.zero_lt_one rfl (by decide) (by decide) (st8 rfl) ?_
    exact v_vret dX7_taken_36 ⟨rfl, by unfold mTaken; rw [hj]; try rfl⟩
