/-! The reference: an act, waking, what is ready -/
def mNx (b : tH) (t : Nat) : tH := put b 26 0 t (b.1 26 0 t + 1)
def mPut (b : tH) (T t : Nat) (x : Int32) : tH := if b.1 40 0 (nv x) = 0 then mComes (mNx b t) T (nv x) (b.1 27 0 t) else mWait b T t x 1
def mTake (b : tH) (T t : Nat) (x : Int32) : tH := if b.1 40 0 (nv x) = 0 then mWait b T t x 2 else mTaken (put (mNx b t) 27 0 t (b.1 39 0 (nv x))) T (nv x)
def mRead (b : tH) (T t : Nat) (x : Int32) : tH := if b.1 40 0 (nv x) = 0 then mWait b T t x 3 else put (mNx b t) 27 0 t (b.1 39 0 (nv x))
def mDo (j : Nat) (x : Int32) (b : tH) (T t : Nat) : tH := match j with
  | 0 => mPut b T t x
  | 1 => mTake b T t x
  | 2 => mRead b T t x
  | 3 => put (mNx b t) 27 0 t x
  | 4 => put (mNx b t) 27 0 t (b.1 27 0 t + x)
  | 5 => mFork (mNx b t) T t x
  | 6 => put (mNx b t) 20 0 34 1
  | 7 => mDelay (mNx b t) T t x
  | 8 => put b 26 0 t x
  | 9 => put b 26 0 t (if b.1 27 0 t = 0 then x else b.1 26 0 t + 1)
  | 10 => mLog (mNx b t) t
  | 11 => mExc (mNx b t) T t x
  | 12 => mThrow (mNx b t) T t x
  | 13 => mCatch (mNx b t) t x
  | 14 => mDrop (mNx b t) t
  | 15 => mMask (mNx b t) T t x
  | _ => put (mNx b t) 27 0 t (nI t)
def mKx (b : tH) (t : Nat) : Nat := 20 * nv (b.1 25 0 t) + nv (b.1 26 0 t)
def mAct (b : tH) (T t : Nat) : tH := mDo (nv (b.1 22 0 (mKx b t))) (b.1 23 0 (mKx b t)) b T t

set_option maxHeartbeats 4000000 in
set_option maxRecDepth 100000 in
theorem c_X7_act3 {a b : tH} {T : Nat} {t p n : Nat} {x : Int32} (ht : t < T) {ρ : Option Nat} {L : List Nat} (Z : IQ b ρ T L) (I : IH b T) (hr : ∀ r, ρ = some r → b.1 24 0 r = 0) (ep : b.1 25 0 t = nI p) (en : b.1 26 0 t = nI n) (hk : 20 * p + n < 240) (ex : b.1 23 0 (20 * p + n) = x) (ek : b.1 22 0 (20 * p + n) = 3) : Cn yX7_doAct cX7_doAct 4 5 [.inr (some (20, 0)), .inl (nI t)] (mix a b) (mix a (put (mNx b t) 27 0 t x)) := by
  have hT24 := Z.2.1
  have ht24 : t < 24 := by omega
  refine Ct.of (by decide) [_, _, _, _] rfl (Nat.le_of_ble_eq_true rfl) ?_
  refine v_bipush 20 dX7_doAct_0 (by decide) ?_
  refine v_aload_n dX7_doAct_2 rfl ?_
  refine v_gr 0 fX7_22 dX7_doAct_3 rfl rfl rfl Nat.zero_lt_one ?_
  refine v_iload_n dX7_doAct_6 rfl ?_
  refine m_ialk t ep (by decide) rfl dX7_doAct_7 Nat.zero_lt_one rfl ht24 ?_
  refine v_imul dX7_doAct_8 ?_
  refine v_aload_n dX7_doAct_9 rfl ?_
  refine v_gr 0 fX7_25 dX7_doAct_10 rfl rfl rfl Nat.zero_lt_one ?_
  refine v_iload_n dX7_doAct_13 rfl ?_
  refine m_ialk t en (by decide) rfl dX7_doAct_14 Nat.zero_lt_one rfl ht24 ?_
  refine v_iadd dX7_doAct_15 ?_
  rw [show (20 : Int32) = nI 20 from rfl, pk_mul, nI_add]
  refine v_istore_n [_, _, _, _] dX7_doAct_16 rfl (by decide) ?_
  refine v_aload_n dX7_doAct_17 rfl ?_
  refine v_gr 0 fX7_16 dX7_doAct_18 rfl rfl rfl Nat.zero_lt_one ?_
  refine v_iload_n dX7_doAct_21 rfl ?_
  refine m_ialk (20 * p + n) ex (by decide) rfl dX7_doAct_22 Nat.zero_lt_one rfl hk ?_
  refine v_istore_n [_, _, _, _] dX7_doAct_23 rfl (by decide) ?_
  refine v_aload_n dX7_doAct_24 rfl ?_
  refine v_gr 0 fX7_13 dX7_doAct_25 rfl rfl rfl Nat.zero_lt_one ?_
  refine v_iload_n dX7_doAct_28 rfl ?_
  refine m_ialk (20 * p + n) ek (by decide) rfl dX7_doAct_29 Nat.zero_lt_one rfl hk ?_
  refine v_tsIn (off := 214) 244 3 dX7_doAct_30 rfl (by decide) (by decide) (by decide) (by decide) ?_
  refine v_aload_n dX7_doAct_244 rfl ?_
  refine v_gr 0 fX7_25 dX7_doAct_245 rfl rfl rfl Nat.zero_lt_one ?_
  refine v_iload_n dX7_doAct_248 rfl ?_
  refine v_dup2 dX7_doAct_249 ?_
  refine m_iald t (by decide) rfl dX7_doAct_250 Nat.zero_lt_one rfl ht24 ?_
  refine v_iconst 1 dX7_doAct_251 (by decide) ?_
  refine v_iadd dX7_doAct_252 ?_
  refine m_iast t (by decide) rfl dX7_doAct_253 Nat.zero_lt_one rfl ht24 ?_
  refine v_aload_n dX7_doAct_254 rfl ?_
  refine v_iload_n dX7_doAct_255 rfl ?_
  refine v_aload_n dX7_doAct_256 rfl ?_
  refine v_gr 0 fX7_13 dX7_doAct_257 rfl rfl rfl Nat.zero_lt_one ?_
  refine v_iload_n dX7_doAct_260 rfl ?_
  refine m_ialk (20 * p + n) (by exact ek) (by decide) rfl dX7_doAct_261 Nat.zero_lt_one rfl hk ?_
  refine v_iload_n dX7_doAct_262 rfl ?_
  refine v_call3n lX7_160 kX7_doOther (c_X7_oth3 (T := T) ht (by exact Z)) dX7_doAct_263 rfl rfl Nat.zero_lt_one rfl (by decide) (by decide) (st8 rfl) ?_
  exact v_vret dX7_doAct_266 ⟨rfl, rfl⟩
set_option maxHeartbeats 4000000 in
set_option maxRecDepth 100000 in
theorem c_X7_act4 {a b : tH} {T : Nat} {t p n : Nat} {x : Int32} (ht : t < T) {ρ : Option Nat} {L : List Nat} (Z : IQ b ρ T L) (I : IH b T) (hr : ∀ r, ρ = some r → b.1 24 0 r = 0) (ep : b.1 25 0 t = nI p) (en : b.1 26 0 t = nI n) (hk : 20 * p + n < 240) (ex : b.1 23 0 (20 * p + n) = x) (ek : b.1 22 0 (20 * p + n) = 4) : Cn yX7_doAct cX7_doAct 4 5 [.inr (some (20, 0)), .inl (nI t)] (mix a b) (mix a (put (mNx b t) 27 0 t (b.1 27 0 t + x))) := by
  have hT24 := Z.2.1
  have ht24 : t < 24 := by omega
  refine Ct.of (by decide) [_, _, _, _] rfl (Nat.le_of_ble_eq_true rfl) ?_
  refine v_bipush 20 dX7_doAct_0 (by decide) ?_
  refine v_aload_n dX7_doAct_2 rfl ?_
  refine v_gr 0 fX7_22 dX7_doAct_3 rfl rfl rfl Nat.zero_lt_one ?_
  refine v_iload_n dX7_doAct_6 rfl ?_
  refine m_ialk t ep (by decide) rfl dX7_doAct_7 Nat.zero_lt_one rfl ht24 ?_
  refine v_imul dX7_doAct_8 ?_
  refine v_aload_n dX7_doAct_9 rfl ?_
  refine v_gr 0 fX7_25 dX7_doAct_10 rfl rfl rfl Nat.zero_lt_one ?_
  refine v_iload_n dX7_doAct_13 rfl ?_
  refine m_ialk t en (by decide) rfl dX7_doAct_14 Nat.zero_lt_one rfl ht24 ?_
  refine v_iadd dX7_doAct_15 ?_
  rw [show (20 : Int32) = nI 20 from rfl, pk_mul, nI_add]
  refine v_istore_n [_, _, _, _] dX7_doAct_16 rfl (by decide) ?_
  refine v_aload_n dX7_doAct_17 rfl ?_
  refine v_gr 0 fX7_16 dX7_doAct_18 rfl rfl rfl Nat.zero_lt_one ?_
  refine v_iload_n dX7_doAct_21 rfl ?_
  refine m_ialk (20 * p + n) ex (by decide) rfl dX7_doAct_22 Nat.zero_lt_one rfl hk ?_
  refine v_istore_n [_, _, _, _] dX7_doAct_23 rfl (by decide) ?_
  refine v_aload_n dX7_doAct_24 rfl ?_
  refine v_gr 0 fX7_13 dX7_doAct_25 rfl rfl rfl Nat.zero_lt_one ?_
  refine v_iload_n dX7_doAct_28 rfl ?_
  refine m_ialk (20 * p + n) ek (by decide) rfl dX7_doAct_29 Nat.zero_lt_one rfl hk ?_
  refine v_tsIn (off := 214) 244 4 dX7_doAct_30 rfl (by decide) (by decide) (by decide) (by decide) ?_
  refine v_aload_n dX7_doAct_244 rfl ?_
  refine v_gr 0 fX7_25 dX7_doAct_245 rfl rfl rfl Nat.zero_lt_one ?_
  refine v_iload_n dX7_doAct_248 rfl ?_
  refine v_dup2 dX7_doAct_249 ?_
  refine m_iald t (by decide) rfl dX7_doAct_250 Nat.zero_lt_one rfl ht24 ?_
  refine v_iconst 1 dX7_doAct_251 (by decide) ?_
  refine v_iadd dX7_doAct_252 ?_
  refine m_iast t (by decide) rfl dX7_doAct_253 Nat.zero_lt_one rfl ht24 ?_
  refine v_aload_n dX7_doAct_254 rfl ?_
  refine v_iload_n dX7_doAct_255 rfl ?_
  refine v_aload_n dX7_doAct_256 rfl ?_
  refine v_gr 0 fX7_13 dX7_doAct_257 rfl rfl rfl Nat.zero_lt_one ?_
  refine v_iload_n dX7_doAct_260 rfl ?_
  refine m_ialk (20 * p + n) (by exact ek) (by decide) rfl dX7_doAct_261 Nat.zero_lt_one rfl hk ?_
  refine v_iload_n dX7_doAct_262 rfl ?_
  refine v_call3n lX7_160 kX7_doOther (c_X7_oth4 (T := T) ht (by exact Z)) dX7_doAct_263 rfl rfl Nat.zero_lt_one rfl (by decide) (by decide) (st8 rfl) ?_
  exact v_vret dX7_doAct_266 ⟨rfl, rfl⟩
set_option maxHeartbeats 4000000 in
set_option maxRecDepth 100000 in
theorem c_X7_act5 {a b : tH} {T : Nat} {t p n : Nat} {x : Int32} (ht : t < T) {ρ : Option Nat} {L : List Nat} (Z : IQ b ρ T L) (I : IH b T) (hr : ∀ r, ρ = some r → b.1 24 0 r = 0) (ep : b.1 25 0 t = nI p) (en : b.1 26 0 t = nI n) (hk : 20 * p + n < 240) (ex : b.1 23 0 (20 * p + n) = x) (ek : b.1 22 0 (20 * p + n) = 5) {P : Nat} (eP : b.1 20 0 1 = nI P) : Cn yX7_doAct cX7_doAct 4 5 [.inr (some (20, 0)), .inl (nI t)] (mix a b) (mix a (mFork (mNx b t) T t x)) := by
  have hT24 := Z.2.1
  have ht24 : t < 24 := by omega
  refine Ct.of (by decide) [_, _, _, _] rfl (Nat.le_of_ble_eq_true rfl) ?_
  refine v_bipush 20 dX7_doAct_0 (by decide) ?_
  refine v_aload_n dX7_doAct_2 rfl ?_
  refine v_gr 0 fX7_22 dX7_doAct_3 rfl rfl rfl Nat.zero_lt_one ?_
  refine v_iload_n dX7_doAct_6 rfl ?_
  refine m_ialk t ep (by decide) rfl dX7_doAct_7 Nat.zero_lt_one rfl ht24 ?_
  refine v_imul dX7_doAct_8 ?_
  refine v_aload_n dX7_doAct_9 rfl ?_
  refine v_gr 0 fX7_25 dX7_doAct_10 rfl rfl rfl Nat.zero_lt_one ?_
  refine v_iload_n dX7_doAct_13 rfl ?_
  refine m_ialk t en (by decide) rfl dX7_doAct_14 Nat.zero_lt_one rfl ht24 ?_
  refine v_iadd dX7_doAct_15 ?_
  rw [show (20 : Int32) = nI 20 from rfl, pk_mul, nI_add]
  refine v_istore_n [_, _, _, _] dX7_doAct_16 rfl (by decide) ?_
  refine v_aload_n dX7_doAct_17 rfl ?_
  refine v_gr 0 fX7_16 dX7_doAct_18 rfl rfl rfl Nat.zero_lt_one ?_
  refine v_iload_n dX7_doAct_21 rfl ?_
  refine m_ialk (20 * p + n) ex (by decide) rfl dX7_doAct_22 Nat.zero_lt_one rfl hk ?_
  refine v_istore_n [_, _, _, _] dX7_doAct_23 rfl (by decide) ?_
  refine v_aload_n dX7_doAct_24 rfl ?_
  refine v_gr 0 fX7_13 dX7_doAct_25 rfl rfl rfl Nat.zero_lt_one ?_
  refine v_iload_n dX7_doAct_28 rfl ?_
  refine m_ialk (20 * p + n) ek (by decide) rfl dX7_doAct_29 Nat.zero_lt_one rfl hk ?_
  refine v_tsIn (off := 214) 244 5 dX7_doAct_30 rfl (by decide) (by decide) (by decide) (by decide) ?_
  refine v_aload_n dX7_doAct_244 rfl ?_
  refine v_gr 0 fX7_25 dX7_doAct_245 rfl rfl rfl Nat.zero_lt_one ?_
  refine v_iload_n dX7_doAct_248 rfl ?_
  refine v_dup2 dX7_doAct_249 ?_
  refine m_iald t (by decide) rfl dX7_doAct_250 Nat.zero_lt_one rfl ht24 ?_
  refine v_iconst 1 dX7_doAct_251 (by decide) ?_
  refine v_iadd dX7_doAct_252 ?_
  refine m_iast t (by decide) rfl dX7_doAct_253 Nat.zero_lt_one rfl ht24 ?_
  refine v_aload_n dX7_doAct_254 rfl ?_
  refine v_iload_n dX7_doAct_255 rfl ?_
  refine v_aload_n dX7_doAct_256 rfl ?_
  refine v_gr 0 fX7_13 dX7_doAct_257 rfl rfl rfl Nat.zero_lt_one ?_
  refine v_iload_n dX7_doAct_260 rfl ?_
  refine m_ialk (20 * p + n) (by exact ek) (by decide) rfl dX7_doAct_261 Nat.zero_lt_one rfl hk ?_
  refine v_iload_n dX7_doAct_262 rfl ?_
  refine v_call3n lX7_160 kX7_doOther (c_X7_oth5 (T := T) (P := P) ht (by exact Z) (by exact eP)) dX7_doAct_263 rfl rfl Nat.zero_lt_one rfl (by decide) (by decide) (st8 rfl) ?_
  exact v_vret dX7_doAct_266 ⟨rfl, rfl⟩
set_option maxHeartbeats 4000000 in
set_option maxRecDepth 100000 in
theorem c_X7_act6 {a b : tH} {T : Nat} {t p n : Nat} {x : Int32} (ht : t < T) {ρ : Option Nat} {L : List Nat} (Z : IQ b ρ T L) (I : IH b T) (hr : ∀ r, ρ = some r → b.1 24 0 r = 0) (ep : b.1 25 0 t = nI p) (en : b.1 26 0 t = nI n) (hk : 20 * p + n < 240) (ex : b.1 23 0 (20 * p + n) = x) (ek : b.1 22 0 (20 * p + n) = 6) : Cn yX7_doAct cX7_doAct 4 5 [.inr (some (20, 0)), .inl (nI t)] (mix a b) (mix a (put (mNx b t) 20 0 34 1)) := by
  have hT24 := Z.2.1
  have ht24 : t < 24 := by omega
  refine Ct.of (by decide) [_, _, _, _] rfl (Nat.le_of_ble_eq_true rfl) ?_
  refine v_bipush 20 dX7_doAct_0 (by decide) ?_
  refine v_aload_n dX7_doAct_2 rfl ?_
  refine v_gr 0 fX7_22 dX7_doAct_3 rfl rfl rfl Nat.zero_lt_one ?_
  refine v_iload_n dX7_doAct_6 rfl ?_
  refine m_ialk t ep (by decide) rfl dX7_doAct_7 Nat.zero_lt_one rfl ht24 ?_
  refine v_imul dX7_doAct_8 ?_
  refine v_aload_n dX7_doAct_9 rfl ?_
  refine v_gr 0 fX7_25 dX7_doAct_10 rfl rfl rfl Nat.zero_lt_one ?_
  refine v_iload_n dX7_doAct_13 rfl ?_
  refine m_ialk t en (by decide) rfl dX7_doAct_14 Nat.zero_lt_one rfl ht24 ?_
  refine v_iadd dX7_doAct_15 ?_
  rw [show (20 : Int32) = nI 20 from rfl, pk_mul, nI_add]
  refine v_istore_n [_, _, _, _] dX7_doAct_16 rfl (by decide) ?_
  refine v_aload_n dX7_doAct_17 rfl ?_
  refine v_gr 0 fX7_16 dX7_doAct_18 rfl rfl rfl Nat.zero_lt_one ?_
  refine v_iload_n dX7_doAct_21 rfl ?_
  refine m_ialk (20 * p + n) ex (by decide) rfl dX7_doAct_22 Nat.zero_lt_one rfl hk ?_
  refine v_istore_n [_, _, _, _] dX7_doAct_23 rfl (by decide) ?_
  refine v_aload_n dX7_doAct_24 rfl ?_
  refine v_gr 0 fX7_13 dX7_doAct_25 rfl rfl rfl Nat.zero_lt_one ?_
  refine v_iload_n dX7_doAct_28 rfl ?_
  refine m_ialk (20 * p + n) ek (by decide) rfl dX7_doAct_29 Nat.zero_lt_one rfl hk ?_
  refine v_tsIn (off := 214) 244 6 dX7_doAct_30 rfl (by decide) (by decide) (by decide) (by decide) ?_
  refine v_aload_n dX7_doAct_244 rfl ?_
  refine v_gr 0 fX7_25 dX7_doAct_245 rfl rfl rfl Nat.zero_lt_one ?_
  refine v_iload_n dX7_doAct_248 rfl ?_
  refine v_dup2 dX7_doAct_249 ?_
  refine m_iald t (by decide) rfl dX7_doAct_250 Nat.zero_lt_one rfl ht24 ?_
  refine v_iconst 1 dX7_doAct_251 (by decide) ?_
  refine v_iadd dX7_doAct_252 ?_
  refine m_iast t (by decide) rfl dX7_doAct_253 Nat.zero_lt_one rfl ht24 ?_
  refine v_aload_n dX7_doAct_254 rfl ?_
  refine v_iload_n dX7_doAct_255 rfl ?_
  refine v_aload_n dX7_doAct_256 rfl ?_
  refine v_gr 0 fX7_13 dX7_doAct_257 rfl rfl rfl Nat.zero_lt_one ?_
  refine v_iload_n dX7_doAct_260 rfl ?_
  refine m_ialk (20 * p + n) (by exact ek) (by decide) rfl dX7_doAct_261 Nat.zero_lt_one rfl hk ?_
  refine v_iload_n dX7_doAct_262 rfl ?_
  refine v_call3n lX7_160 kX7_doOther (c_X7_oth6 (T := T) ht (by exact Z)) dX7_doAct_263 rfl rfl Nat.zero_lt_one rfl (by decide) (by decide) (st8 rfl) ?_
  exact v_vret dX7_doAct_266 ⟨rfl, rfl⟩
set_option maxHeartbeats 4000000 in
set_option maxRecDepth 100000 in
theorem c_X7_act7a {a b : tH} {T : Nat} {t p n : Nat} {x : Int32} (ht : t < T) {ρ : Option Nat} {L : List Nat} (Z : IQ b ρ T L) (I : IH b T) (hr : ∀ r, ρ = some r → b.1 24 0 r = 0) (ep : b.1 25 0 t = nI p) (en : b.1 26 0 t = nI n) (hk : 20 * p + n < 240) (ex : b.1 23 0 (20 * p + n) = x) (ek : b.1 22 0 (20 * p + n) = 7) (hp : b.1 31 0 t = 0) : Cn yX7_doAct cX7_doAct 4 5 [.inr (some (20, 0)), .inl (nI t)] (mix a b) (mix a (mDelay (mNx b t) T t x)) := by
  have hT24 := Z.2.1
  have ht24 : t < 24 := by omega
  refine Ct.of (by decide) [_, _, _, _] rfl (Nat.le_of_ble_eq_true rfl) ?_
  refine v_bipush 20 dX7_doAct_0 (by decide) ?_
  refine v_aload_n dX7_doAct_2 rfl ?_
  refine v_gr 0 fX7_22 dX7_doAct_3 rfl rfl rfl Nat.zero_lt_one ?_
  refine v_iload_n dX7_doAct_6 rfl ?_
  refine m_ialk t ep (by decide) rfl dX7_doAct_7 Nat.zero_lt_one rfl ht24 ?_
  refine v_imul dX7_doAct_8 ?_
  refine v_aload_n dX7_doAct_9 rfl ?_
  refine v_gr 0 fX7_25 dX7_doAct_10 rfl rfl rfl Nat.zero_lt_one ?_
  refine v_iload_n dX7_doAct_13 rfl ?_
  refine m_ialk t en (by decide) rfl dX7_doAct_14 Nat.zero_lt_one rfl ht24 ?_
  refine v_iadd dX7_doAct_15 ?_
  rw [show (20 : Int32) = nI 20 from rfl, pk_mul, nI_add]
  refine v_istore_n [_, _, _, _] dX7_doAct_16 rfl (by decide) ?_
  refine v_aload_n dX7_doAct_17 rfl ?_
  refine v_gr 0 fX7_16 dX7_doAct_18 rfl rfl rfl Nat.zero_lt_one ?_
  refine v_iload_n dX7_doAct_21 rfl ?_
  refine m_ialk (20 * p + n) ex (by decide) rfl dX7_doAct_22 Nat.zero_lt_one rfl hk ?_
  refine v_istore_n [_, _, _, _] dX7_doAct_23 rfl (by decide) ?_
  refine v_aload_n dX7_doAct_24 rfl ?_
  refine v_gr 0 fX7_13 dX7_doAct_25 rfl rfl rfl Nat.zero_lt_one ?_
  refine v_iload_n dX7_doAct_28 rfl ?_
  refine m_ialk (20 * p + n) ek (by decide) rfl dX7_doAct_29 Nat.zero_lt_one rfl hk ?_
  refine v_tsIn (off := 214) 244 7 dX7_doAct_30 rfl (by decide) (by decide) (by decide) (by decide) ?_
  refine v_aload_n dX7_doAct_244 rfl ?_
  refine v_gr 0 fX7_25 dX7_doAct_245 rfl rfl rfl Nat.zero_lt_one ?_
  refine v_iload_n dX7_doAct_248 rfl ?_
  refine v_dup2 dX7_doAct_249 ?_
  refine m_iald t (by decide) rfl dX7_doAct_250 Nat.zero_lt_one rfl ht24 ?_
  refine v_iconst 1 dX7_doAct_251 (by decide) ?_
  refine v_iadd dX7_doAct_252 ?_
  refine m_iast t (by decide) rfl dX7_doAct_253 Nat.zero_lt_one rfl ht24 ?_
  refine v_aload_n dX7_doAct_254 rfl ?_
  refine v_iload_n dX7_doAct_255 rfl ?_
  refine v_aload_n dX7_doAct_256 rfl ?_
  refine v_gr 0 fX7_13 dX7_doAct_257 rfl rfl rfl Nat.zero_lt_one ?_
  refine v_iload_n dX7_doAct_260 rfl ?_
  refine m_ialk (20 * p + n) (by exact ek) (by decide) rfl dX7_doAct_261 Nat.zero_lt_one rfl hk ?_
  refine v_iload_n dX7_doAct_262 rfl ?_
  refine v_call3n lX7_160 kX7_doOther (c_X7_oth7a (T := T) ht (by exact Z) (by exact hp)) dX7_doAct_263 rfl rfl Nat.zero_lt_one rfl (by decide) (by decide) (st8 rfl) ?_
  exact v_vret dX7_doAct_266 ⟨rfl, rfl⟩
set_option maxHeartbeats 4000000 in
set_option maxRecDepth 100000 in
theorem c_X7_act7b {a b : tH} {T : Nat} {t p n : Nat} {x : Int32} (ht : t < T) {ρ : Option Nat} {L : List Nat} (Z : IQ b ρ T L) (I : IH b T) (hr : ∀ r, ρ = some r → b.1 24 0 r = 0) (ep : b.1 25 0 t = nI p) (en : b.1 26 0 t = nI n) (hk : 20 * p + n < 240) (ex : b.1 23 0 (20 * p + n) = x) (ek : b.1 22 0 (20 * p + n) = 7) {pc : Nat} (hp : b.1 31 0 t = nI (pc + 1)) (h4p : pc < 4) : Cn yX7_doAct cX7_doAct 4 5 [.inr (some (20, 0)), .inl (nI t)] (mix a b) (mix a (mDelay (mNx b t) T t x)) := by
  have hT24 := Z.2.1
  have ht24 : t < 24 := by omega
  refine Ct.of (by decide) [_, _, _, _] rfl (Nat.le_of_ble_eq_true rfl) ?_
  refine v_bipush 20 dX7_doAct_0 (by decide) ?_
  refine v_aload_n dX7_doAct_2 rfl ?_
  refine v_gr 0 fX7_22 dX7_doAct_3 rfl rfl rfl Nat.zero_lt_one ?_
  refine v_iload_n dX7_doAct_6 rfl ?_
  refine m_ialk t ep (by decide) rfl dX7_doAct_7 Nat.zero_lt_one rfl ht24 ?_
  refine v_imul dX7_doAct_8 ?_
  refine v_aload_n dX7_doAct_9 rfl ?_
  refine v_gr 0 fX7_25 dX7_doAct_10 rfl rfl rfl Nat.zero_lt_one ?_
  refine v_iload_n dX7_doAct_13 rfl ?_
  refine m_ialk t en (by decide) rfl dX7_doAct_14 Nat.zero_lt_one rfl ht24 ?_
  refine v_iadd dX7_doAct_15 ?_
  rw [show (20 : Int32) = nI 20 from rfl, pk_mul, nI_add]
  refine v_istore_n [_, _, _, _] dX7_doAct_16 rfl (by decide) ?_
  refine v_aload_n dX7_doAct_17 rfl ?_
  refine v_gr 0 fX7_16 dX7_doAct_18 rfl rfl rfl Nat.zero_lt_one ?_
  refine v_iload_n dX7_doAct_21 rfl ?_
  refine m_ialk (20 * p + n) ex (by decide) rfl dX7_doAct_22 Nat.zero_lt_one rfl hk ?_
  refine v_istore_n [_, _, _, _] dX7_doAct_23 rfl (by decide) ?_
  refine v_aload_n dX7_doAct_24 rfl ?_
  refine v_gr 0 fX7_13 dX7_doAct_25 rfl rfl rfl Nat.zero_lt_one ?_
  refine v_iload_n dX7_doAct_28 rfl ?_
  refine m_ialk (20 * p + n) ek (by decide) rfl dX7_doAct_29 Nat.zero_lt_one rfl hk ?_
  refine v_tsIn (off := 214) 244 7 dX7_doAct_30 rfl (by decide) (by decide) (by decide) (by decide) ?_
  refine v_aload_n dX7_doAct_244 rfl ?_
  refine v_gr 0 fX7_25 dX7_doAct_245 rfl rfl rfl Nat.zero_lt_one ?_
  refine v_iload_n dX7_doAct_248 rfl ?_
  refine v_dup2 dX7_doAct_249 ?_
  refine m_iald t (by decide) rfl dX7_doAct_250 Nat.zero_lt_one rfl ht24 ?_
  refine v_iconst 1 dX7_doAct_251 (by decide) ?_
  refine v_iadd dX7_doAct_252 ?_
  refine m_iast t (by decide) rfl dX7_doAct_253 Nat.zero_lt_one rfl ht24 ?_
  refine v_aload_n dX7_doAct_254 rfl ?_
  refine v_iload_n dX7_doAct_255 rfl ?_
  refine v_aload_n dX7_doAct_256 rfl ?_
  refine v_gr 0 fX7_13 dX7_doAct_257 rfl rfl rfl Nat.zero_lt_one ?_
  refine v_iload_n dX7_doAct_260 rfl ?_
  refine m_ialk (20 * p + n) (by exact ek) (by decide) rfl dX7_doAct_261 Nat.zero_lt_one rfl hk ?_
  refine v_iload_n dX7_doAct_262 rfl ?_
  refine v_call3n lX7_160 kX7_doOther (c_X7_oth7b (T := T) ht (by exact Z) (by obtain ⟨hc, _, h4, _, e1, _⟩ := I t ht; exact ⟨hc, h4, e1⟩) (by exact hp) h4p) dX7_doAct_263 rfl rfl Nat.zero_lt_one rfl (by decide) (by decide) (st8 rfl) ?_
  exact v_vret dX7_doAct_266 ⟨rfl, rfl⟩
set_option maxHeartbeats 4000000 in
set_option maxRecDepth 100000 in
theorem c_X7_act10 {a b : tH} {T : Nat} {t p n : Nat} {x : Int32} (ht : t < T) {ρ : Option Nat} {L : List Nat} (Z : IQ b ρ T L) (I : IH b T) (hr : ∀ r, ρ = some r → b.1 24 0 r = 0) (ep : b.1 25 0 t = nI p) (en : b.1 26 0 t = nI n) (hk : 20 * p + n < 240) (ex : b.1 23 0 (20 * p + n) = x) (ek : b.1 22 0 (20 * p + n) = 10) {rr : Nat} (hrr : b.1 20 0 31 = nI rr) (h100 : rr ≤ 100) : Cn yX7_doAct cX7_doAct 4 5 [.inr (some (20, 0)), .inl (nI t)] (mix a b) (mix a (mLog (mNx b t) t)) := by
  have hT24 := Z.2.1
  have ht24 : t < 24 := by omega
  refine Ct.of (by decide) [_, _, _, _] rfl (Nat.le_of_ble_eq_true rfl) ?_
  refine v_bipush 20 dX7_doAct_0 (by decide) ?_
  refine v_aload_n dX7_doAct_2 rfl ?_
  refine v_gr 0 fX7_22 dX7_doAct_3 rfl rfl rfl Nat.zero_lt_one ?_
  refine v_iload_n dX7_doAct_6 rfl ?_
  refine m_ialk t ep (by decide) rfl dX7_doAct_7 Nat.zero_lt_one rfl ht24 ?_
  refine v_imul dX7_doAct_8 ?_
  refine v_aload_n dX7_doAct_9 rfl ?_
  refine v_gr 0 fX7_25 dX7_doAct_10 rfl rfl rfl Nat.zero_lt_one ?_
  refine v_iload_n dX7_doAct_13 rfl ?_
  refine m_ialk t en (by decide) rfl dX7_doAct_14 Nat.zero_lt_one rfl ht24 ?_
  refine v_iadd dX7_doAct_15 ?_
  rw [show (20 : Int32) = nI 20 from rfl, pk_mul, nI_add]
  refine v_istore_n [_, _, _, _] dX7_doAct_16 rfl (by decide) ?_
  refine v_aload_n dX7_doAct_17 rfl ?_
  refine v_gr 0 fX7_16 dX7_doAct_18 rfl rfl rfl Nat.zero_lt_one ?_
  refine v_iload_n dX7_doAct_21 rfl ?_
  refine m_ialk (20 * p + n) ex (by decide) rfl dX7_doAct_22 Nat.zero_lt_one rfl hk ?_
  refine v_istore_n [_, _, _, _] dX7_doAct_23 rfl (by decide) ?_
  refine v_aload_n dX7_doAct_24 rfl ?_
  refine v_gr 0 fX7_13 dX7_doAct_25 rfl rfl rfl Nat.zero_lt_one ?_
  refine v_iload_n dX7_doAct_28 rfl ?_
  refine m_ialk (20 * p + n) ek (by decide) rfl dX7_doAct_29 Nat.zero_lt_one rfl hk ?_
  refine v_tsOut 244 dX7_doAct_30 (Or.inr (by decide)) (by decide) ?_
  refine v_aload_n dX7_doAct_244 rfl ?_
  refine v_gr 0 fX7_25 dX7_doAct_245 rfl rfl rfl Nat.zero_lt_one ?_
  refine v_iload_n dX7_doAct_248 rfl ?_
  refine v_dup2 dX7_doAct_249 ?_
  refine m_iald t (by decide) rfl dX7_doAct_250 Nat.zero_lt_one rfl ht24 ?_
  refine v_iconst 1 dX7_doAct_251 (by decide) ?_
  refine v_iadd dX7_doAct_252 ?_
  refine m_iast t (by decide) rfl dX7_doAct_253 Nat.zero_lt_one rfl ht24 ?_
  refine v_aload_n dX7_doAct_254 rfl ?_
  refine v_iload_n dX7_doAct_255 rfl ?_
  refine v_aload_n dX7_doAct_256 rfl ?_
  refine v_gr 0 fX7_13 dX7_doAct_257 rfl rfl rfl Nat.zero_lt_one ?_
  refine v_iload_n dX7_doAct_260 rfl ?_
  refine m_ialk (20 * p + n) (by exact ek) (by decide) rfl dX7_doAct_261 Nat.zero_lt_one rfl hk ?_
  refine v_iload_n dX7_doAct_262 rfl ?_
  refine v_call3n lX7_160 kX7_doOther (c_X7_oth10 (T := T) (r := rr) ht (by exact Z) (by exact hrr) h100) dX7_doAct_263 rfl rfl Nat.zero_lt_one rfl (by decide) (by decide) (st8 rfl) ?_
  exact v_vret dX7_doAct_266 ⟨rfl, rfl⟩
set_option maxHeartbeats 4000000 in
set_option maxRecDepth 100000 in
theorem c_X7_act11 {a b : tH} {T : Nat} {t p n : Nat} {x : Int32} (ht : t < T) {ρ : Option Nat} {L : List Nat} (Z : IQ b ρ T L) (I : IH b T) (hr : ∀ r, ρ = some r → b.1 24 0 r = 0) (ep : b.1 25 0 t = nI p) (en : b.1 26 0 t = nI n) (hk : 20 * p + n < 240) (ex : b.1 23 0 (20 * p + n) = x) (ek : b.1 22 0 (20 * p + n) = 11) : Cn yX7_doAct cX7_doAct 4 5 [.inr (some (20, 0)), .inl (nI t)] (mix a b) (mix a (mExc (mNx b t) T t x)) := by
  have hT24 := Z.2.1
  have ht24 : t < 24 := by omega
  refine Ct.of (by decide) [_, _, _, _] rfl (Nat.le_of_ble_eq_true rfl) ?_
  refine v_bipush 20 dX7_doAct_0 (by decide) ?_
  refine v_aload_n dX7_doAct_2 rfl ?_
  refine v_gr 0 fX7_22 dX7_doAct_3 rfl rfl rfl Nat.zero_lt_one ?_
  refine v_iload_n dX7_doAct_6 rfl ?_
  refine m_ialk t ep (by decide) rfl dX7_doAct_7 Nat.zero_lt_one rfl ht24 ?_
  refine v_imul dX7_doAct_8 ?_
  refine v_aload_n dX7_doAct_9 rfl ?_
  refine v_gr 0 fX7_25 dX7_doAct_10 rfl rfl rfl Nat.zero_lt_one ?_
  refine v_iload_n dX7_doAct_13 rfl ?_
  refine m_ialk t en (by decide) rfl dX7_doAct_14 Nat.zero_lt_one rfl ht24 ?_
  refine v_iadd dX7_doAct_15 ?_
  rw [show (20 : Int32) = nI 20 from rfl, pk_mul, nI_add]
  refine v_istore_n [_, _, _, _] dX7_doAct_16 rfl (by decide) ?_
  refine v_aload_n dX7_doAct_17 rfl ?_
  refine v_gr 0 fX7_16 dX7_doAct_18 rfl rfl rfl Nat.zero_lt_one ?_
  refine v_iload_n dX7_doAct_21 rfl ?_
  refine m_ialk (20 * p + n) ex (by decide) rfl dX7_doAct_22 Nat.zero_lt_one rfl hk ?_
  refine v_istore_n [_, _, _, _] dX7_doAct_23 rfl (by decide) ?_
  refine v_aload_n dX7_doAct_24 rfl ?_
  refine v_gr 0 fX7_13 dX7_doAct_25 rfl rfl rfl Nat.zero_lt_one ?_
  refine v_iload_n dX7_doAct_28 rfl ?_
  refine m_ialk (20 * p + n) ek (by decide) rfl dX7_doAct_29 Nat.zero_lt_one rfl hk ?_
  refine v_tsOut 244 dX7_doAct_30 (Or.inr (by decide)) (by decide) ?_
  refine v_aload_n dX7_doAct_244 rfl ?_
  refine v_gr 0 fX7_25 dX7_doAct_245 rfl rfl rfl Nat.zero_lt_one ?_
  refine v_iload_n dX7_doAct_248 rfl ?_
  refine v_dup2 dX7_doAct_249 ?_
  refine m_iald t (by decide) rfl dX7_doAct_250 Nat.zero_lt_one rfl ht24 ?_
  refine v_iconst 1 dX7_doAct_251 (by decide) ?_
  refine v_iadd dX7_doAct_252 ?_
  refine m_iast t (by decide) rfl dX7_doAct_253 Nat.zero_lt_one rfl ht24 ?_
  refine v_aload_n dX7_doAct_254 rfl ?_
  refine v_iload_n dX7_doAct_255 rfl ?_
  refine v_aload_n dX7_doAct_256 rfl ?_
  refine v_gr 0 fX7_13 dX7_doAct_257 rfl rfl rfl Nat.zero_lt_one ?_
  refine v_iload_n dX7_doAct_260 rfl ?_
  refine m_ialk (20 * p + n) (by exact ek) (by decide) rfl dX7_doAct_261 Nat.zero_lt_one rfl hk ?_
  refine v_iload_n dX7_doAct_262 rfl ?_
  refine v_call3n lX7_160 kX7_doOther (c_X7_oth11 (T := T) ht (by exact Z) (by exact I)) dX7_doAct_263 rfl rfl Nat.zero_lt_one rfl (by decide) (by decide) (st8 rfl) ?_
  exact v_vret dX7_doAct_266 ⟨rfl, rfl⟩
set_option maxHeartbeats 4000000 in
set_option maxRecDepth 100000 in
theorem c_X7_act12 {a b : tH} {T : Nat} {t p n : Nat} {x : Int32} (ht : t < T) {ρ : Option Nat} {L : List Nat} (Z : IQ b ρ T L) (I : IH b T) (hr : ∀ r, ρ = some r → b.1 24 0 r = 0) (ep : b.1 25 0 t = nI p) (en : b.1 26 0 t = nI n) (hk : 20 * p + n < 240) (ex : b.1 23 0 (20 * p + n) = x) (ek : b.1 22 0 (20 * p + n) = 12) : Cn yX7_doAct cX7_doAct 4 5 [.inr (some (20, 0)), .inl (nI t)] (mix a b) (mix a (mThrow (mNx b t) T t x)) := by
  have hT24 := Z.2.1
  have ht24 : t < 24 := by omega
  refine Ct.of (by decide) [_, _, _, _] rfl (Nat.le_of_ble_eq_true rfl) ?_
  refine v_bipush 20 dX7_doAct_0 (by decide) ?_
  refine v_aload_n dX7_doAct_2 rfl ?_
  refine v_gr 0 fX7_22 dX7_doAct_3 rfl rfl rfl Nat.zero_lt_one ?_
  refine v_iload_n dX7_doAct_6 rfl ?_
  refine m_ialk t ep (by decide) rfl dX7_doAct_7 Nat.zero_lt_one rfl ht24 ?_
  refine v_imul dX7_doAct_8 ?_
  refine v_aload_n dX7_doAct_9 rfl ?_
  refine v_gr 0 fX7_25 dX7_doAct_10 rfl rfl rfl Nat.zero_lt_one ?_
  refine v_iload_n dX7_doAct_13 rfl ?_
  refine m_ialk t en (by decide) rfl dX7_doAct_14 Nat.zero_lt_one rfl ht24 ?_
  refine v_iadd dX7_doAct_15 ?_
  rw [show (20 : Int32) = nI 20 from rfl, pk_mul, nI_add]
  refine v_istore_n [_, _, _, _] dX7_doAct_16 rfl (by decide) ?_
  refine v_aload_n dX7_doAct_17 rfl ?_
  refine v_gr 0 fX7_16 dX7_doAct_18 rfl rfl rfl Nat.zero_lt_one ?_
  refine v_iload_n dX7_doAct_21 rfl ?_
  refine m_ialk (20 * p + n) ex (by decide) rfl dX7_doAct_22 Nat.zero_lt_one rfl hk ?_
  refine v_istore_n [_, _, _, _] dX7_doAct_23 rfl (by decide) ?_
  refine v_aload_n dX7_doAct_24 rfl ?_
  refine v_gr 0 fX7_13 dX7_doAct_25 rfl rfl rfl Nat.zero_lt_one ?_
  refine v_iload_n dX7_doAct_28 rfl ?_
  refine m_ialk (20 * p + n) ek (by decide) rfl dX7_doAct_29 Nat.zero_lt_one rfl hk ?_
  refine v_tsOut 244 dX7_doAct_30 (Or.inr (by decide)) (by decide) ?_
  refine v_aload_n dX7_doAct_244 rfl ?_
  refine v_gr 0 fX7_25 dX7_doAct_245 rfl rfl rfl Nat.zero_lt_one ?_
  refine v_iload_n dX7_doAct_248 rfl ?_
  refine v_dup2 dX7_doAct_249 ?_
  refine m_iald t (by decide) rfl dX7_doAct_250 Nat.zero_lt_one rfl ht24 ?_
  refine v_iconst 1 dX7_doAct_251 (by decide) ?_
  refine v_iadd dX7_doAct_252 ?_
  refine m_iast t (by decide) rfl dX7_doAct_253 Nat.zero_lt_one rfl ht24 ?_
  refine v_aload_n dX7_doAct_254 rfl ?_
  refine v_iload_n dX7_doAct_255 rfl ?_
  refine v_aload_n dX7_doAct_256 rfl ?_
  refine v_gr 0 fX7_13 dX7_doAct_257 rfl rfl rfl Nat.zero_lt_one ?_
  refine v_iload_n dX7_doAct_260 rfl ?_
  refine m_ialk (20 * p + n) (by exact ek) (by decide) rfl dX7_doAct_261 Nat.zero_lt_one rfl hk ?_
  refine v_iload_n dX7_doAct_262 rfl ?_
  refine v_call3n lX7_160 kX7_doOther (c_X7_oth12 (T := T) ht (by exact Z) (by exact I)) dX7_doAct_263 rfl rfl Nat.zero_lt_one rfl (by decide) (by decide) (st8 rfl) ?_
  exact v_vret dX7_doAct_266 ⟨rfl, rfl⟩
set_option maxHeartbeats 4000000 in
set_option maxRecDepth 100000 in
theorem c_X7_act13 {a b : tH} {T : Nat} {t p n : Nat} {x : Int32} (ht : t < T) {ρ : Option Nat} {L : List Nat} (Z : IQ b ρ T L) (I : IH b T) (hr : ∀ r, ρ = some r → b.1 24 0 r = 0) (ep : b.1 25 0 t = nI p) (en : b.1 26 0 t = nI n) (hk : 20 * p + n < 240) (ex : b.1 23 0 (20 * p + n) = x) (ek : b.1 22 0 (20 * p + n) = 13) {hc : Nat} (h4 : hc ≤ 4) (e1 : b.1 28 0 t = nI hc) : Cn yX7_doAct cX7_doAct 4 5 [.inr (some (20, 0)), .inl (nI t)] (mix a b) (mix a (mCatch (mNx b t) t x)) := by
  have hT24 := Z.2.1
  have ht24 : t < 24 := by omega
  refine Ct.of (by decide) [_, _, _, _] rfl (Nat.le_of_ble_eq_true rfl) ?_
  refine v_bipush 20 dX7_doAct_0 (by decide) ?_
  refine v_aload_n dX7_doAct_2 rfl ?_
  refine v_gr 0 fX7_22 dX7_doAct_3 rfl rfl rfl Nat.zero_lt_one ?_
  refine v_iload_n dX7_doAct_6 rfl ?_
  refine m_ialk t ep (by decide) rfl dX7_doAct_7 Nat.zero_lt_one rfl ht24 ?_
  refine v_imul dX7_doAct_8 ?_
  refine v_aload_n dX7_doAct_9 rfl ?_
  refine v_gr 0 fX7_25 dX7_doAct_10 rfl rfl rfl Nat.zero_lt_one ?_
  refine v_iload_n dX7_doAct_13 rfl ?_
  refine m_ialk t en (by decide) rfl dX7_doAct_14 Nat.zero_lt_one rfl ht24 ?_
  refine v_iadd dX7_doAct_15 ?_
  rw [show (20 : Int32) = nI 20 from rfl, pk_mul, nI_add]
  refine v_istore_n [_, _, _, _] dX7_doAct_16 rfl (by decide) ?_
  refine v_aload_n dX7_doAct_17 rfl ?_
  refine v_gr 0 fX7_16 dX7_doAct_18 rfl rfl rfl Nat.zero_lt_one ?_
  refine v_iload_n dX7_doAct_21 rfl ?_
  refine m_ialk (20 * p + n) ex (by decide) rfl dX7_doAct_22 Nat.zero_lt_one rfl hk ?_
  refine v_istore_n [_, _, _, _] dX7_doAct_23 rfl (by decide) ?_
  refine v_aload_n dX7_doAct_24 rfl ?_
  refine v_gr 0 fX7_13 dX7_doAct_25 rfl rfl rfl Nat.zero_lt_one ?_
  refine v_iload_n dX7_doAct_28 rfl ?_
  refine m_ialk (20 * p + n) ek (by decide) rfl dX7_doAct_29 Nat.zero_lt_one rfl hk ?_
  refine v_tsOut 244 dX7_doAct_30 (Or.inr (by decide)) (by decide) ?_
  refine v_aload_n dX7_doAct_244 rfl ?_
  refine v_gr 0 fX7_25 dX7_doAct_245 rfl rfl rfl Nat.zero_lt_one ?_
  refine v_iload_n dX7_doAct_248 rfl ?_
  refine v_dup2 dX7_doAct_249 ?_
  refine m_iald t (by decide) rfl dX7_doAct_250 Nat.zero_lt_one rfl ht24 ?_
  refine v_iconst 1 dX7_doAct_251 (by decide) ?_
  refine v_iadd dX7_doAct_252 ?_
  refine m_iast t (by decide) rfl dX7_doAct_253 Nat.zero_lt_one rfl ht24 ?_
  refine v_aload_n dX7_doAct_254 rfl ?_
  refine v_iload_n dX7_doAct_255 rfl ?_
  refine v_aload_n dX7_doAct_256 rfl ?_
  refine v_gr 0 fX7_13 dX7_doAct_257 rfl rfl rfl Nat.zero_lt_one ?_
  refine v_iload_n dX7_doAct_260 rfl ?_
  refine m_ialk (20 * p + n) (by exact ek) (by decide) rfl dX7_doAct_261 Nat.zero_lt_one rfl hk ?_
  refine v_iload_n dX7_doAct_262 rfl ?_
  refine v_call3n lX7_160 kX7_doOther (c_X7_oth13 (T := T) (hc := hc) ht (by exact Z) h4 (by exact e1)) dX7_doAct_263 rfl rfl Nat.zero_lt_one rfl (by decide) (by decide) (st8 rfl) ?_
  exact v_vret dX7_doAct_266 ⟨rfl, rfl⟩
set_option maxHeartbeats 4000000 in
set_option maxRecDepth 100000 in
theorem c_X7_act14 {a b : tH} {T : Nat} {t p n : Nat} {x : Int32} (ht : t < T) {ρ : Option Nat} {L : List Nat} (Z : IQ b ρ T L) (I : IH b T) (hr : ∀ r, ρ = some r → b.1 24 0 r = 0) (ep : b.1 25 0 t = nI p) (en : b.1 26 0 t = nI n) (hk : 20 * p + n < 240) (ex : b.1 23 0 (20 * p + n) = x) (ek : b.1 22 0 (20 * p + n) = 14) : Cn yX7_doAct cX7_doAct 4 5 [.inr (some (20, 0)), .inl (nI t)] (mix a b) (mix a (mDrop (mNx b t) t)) := by
  have hT24 := Z.2.1
  have ht24 : t < 24 := by omega
  refine Ct.of (by decide) [_, _, _, _] rfl (Nat.le_of_ble_eq_true rfl) ?_
  refine v_bipush 20 dX7_doAct_0 (by decide) ?_
  refine v_aload_n dX7_doAct_2 rfl ?_
  refine v_gr 0 fX7_22 dX7_doAct_3 rfl rfl rfl Nat.zero_lt_one ?_
  refine v_iload_n dX7_doAct_6 rfl ?_
  refine m_ialk t ep (by decide) rfl dX7_doAct_7 Nat.zero_lt_one rfl ht24 ?_
  refine v_imul dX7_doAct_8 ?_
  refine v_aload_n dX7_doAct_9 rfl ?_
  refine v_gr 0 fX7_25 dX7_doAct_10 rfl rfl rfl Nat.zero_lt_one ?_
  refine v_iload_n dX7_doAct_13 rfl ?_
  refine m_ialk t en (by decide) rfl dX7_doAct_14 Nat.zero_lt_one rfl ht24 ?_
  refine v_iadd dX7_doAct_15 ?_
  rw [show (20 : Int32) = nI 20 from rfl, pk_mul, nI_add]
  refine v_istore_n [_, _, _, _] dX7_doAct_16 rfl (by decide) ?_
  refine v_aload_n dX7_doAct_17 rfl ?_
  refine v_gr 0 fX7_16 dX7_doAct_18 rfl rfl rfl Nat.zero_lt_one ?_
  refine v_iload_n dX7_doAct_21 rfl ?_
  refine m_ialk (20 * p + n) ex (by decide) rfl dX7_doAct_22 Nat.zero_lt_one rfl hk ?_
  refine v_istore_n [_, _, _, _] dX7_doAct_23 rfl (by decide) ?_
  refine v_aload_n dX7_doAct_24 rfl ?_
  refine v_gr 0 fX7_13 dX7_doAct_25 rfl rfl rfl Nat.zero_lt_one ?_
  refine v_iload_n dX7_doAct_28 rfl ?_
  refine m_ialk (20 * p + n) ek (by decide) rfl dX7_doAct_29 Nat.zero_lt_one rfl hk ?_
  refine v_tsOut 244 dX7_doAct_30 (Or.inr (by decide)) (by decide) ?_
  refine v_aload_n dX7_doAct_244 rfl ?_
  refine v_gr 0 fX7_25 dX7_doAct_245 rfl rfl rfl Nat.zero_lt_one ?_
  refine v_iload_n dX7_doAct_248 rfl ?_
  refine v_dup2 dX7_doAct_249 ?_
  refine m_iald t (by decide) rfl dX7_doAct_250 Nat.zero_lt_one rfl ht24 ?_
  refine v_iconst 1 dX7_doAct_251 (by decide) ?_
  refine v_iadd dX7_doAct_252 ?_
  refine m_iast t (by decide) rfl dX7_doAct_253 Nat.zero_lt_one rfl ht24 ?_
  refine v_aload_n dX7_doAct_254 rfl ?_
  refine v_iload_n dX7_doAct_255 rfl ?_
  refine v_aload_n dX7_doAct_256 rfl ?_
  refine v_gr 0 fX7_13 dX7_doAct_257 rfl rfl rfl Nat.zero_lt_one ?_
  refine v_iload_n dX7_doAct_260 rfl ?_
  refine m_ialk (20 * p + n) (by exact ek) (by decide) rfl dX7_doAct_261 Nat.zero_lt_one rfl hk ?_
  refine v_iload_n dX7_doAct_262 rfl ?_
  refine v_call3n lX7_160 kX7_doOther (c_X7_oth14 (T := T) ht (by exact Z)) dX7_doAct_263 rfl rfl Nat.zero_lt_one rfl (by decide) (by decide) (st8 rfl) ?_
  exact v_vret dX7_doAct_266 ⟨rfl, rfl⟩
set_option maxHeartbeats 4000000 in
set_option maxRecDepth 100000 in
theorem c_X7_act15 {a b : tH} {T : Nat} {t p n : Nat} {x : Int32} (ht : t < T) {ρ : Option Nat} {L : List Nat} (Z : IQ b ρ T L) (I : IH b T) (hr : ∀ r, ρ = some r → b.1 24 0 r = 0) (ep : b.1 25 0 t = nI p) (en : b.1 26 0 t = nI n) (hk : 20 * p + n < 240) (ex : b.1 23 0 (20 * p + n) = x) (ek : b.1 22 0 (20 * p + n) = 15) : Cn yX7_doAct cX7_doAct 4 5 [.inr (some (20, 0)), .inl (nI t)] (mix a b) (mix a (mMask (mNx b t) T t x)) := by
  have hT24 := Z.2.1
  have ht24 : t < 24 := by omega
  refine Ct.of (by decide) [_, _, _, _] rfl (Nat.le_of_ble_eq_true rfl) ?_
  refine v_bipush 20 dX7_doAct_0 (by decide) ?_
  refine v_aload_n dX7_doAct_2 rfl ?_
  refine v_gr 0 fX7_22 dX7_doAct_3 rfl rfl rfl Nat.zero_lt_one ?_
  refine v_iload_n dX7_doAct_6 rfl ?_
  refine m_ialk t ep (by decide) rfl dX7_doAct_7 Nat.zero_lt_one rfl ht24 ?_
  refine v_imul dX7_doAct_8 ?_
  refine v_aload_n dX7_doAct_9 rfl ?_
  refine v_gr 0 fX7_25 dX7_doAct_10 rfl rfl rfl Nat.zero_lt_one ?_
  refine v_iload_n dX7_doAct_13 rfl ?_
  refine m_ialk t en (by decide) rfl dX7_doAct_14 Nat.zero_lt_one rfl ht24 ?_
  refine v_iadd dX7_doAct_15 ?_
  rw [show (20 : Int32) = nI 20 from rfl, pk_mul, nI_add]
  refine v_istore_n [_, _, _, _] dX7_doAct_16 rfl (by decide) ?_
  refine v_aload_n dX7_doAct_17 rfl ?_
  refine v_gr 0 fX7_16 dX7_doAct_18 rfl rfl rfl Nat.zero_lt_one ?_
  refine v_iload_n dX7_doAct_21 rfl ?_
  refine m_ialk (20 * p + n) ex (by decide) rfl dX7_doAct_22 Nat.zero_lt_one rfl hk ?_
  refine v_istore_n [_, _, _, _] dX7_doAct_23 rfl (by decide) ?_
  refine v_aload_n dX7_doAct_24 rfl ?_
  refine v_gr 0 fX7_13 dX7_doAct_25 rfl rfl rfl Nat.zero_lt_one ?_
  refine v_iload_n dX7_doAct_28 rfl ?_
  refine m_ialk (20 * p + n) ek (by decide) rfl dX7_doAct_29 Nat.zero_lt_one rfl hk ?_
  refine v_tsOut 244 dX7_doAct_30 (Or.inr (by decide)) (by decide) ?_
  refine v_aload_n dX7_doAct_244 rfl ?_
  refine v_gr 0 fX7_25 dX7_doAct_245 rfl rfl rfl Nat.zero_lt_one ?_
  refine v_iload_n dX7_doAct_248 rfl ?_
  refine v_dup2 dX7_doAct_249 ?_
  refine m_iald t (by decide) rfl dX7_doAct_250 Nat.zero_lt_one rfl ht24 ?_
  refine v_iconst 1 dX7_doAct_251 (by decide) ?_
  refine v_iadd dX7_doAct_252 ?_
  refine m_iast t (by decide) rfl dX7_doAct_253 Nat.zero_lt_one rfl ht24 ?_
  refine v_aload_n dX7_doAct_254 rfl ?_
  refine v_iload_n dX7_doAct_255 rfl ?_
  refine v_aload_n dX7_doAct_256 rfl ?_
  refine v_gr 0 fX7_13 dX7_doAct_257 rfl rfl rfl Nat.zero_lt_one ?_
  refine v_iload_n dX7_doAct_260 rfl ?_
  refine m_ialk (20 * p + n) (by exact ek) (by decide) rfl dX7_doAct_261 Nat.zero_lt_one rfl hk ?_
  refine v_iload_n dX7_doAct_262 rfl ?_
  refine v_call3n lX7_160 kX7_doOther (c_X7_oth15 (T := T) ht (by exact Z) (by exact I) (fun e => hr t e)) dX7_doAct_263 rfl rfl Nat.zero_lt_one rfl (by decide) (by decide) (st8 rfl) ?_
  exact v_vret dX7_doAct_266 ⟨rfl, rfl⟩
set_option maxHeartbeats 4000000 in
set_option maxRecDepth 100000 in
theorem c_X7_act16 {a b : tH} {T : Nat} {t p n : Nat} {x : Int32} (ht : t < T) {ρ : Option Nat} {L : List Nat} (Z : IQ b ρ T L) (I : IH b T) (hr : ∀ r, ρ = some r → b.1 24 0 r = 0) (ep : b.1 25 0 t = nI p) (en : b.1 26 0 t = nI n) (hk : 20 * p + n < 240) (ex : b.1 23 0 (20 * p + n) = x) (ek : b.1 22 0 (20 * p + n) = 16) : Cn yX7_doAct cX7_doAct 4 5 [.inr (some (20, 0)), .inl (nI t)] (mix a b) (mix a (put (mNx b t) 27 0 t (nI t))) := by
  have hT24 := Z.2.1
  have ht24 : t < 24 := by omega
  refine Ct.of (by decide) [_, _, _, _] rfl (Nat.le_of_ble_eq_true rfl) ?_
  refine v_bipush 20 dX7_doAct_0 (by decide) ?_
  refine v_aload_n dX7_doAct_2 rfl ?_
  refine v_gr 0 fX7_22 dX7_doAct_3 rfl rfl rfl Nat.zero_lt_one ?_
  refine v_iload_n dX7_doAct_6 rfl ?_
  refine m_ialk t ep (by decide) rfl dX7_doAct_7 Nat.zero_lt_one rfl ht24 ?_
  refine v_imul dX7_doAct_8 ?_
  refine v_aload_n dX7_doAct_9 rfl ?_
  refine v_gr 0 fX7_25 dX7_doAct_10 rfl rfl rfl Nat.zero_lt_one ?_
  refine v_iload_n dX7_doAct_13 rfl ?_
  refine m_ialk t en (by decide) rfl dX7_doAct_14 Nat.zero_lt_one rfl ht24 ?_
  refine v_iadd dX7_doAct_15 ?_
  rw [show (20 : Int32) = nI 20 from rfl, pk_mul, nI_add]
  refine v_istore_n [_, _, _, _] dX7_doAct_16 rfl (by decide) ?_
  refine v_aload_n dX7_doAct_17 rfl ?_
  refine v_gr 0 fX7_16 dX7_doAct_18 rfl rfl rfl Nat.zero_lt_one ?_
  refine v_iload_n dX7_doAct_21 rfl ?_
  refine m_ialk (20 * p + n) ex (by decide) rfl dX7_doAct_22 Nat.zero_lt_one rfl hk ?_
  refine v_istore_n [_, _, _, _] dX7_doAct_23 rfl (by decide) ?_
  refine v_aload_n dX7_doAct_24 rfl ?_
  refine v_gr 0 fX7_13 dX7_doAct_25 rfl rfl rfl Nat.zero_lt_one ?_
  refine v_iload_n dX7_doAct_28 rfl ?_
  refine m_ialk (20 * p + n) ek (by decide) rfl dX7_doAct_29 Nat.zero_lt_one rfl hk ?_
  refine v_tsOut 244 dX7_doAct_30 (Or.inr (by decide)) (by decide) ?_
  refine v_aload_n dX7_doAct_244 rfl ?_
  refine v_gr 0 fX7_25 dX7_doAct_245 rfl rfl rfl Nat.zero_lt_one ?_
  refine v_iload_n dX7_doAct_248 rfl ?_
  refine v_dup2 dX7_doAct_249 ?_
  refine m_iald t (by decide) rfl dX7_doAct_250 Nat.zero_lt_one rfl ht24 ?_
  refine v_iconst 1 dX7_doAct_251 (by decide) ?_
  refine v_iadd dX7_doAct_252 ?_
  refine m_iast t (by decide) rfl dX7_doAct_253 Nat.zero_lt_one rfl ht24 ?_
  refine v_aload_n dX7_doAct_254 rfl ?_
  refine v_iload_n dX7_doAct_255 rfl ?_
  refine v_aload_n dX7_doAct_256 rfl ?_
  refine v_gr 0 fX7_13 dX7_doAct_257 rfl rfl rfl Nat.zero_lt_one ?_
  refine v_iload_n dX7_doAct_260 rfl ?_
  refine m_ialk (20 * p + n) (by exact ek) (by decide) rfl dX7_doAct_261 Nat.zero_lt_one rfl hk ?_
  refine v_iload_n dX7_doAct_262 rfl ?_
  refine v_call3n lX7_160 kX7_doOther (c_X7_oth16 (T := T) ht (by exact Z)) dX7_doAct_263 rfl rfl Nat.zero_lt_one rfl (by decide) (by decide) (st8 rfl) ?_
  exact v_vret dX7_doAct_266 ⟨rfl, rfl⟩
set_option maxHeartbeats 4000000 in
set_option maxRecDepth 100000 in
theorem c_X7_act8 {a b : tH} {T : Nat} {t p n : Nat} {x : Int32} (ht : t < T) {ρ : Option Nat} {L : List Nat} (Z : IQ b ρ T L) (I : IH b T) (hr : ∀ r, ρ = some r → b.1 24 0 r = 0) (ep : b.1 25 0 t = nI p) (en : b.1 26 0 t = nI n) (hk : 20 * p + n < 240) (ex : b.1 23 0 (20 * p + n) = x) (ek : b.1 22 0 (20 * p + n) = 8) : Cn yX7_doAct cX7_doAct 4 5 [.inr (some (20, 0)), .inl (nI t)] (mix a b) (mix a (put b 26 0 t x)) := by
  have hT24 := Z.2.1
  have ht24 : t < 24 := by omega
  refine Ct.of (by decide) [_, _, _, _] rfl (Nat.le_of_ble_eq_true rfl) ?_
  refine v_bipush 20 dX7_doAct_0 (by decide) ?_
  refine v_aload_n dX7_doAct_2 rfl ?_
  refine v_gr 0 fX7_22 dX7_doAct_3 rfl rfl rfl Nat.zero_lt_one ?_
  refine v_iload_n dX7_doAct_6 rfl ?_
  refine m_ialk t ep (by decide) rfl dX7_doAct_7 Nat.zero_lt_one rfl ht24 ?_
  refine v_imul dX7_doAct_8 ?_
  refine v_aload_n dX7_doAct_9 rfl ?_
  refine v_gr 0 fX7_25 dX7_doAct_10 rfl rfl rfl Nat.zero_lt_one ?_
  refine v_iload_n dX7_doAct_13 rfl ?_
  refine m_ialk t en (by decide) rfl dX7_doAct_14 Nat.zero_lt_one rfl ht24 ?_
  refine v_iadd dX7_doAct_15 ?_
  rw [show (20 : Int32) = nI 20 from rfl, pk_mul, nI_add]
  refine v_istore_n [_, _, _, _] dX7_doAct_16 rfl (by decide) ?_
  refine v_aload_n dX7_doAct_17 rfl ?_
  refine v_gr 0 fX7_16 dX7_doAct_18 rfl rfl rfl Nat.zero_lt_one ?_
  refine v_iload_n dX7_doAct_21 rfl ?_
  refine m_ialk (20 * p + n) ex (by decide) rfl dX7_doAct_22 Nat.zero_lt_one rfl hk ?_
  refine v_istore_n [_, _, _, _] dX7_doAct_23 rfl (by decide) ?_
  refine v_aload_n dX7_doAct_24 rfl ?_
  refine v_gr 0 fX7_13 dX7_doAct_25 rfl rfl rfl Nat.zero_lt_one ?_
  refine v_iload_n dX7_doAct_28 rfl ?_
  refine m_ialk (20 * p + n) ek (by decide) rfl dX7_doAct_29 Nat.zero_lt_one rfl hk ?_
  refine v_tsIn (off := 178) 208 8 dX7_doAct_30 rfl (by decide) (by decide) (by decide) (by decide) ?_
  refine v_aload_n dX7_doAct_208 rfl ?_
  refine v_gr 0 fX7_25 dX7_doAct_209 rfl rfl rfl Nat.zero_lt_one ?_
  refine v_iload_n dX7_doAct_212 rfl ?_
  refine v_iload_n dX7_doAct_213 rfl ?_
  refine m_iast t (by decide) rfl dX7_doAct_214 Nat.zero_lt_one rfl ht24 ?_
  exact v_vret dX7_doAct_215 ⟨rfl, rfl⟩
set_option maxHeartbeats 4000000 in
set_option maxRecDepth 100000 in
theorem c_X7_act9 {a b : tH} {T : Nat} {t p n : Nat} {x : Int32} (ht : t < T) {ρ : Option Nat} {L : List Nat} (Z : IQ b ρ T L) (I : IH b T) (hr : ∀ r, ρ = some r → b.1 24 0 r = 0) (ep : b.1 25 0 t = nI p) (en : b.1 26 0 t = nI n) (hk : 20 * p + n < 240) (ex : b.1 23 0 (20 * p + n) = x) (ek : b.1 22 0 (20 * p + n) = 9) : Cn yX7_doAct cX7_doAct 4 5 [.inr (some (20, 0)), .inl (nI t)] (mix a b) (mix a (put b 26 0 t (if b.1 27 0 t = 0 then x else b.1 26 0 t + 1))) := by
  have hT24 := Z.2.1
  have ht24 : t < 24 := by omega
  refine Ct.of (by decide) [_, _, _, _] rfl (Nat.le_of_ble_eq_true rfl) ?_
  refine v_bipush 20 dX7_doAct_0 (by decide) ?_
  refine v_aload_n dX7_doAct_2 rfl ?_
  refine v_gr 0 fX7_22 dX7_doAct_3 rfl rfl rfl Nat.zero_lt_one ?_
  refine v_iload_n dX7_doAct_6 rfl ?_
  refine m_ialk t ep (by decide) rfl dX7_doAct_7 Nat.zero_lt_one rfl ht24 ?_
  refine v_imul dX7_doAct_8 ?_
  refine v_aload_n dX7_doAct_9 rfl ?_
  refine v_gr 0 fX7_25 dX7_doAct_10 rfl rfl rfl Nat.zero_lt_one ?_
  refine v_iload_n dX7_doAct_13 rfl ?_
  refine m_ialk t en (by decide) rfl dX7_doAct_14 Nat.zero_lt_one rfl ht24 ?_
  refine v_iadd dX7_doAct_15 ?_
  rw [show (20 : Int32) = nI 20 from rfl, pk_mul, nI_add]
  refine v_istore_n [_, _, _, _] dX7_doAct_16 rfl (by decide) ?_
  refine v_aload_n dX7_doAct_17 rfl ?_
  refine v_gr 0 fX7_16 dX7_doAct_18 rfl rfl rfl Nat.zero_lt_one ?_
  refine v_iload_n dX7_doAct_21 rfl ?_
  refine m_ialk (20 * p + n) ex (by decide) rfl dX7_doAct_22 Nat.zero_lt_one rfl hk ?_
  refine v_istore_n [_, _, _, _] dX7_doAct_23 rfl (by decide) ?_
  refine v_aload_n dX7_doAct_24 rfl ?_
  refine v_gr 0 fX7_13 dX7_doAct_25 rfl rfl rfl Nat.zero_lt_one ?_
  refine v_iload_n dX7_doAct_28 rfl ?_
  refine m_ialk (20 * p + n) ek (by decide) rfl dX7_doAct_29 Nat.zero_lt_one rfl hk ?_
  refine v_tsIn (off := 186) 216 9 dX7_doAct_30 rfl (by decide) (by decide) (by decide) (by decide) ?_
  refine v_aload_n dX7_doAct_216 rfl ?_
  refine v_gr 0 fX7_25 dX7_doAct_217 rfl rfl rfl Nat.zero_lt_one ?_
  refine v_iload_n dX7_doAct_220 rfl ?_
  refine v_aload_n dX7_doAct_221 rfl ?_
  refine v_gr 0 fX7_28 dX7_doAct_222 rfl rfl rfl Nat.zero_lt_one ?_
  refine v_iload_n dX7_doAct_225 rfl ?_
  refine m_iald t (by decide) rfl dX7_doAct_226 Nat.zero_lt_one rfl ht24 ?_
  refine v_if_ne 234 dX7_doAct_227 (by decide) (fun h_227 => ?_) (fun h_227 => ?_)
  · refine v_aload_n dX7_doAct_234 rfl ?_
    refine v_gr 0 fX7_25 dX7_doAct_235 rfl rfl rfl Nat.zero_lt_one ?_
    refine v_iload_n dX7_doAct_238 rfl ?_
    refine m_iald t (by decide) rfl dX7_doAct_239 Nat.zero_lt_one rfl ht24 ?_
    refine v_iconst 1 dX7_doAct_240 (by decide) ?_
    refine v_iadd dX7_doAct_241 ?_
    refine m_iast t (by decide) rfl dX7_doAct_242 Nat.zero_lt_one rfl ht24 ?_
    exact v_vret dX7_doAct_243 ⟨rfl, by first | (rw [if_pos h_227]; done) | (rw [if_neg h_227])⟩
  · refine v_iload_n dX7_doAct_230 rfl ?_
    refine v_goto 242 dX7_doAct_231 (by decide) ?_
    refine m_iast t (by decide) rfl dX7_doAct_242 Nat.zero_lt_one rfl ht24 ?_
    exact v_vret dX7_doAct_243 ⟨rfl, by first | (rw [if_pos h_227]; done) | (rw [if_neg h_227])⟩
set_option maxHeartbeats 4000000 in
set_option maxRecDepth 100000 in
theorem c_X7_act0w0 {a b : tH} {T : Nat} {t p n y : Nat} (hy : y < 8) (ht : t < T) {ρ : Option Nat} {L : List Nat} (Z : IQ b ρ T L) (I : IH b T) (hr : ∀ r, ρ = some r → b.1 24 0 r = 0) (ep : b.1 25 0 t = nI p) (en : b.1 26 0 t = nI n) (hk : 20 * p + n < 240) (ex : b.1 23 0 (20 * p + n) = nI y) (ek : b.1 22 0 (20 * p + n) = 0) (hf : ¬ b.1 40 0 y = 0) (hp : b.1 31 0 t = 0) : Cn yX7_doAct cX7_doAct 4 5 [.inr (some (20, 0)), .inl (nI t)] (mix a b) (mix a (mPut b T t (nI y))) := by
  have hT24 := Z.2.1
  have ht24 : t < 24 := by omega
  refine Ct.of (by decide) [_, _, _, _] rfl (Nat.le_of_ble_eq_true rfl) ?_
  refine v_bipush 20 dX7_doAct_0 (by decide) ?_
  refine v_aload_n dX7_doAct_2 rfl ?_
  refine v_gr 0 fX7_22 dX7_doAct_3 rfl rfl rfl Nat.zero_lt_one ?_
  refine v_iload_n dX7_doAct_6 rfl ?_
  refine m_ialk t ep (by decide) rfl dX7_doAct_7 Nat.zero_lt_one rfl ht24 ?_
  refine v_imul dX7_doAct_8 ?_
  refine v_aload_n dX7_doAct_9 rfl ?_
  refine v_gr 0 fX7_25 dX7_doAct_10 rfl rfl rfl Nat.zero_lt_one ?_
  refine v_iload_n dX7_doAct_13 rfl ?_
  refine m_ialk t en (by decide) rfl dX7_doAct_14 Nat.zero_lt_one rfl ht24 ?_
  refine v_iadd dX7_doAct_15 ?_
  rw [show (20 : Int32) = nI 20 from rfl, pk_mul, nI_add]
  refine v_istore_n [_, _, _, _] dX7_doAct_16 rfl (by decide) ?_
  refine v_aload_n dX7_doAct_17 rfl ?_
  refine v_gr 0 fX7_16 dX7_doAct_18 rfl rfl rfl Nat.zero_lt_one ?_
  refine v_iload_n dX7_doAct_21 rfl ?_
  refine m_ialk (20 * p + n) ex (by decide) rfl dX7_doAct_22 Nat.zero_lt_one rfl hk ?_
  refine v_istore_n [_, _, _, _] dX7_doAct_23 rfl (by decide) ?_
  refine v_aload_n dX7_doAct_24 rfl ?_
  refine v_gr 0 fX7_13 dX7_doAct_25 rfl rfl rfl Nat.zero_lt_one ?_
  refine v_iload_n dX7_doAct_28 rfl ?_
  refine m_ialk (20 * p + n) ek (by decide) rfl dX7_doAct_29 Nat.zero_lt_one rfl hk ?_
  refine v_tsIn (off := 54) 84 0 dX7_doAct_30 rfl (by decide) (by decide) (by decide) (by decide) ?_
  refine v_aload_n dX7_doAct_84 rfl ?_
  refine v_gr 0 fX7_68 dX7_doAct_85 rfl rfl rfl Nat.zero_lt_one ?_
  refine v_iload_n dX7_doAct_88 rfl ?_
  refine m_zald y (by decide) rfl dX7_doAct_89 Nat.zero_lt_one rfl hy ?_
  refine v_if_eq 101 dX7_doAct_90 (by decide) (fun h_90 => absurd h_90 hf) (fun h_90 => ?_)
  refine v_aload_n dX7_doAct_93 rfl ?_
  refine v_iload_n dX7_doAct_94 rfl ?_
  refine v_iload_n dX7_doAct_95 rfl ?_
  refine v_iconst 1 dX7_doAct_96 (by decide) ?_
  refine v_call3n lX7_153 kX7_waitAt (c_X7_waitAt0 (T := T) ht Z hp) dX7_doAct_97 rfl rfl Nat.zero_lt_one rfl (by decide) (by decide) (st8 rfl) ?_
  exact v_vret dX7_doAct_100 ⟨rfl, by unfold mPut; rw [nv_nI (by omega), if_neg hf]⟩
set_option maxHeartbeats 4000000 in
set_option maxRecDepth 100000 in
theorem c_X7_act0w1 {a b : tH} {T : Nat} {t p n y : Nat} (hy : y < 8) (ht : t < T) {ρ : Option Nat} {L : List Nat} (Z : IQ b ρ T L) (I : IH b T) (hr : ∀ r, ρ = some r → b.1 24 0 r = 0) (ep : b.1 25 0 t = nI p) (en : b.1 26 0 t = nI n) (hk : 20 * p + n < 240) (ex : b.1 23 0 (20 * p + n) = nI y) (ek : b.1 22 0 (20 * p + n) = 0) (hf : ¬ b.1 40 0 y = 0) {pc : Nat} (hp : b.1 31 0 t = nI (pc + 1)) (h4p : pc < 4) : Cn yX7_doAct cX7_doAct 4 5 [.inr (some (20, 0)), .inl (nI t)] (mix a b) (mix a (mPut b T t (nI y))) := by
  have hT24 := Z.2.1
  have ht24 : t < 24 := by omega
  refine Ct.of (by decide) [_, _, _, _] rfl (Nat.le_of_ble_eq_true rfl) ?_
  refine v_bipush 20 dX7_doAct_0 (by decide) ?_
  refine v_aload_n dX7_doAct_2 rfl ?_
  refine v_gr 0 fX7_22 dX7_doAct_3 rfl rfl rfl Nat.zero_lt_one ?_
  refine v_iload_n dX7_doAct_6 rfl ?_
  refine m_ialk t ep (by decide) rfl dX7_doAct_7 Nat.zero_lt_one rfl ht24 ?_
  refine v_imul dX7_doAct_8 ?_
  refine v_aload_n dX7_doAct_9 rfl ?_
  refine v_gr 0 fX7_25 dX7_doAct_10 rfl rfl rfl Nat.zero_lt_one ?_
  refine v_iload_n dX7_doAct_13 rfl ?_
  refine m_ialk t en (by decide) rfl dX7_doAct_14 Nat.zero_lt_one rfl ht24 ?_
  refine v_iadd dX7_doAct_15 ?_
  rw [show (20 : Int32) = nI 20 from rfl, pk_mul, nI_add]
  refine v_istore_n [_, _, _, _] dX7_doAct_16 rfl (by decide) ?_
  refine v_aload_n dX7_doAct_17 rfl ?_
  refine v_gr 0 fX7_16 dX7_doAct_18 rfl rfl rfl Nat.zero_lt_one ?_
  refine v_iload_n dX7_doAct_21 rfl ?_
  refine m_ialk (20 * p + n) ex (by decide) rfl dX7_doAct_22 Nat.zero_lt_one rfl hk ?_
  refine v_istore_n [_, _, _, _] dX7_doAct_23 rfl (by decide) ?_
  refine v_aload_n dX7_doAct_24 rfl ?_
  refine v_gr 0 fX7_13 dX7_doAct_25 rfl rfl rfl Nat.zero_lt_one ?_
  refine v_iload_n dX7_doAct_28 rfl ?_
  refine m_ialk (20 * p + n) ek (by decide) rfl dX7_doAct_29 Nat.zero_lt_one rfl hk ?_
  refine v_tsIn (off := 54) 84 0 dX7_doAct_30 rfl (by decide) (by decide) (by decide) (by decide) ?_
  refine v_aload_n dX7_doAct_84 rfl ?_
  refine v_gr 0 fX7_68 dX7_doAct_85 rfl rfl rfl Nat.zero_lt_one ?_
  refine v_iload_n dX7_doAct_88 rfl ?_
  refine m_zald y (by decide) rfl dX7_doAct_89 Nat.zero_lt_one rfl hy ?_
  refine v_if_eq 101 dX7_doAct_90 (by decide) (fun h_90 => absurd h_90 hf) (fun h_90 => ?_)
  refine v_aload_n dX7_doAct_93 rfl ?_
  refine v_iload_n dX7_doAct_94 rfl ?_
  refine v_iload_n dX7_doAct_95 rfl ?_
  refine v_iconst 1 dX7_doAct_96 (by decide) ?_
  refine v_call3n lX7_153 kX7_waitAt (c_X7_waitAt1 (T := T) ht Z (by obtain ⟨hc, _, h4, _, e1, _⟩ := I t ht; exact ⟨hc, h4, e1⟩) hp h4p) dX7_doAct_97 rfl rfl Nat.zero_lt_one rfl (by decide) (by decide) (st8 rfl) ?_
  exact v_vret dX7_doAct_100 ⟨rfl, by unfold mPut; rw [nv_nI (by omega), if_neg hf]⟩
set_option maxHeartbeats 4000000 in
set_option maxRecDepth 100000 in
theorem c_X7_act0g {a b : tH} {T : Nat} {t p n y : Nat} (hy : y < 8) (ht : t < T) {ρ : Option Nat} {L : List Nat} (Z : IQ b ρ T L) (I : IH b T) (hr : ∀ r, ρ = some r → b.1 24 0 r = 0) (ep : b.1 25 0 t = nI p) (en : b.1 26 0 t = nI n) (hk : 20 * p + n < 240) (ex : b.1 23 0 (20 * p + n) = nI y) (ek : b.1 22 0 (20 * p + n) = 0) (hf : b.1 40 0 y = 0) : Cn yX7_doAct cX7_doAct 4 5 [.inr (some (20, 0)), .inl (nI t)] (mix a b) (mix a (mPut b T t (nI y))) := by
  have hT24 := Z.2.1
  have ht24 : t < 24 := by omega
  refine Ct.of (by decide) [_, _, _, _] rfl (Nat.le_of_ble_eq_true rfl) ?_
  refine v_bipush 20 dX7_doAct_0 (by decide) ?_
  refine v_aload_n dX7_doAct_2 rfl ?_
  refine v_gr 0 fX7_22 dX7_doAct_3 rfl rfl rfl Nat.zero_lt_one ?_
  refine v_iload_n dX7_doAct_6 rfl ?_
  refine m_ialk t ep (by decide) rfl dX7_doAct_7 Nat.zero_lt_one rfl ht24 ?_
  refine v_imul dX7_doAct_8 ?_
  refine v_aload_n dX7_doAct_9 rfl ?_
  refine v_gr 0 fX7_25 dX7_doAct_10 rfl rfl rfl Nat.zero_lt_one ?_
  refine v_iload_n dX7_doAct_13 rfl ?_
  refine m_ialk t en (by decide) rfl dX7_doAct_14 Nat.zero_lt_one rfl ht24 ?_
  refine v_iadd dX7_doAct_15 ?_
  rw [show (20 : Int32) = nI 20 from rfl, pk_mul, nI_add]
  refine v_istore_n [_, _, _, _] dX7_doAct_16 rfl (by decide) ?_
  refine v_aload_n dX7_doAct_17 rfl ?_
  refine v_gr 0 fX7_16 dX7_doAct_18 rfl rfl rfl Nat.zero_lt_one ?_
  refine v_iload_n dX7_doAct_21 rfl ?_
  refine m_ialk (20 * p + n) ex (by decide) rfl dX7_doAct_22 Nat.zero_lt_one rfl hk ?_
  refine v_istore_n [_, _, _, _] dX7_doAct_23 rfl (by decide) ?_
  refine v_aload_n dX7_doAct_24 rfl ?_
  refine v_gr 0 fX7_13 dX7_doAct_25 rfl rfl rfl Nat.zero_lt_one ?_
  refine v_iload_n dX7_doAct_28 rfl ?_
  refine m_ialk (20 * p + n) ek (by decide) rfl dX7_doAct_29 Nat.zero_lt_one rfl hk ?_
  refine v_tsIn (off := 54) 84 0 dX7_doAct_30 rfl (by decide) (by decide) (by decide) (by decide) ?_
  refine v_aload_n dX7_doAct_84 rfl ?_
  refine v_gr 0 fX7_68 dX7_doAct_85 rfl rfl rfl Nat.zero_lt_one ?_
  refine v_iload_n dX7_doAct_88 rfl ?_
  refine m_zald y (by decide) rfl dX7_doAct_89 Nat.zero_lt_one rfl hy ?_
  refine v_if_eq 101 dX7_doAct_90 (by decide) (fun h_90 => ?_) (fun h_90 => absurd hf h_90)
  refine v_aload_n dX7_doAct_101 rfl ?_
  refine v_gr 0 fX7_25 dX7_doAct_102 rfl rfl rfl Nat.zero_lt_one ?_
  refine v_iload_n dX7_doAct_105 rfl ?_
  refine v_dup2 dX7_doAct_106 ?_
  refine m_iald t (by decide) rfl dX7_doAct_107 Nat.zero_lt_one rfl ht24 ?_
  refine v_iconst 1 dX7_doAct_108 (by decide) ?_
  refine v_iadd dX7_doAct_109 ?_
  refine m_iast t (by decide) rfl dX7_doAct_110 Nat.zero_lt_one rfl ht24 ?_
  refine v_aload_n dX7_doAct_111 rfl ?_
  refine v_iload_n dX7_doAct_112 rfl ?_
  refine v_aload_n dX7_doAct_113 rfl ?_
  refine v_gr 0 fX7_28 dX7_doAct_114 rfl rfl rfl Nat.zero_lt_one ?_
  refine v_iload_n dX7_doAct_117 rfl ?_
  refine m_iald t (by decide) rfl dX7_doAct_118 Nat.zero_lt_one rfl ht24 ?_
  refine v_call2n lX7_137 kX7_comesIn (c_X7_comesIn (T := T) hy (by exact Z) (by exact hr)) dX7_doAct_119 rfl rfl Nat.zero_lt_one rfl (by decide) (by decide) (st8 rfl) ?_
  exact v_vret dX7_doAct_122 ⟨rfl, by unfold mPut; rw [nv_nI (by omega), if_pos hf]; rfl⟩
set_option maxHeartbeats 4000000 in
set_option maxRecDepth 100000 in
theorem c_X7_act1w0 {a b : tH} {T : Nat} {t p n y : Nat} (hy : y < 8) (ht : t < T) {ρ : Option Nat} {L : List Nat} (Z : IQ b ρ T L) (I : IH b T) (hr : ∀ r, ρ = some r → b.1 24 0 r = 0) (ep : b.1 25 0 t = nI p) (en : b.1 26 0 t = nI n) (hk : 20 * p + n < 240) (ex : b.1 23 0 (20 * p + n) = nI y) (ek : b.1 22 0 (20 * p + n) = 1) (hf : b.1 40 0 y = 0) (hp : b.1 31 0 t = 0) : Cn yX7_doAct cX7_doAct 4 5 [.inr (some (20, 0)), .inl (nI t)] (mix a b) (mix a (mTake b T t (nI y))) := by
  have hT24 := Z.2.1
  have ht24 : t < 24 := by omega
  refine Ct.of (by decide) [_, _, _, _] rfl (Nat.le_of_ble_eq_true rfl) ?_
  refine v_bipush 20 dX7_doAct_0 (by decide) ?_
  refine v_aload_n dX7_doAct_2 rfl ?_
  refine v_gr 0 fX7_22 dX7_doAct_3 rfl rfl rfl Nat.zero_lt_one ?_
  refine v_iload_n dX7_doAct_6 rfl ?_
  refine m_ialk t ep (by decide) rfl dX7_doAct_7 Nat.zero_lt_one rfl ht24 ?_
  refine v_imul dX7_doAct_8 ?_
  refine v_aload_n dX7_doAct_9 rfl ?_
  refine v_gr 0 fX7_25 dX7_doAct_10 rfl rfl rfl Nat.zero_lt_one ?_
  refine v_iload_n dX7_doAct_13 rfl ?_
  refine m_ialk t en (by decide) rfl dX7_doAct_14 Nat.zero_lt_one rfl ht24 ?_
  refine v_iadd dX7_doAct_15 ?_
  rw [show (20 : Int32) = nI 20 from rfl, pk_mul, nI_add]
  refine v_istore_n [_, _, _, _] dX7_doAct_16 rfl (by decide) ?_
  refine v_aload_n dX7_doAct_17 rfl ?_
  refine v_gr 0 fX7_16 dX7_doAct_18 rfl rfl rfl Nat.zero_lt_one ?_
  refine v_iload_n dX7_doAct_21 rfl ?_
  refine m_ialk (20 * p + n) ex (by decide) rfl dX7_doAct_22 Nat.zero_lt_one rfl hk ?_
  refine v_istore_n [_, _, _, _] dX7_doAct_23 rfl (by decide) ?_
  refine v_aload_n dX7_doAct_24 rfl ?_
  refine v_gr 0 fX7_13 dX7_doAct_25 rfl rfl rfl Nat.zero_lt_one ?_
  refine v_iload_n dX7_doAct_28 rfl ?_
  refine m_ialk (20 * p + n) ek (by decide) rfl dX7_doAct_29 Nat.zero_lt_one rfl hk ?_
  refine v_tsIn (off := 93) 123 1 dX7_doAct_30 rfl (by decide) (by decide) (by decide) (by decide) ?_
  refine v_aload_n dX7_doAct_123 rfl ?_
  refine v_gr 0 fX7_68 dX7_doAct_124 rfl rfl rfl Nat.zero_lt_one ?_
  refine v_iload_n dX7_doAct_127 rfl ?_
  refine m_zald y (by decide) rfl dX7_doAct_128 Nat.zero_lt_one rfl hy ?_
  refine v_if_ne 140 dX7_doAct_129 (by decide) (fun h_129 => absurd hf h_129) (fun h_129 => ?_)
  refine v_aload_n dX7_doAct_132 rfl ?_
  refine v_iload_n dX7_doAct_133 rfl ?_
  refine v_iload_n dX7_doAct_134 rfl ?_
  refine v_iconst 2 dX7_doAct_135 (by decide) ?_
  refine v_call3n lX7_153 kX7_waitAt (c_X7_waitAt0 (T := T) ht Z hp) dX7_doAct_136 rfl rfl Nat.zero_lt_one rfl (by decide) (by decide) (st8 rfl) ?_
  exact v_vret dX7_doAct_139 ⟨rfl, by unfold mTake; rw [nv_nI (by omega), if_pos hf]⟩
set_option maxHeartbeats 4000000 in
set_option maxRecDepth 100000 in
theorem c_X7_act1w1 {a b : tH} {T : Nat} {t p n y : Nat} (hy : y < 8) (ht : t < T) {ρ : Option Nat} {L : List Nat} (Z : IQ b ρ T L) (I : IH b T) (hr : ∀ r, ρ = some r → b.1 24 0 r = 0) (ep : b.1 25 0 t = nI p) (en : b.1 26 0 t = nI n) (hk : 20 * p + n < 240) (ex : b.1 23 0 (20 * p + n) = nI y) (ek : b.1 22 0 (20 * p + n) = 1) (hf : b.1 40 0 y = 0) {pc : Nat} (hp : b.1 31 0 t = nI (pc + 1)) (h4p : pc < 4) : Cn yX7_doAct cX7_doAct 4 5 [.inr (some (20, 0)), .inl (nI t)] (mix a b) (mix a (mTake b T t (nI y))) := by
  have hT24 := Z.2.1
  have ht24 : t < 24 := by omega
  refine Ct.of (by decide) [_, _, _, _] rfl (Nat.le_of_ble_eq_true rfl) ?_
  refine v_bipush 20 dX7_doAct_0 (by decide) ?_
  refine v_aload_n dX7_doAct_2 rfl ?_
  refine v_gr 0 fX7_22 dX7_doAct_3 rfl rfl rfl Nat.zero_lt_one ?_
  refine v_iload_n dX7_doAct_6 rfl ?_
  refine m_ialk t ep (by decide) rfl dX7_doAct_7 Nat.zero_lt_one rfl ht24 ?_
  refine v_imul dX7_doAct_8 ?_
  refine v_aload_n dX7_doAct_9 rfl ?_
  refine v_gr 0 fX7_25 dX7_doAct_10 rfl rfl rfl Nat.zero_lt_one ?_
  refine v_iload_n dX7_doAct_13 rfl ?_
  refine m_ialk t en (by decide) rfl dX7_doAct_14 Nat.zero_lt_one rfl ht24 ?_
  refine v_iadd dX7_doAct_15 ?_
  rw [show (20 : Int32) = nI 20 from rfl, pk_mul, nI_add]
  refine v_istore_n [_, _, _, _] dX7_doAct_16 rfl (by decide) ?_
  refine v_aload_n dX7_doAct_17 rfl ?_
  refine v_gr 0 fX7_16 dX7_doAct_18 rfl rfl rfl Nat.zero_lt_one ?_
  refine v_iload_n dX7_doAct_21 rfl ?_
  refine m_ialk (20 * p + n) ex (by decide) rfl dX7_doAct_22 Nat.zero_lt_one rfl hk ?_
  refine v_istore_n [_, _, _, _] dX7_doAct_23 rfl (by decide) ?_
  refine v_aload_n dX7_doAct_24 rfl ?_
  refine v_gr 0 fX7_13 dX7_doAct_25 rfl rfl rfl Nat.zero_lt_one ?_
  refine v_iload_n dX7_doAct_28 rfl ?_
  refine m_ialk (20 * p + n) ek (by decide) rfl dX7_doAct_29 Nat.zero_lt_one rfl hk ?_
  refine v_tsIn (off := 93) 123 1 dX7_doAct_30 rfl (by decide) (by decide) (by decide) (by decide) ?_
  refine v_aload_n dX7_doAct_123 rfl ?_
  refine v_gr 0 fX7_68 dX7_doAct_124 rfl rfl rfl Nat.zero_lt_one ?_
  refine v_iload_n dX7_doAct_127 rfl ?_
  refine m_zald y (by decide) rfl dX7_doAct_128 Nat.zero_lt_one rfl hy ?_
  refine v_if_ne 140 dX7_doAct_129 (by decide) (fun h_129 => absurd hf h_129) (fun h_129 => ?_)
  refine v_aload_n dX7_doAct_132 rfl ?_
  refine v_iload_n dX7_doAct_133 rfl ?_
  refine v_iload_n dX7_doAct_134 rfl ?_
  refine v_iconst 2 dX7_doAct_135 (by decide) ?_
  refine v_call3n lX7_153 kX7_waitAt (c_X7_waitAt1 (T := T) ht Z (by obtain ⟨hc, _, h4, _, e1, _⟩ := I t ht; exact ⟨hc, h4, e1⟩) hp h4p) dX7_doAct_136 rfl rfl Nat.zero_lt_one rfl (by decide) (by decide) (st8 rfl) ?_
  exact v_vret dX7_doAct_139 ⟨rfl, by unfold mTake; rw [nv_nI (by omega), if_pos hf]⟩
set_option maxHeartbeats 4000000 in
set_option maxRecDepth 100000 in
theorem c_X7_act1g {a b : tH} {T : Nat} {t p n y : Nat} (hy : y < 8) (ht : t < T) {ρ : Option Nat} {L : List Nat} (Z : IQ b ρ T L) (I : IH b T) (hr : ∀ r, ρ = some r → b.1 24 0 r = 0) (ep : b.1 25 0 t = nI p) (en : b.1 26 0 t = nI n) (hk : 20 * p + n < 240) (ex : b.1 23 0 (20 * p + n) = nI y) (ek : b.1 22 0 (20 * p + n) = 1) (hf : ¬ b.1 40 0 y = 0) : Cn yX7_doAct cX7_doAct 4 5 [.inr (some (20, 0)), .inl (nI t)] (mix a b) (mix a (mTake b T t (nI y))) := by
  have hT24 := Z.2.1
  have ht24 : t < 24 := by omega
  refine Ct.of (by decide) [_, _, _, _] rfl (Nat.le_of_ble_eq_true rfl) ?_
  refine v_bipush 20 dX7_doAct_0 (by decide) ?_
  refine v_aload_n dX7_doAct_2 rfl ?_
  refine v_gr 0 fX7_22 dX7_doAct_3 rfl rfl rfl Nat.zero_lt_one ?_
  refine v_iload_n dX7_doAct_6 rfl ?_
  refine m_ialk t ep (by decide) rfl dX7_doAct_7 Nat.zero_lt_one rfl ht24 ?_
  refine v_imul dX7_doAct_8 ?_
  refine v_aload_n dX7_doAct_9 rfl ?_
  refine v_gr 0 fX7_25 dX7_doAct_10 rfl rfl rfl Nat.zero_lt_one ?_
  refine v_iload_n dX7_doAct_13 rfl ?_
  refine m_ialk t en (by decide) rfl dX7_doAct_14 Nat.zero_lt_one rfl ht24 ?_
  refine v_iadd dX7_doAct_15 ?_
  rw [show (20 : Int32) = nI 20 from rfl, pk_mul, nI_add]
  refine v_istore_n [_, _, _, _] dX7_doAct_16 rfl (by decide) ?_
  refine v_aload_n dX7_doAct_17 rfl ?_
  refine v_gr 0 fX7_16 dX7_doAct_18 rfl rfl rfl Nat.zero_lt_one ?_
  refine v_iload_n dX7_doAct_21 rfl ?_
  refine m_ialk (20 * p + n) ex (by decide) rfl dX7_doAct_22 Nat.zero_lt_one rfl hk ?_
  refine v_istore_n [_, _, _, _] dX7_doAct_23 rfl (by decide) ?_
  refine v_aload_n dX7_doAct_24 rfl ?_
  refine v_gr 0 fX7_13 dX7_doAct_25 rfl rfl rfl Nat.zero_lt_one ?_
  refine v_iload_n dX7_doAct_28 rfl ?_
  refine m_ialk (20 * p + n) ek (by decide) rfl dX7_doAct_29 Nat.zero_lt_one rfl hk ?_
  refine v_tsIn (off := 93) 123 1 dX7_doAct_30 rfl (by decide) (by decide) (by decide) (by decide) ?_
  refine v_aload_n dX7_doAct_123 rfl ?_
  refine v_gr 0 fX7_68 dX7_doAct_124 rfl rfl rfl Nat.zero_lt_one ?_
  refine v_iload_n dX7_doAct_127 rfl ?_
  refine m_zald y (by decide) rfl dX7_doAct_128 Nat.zero_lt_one rfl hy ?_
  refine v_if_ne 140 dX7_doAct_129 (by decide) (fun h_129 => ?_) (fun h_129 => absurd h_129 hf)
  refine v_aload_n dX7_doAct_140 rfl ?_
  refine v_gr 0 fX7_25 dX7_doAct_141 rfl rfl rfl Nat.zero_lt_one ?_
  refine v_iload_n dX7_doAct_144 rfl ?_
  refine v_dup2 dX7_doAct_145 ?_
  refine m_iald t (by decide) rfl dX7_doAct_146 Nat.zero_lt_one rfl ht24 ?_
  refine v_iconst 1 dX7_doAct_147 (by decide) ?_
  refine v_iadd dX7_doAct_148 ?_
  refine m_iast t (by decide) rfl dX7_doAct_149 Nat.zero_lt_one rfl ht24 ?_
  refine v_aload_n dX7_doAct_150 rfl ?_
  refine v_gr 0 fX7_28 dX7_doAct_151 rfl rfl rfl Nat.zero_lt_one ?_
  refine v_iload_n dX7_doAct_154 rfl ?_
  refine v_aload_n dX7_doAct_155 rfl ?_
  refine v_gr 0 fX7_65 dX7_doAct_156 rfl rfl rfl Nat.zero_lt_one ?_
  refine v_iload_n dX7_doAct_159 rfl ?_
  refine m_iald y (by decide) rfl dX7_doAct_160 Nat.zero_lt_one rfl hy ?_
  refine m_iast t (by decide) rfl dX7_doAct_161 Nat.zero_lt_one rfl ht24 ?_
  refine v_aload_n dX7_doAct_162 rfl ?_
  refine v_iload_n dX7_doAct_163 rfl ?_
  refine v_call1n lX7_157 kX7_taken (c_X7_taken (T := T) hy (by exact Z) (by exact hr)) dX7_doAct_164 rfl rfl Nat.zero_lt_one rfl (by decide) (by decide) (st8 rfl) ?_
  exact v_vret dX7_doAct_167 ⟨rfl, by unfold mTake; rw [nv_nI (by omega), if_neg hf]; rfl⟩
set_option maxHeartbeats 4000000 in
set_option maxRecDepth 100000 in
theorem c_X7_act2w0 {a b : tH} {T : Nat} {t p n y : Nat} (hy : y < 8) (ht : t < T) {ρ : Option Nat} {L : List Nat} (Z : IQ b ρ T L) (I : IH b T) (hr : ∀ r, ρ = some r → b.1 24 0 r = 0) (ep : b.1 25 0 t = nI p) (en : b.1 26 0 t = nI n) (hk : 20 * p + n < 240) (ex : b.1 23 0 (20 * p + n) = nI y) (ek : b.1 22 0 (20 * p + n) = 2) (hf : b.1 40 0 y = 0) (hp : b.1 31 0 t = 0) : Cn yX7_doAct cX7_doAct 4 5 [.inr (some (20, 0)), .inl (nI t)] (mix a b) (mix a (mRead b T t (nI y))) := by
  have hT24 := Z.2.1
  have ht24 : t < 24 := by omega
  refine Ct.of (by decide) [_, _, _, _] rfl (Nat.le_of_ble_eq_true rfl) ?_
  refine v_bipush 20 dX7_doAct_0 (by decide) ?_
  refine v_aload_n dX7_doAct_2 rfl ?_
  refine v_gr 0 fX7_22 dX7_doAct_3 rfl rfl rfl Nat.zero_lt_one ?_
  refine v_iload_n dX7_doAct_6 rfl ?_
  refine m_ialk t ep (by decide) rfl dX7_doAct_7 Nat.zero_lt_one rfl ht24 ?_
  refine v_imul dX7_doAct_8 ?_
  refine v_aload_n dX7_doAct_9 rfl ?_
  refine v_gr 0 fX7_25 dX7_doAct_10 rfl rfl rfl Nat.zero_lt_one ?_
  refine v_iload_n dX7_doAct_13 rfl ?_
  refine m_ialk t en (by decide) rfl dX7_doAct_14 Nat.zero_lt_one rfl ht24 ?_
  refine v_iadd dX7_doAct_15 ?_
  rw [show (20 : Int32) = nI 20 from rfl, pk_mul, nI_add]
  refine v_istore_n [_, _, _, _] dX7_doAct_16 rfl (by decide) ?_
  refine v_aload_n dX7_doAct_17 rfl ?_
  refine v_gr 0 fX7_16 dX7_doAct_18 rfl rfl rfl Nat.zero_lt_one ?_
  refine v_iload_n dX7_doAct_21 rfl ?_
  refine m_ialk (20 * p + n) ex (by decide) rfl dX7_doAct_22 Nat.zero_lt_one rfl hk ?_
  refine v_istore_n [_, _, _, _] dX7_doAct_23 rfl (by decide) ?_
  refine v_aload_n dX7_doAct_24 rfl ?_
  refine v_gr 0 fX7_13 dX7_doAct_25 rfl rfl rfl Nat.zero_lt_one ?_
  refine v_iload_n dX7_doAct_28 rfl ?_
  refine m_ialk (20 * p + n) ek (by decide) rfl dX7_doAct_29 Nat.zero_lt_one rfl hk ?_
  refine v_tsIn (off := 138) 168 2 dX7_doAct_30 rfl (by decide) (by decide) (by decide) (by decide) ?_
  refine v_aload_n dX7_doAct_168 rfl ?_
  refine v_gr 0 fX7_68 dX7_doAct_169 rfl rfl rfl Nat.zero_lt_one ?_
  refine v_iload_n dX7_doAct_172 rfl ?_
  refine m_zald y (by decide) rfl dX7_doAct_173 Nat.zero_lt_one rfl hy ?_
  refine v_if_ne 185 dX7_doAct_174 (by decide) (fun h_174 => absurd hf h_174) (fun h_174 => ?_)
  refine v_aload_n dX7_doAct_177 rfl ?_
  refine v_iload_n dX7_doAct_178 rfl ?_
  refine v_iload_n dX7_doAct_179 rfl ?_
  refine v_iconst 3 dX7_doAct_180 (by decide) ?_
  refine v_call3n lX7_153 kX7_waitAt (c_X7_waitAt0 (T := T) ht Z hp) dX7_doAct_181 rfl rfl Nat.zero_lt_one rfl (by decide) (by decide) (st8 rfl) ?_
  exact v_vret dX7_doAct_184 ⟨rfl, by unfold mRead; rw [nv_nI (by omega), if_pos hf]⟩
set_option maxHeartbeats 4000000 in
set_option maxRecDepth 100000 in
theorem c_X7_act2w1 {a b : tH} {T : Nat} {t p n y : Nat} (hy : y < 8) (ht : t < T) {ρ : Option Nat} {L : List Nat} (Z : IQ b ρ T L) (I : IH b T) (hr : ∀ r, ρ = some r → b.1 24 0 r = 0) (ep : b.1 25 0 t = nI p) (en : b.1 26 0 t = nI n) (hk : 20 * p + n < 240) (ex : b.1 23 0 (20 * p + n) = nI y) (ek : b.1 22 0 (20 * p + n) = 2) (hf : b.1 40 0 y = 0) {pc : Nat} (hp : b.1 31 0 t = nI (pc + 1)) (h4p : pc < 4) : Cn yX7_doAct cX7_doAct 4 5 [.inr (some (20, 0)), .inl (nI t)] (mix a b) (mix a (mRead b T t (nI y))) := by
  have hT24 := Z.2.1
  have ht24 : t < 24 := by omega
  refine Ct.of (by decide) [_, _, _, _] rfl (Nat.le_of_ble_eq_true rfl) ?_
  refine v_bipush 20 dX7_doAct_0 (by decide) ?_
  refine v_aload_n dX7_doAct_2 rfl ?_
  refine v_gr 0 fX7_22 dX7_doAct_3 rfl rfl rfl Nat.zero_lt_one ?_
  refine v_iload_n dX7_doAct_6 rfl ?_
  refine m_ialk t ep (by decide) rfl dX7_doAct_7 Nat.zero_lt_one rfl ht24 ?_
  refine v_imul dX7_doAct_8 ?_
  refine v_aload_n dX7_doAct_9 rfl ?_
  refine v_gr 0 fX7_25 dX7_doAct_10 rfl rfl rfl Nat.zero_lt_one ?_
  refine v_iload_n dX7_doAct_13 rfl ?_
  refine m_ialk t en (by decide) rfl dX7_doAct_14 Nat.zero_lt_one rfl ht24 ?_
  refine v_iadd dX7_doAct_15 ?_
  rw [show (20 : Int32) = nI 20 from rfl, pk_mul, nI_add]
  refine v_istore_n [_, _, _, _] dX7_doAct_16 rfl (by decide) ?_
  refine v_aload_n dX7_doAct_17 rfl ?_
  refine v_gr 0 fX7_16 dX7_doAct_18 rfl rfl rfl Nat.zero_lt_one ?_
  refine v_iload_n dX7_doAct_21 rfl ?_
  refine m_ialk (20 * p + n) ex (by decide) rfl dX7_doAct_22 Nat.zero_lt_one rfl hk ?_
  refine v_istore_n [_, _, _, _] dX7_doAct_23 rfl (by decide) ?_
  refine v_aload_n dX7_doAct_24 rfl ?_
  refine v_gr 0 fX7_13 dX7_doAct_25 rfl rfl rfl Nat.zero_lt_one ?_
  refine v_iload_n dX7_doAct_28 rfl ?_
  refine m_ialk (20 * p + n) ek (by decide) rfl dX7_doAct_29 Nat.zero_lt_one rfl hk ?_
  refine v_tsIn (off := 138) 168 2 dX7_doAct_30 rfl (by decide) (by decide) (by decide) (by decide) ?_
  refine v_aload_n dX7_doAct_168 rfl ?_
  refine v_gr 0 fX7_68 dX7_doAct_169 rfl rfl rfl Nat.zero_lt_one ?_
  refine v_iload_n dX7_doAct_172 rfl ?_
  refine m_zald y (by decide) rfl dX7_doAct_173 Nat.zero_lt_one rfl hy ?_
  refine v_if_ne 185 dX7_doAct_174 (by decide) (fun h_174 => absurd hf h_174) (fun h_174 => ?_)
  refine v_aload_n dX7_doAct_177 rfl ?_
  refine v_iload_n dX7_doAct_178 rfl ?_
  refine v_iload_n dX7_doAct_179 rfl ?_
  refine v_iconst 3 dX7_doAct_180 (by decide) ?_
  refine v_call3n lX7_153 kX7_waitAt (c_X7_waitAt1 (T := T) ht Z (by obtain ⟨hc, _, h4, _, e1, _⟩ := I t ht; exact ⟨hc, h4, e1⟩) hp h4p) dX7_doAct_181 rfl rfl Nat.zero_lt_one rfl (by decide) (by decide) (st8 rfl) ?_
  exact v_vret dX7_doAct_184 ⟨rfl, by unfold mRead; rw [nv_nI (by omega), if_pos hf]⟩
set_option maxHeartbeats 4000000 in
set_option maxRecDepth 100000 in
theorem c_X7_act2g {a b : tH} {T : Nat} {t p n y : Nat} (hy : y < 8) (ht : t < T) {ρ : Option Nat} {L : List Nat} (Z : IQ b ρ T L) (I : IH b T) (hr : ∀ r, ρ = some r → b.1 24 0 r = 0) (ep : b.1 25 0 t = nI p) (en : b.1 26 0 t = nI n) (hk : 20 * p + n < 240) (ex : b.1 23 0 (20 * p + n) = nI y) (ek : b.1 22 0 (20 * p + n) = 2) (hf : ¬ b.1 40 0 y = 0) : Cn yX7_doAct cX7_doAct 4 5 [.inr (some (20, 0)), .inl (nI t)] (mix a b) (mix a (mRead b T t (nI y))) := by
  have hT24 := Z.2.1
  have ht24 : t < 24 := by omega
  refine Ct.of (by decide) [_, _, _, _] rfl (Nat.le_of_ble_eq_true rfl) ?_
  refine v_bipush 20 dX7_doAct_0 (by decide) ?_
  refine v_aload_n dX7_doAct_2 rfl ?_
  refine v_gr 0 fX7_22 dX7_doAct_3 rfl rfl rfl Nat.zero_lt_one ?_
  refine v_iload_n dX7_doAct_6 rfl ?_
  refine m_ialk t ep (by decide) rfl dX7_doAct_7 Nat.zero_lt_one rfl ht24 ?_
  refine v_imul dX7_doAct_8 ?_
  refine v_aload_n dX7_doAct_9 rfl ?_
  refine v_gr 0 fX7_25 dX7_doAct_10 rfl rfl rfl Nat.zero_lt_one ?_
  refine v_iload_n dX7_doAct_13 rfl ?_
  refine m_ialk t en (by decide) rfl dX7_doAct_14 Nat.zero_lt_one rfl ht24 ?_
  refine v_iadd dX7_doAct_15 ?_
  rw [show (20 : Int32) = nI 20 from rfl, pk_mul, nI_add]
  refine v_istore_n [_, _, _, _] dX7_doAct_16 rfl (by decide) ?_
  refine v_aload_n dX7_doAct_17 rfl ?_
  refine v_gr 0 fX7_16 dX7_doAct_18 rfl rfl rfl Nat.zero_lt_one ?_
  refine v_iload_n dX7_doAct_21 rfl ?_
  refine m_ialk (20 * p + n) ex (by decide) rfl dX7_doAct_22 Nat.zero_lt_one rfl hk ?_
  refine v_istore_n [_, _, _, _] dX7_doAct_23 rfl (by decide) ?_
  refine v_aload_n dX7_doAct_24 rfl ?_
  refine v_gr 0 fX7_13 dX7_doAct_25 rfl rfl rfl Nat.zero_lt_one ?_
  refine v_iload_n dX7_doAct_28 rfl ?_
  refine m_ialk (20 * p + n) ek (by decide) rfl dX7_doAct_29 Nat.zero_lt_one rfl hk ?_
  refine v_tsIn (off := 138) 168 2 dX7_doAct_30 rfl (by decide) (by decide) (by decide) (by decide) ?_
  refine v_aload_n dX7_doAct_168 rfl ?_
  refine v_gr 0 fX7_68 dX7_doAct_169 rfl rfl rfl Nat.zero_lt_one ?_
  refine v_iload_n dX7_doAct_172 rfl ?_
  refine m_zald y (by decide) rfl dX7_doAct_173 Nat.zero_lt_one rfl hy ?_
  refine v_if_ne 185 dX7_doAct_174 (by decide) (fun h_174 => ?_) (fun h_174 => absurd h_174 hf)
  refine v_aload_n dX7_doAct_185 rfl ?_
  refine v_gr 0 fX7_25 dX7_doAct_186 rfl rfl rfl Nat.zero_lt_one ?_
  refine v_iload_n dX7_doAct_189 rfl ?_
  refine v_dup2 dX7_doAct_190 ?_
  refine m_iald t (by decide) rfl dX7_doAct_191 Nat.zero_lt_one rfl ht24 ?_
  refine v_iconst 1 dX7_doAct_192 (by decide) ?_
  refine v_iadd dX7_doAct_193 ?_
  refine m_iast t (by decide) rfl dX7_doAct_194 Nat.zero_lt_one rfl ht24 ?_
  refine v_aload_n dX7_doAct_195 rfl ?_
  refine v_gr 0 fX7_28 dX7_doAct_196 rfl rfl rfl Nat.zero_lt_one ?_
  refine v_iload_n dX7_doAct_199 rfl ?_
  refine v_aload_n dX7_doAct_200 rfl ?_
  refine v_gr 0 fX7_65 dX7_doAct_201 rfl rfl rfl Nat.zero_lt_one ?_
  refine v_iload_n dX7_doAct_204 rfl ?_
  refine m_iald y (by decide) rfl dX7_doAct_205 Nat.zero_lt_one rfl hy ?_
  refine m_iast t (by decide) rfl dX7_doAct_206 Nat.zero_lt_one rfl ht24 ?_
  exact v_vret dX7_doAct_207 ⟨rfl, by unfold mRead; rw [nv_nI (by omega), if_neg hf]; rfl⟩
def gdA (k x : Int32) : Prop := ∃ j, j ≤ 16 ∧ k = nI j ∧ (j ≤ 2 → ∃ y, y < 8 ∧ x = nI y)
set_option maxHeartbeats 4000000 in
theorem c_X7_doAct {a b : tH} {T t p n P rr : Nat} (ht : t < T) {ρ : Option Nat} {L : List Nat} (Z : IQ b ρ T L) (I : IH b T) (hr : ∀ r, ρ = some r → b.1 24 0 r = 0) (ep : b.1 25 0 t = nI p) (en : b.1 26 0 t = nI n) (hk : 20 * p + n < 240) (hg : gdA (b.1 22 0 (20 * p + n)) (b.1 23 0 (20 * p + n))) (eP : b.1 20 0 1 = nI P) (hrr : b.1 20 0 31 = nI rr) (h100 : rr ≤ 100) : Cn yX7_doAct cX7_doAct 4 5 [.inr (some (20, 0)), .inl (nI t)] (mix a b) (mix a (mAct b T t)) := by
  have e0 : mKx b t = 20 * p + n := by unfold mKx; rw [ep, en, nv_nI (by omega), nv_nI (by omega)]
  obtain ⟨j, hj, ej, hy⟩ := hg
  have e1 : mAct b T t = mDo j (b.1 23 0 (20 * p + n)) b T t := by unfold mAct; rw [e0, ej, nv_nI (by omega)]
  rw [e1]
  obtain ⟨hc, pc, h4, p4, c1, c2⟩ := I t ht
  rcases (show j = 0 ∨ j = 1 ∨ j = 2 ∨ j = 3 ∨ j = 4 ∨ j = 5 ∨ j = 6 ∨ j = 7 ∨ j = 8 ∨ j = 9 ∨ j = 10 ∨ j = 11 ∨ j = 12 ∨ j = 13 ∨ j = 14 ∨ j = 15 ∨ j = 16 by omega) with rfl | rfl | rfl | rfl | rfl | rfl | rfl | rfl | rfl | rfl | rfl | rfl | rfl | rfl | rfl | rfl | rfl
  · obtain ⟨y, hy, ey⟩ := hy (by omega)
    rw [ey]
    by_cases hf : b.1 40 0 y = 0
    · exact c_X7_act0g hy ht Z I hr ep en hk ey ej hf
    · cases pc with
      | zero => exact c_X7_act0w0 hy ht Z I hr ep en hk ey ej hf c2
      | succ pc => exact c_X7_act0w1 hy ht Z I hr ep en hk ey ej hf c2 (by omega)
  · obtain ⟨y, hy, ey⟩ := hy (by omega)
    rw [ey]
    by_cases hf : b.1 40 0 y = 0
    · cases pc with
      | zero => exact c_X7_act1w0 hy ht Z I hr ep en hk ey ej hf c2
      | succ pc => exact c_X7_act1w1 hy ht Z I hr ep en hk ey ej hf c2 (by omega)
    · exact c_X7_act1g hy ht Z I hr ep en hk ey ej hf
  · obtain ⟨y, hy, ey⟩ := hy (by omega)
    rw [ey]
    by_cases hf : b.1 40 0 y = 0
    · cases pc with
      | zero => exact c_X7_act2w0 hy ht Z I hr ep en hk ey ej hf c2
      | succ pc => exact c_X7_act2w1 hy ht Z I hr ep en hk ey ej hf c2 (by omega)
    · exact c_X7_act2g hy ht Z I hr ep en hk ey ej hf
  · exact c_X7_act3 ht Z I hr ep en hk rfl ej
  · exact c_X7_act4 ht Z I hr ep en hk rfl ej
  · exact c_X7_act5 ht Z I hr ep en hk rfl ej eP
  · exact c_X7_act6 ht Z I hr ep en hk rfl ej
  · cases pc with
    | zero => exact c_X7_act7a ht Z I hr ep en hk rfl ej c2
    | succ pc => exact c_X7_act7b ht Z I hr ep en hk rfl ej c2 (by omega)
  · exact c_X7_act8 ht Z I hr ep en hk rfl ej
  · exact c_X7_act9 ht Z I hr ep en hk rfl ej
  · exact c_X7_act10 ht Z I hr ep en hk rfl ej hrr h100
  · exact c_X7_act11 ht Z I hr ep en hk rfl ej
  · exact c_X7_act12 ht Z I hr ep en hk rfl ej
  · exact c_X7_act13 ht Z I hr ep en hk rfl ej h4 c1
  · exact c_X7_act14 ht Z I hr ep en hk rfl ej
  · exact c_X7_act15 ht Z I hr ep en hk rfl ej
  · exact c_X7_act16 ht Z I hr ep en hk rfl ej
