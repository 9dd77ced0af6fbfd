/-! The class's Run: acts -/
theorem xRmL_cnt {t : Nat} : ∀ (m n k : Nat) (a : tH), okq a → (∃ n', n' ≤ n + m ∧ (xRmL t m n k a).1 10 0 1 = nI n') ∧ okq (xRmL t m n k a) ∧ offL a (xRmL t m n k a)
  | 0, n, k, a, h => ⟨⟨n, Nat.le_refl _, put_eq⟩, h, fun c i k' hn => put_ne (fun z => hn z)⟩
  | m + 1, n, k, a, h => by
    unfold xRmL
    split
    · obtain ⟨⟨n', h1, h2⟩, h3, h4⟩ := xRmL_cnt (t := t) m n (k + 1) a h
      exact ⟨⟨n', by omega, h2⟩, h3, h4⟩
    · obtain ⟨⟨n', h1, h2⟩, h3, h4⟩ := xRmL_cnt (t := t) m (n + 1) (k + 1) (putq a n (a.2 k)) (okq_put h (h k))
      exact ⟨⟨n', by omega, h2⟩, h3, h4⟩
theorem xRemove_cnt {a : tH} {t q : Nat} (hq : a.1 10 0 1 = nI q) (h24 : q ≤ 24) (hok : okq a) : (∃ n', n' ≤ q ∧ (xRemove a t).1 10 0 1 = nI n') ∧ okq (xRemove a t) ∧ offL a (xRemove a t) := by
  unfold xRemove
  rw [hq, nv_nI (by omega)]
  obtain ⟨⟨n', h1, h2⟩, h3⟩ := xRmL_cnt (t := t) q 0 0 a hok
  exact ⟨⟨n', by omega, h2⟩, h3⟩
def xPend (a : tH) (u : Nat) (n : Int32) : tH := if 4 ≤ a.1 7 u 8 then a else put (put a 9 u (nv (a.1 7 u 8)) n) 7 u 8 (a.1 7 u 8 + 1)
def xThr (a : tH) (u t : Nat) (n : Int32) : tH := if a.1 7 u 3 < 5 then if u = t ∨ a.1 7 u 9 = 0 ∨ ¬ (a.1 7 u 3 < 1 ∨ 4 < a.1 7 u 3) then xRaise a u n else xPend a u n else a
def xTgt (a : tH) (t : Nat) : Option Nat := if a.1 7 t 6 < 0 then none else if a.1 18 0 5 ≤ a.1 7 t 6 then none else some (nv (a.1 7 t 6))
def xThrow (a : tH) (t : Nat) (n : Int32) : tH := match xTgt a t with
  | none => a
  | some u => xThr a u t n
def xNx (a : tH) (t : Nat) : tH := put a 7 t 5 (a.1 7 t 5 + 1)
def xWt (a : tH) (t : Nat) (s x : Int32) : tH := if a.1 7 t 8 = 0 then xPause a t s x else xRaise (xElde a t) t (a.1 9 t 0)
def xFork (a : tH) (T t : Nat) (x : Int32) : tH := if nI 24 ≤ a.1 18 0 5 ∨ x < 0 ∨ a.1 1 0 3 ≤ x then put a 7 t 6 (-1) else put (xStart a T x (a.1 7 t 6)) 7 t 6 (nI T)
def xLog (a : tH) (t : Nat) : tH := if 100 ≤ a.1 15 0 2 then a else put (put (put a 16 0 (nv (a.1 15 0 2)) (nI t)) 17 0 (nv (a.1 15 0 2)) (a.1 7 t 6)) 15 0 2 (a.1 15 0 2 + 1)
def xCatch (a : tH) (t : Nat) (x : Int32) : tH := if 4 ≤ a.1 7 t 7 then a else put (put a 8 t (nv (a.1 7 t 7)) x) 7 t 7 (a.1 7 t 7 + 1)
def xDrop (a : tH) (t : Nat) : tH := if a.1 7 t 7 ≤ 0 then a else put a 7 t 7 (a.1 7 t 7 - 1)
def xPf (j : Nat) (x : Int32) (a : tH) (T t : Nat) : tH := match j with
  | 0 => xBring a T (nv x) (a.1 7 t 6)
  | 1 => xTakeF a T t (nv x)
  | 2 => put a 7 t 6 (a.1 14 0 (nv x))
  | 3 => put a 7 t 6 x
  | 4 => put a 7 t 6 (a.1 7 t 6 + x)
  | 5 => xFork a T t x
  | 6 => a
  | 7 => a
  | 8 => put a 7 t 5 x
  | 9 => put a 7 t 5 (if a.1 7 t 6 = 0 then x else a.1 7 t 5)
  | 10 => xLog a t
  | 11 => xRaise a t x
  | 12 => xThrow a t x
  | 13 => xCatch a t x
  | 14 => xDrop a t
  | 15 => xMask a t (if x = 1 then 1 else 0)
  | _ => put a 7 t 6 (nI t)
def xSt (j : Nat) (x : Int32) (a : tH) : Int32 := match j with
  | 0 => if a.1 13 0 (nv x) = 0 then 0 else 1
  | 1 => if a.1 13 0 (nv x) = 0 then 2 else 0
  | 2 => if a.1 13 0 (nv x) = 0 then 3 else 0
  | 7 => 4
  | _ => 0
def xDo (j : Nat) (x : Int32) (a : tH) (T t : Nat) : tH := if xSt j x (xNx a t) = 0 then xPf j x (xNx a t) T t else xWt (xNx a t) t (xSt j x (xNx a t)) x
theorem xPf_0 {x : Int32} {a : tH} {T t : Nat} : xPf 0 x a T t = xBring a T (nv x) (a.1 7 t 6) := rfl
theorem xPf_1 {x : Int32} {a : tH} {T t : Nat} : xPf 1 x a T t = xTakeF a T t (nv x) := rfl
theorem xPf_2 {x : Int32} {a : tH} {T t : Nat} : xPf 2 x a T t = put a 7 t 6 (a.1 14 0 (nv x)) := rfl
theorem xPf_3 {x : Int32} {a : tH} {T t : Nat} : xPf 3 x a T t = put a 7 t 6 x := rfl
theorem xPf_4 {x : Int32} {a : tH} {T t : Nat} : xPf 4 x a T t = put a 7 t 6 (a.1 7 t 6 + x) := rfl
theorem xPf_5 {x : Int32} {a : tH} {T t : Nat} : xPf 5 x a T t = xFork a T t x := rfl
theorem xPf_6 {x : Int32} {a : tH} {T t : Nat} : xPf 6 x a T t = a := rfl
theorem xPf_7 {x : Int32} {a : tH} {T t : Nat} : xPf 7 x a T t = a := rfl
theorem xPf_8 {x : Int32} {a : tH} {T t : Nat} : xPf 8 x a T t = put a 7 t 5 x := rfl
theorem xPf_9 {x : Int32} {a : tH} {T t : Nat} : xPf 9 x a T t = put a 7 t 5 (if a.1 7 t 6 = 0 then x else a.1 7 t 5) := rfl
theorem xPf_10 {x : Int32} {a : tH} {T t : Nat} : xPf 10 x a T t = xLog a t := rfl
theorem xPf_11 {x : Int32} {a : tH} {T t : Nat} : xPf 11 x a T t = xRaise a t x := rfl
theorem xPf_12 {x : Int32} {a : tH} {T t : Nat} : xPf 12 x a T t = xThrow a t x := rfl
theorem xPf_13 {x : Int32} {a : tH} {T t : Nat} : xPf 13 x a T t = xCatch a t x := rfl
theorem xPf_14 {x : Int32} {a : tH} {T t : Nat} : xPf 14 x a T t = xDrop a t := rfl
theorem xPf_15 {x : Int32} {a : tH} {T t : Nat} : xPf 15 x a T t = xMask a t (if x = 1 then 1 else 0) := rfl
theorem xPf_16 {x : Int32} {a : tH} {T t : Nat} : xPf 16 x a T t = put a 7 t 6 (nI t) := rfl
theorem xSt_0 {x : Int32} {a : tH} : xSt 0 x a = if a.1 13 0 (nv x) = 0 then 0 else 1 := rfl
theorem xSt_1 {x : Int32} {a : tH} : xSt 1 x a = if a.1 13 0 (nv x) = 0 then 2 else 0 := rfl
theorem xSt_2 {x : Int32} {a : tH} : xSt 2 x a = if a.1 13 0 (nv x) = 0 then 3 else 0 := rfl
theorem xSt_7 {x : Int32} {a : tH} : xSt 7 x a = 4 := rfl
theorem xTgt_n {a : tH} {t : Nat} (ho : a.1 7 t 6 < 0 ∨ a.1 18 0 5 ≤ a.1 7 t 6) : xTgt a t = none := by
  unfold xTgt
  by_cases h : a.1 7 t 6 < 0
  · rw [if_pos h]
  · rw [if_neg h, if_pos (ho.elim (fun z => absurd z h) id)]
def XH (a : tH) (T : Nat) : Prop := ∀ t, t < T → ∃ hc pc, hc ≤ 4 ∧ pc ≤ 4 ∧ a.1 7 t 7 = nI hc ∧ a.1 7 t 8 = nI pc

set_option maxHeartbeats 4000000 in
set_option maxRecDepth 100000 in
theorem c_X5_throwTo0 {a b : tH} {t : Nat} {n : Int32} : Cn yX5_throwTo cX5_throwTo 4 2 [.inr (some (18, 0)), .inr none, .inr (some (7, t)), .inl n] (mix a b) (mix (a) b) := by
  refine Ct.of (by decide) [_, _, _, _] rfl (Nat.le_of_ble_eq_true rfl) ?_
  refine v_aload_n dX5_throwTo_0 rfl ?_
  refine v_ifnull 11 dX5_throwTo_1 (by decide) (fun h_1 => ?_) (fun q_1 h_1 => nomatch h_1)
  exact v_vret dX5_throwTo_11 ⟨rfl, rfl⟩
set_option maxHeartbeats 4000000 in
set_option maxRecDepth 100000 in
theorem c_X5_throwTo {a b : tH} {u t q : Nat} {n : Int32} (hu : u < 24) (ht : t < 24) (Ih : ∃ hc, hc ≤ 4 ∧ a.1 7 u 7 = nI hc) (Ip : ∃ pc, pc ≤ 4 ∧ a.1 7 u 8 = nI pc) (hq : a.1 10 0 1 = nI q) (h24 : q ≤ 24) (hq24 : ¬ (a.1 7 u 3 < 1 ∨ 4 < a.1 7 u 3) → q < 24) (hok : okq a) : Cn yX5_throwTo cX5_throwTo 4 2 [.inr (some (18, 0)), .inr (some (7, u)), .inr (some (7, t)), .inl n] (mix a b) (mix (xThr a u t n) b) := by
  refine Ct.of (by decide) [_, _, _, _] rfl (Nat.le_of_ble_eq_true rfl) ?_
  refine v_aload_n dX5_throwTo_0 rfl ?_
  refine v_ifnull 11 dX5_throwTo_1 (by decide) (fun h_1 => nomatch h_1) (fun q_1 h_1 => ?_)
  refine v_aload_n dX5_throwTo_4 rfl ?_
  refine v_call0i lX5_152 kX1_isDone (c_X1_isDone hu) dX5_throwTo_5 rfl rfl hu rfl (by decide) (by decide) (st8 rfl) ?_
  refine v_if_eq 12 dX5_throwTo_8 (by decide) (fun h_8 => ?_) (fun h_8 => ?_)
  · rw [i01] at h_8
    refine v_aload_n dX5_throwTo_12 rfl ?_
    refine v_aload_n dX5_throwTo_13 rfl ?_
    refine v_acmpeq 31 dX5_throwTo_14 (by decide) (fun z e => by cases e; exact hu) (fun z e => by cases e; exact ht) (fun h_14 => ?_) (fun h_14 => ?_)
    · have hut : u = t := by cases h_14; rfl
      refine v_aload_n dX5_throwTo_31 rfl ?_
      refine v_aload_n dX5_throwTo_32 rfl ?_
      refine v_iload_n dX5_throwTo_33 rfl ?_
      refine v_call2n lX5_148 kX5_raise (c_X5_raise hu Ih hq h24 hq24 hok) dX5_throwTo_34 rfl rfl Nat.zero_lt_one rfl (by decide) (by decide) (st8 rfl) ?_
      refine v_goto 45 dX5_throwTo_37 (by decide) ?_
      exact v_vret dX5_throwTo_45 ⟨rfl, by unfold xThr; first | (rw [if_neg h_8]; done) | (rw [if_pos h_8, if_pos (Or.inl hut)]; done) | (rw [if_pos h_8, if_pos (Or.inr (Or.inl h_21))]; done) | (rw [if_pos h_8, if_pos (Or.inr (Or.inr h_28))]; done) | exact congrArg (fun z => mix z b) ((show _ = xPend a u n by unfold xPend; rw [epc, nv_nI (by omega)]).trans (by rw [if_pos h_8, if_neg (fun z => z.elim hut (fun y => y.elim h_21 (fun w => w h_28)))]))⟩
    · have hut : ¬ u = t := fun e => h_14 (by rw [e])
      refine v_aload_n dX5_throwTo_17 rfl ?_
      refine x_gi (by decide) fX5_243 dX5_throwTo_18 rfl rfl hu ?_
      refine v_if_eq 31 dX5_throwTo_21 (by decide) (fun h_21 => ?_) (fun h_21 => ?_)
      · refine v_aload_n dX5_throwTo_31 rfl ?_
        refine v_aload_n dX5_throwTo_32 rfl ?_
        refine v_iload_n dX5_throwTo_33 rfl ?_
        refine v_call2n lX5_148 kX5_raise (c_X5_raise hu Ih hq h24 hq24 hok) dX5_throwTo_34 rfl rfl Nat.zero_lt_one rfl (by decide) (by decide) (st8 rfl) ?_
        refine v_goto 45 dX5_throwTo_37 (by decide) ?_
        exact v_vret dX5_throwTo_45 ⟨rfl, by unfold xThr; first | (rw [if_neg h_8]; done) | (rw [if_pos h_8, if_pos (Or.inl hut)]; done) | (rw [if_pos h_8, if_pos (Or.inr (Or.inl h_21))]; done) | (rw [if_pos h_8, if_pos (Or.inr (Or.inr h_28))]; done) | exact congrArg (fun z => mix z b) ((show _ = xPend a u n by unfold xPend; rw [epc, nv_nI (by omega)]).trans (by rw [if_pos h_8, if_neg (fun z => z.elim hut (fun y => y.elim h_21 (fun w => w h_28)))]))⟩
      · refine v_aload_n dX5_throwTo_24 rfl ?_
        refine v_call0i lX5_231 kX1_isAway (c_X1_isAway hu) dX5_throwTo_25 rfl rfl hu rfl (by decide) (by decide) (st8 rfl) ?_
        refine v_if_eq 40 dX5_throwTo_28 (by decide) (fun h_28 => ?_) (fun h_28 => ?_)
        · rw [i001] at h_28
          refine v_aload_n dX5_throwTo_40 rfl ?_
          refine v_iload_n dX5_throwTo_41 rfl ?_
          obtain ⟨pc, hpc, epc⟩ := Ip
          refine v_call1n lX5_246 kX1_addPending (c_X1_addPending hu epc hpc) dX5_throwTo_42 rfl rfl hu rfl (by decide) (by decide) (st8 rfl) ?_
          exact v_vret dX5_throwTo_45 ⟨rfl, by unfold xThr; first | (rw [if_neg h_8]; done) | (rw [if_pos h_8, if_pos (Or.inl hut)]; done) | (rw [if_pos h_8, if_pos (Or.inr (Or.inl h_21))]; done) | (rw [if_pos h_8, if_pos (Or.inr (Or.inr h_28))]; done) | exact congrArg (fun z => mix z b) ((show _ = xPend a u n by unfold xPend; rw [epc, nv_nI (by omega)]).trans (by rw [if_pos h_8, if_neg (fun z => z.elim hut (fun y => y.elim h_21 (fun w => w h_28)))]))⟩
        · rw [i001] at h_28
          refine v_aload_n dX5_throwTo_31 rfl ?_
          refine v_aload_n dX5_throwTo_32 rfl ?_
          refine v_iload_n dX5_throwTo_33 rfl ?_
          refine v_call2n lX5_148 kX5_raise (c_X5_raise hu Ih hq h24 hq24 hok) dX5_throwTo_34 rfl rfl Nat.zero_lt_one rfl (by decide) (by decide) (st8 rfl) ?_
          refine v_goto 45 dX5_throwTo_37 (by decide) ?_
          exact v_vret dX5_throwTo_45 ⟨rfl, by unfold xThr; first | (rw [if_neg h_8]; done) | (rw [if_pos h_8, if_pos (Or.inl hut)]; done) | (rw [if_pos h_8, if_pos (Or.inr (Or.inl h_21))]; done) | (rw [if_pos h_8, if_pos (Or.inr (Or.inr h_28))]; done) | exact congrArg (fun z => mix z b) ((show _ = xPend a u n by unfold xPend; rw [epc, nv_nI (by omega)]).trans (by rw [if_pos h_8, if_neg (fun z => z.elim hut (fun y => y.elim h_21 (fun w => w h_28)))]))⟩
  · rw [i01] at h_8
    exact v_vret dX5_throwTo_11 ⟨rfl, by unfold xThr; first | (rw [if_neg h_8]; done) | (rw [if_pos h_8, if_pos (Or.inl hut)]; done) | (rw [if_pos h_8, if_pos (Or.inr (Or.inl h_21))]; done) | (rw [if_pos h_8, if_pos (Or.inr (Or.inr h_28))]; done) | exact congrArg (fun z => mix z b) ((show _ = xPend a u n by unfold xPend; rw [epc, nv_nI (by omega)]).trans (by rw [if_pos h_8, if_neg (fun z => z.elim hut (fun y => y.elim h_21 (fun w => w h_28)))]))⟩
def MI (a : tH) (t : Nat) : Prop := (∃ hc, hc ≤ 4 ∧ a.1 7 t 7 = nI hc) ∧ (∃ pc, pc ≤ 4 ∧ a.1 7 t 8 = nI pc) ∧ (a.1 7 t 3 = 0 ∨ ¬ a.1 7 t 3 < 5) ∧ (∃ q, q ≤ 24 ∧ a.1 10 0 1 = nI q) ∧ okq a
theorem xElde_rd {a : tH} {t c i k : Nat} (h : ¬ (c = 9 ∧ i = t)) (h2 : ¬ (c = 7 ∧ i = t ∧ k = 8)) : (xElde a t).1 c i k = a.1 c i k := by
  unfold xElde
  rw [put_ne (by omega), put_ne (by omega), put_ne (by omega), put_ne (by omega)]
theorem MI.step {a : tH} {t pc : Nat} {n : Int32} (h : MI a t) (hp : a.1 7 t 8 = nI (pc + 1)) (h4 : pc < 4) (h0 : a.1 7 t 3 = 0) : MI (xRaise (xElde a t) t n) t := by
  obtain ⟨⟨hc, hc4, ehc⟩, -, -, ⟨q, q24, eq⟩, hok⟩ := h
  have e7 : (xElde a t).1 7 t 7 = nI hc := (xElde_rd (by omega) (by omega)).trans ehc
  have e8 : (xElde a t).1 7 t 8 = nI pc := by unfold xElde; rw [put_eq, hp, nv_nI (by omega)]; rfl
  have e3 : (xElde a t).1 7 t 3 = 0 := (xElde_rd (by omega) (by omega)).trans h0
  have eq1 : (xElde a t).1 10 0 1 = nI q := (xElde_rd (by omega) (by omega)).trans eq
  have hok1 : okq (xElde a t) := hok
  cases hc with
  | zero =>
    rw [xRaise_0 e7]
    obtain ⟨⟨n', g1, g2⟩, g3, g4⟩ := xRemove_cnt (a := xEndE (xElde a t) t n) (t := t) (q := q) eq1 q24 hok1
    refine ⟨⟨0, by omega, ?_⟩, ⟨pc, by omega, ?_⟩, Or.inr ?_, ⟨n', by omega, g2⟩, g3⟩
    · rw [g4 7 t 7 (by omega)]; unfold xEndE; rw [put_ne (by omega), put_ne (by omega)]; exact e7
    · rw [g4 7 t 8 (by omega)]; unfold xEndE; rw [put_ne (by omega), put_ne (by omega)]; exact e8
    · rw [g4 7 t 3 (by omega)]; unfold xEndE; rw [put_ne (by omega), put_eq]; decide
  | succ hc =>
    rw [xRaise_1 e7 (by omega), if_pos (Or.inl (by rw [e3]; decide))]
    refine ⟨⟨hc, by omega, ?_⟩, ⟨pc, by omega, ?_⟩, Or.inl ?_, ⟨q, q24, eq1⟩, hok1⟩
    · unfold xHnd; rw [put_ne (by omega), put_ne (by omega), put_eq]
    · unfold xHnd; rw [put_ne (by omega), put_ne (by omega), put_ne (by omega)]; exact e8
    · unfold xHnd; rw [put_ne (by omega), put_ne (by omega), put_ne (by omega)]; exact e3
set_option maxHeartbeats 4000000 in
set_option maxRecDepth 100000 in
theorem l_X5_mask {b : tH} {t : Nat} {z : Int32} (ht : t < 24) : ∀ (f k : Nat) (a : tH), 4 = k + f → MI a t → Vw yX5_mask.cls cX5_mask 4 none 2 (fun r h' => r = none ∧ h' = mix (xMkL t f a) b) 12 [some (.inr (some (18, 0))), some (.inr (some (7, t))), some (.inl z), some (.inl (nI k))] [] (mix a b) := by
  intro f
  induction f with
  | zero =>
    intro k a hk J
    obtain rfl : k = 4 := by omega
    refine v_iload_n dX5_mask_12 rfl ?_
    refine v_iconst 4 dX5_mask_13 (by decide) ?_
    refine v_icmp_ge 46 dX5_mask_14 (by decide) (fun h_14 => ?_) (fun h_14 => absurd (Int32.le_refl _) h_14)
    exact v_vret dX5_mask_46 ⟨rfl, rfl⟩
  | succ f ih =>
    intro k a hk J
    obtain ⟨pc, p4, ep⟩ := J.2.1
    obtain ⟨q, q24, eq⟩ := J.2.2.2.1
    by_cases hc : ¬ a.1 7 t 8 = 0 ∧ a.1 7 t 3 < 5
    · have e1 : xMkL t (f + 1) a = xMkL t f (xRaise (xElde a t) t (a.1 9 t 0)) := if_pos hc
      rw [e1]
      cases pc with
      | zero => exact absurd ep hc.1
      | succ pc =>
        have h0 : a.1 7 t 3 = 0 := J.2.2.1.elim id (fun z => absurd hc.2 z)
        have eE : xElde a t = put (put (put (put a 9 t 0 (a.1 9 t 1)) 9 t 1 (a.1 9 t 2)) 9 t 2 (a.1 9 t 3)) 7 t 8 (nI pc) := by unfold xElde; rw [ep, nv_nI (by omega)]; rfl
        have J2 := J.step (n := a.1 9 t 0) ep (by omega) h0
        have e3 : (xElde a t).1 7 t 3 = 0 := (xElde_rd (by omega) (by omega)).trans h0
        have e7 : (xElde a t).1 7 t 7 = a.1 7 t 7 := xElde_rd (by omega) (by omega)
        have eq1 : (xElde a t).1 10 0 1 = nI q := (xElde_rd (by omega) (by omega)).trans eq
        have cT : Ci yX1_takeEldest cX1_takeEldest 3 .int 0 [.inr (some (7, t))] (mix a b) (a.1 9 t 0) (mix (xElde a t) b) := by rw [eE]; exact c_X1_takeEldest ht ep (by omega)
        refine v_iload_n dX5_mask_12 rfl ?_
        refine v_iconst 4 dX5_mask_13 (by decide) ?_
        refine v_icmp_ge 46 dX5_mask_14 (by decide) (fun h_14 => absurd h_14 (nI_ge (b := 4) (by omega) (by decide))) (fun h_14 => ?_)
        refine v_aload_n dX5_mask_17 rfl ?_
        refine x_gk ep (by decide) fX5_161 dX5_mask_18 rfl rfl ht ?_
        refine v_if_le 46 dX5_mask_21 (by decide) (fun h_21 => absurd h_21 (nI_nle (by omega) (by omega))) (fun h_21 => ?_)
        refine v_aload_n dX5_mask_24 rfl ?_
        refine v_call0i lX5_152 kX1_isDone (c_X1_isDone ht) dX5_mask_25 rfl rfl ht rfl (by decide) (by decide) (st8 rfl) ?_
        refine v_if_ne 46 dX5_mask_28 (by decide) (fun h_28 => absurd (by rw [i01]; exact hc.2) h_28) (fun h_28 => ?_)
        refine v_aload_n dX5_mask_31 rfl ?_
        refine v_aload_n dX5_mask_32 rfl ?_
        refine v_aload_n dX5_mask_33 rfl ?_
        refine v_call0i lX5_164 kX1_takeEldest (cT) dX5_mask_34 rfl rfl ht rfl (by decide) (by decide) (st8 rfl) ?_
        refine v_call2n lX5_148 kX5_raise (c_X5_raise (a := xElde a t) ht (by rw [e7]; exact J.1) eq1 q24 (fun z => absurd (Or.inl (by rw [e3]; decide)) z) J.2.2.2.2) dX5_mask_37 rfl rfl Nat.zero_lt_one rfl (by decide) (by decide) (st8 rfl) ?_
        refine v_iinc [_, _, _, _] dX5_mask_40 rfl (by first | exact inc1 _ | rfl) rfl (by decide) ?_
        refine v_goto 12 dX5_mask_43 (by decide) ?_
        exact ih (k + 1) _ (by omega) J2
    · have e1 : xMkL t (f + 1) a = a := if_neg hc
      rw [e1]
      refine v_iload_n dX5_mask_12 rfl ?_
      refine v_iconst 4 dX5_mask_13 (by decide) ?_
      refine v_icmp_ge 46 dX5_mask_14 (by decide) (fun h_14 => absurd h_14 (nI_ge (b := 4) (by omega) (by decide))) (fun h_14 => ?_)
      refine v_aload_n dX5_mask_17 rfl ?_
      refine x_gi (by decide) fX5_161 dX5_mask_18 rfl rfl ht ?_
      refine v_if_le 46 dX5_mask_21 (by decide) (fun h_21 => ?_) (fun h_21 => ?_)
      · exact v_vret dX5_mask_46 ⟨rfl, rfl⟩
      · have g21 : ¬ a.1 7 t 8 = 0 := fun z => h_21 (by rw [z]; exact Int32.le_refl 0)
        refine v_aload_n dX5_mask_24 rfl ?_
        refine v_call0i lX5_152 kX1_isDone (c_X1_isDone ht) dX5_mask_25 rfl rfl ht rfl (by decide) (by decide) (st8 rfl) ?_
        refine v_if_ne 46 dX5_mask_28 (by decide) (fun h_28 => ?_) (fun h_28 => absurd ⟨g21, (by rw [i01] at h_28; exact h_28)⟩ hc)
        exact v_vret dX5_mask_46 ⟨rfl, rfl⟩
set_option maxHeartbeats 4000000 in
set_option maxRecDepth 100000 in
theorem c_X5_mask {a b : tH} {t : Nat} {z : Int32} (ht : t < 24) (hz : z = 0 ∨ z = 1) (J : MI a t) : Cn yX5_mask cX5_mask 4 2 [.inr (some (18, 0)), .inr (some (7, t)), .inl z] (mix a b) (mix (xMask a t z) b) := by
  refine Ct.of (by decide) [_, _, _, _] rfl (Nat.le_of_ble_eq_true rfl) ?_
  refine v_aload_n dX5_mask_0 rfl ?_
  refine v_iload_n dX5_mask_1 rfl ?_
  refine x_pz (by decide) fX5_243 dX5_mask_2 rfl rfl ht hz ?_
  refine v_iload_n dX5_mask_5 rfl ?_
  refine v_if_eq 10 dX5_mask_6 (by decide) (fun h_6 => ?_) (fun h_6 => ?_)
  · refine v_iconst 0 dX5_mask_10 (by decide) ?_
    refine v_istore_n [_, _, _, _] dX5_mask_11 rfl (by decide) ?_
    have e1 : xMask a t z = xMkL t 4 (put a 7 t 9 z) := if_pos h_6
    rw [e1]
    refine l_X5_mask (z := z) ht 4 0 _ (by omega) ?_
    exact ⟨J.1.elim fun hc e => ⟨hc, e.1, (put_ne (by omega)).trans e.2⟩, J.2.1.elim fun pc e => ⟨pc, e.1, (put_ne (by omega)).trans e.2⟩, by rw [put_ne (by omega)]; exact J.2.2.1, J.2.2.2.1, J.2.2.2.2⟩
  · exact v_vret dX5_mask_9 ⟨rfl, by unfold xMask; rw [if_neg h_6]⟩
set_option maxHeartbeats 4000000 in
set_option maxRecDepth 100000 in
theorem c_X5_stAf0 {a b : tH} {y : Nat} (hy : y < 8) : Ci yX5_stateAfter cX5_stateAfter 3 .int 2 [.inr (some (18, 0)), .inl 0, .inl (nI y)] (mix a b) (xSt 0 (nI y) a) (mix (a) b) := by
  refine Ct.of (by decide) [_, _, _] rfl (Nat.le_of_ble_eq_true rfl) ?_
  refine v_iload_n dX5_stateAfter_0 rfl ?_
  refine v_tsIn (off := 47) 48 0 dX5_stateAfter_1 rfl (by decide) (by decide) (by decide) (by decide) ?_
  refine v_aload_n dX5_stateAfter_48 rfl ?_
  refine v_gr 0 fX5_27 dX5_stateAfter_49 rfl rfl rfl Nat.zero_lt_one ?_
  refine v_iload_n dX5_stateAfter_52 rfl ?_
  refine v_call1i lX5_170 kX0_isFull (c_X0_isFull hy) dX5_stateAfter_53 rfl rfl Nat.zero_lt_one rfl (by decide) (by decide) (st8 rfl) ?_
  refine v_if_eq 63 dX5_stateAfter_56 (by decide) (fun h_56 => ?_) (fun h_56 => ?_)
  · rw [i01] at h_56
    refine v_iconst 0 dX5_stateAfter_63 (by decide) ?_
    exact v_iret dX5_stateAfter_64 ⟨congrArg (fun z : Int32 => some (Sum.inl z : tV)) (by rw [xSt_0, nv_nI (by omega)]; first | (rw [if_pos h_56]; done) | (rw [if_neg h_56])), rfl⟩
  · rw [i01] at h_56
    refine v_iconst 1 dX5_stateAfter_59 (by decide) ?_
    refine v_goto 64 dX5_stateAfter_60 (by decide) ?_
    exact v_iret dX5_stateAfter_64 ⟨congrArg (fun z : Int32 => some (Sum.inl z : tV)) (by rw [xSt_0, nv_nI (by omega)]; first | (rw [if_pos h_56]; done) | (rw [if_neg h_56])), rfl⟩
set_option maxHeartbeats 4000000 in
set_option maxRecDepth 100000 in
theorem c_X5_stAf1 {a b : tH} {y : Nat} (hy : y < 8) : Ci yX5_stateAfter cX5_stateAfter 3 .int 2 [.inr (some (18, 0)), .inl 1, .inl (nI y)] (mix a b) (xSt 1 (nI y) a) (mix (a) b) := by
  refine Ct.of (by decide) [_, _, _] rfl (Nat.le_of_ble_eq_true rfl) ?_
  refine v_iload_n dX5_stateAfter_0 rfl ?_
  refine v_tsIn (off := 64) 65 1 dX5_stateAfter_1 rfl (by decide) (by decide) (by decide) (by decide) ?_
  refine v_aload_n dX5_stateAfter_65 rfl ?_
  refine v_gr 0 fX5_27 dX5_stateAfter_66 rfl rfl rfl Nat.zero_lt_one ?_
  refine v_iload_n dX5_stateAfter_69 rfl ?_
  refine v_call1i lX5_170 kX0_isFull (c_X0_isFull hy) dX5_stateAfter_70 rfl rfl Nat.zero_lt_one rfl (by decide) (by decide) (st8 rfl) ?_
  refine v_if_eq 80 dX5_stateAfter_73 (by decide) (fun h_73 => ?_) (fun h_73 => ?_)
  · rw [i01] at h_73
    refine v_iconst 2 dX5_stateAfter_80 (by decide) ?_
    exact v_iret dX5_stateAfter_81 ⟨congrArg (fun z : Int32 => some (Sum.inl z : tV)) (by rw [xSt_1, nv_nI (by omega)]; first | (rw [if_pos h_73]; done) | (rw [if_neg h_73])), rfl⟩
  · rw [i01] at h_73
    refine v_iconst 0 dX5_stateAfter_76 (by decide) ?_
    refine v_goto 81 dX5_stateAfter_77 (by decide) ?_
    exact v_iret dX5_stateAfter_81 ⟨congrArg (fun z : Int32 => some (Sum.inl z : tV)) (by rw [xSt_1, nv_nI (by omega)]; first | (rw [if_pos h_73]; done) | (rw [if_neg h_73])), rfl⟩
set_option maxHeartbeats 4000000 in
set_option maxRecDepth 100000 in
theorem c_X5_stAf2 {a b : tH} {y : Nat} (hy : y < 8) : Ci yX5_stateAfter cX5_stateAfter 3 .int 2 [.inr (some (18, 0)), .inl 2, .inl (nI y)] (mix a b) (xSt 2 (nI y) a) (mix (a) b) := by
  refine Ct.of (by decide) [_, _, _] rfl (Nat.le_of_ble_eq_true rfl) ?_
  refine v_iload_n dX5_stateAfter_0 rfl ?_
  refine v_tsIn (off := 81) 82 2 dX5_stateAfter_1 rfl (by decide) (by decide) (by decide) (by decide) ?_
  refine v_aload_n dX5_stateAfter_82 rfl ?_
  refine v_gr 0 fX5_27 dX5_stateAfter_83 rfl rfl rfl Nat.zero_lt_one ?_
  refine v_iload_n dX5_stateAfter_86 rfl ?_
  refine v_call1i lX5_170 kX0_isFull (c_X0_isFull hy) dX5_stateAfter_87 rfl rfl Nat.zero_lt_one rfl (by decide) (by decide) (st8 rfl) ?_
  refine v_if_eq 97 dX5_stateAfter_90 (by decide) (fun h_90 => ?_) (fun h_90 => ?_)
  · rw [i01] at h_90
    refine v_iconst 3 dX5_stateAfter_97 (by decide) ?_
    exact v_iret dX5_stateAfter_98 ⟨congrArg (fun z : Int32 => some (Sum.inl z : tV)) (by rw [xSt_2, nv_nI (by omega)]; first | (rw [if_pos h_90]; done) | (rw [if_neg h_90])), rfl⟩
  · rw [i01] at h_90
    refine v_iconst 0 dX5_stateAfter_93 (by decide) ?_
    refine v_goto 98 dX5_stateAfter_94 (by decide) ?_
    exact v_iret dX5_stateAfter_98 ⟨congrArg (fun z : Int32 => some (Sum.inl z : tV)) (by rw [xSt_2, nv_nI (by omega)]; first | (rw [if_pos h_90]; done) | (rw [if_neg h_90])), rfl⟩
set_option maxHeartbeats 4000000 in
set_option maxRecDepth 100000 in
theorem c_X5_stAf3 {a b : tH} {x : Int32} : Ci yX5_stateAfter cX5_stateAfter 3 .int 2 [.inr (some (18, 0)), .inl 3, .inl x] (mix a b) (xSt 3 x a) (mix (a) b) := by
  refine Ct.of (by decide) [_, _, _] rfl (Nat.le_of_ble_eq_true rfl) ?_
  refine v_iload_n dX5_stateAfter_0 rfl ?_
  refine v_tsIn (off := 100) 101 3 dX5_stateAfter_1 rfl (by decide) (by decide) (by decide) (by decide) ?_
  refine v_iconst 0 dX5_stateAfter_101 (by decide) ?_
  exact v_iret dX5_stateAfter_102 ⟨rfl, rfl⟩
set_option maxHeartbeats 4000000 in
set_option maxRecDepth 100000 in
theorem c_X5_stAf4 {a b : tH} {x : Int32} : Ci yX5_stateAfter cX5_stateAfter 3 .int 2 [.inr (some (18, 0)), .inl 4, .inl x] (mix a b) (xSt 4 x a) (mix (a) b) := by
  refine Ct.of (by decide) [_, _, _] rfl (Nat.le_of_ble_eq_true rfl) ?_
  refine v_iload_n dX5_stateAfter_0 rfl ?_
  refine v_tsIn (off := 100) 101 4 dX5_stateAfter_1 rfl (by decide) (by decide) (by decide) (by decide) ?_
  refine v_iconst 0 dX5_stateAfter_101 (by decide) ?_
  exact v_iret dX5_stateAfter_102 ⟨rfl, rfl⟩
set_option maxHeartbeats 4000000 in
set_option maxRecDepth 100000 in
theorem c_X5_stAf5 {a b : tH} {x : Int32} : Ci yX5_stateAfter cX5_stateAfter 3 .int 2 [.inr (some (18, 0)), .inl 5, .inl x] (mix a b) (xSt 5 x a) (mix (a) b) := by
  refine Ct.of (by decide) [_, _, _] rfl (Nat.le_of_ble_eq_true rfl) ?_
  refine v_iload_n dX5_stateAfter_0 rfl ?_
  refine v_tsIn (off := 100) 101 5 dX5_stateAfter_1 rfl (by decide) (by decide) (by decide) (by decide) ?_
  refine v_iconst 0 dX5_stateAfter_101 (by decide) ?_
  exact v_iret dX5_stateAfter_102 ⟨rfl, rfl⟩
set_option maxHeartbeats 4000000 in
set_option maxRecDepth 100000 in
theorem c_X5_stAf6 {a b : tH} {x : Int32} : Ci yX5_stateAfter cX5_stateAfter 3 .int 2 [.inr (some (18, 0)), .inl 6, .inl x] (mix a b) (xSt 6 x a) (mix (a) b) := by
  refine Ct.of (by decide) [_, _, _] rfl (Nat.le_of_ble_eq_true rfl) ?_
  refine v_iload_n dX5_stateAfter_0 rfl ?_
  refine v_tsIn (off := 100) 101 6 dX5_stateAfter_1 rfl (by decide) (by decide) (by decide) (by decide) ?_
  refine v_iconst 0 dX5_stateAfter_101 (by decide) ?_
  exact v_iret dX5_stateAfter_102 ⟨rfl, rfl⟩
set_option maxHeartbeats 4000000 in
set_option maxRecDepth 100000 in
theorem c_X5_stAf7 {a b : tH} {x : Int32} : Ci yX5_stateAfter cX5_stateAfter 3 .int 2 [.inr (some (18, 0)), .inl 7, .inl x] (mix a b) (xSt 7 x a) (mix (a) b) := by
  refine Ct.of (by decide) [_, _, _] rfl (Nat.le_of_ble_eq_true rfl) ?_
  refine v_iload_n dX5_stateAfter_0 rfl ?_
  refine v_tsIn (off := 98) 99 7 dX5_stateAfter_1 rfl (by decide) (by decide) (by decide) (by decide) ?_
  refine v_iconst 4 dX5_stateAfter_99 (by decide) ?_
  exact v_iret dX5_stateAfter_100 ⟨rfl, rfl⟩
set_option maxHeartbeats 4000000 in
set_option maxRecDepth 100000 in
theorem c_X5_stAf8 {a b : tH} {x : Int32} : Ci yX5_stateAfter cX5_stateAfter 3 .int 2 [.inr (some (18, 0)), .inl 8, .inl x] (mix a b) (xSt 8 x a) (mix (a) b) := by
  refine Ct.of (by decide) [_, _, _] rfl (Nat.le_of_ble_eq_true rfl) ?_
  refine v_iload_n dX5_stateAfter_0 rfl ?_
  refine v_tsOut 101 dX5_stateAfter_1 (Or.inr (by decide)) (by decide) ?_
  refine v_iconst 0 dX5_stateAfter_101 (by decide) ?_
  exact v_iret dX5_stateAfter_102 ⟨rfl, rfl⟩
set_option maxHeartbeats 4000000 in
set_option maxRecDepth 100000 in
theorem c_X5_stAf9 {a b : tH} {x : Int32} : Ci yX5_stateAfter cX5_stateAfter 3 .int 2 [.inr (some (18, 0)), .inl 9, .inl x] (mix a b) (xSt 9 x a) (mix (a) b) := by
  refine Ct.of (by decide) [_, _, _] rfl (Nat.le_of_ble_eq_true rfl) ?_
  refine v_iload_n dX5_stateAfter_0 rfl ?_
  refine v_tsOut 101 dX5_stateAfter_1 (Or.inr (by decide)) (by decide) ?_
  refine v_iconst 0 dX5_stateAfter_101 (by decide) ?_
  exact v_iret dX5_stateAfter_102 ⟨rfl, rfl⟩
set_option maxHeartbeats 4000000 in
set_option maxRecDepth 100000 in
theorem c_X5_stAf10 {a b : tH} {x : Int32} : Ci yX5_stateAfter cX5_stateAfter 3 .int 2 [.inr (some (18, 0)), .inl 10, .inl x] (mix a b) (xSt 10 x a) (mix (a) b) := by
  refine Ct.of (by decide) [_, _, _] rfl (Nat.le_of_ble_eq_true rfl) ?_
  refine v_iload_n dX5_stateAfter_0 rfl ?_
  refine v_tsOut 101 dX5_stateAfter_1 (Or.inr (by decide)) (by decide) ?_
  refine v_iconst 0 dX5_stateAfter_101 (by decide) ?_
  exact v_iret dX5_stateAfter_102 ⟨rfl, rfl⟩
set_option maxHeartbeats 4000000 in
set_option maxRecDepth 100000 in
theorem c_X5_stAf11 {a b : tH} {x : Int32} : Ci yX5_stateAfter cX5_stateAfter 3 .int 2 [.inr (some (18, 0)), .inl 11, .inl x] (mix a b) (xSt 11 x a) (mix (a) b) := by
  refine Ct.of (by decide) [_, _, _] rfl (Nat.le_of_ble_eq_true rfl) ?_
  refine v_iload_n dX5_stateAfter_0 rfl ?_
  refine v_tsOut 101 dX5_stateAfter_1 (Or.inr (by decide)) (by decide) ?_
  refine v_iconst 0 dX5_stateAfter_101 (by decide) ?_
  exact v_iret dX5_stateAfter_102 ⟨rfl, rfl⟩
set_option maxHeartbeats 4000000 in
set_option maxRecDepth 100000 in
theorem c_X5_stAf12 {a b : tH} {x : Int32} : Ci yX5_stateAfter cX5_stateAfter 3 .int 2 [.inr (some (18, 0)), .inl 12, .inl x] (mix a b) (xSt 12 x a) (mix (a) b) := by
  refine Ct.of (by decide) [_, _, _] rfl (Nat.le_of_ble_eq_true rfl) ?_
  refine v_iload_n dX5_stateAfter_0 rfl ?_
  refine v_tsOut 101 dX5_stateAfter_1 (Or.inr (by decide)) (by decide) ?_
  refine v_iconst 0 dX5_stateAfter_101 (by decide) ?_
  exact v_iret dX5_stateAfter_102 ⟨rfl, rfl⟩
set_option maxHeartbeats 4000000 in
set_option maxRecDepth 100000 in
theorem c_X5_stAf13 {a b : tH} {x : Int32} : Ci yX5_stateAfter cX5_stateAfter 3 .int 2 [.inr (some (18, 0)), .inl 13, .inl x] (mix a b) (xSt 13 x a) (mix (a) b) := by
  refine Ct.of (by decide) [_, _, _] rfl (Nat.le_of_ble_eq_true rfl) ?_
  refine v_iload_n dX5_stateAfter_0 rfl ?_
  refine v_tsOut 101 dX5_stateAfter_1 (Or.inr (by decide)) (by decide) ?_
  refine v_iconst 0 dX5_stateAfter_101 (by decide) ?_
  exact v_iret dX5_stateAfter_102 ⟨rfl, rfl⟩
set_option maxHeartbeats 4000000 in
set_option maxRecDepth 100000 in
theorem c_X5_stAf14 {a b : tH} {x : Int32} : Ci yX5_stateAfter cX5_stateAfter 3 .int 2 [.inr (some (18, 0)), .inl 14, .inl x] (mix a b) (xSt 14 x a) (mix (a) b) := by
  refine Ct.of (by decide) [_, _, _] rfl (Nat.le_of_ble_eq_true rfl) ?_
  refine v_iload_n dX5_stateAfter_0 rfl ?_
  refine v_tsOut 101 dX5_stateAfter_1 (Or.inr (by decide)) (by decide) ?_
  refine v_iconst 0 dX5_stateAfter_101 (by decide) ?_
  exact v_iret dX5_stateAfter_102 ⟨rfl, rfl⟩
set_option maxHeartbeats 4000000 in
set_option maxRecDepth 100000 in
theorem c_X5_stAf15 {a b : tH} {x : Int32} : Ci yX5_stateAfter cX5_stateAfter 3 .int 2 [.inr (some (18, 0)), .inl 15, .inl x] (mix a b) (xSt 15 x a) (mix (a) b) := by
  refine Ct.of (by decide) [_, _, _] rfl (Nat.le_of_ble_eq_true rfl) ?_
  refine v_iload_n dX5_stateAfter_0 rfl ?_
  refine v_tsOut 101 dX5_stateAfter_1 (Or.inr (by decide)) (by decide) ?_
  refine v_iconst 0 dX5_stateAfter_101 (by decide) ?_
  exact v_iret dX5_stateAfter_102 ⟨rfl, rfl⟩
set_option maxHeartbeats 4000000 in
set_option maxRecDepth 100000 in
theorem c_X5_stAf16 {a b : tH} {x : Int32} : Ci yX5_stateAfter cX5_stateAfter 3 .int 2 [.inr (some (18, 0)), .inl 16, .inl x] (mix a b) (xSt 16 x a) (mix (a) b) := by
  refine Ct.of (by decide) [_, _, _] rfl (Nat.le_of_ble_eq_true rfl) ?_
  refine v_iload_n dX5_stateAfter_0 rfl ?_
  refine v_tsOut 101 dX5_stateAfter_1 (Or.inr (by decide)) (by decide) ?_
  refine v_iconst 0 dX5_stateAfter_101 (by decide) ?_
  exact v_iret dX5_stateAfter_102 ⟨rfl, rfl⟩
set_option maxHeartbeats 4000000 in
set_option maxRecDepth 100000 in
theorem c_X5_perf0 {a b : tH} {T : Nat} {t y : Nat} (hy : y < 8) (ht : t < 24) {ρ : Option Nat} {L : List Nat} (Z : XQ a ρ T L) (hr : ∀ r, ρ = some r → a.1 7 r 3 = 0) : Cn yX5_perform cX5_perform 4 3 [.inr (some (18, 0)), .inr (some (7, t)), .inl 0, .inl (nI y)] (mix a b) (mix (xPf 0 (nI y) a T t) b) := by
  refine Ct.of (by decide) [_, _, _, _] rfl (Nat.le_of_ble_eq_true rfl) ?_
  refine v_iload_n dX5_perform_0 rfl ?_
  refine v_tsIn (off := 83) 84 0 dX5_perform_1 rfl (by decide) (by decide) (by decide) (by decide) ?_
  refine v_aload_n dX5_perform_84 rfl ?_
  refine v_iload_n dX5_perform_85 rfl ?_
  refine v_aload_n dX5_perform_86 rfl ?_
  refine x_gi (by decide) fX5_180 dX5_perform_87 rfl rfl ht ?_
  refine v_call2n lX5_183 kX5_bring (c_X5_bring (T := T) hy Z hr) dX5_perform_90 rfl rfl Nat.zero_lt_one rfl (by decide) (by decide) (st8 rfl) ?_
  refine v_goto 275 dX5_perform_93 (by decide) ?_
  exact v_vret dX5_perform_275 ⟨rfl, by rw [xPf_0, nv_nI (by omega)]⟩
set_option maxHeartbeats 4000000 in
set_option maxRecDepth 100000 in
theorem c_X5_perf1 {a b : tH} {T : Nat} {t y : Nat} (hy : y < 8) (ht : t < 24) {ρ : Option Nat} {L : List Nat} (Z : XQ a ρ T L) : Cn yX5_perform cX5_perform 4 3 [.inr (some (18, 0)), .inr (some (7, t)), .inl 1, .inl (nI y)] (mix a b) (mix (xPf 1 (nI y) a T t) b) := by
  refine Ct.of (by decide) [_, _, _, _] rfl (Nat.le_of_ble_eq_true rfl) ?_
  refine v_iload_n dX5_perform_0 rfl ?_
  refine v_tsIn (off := 95) 96 1 dX5_perform_1 rfl (by decide) (by decide) (by decide) (by decide) ?_
  refine v_aload_n dX5_perform_96 rfl ?_
  refine v_iload_n dX5_perform_97 rfl ?_
  refine v_aload_n dX5_perform_98 rfl ?_
  refine v_call2n lX5_187 kX5_takeFrom (c_X5_takeFrom (T := T) hy ht Z) dX5_perform_99 rfl rfl Nat.zero_lt_one rfl (by decide) (by decide) (st8 rfl) ?_
  refine v_goto 275 dX5_perform_102 (by decide) ?_
  exact v_vret dX5_perform_275 ⟨rfl, by rw [xPf_1, nv_nI (by omega)]⟩
set_option maxHeartbeats 4000000 in
set_option maxRecDepth 100000 in
theorem c_X5_perf2 {a b : tH} {T : Nat} {t y : Nat} (hy : y < 8) (ht : t < 24) : Cn yX5_perform cX5_perform 4 3 [.inr (some (18, 0)), .inr (some (7, t)), .inl 2, .inl (nI y)] (mix a b) (mix (xPf 2 (nI y) a T t) b) := by
  refine Ct.of (by decide) [_, _, _, _] rfl (Nat.le_of_ble_eq_true rfl) ?_
  refine v_iload_n dX5_perform_0 rfl ?_
  refine v_tsIn (off := 104) 105 2 dX5_perform_1 rfl (by decide) (by decide) (by decide) (by decide) ?_
  refine v_aload_n dX5_perform_105 rfl ?_
  refine v_aload_n dX5_perform_106 rfl ?_
  refine v_gr 0 fX5_27 dX5_perform_107 rfl rfl rfl Nat.zero_lt_one ?_
  refine v_iload_n dX5_perform_110 rfl ?_
  refine v_call1i lX5_191 kX0_valueOf (c_X0_valueOf hy) dX5_perform_111 rfl rfl Nat.zero_lt_one rfl (by decide) (by decide) (st8 rfl) ?_
  refine x_pi (by decide) fX5_180 dX5_perform_114 rfl rfl ht ?_
  refine v_goto 275 dX5_perform_117 (by decide) ?_
  exact v_vret dX5_perform_275 ⟨rfl, by rw [xPf_2, nv_nI (by omega)]⟩
set_option maxHeartbeats 4000000 in
set_option maxRecDepth 100000 in
theorem c_X5_perf3 {a b : tH} {T : Nat} {t : Nat} {x : Int32} (ht : t < 24) : Cn yX5_perform cX5_perform 4 3 [.inr (some (18, 0)), .inr (some (7, t)), .inl 3, .inl (x)] (mix a b) (mix (xPf 3 (x) a T t) b) := by
  refine Ct.of (by decide) [_, _, _, _] rfl (Nat.le_of_ble_eq_true rfl) ?_
  refine v_iload_n dX5_perform_0 rfl ?_
  refine v_tsIn (off := 119) 120 3 dX5_perform_1 rfl (by decide) (by decide) (by decide) (by decide) ?_
  refine v_aload_n dX5_perform_120 rfl ?_
  refine v_iload_n dX5_perform_121 rfl ?_
  refine x_pi (by decide) fX5_180 dX5_perform_122 rfl rfl ht ?_
  refine v_goto 275 dX5_perform_125 (by decide) ?_
  exact v_vret dX5_perform_275 ⟨rfl, rfl⟩
set_option maxHeartbeats 4000000 in
set_option maxRecDepth 100000 in
theorem c_X5_perf4 {a b : tH} {T : Nat} {t : Nat} {x : Int32} (ht : t < 24) : Cn yX5_perform cX5_perform 4 3 [.inr (some (18, 0)), .inr (some (7, t)), .inl 4, .inl (x)] (mix a b) (mix (xPf 4 (x) a T t) b) := by
  refine Ct.of (by decide) [_, _, _, _] rfl (Nat.le_of_ble_eq_true rfl) ?_
  refine v_iload_n dX5_perform_0 rfl ?_
  refine v_tsIn (off := 127) 128 4 dX5_perform_1 rfl (by decide) (by decide) (by decide) (by decide) ?_
  refine v_aload_n dX5_perform_128 rfl ?_
  refine v_dup dX5_perform_129 ?_
  refine x_gi (by decide) fX5_180 dX5_perform_130 rfl rfl ht ?_
  refine v_iload_n dX5_perform_133 rfl ?_
  refine v_iadd dX5_perform_134 ?_
  refine x_pi (by decide) fX5_180 dX5_perform_135 rfl rfl ht ?_
  refine v_goto 275 dX5_perform_138 (by decide) ?_
  exact v_vret dX5_perform_275 ⟨rfl, rfl⟩
set_option maxHeartbeats 4000000 in
set_option maxRecDepth 100000 in
theorem c_X5_perf6 {a b : tH} {T : Nat} {t : Nat} {x : Int32} (ht : t < 24) : Cn yX5_perform cX5_perform 4 3 [.inr (some (18, 0)), .inr (some (7, t)), .inl 6, .inl (x)] (mix a b) (mix (xPf 6 (x) a T t) b) := by
  refine Ct.of (by decide) [_, _, _, _] rfl (Nat.le_of_ble_eq_true rfl) ?_
  refine v_iload_n dX5_perform_0 rfl ?_
  refine v_tsIn (off := 274) 275 6 dX5_perform_1 rfl (by decide) (by decide) (by decide) (by decide) ?_
  exact v_vret dX5_perform_275 ⟨rfl, rfl⟩
set_option maxHeartbeats 4000000 in
set_option maxRecDepth 100000 in
theorem c_X5_perf7 {a b : tH} {T : Nat} {t : Nat} {x : Int32} (ht : t < 24) : Cn yX5_perform cX5_perform 4 3 [.inr (some (18, 0)), .inr (some (7, t)), .inl 7, .inl (x)] (mix a b) (mix (xPf 7 (x) a T t) b) := by
  refine Ct.of (by decide) [_, _, _, _] rfl (Nat.le_of_ble_eq_true rfl) ?_
  refine v_iload_n dX5_perform_0 rfl ?_
  refine v_tsIn (off := 274) 275 7 dX5_perform_1 rfl (by decide) (by decide) (by decide) (by decide) ?_
  exact v_vret dX5_perform_275 ⟨rfl, rfl⟩
set_option maxHeartbeats 4000000 in
set_option maxRecDepth 100000 in
theorem c_X5_perf8 {a b : tH} {T : Nat} {t : Nat} {x : Int32} (ht : t < 24) : Cn yX5_perform cX5_perform 4 3 [.inr (some (18, 0)), .inr (some (7, t)), .inl 8, .inl (x)] (mix a b) (mix (xPf 8 (x) a T t) b) := by
  refine Ct.of (by decide) [_, _, _, _] rfl (Nat.le_of_ble_eq_true rfl) ?_
  refine v_iload_n dX5_perform_0 rfl ?_
  refine v_tsIn (off := 156) 157 8 dX5_perform_1 rfl (by decide) (by decide) (by decide) (by decide) ?_
  refine v_aload_n dX5_perform_157 rfl ?_
  refine v_iload_n dX5_perform_158 rfl ?_
  refine x_pi (by decide) fX5_97 dX5_perform_159 rfl rfl ht ?_
  refine v_goto 275 dX5_perform_162 (by decide) ?_
  exact v_vret dX5_perform_275 ⟨rfl, rfl⟩
set_option maxHeartbeats 4000000 in
set_option maxRecDepth 100000 in
theorem c_X5_perf9 {a b : tH} {T : Nat} {t : Nat} {x : Int32} (ht : t < 24) : Cn yX5_perform cX5_perform 4 3 [.inr (some (18, 0)), .inr (some (7, t)), .inl 9, .inl (x)] (mix a b) (mix (xPf 9 (x) a T t) b) := by
  refine Ct.of (by decide) [_, _, _, _] rfl (Nat.le_of_ble_eq_true rfl) ?_
  refine v_iload_n dX5_perform_0 rfl ?_
  refine v_tsIn (off := 164) 165 9 dX5_perform_1 rfl (by decide) (by decide) (by decide) (by decide) ?_
  refine v_aload_n dX5_perform_165 rfl ?_
  refine v_aload_n dX5_perform_166 rfl ?_
  refine x_gi (by decide) fX5_180 dX5_perform_167 rfl rfl ht ?_
  refine v_if_ne 177 dX5_perform_170 (by decide) (fun h_170 => ?_) (fun h_170 => ?_)
  · refine v_aload_n dX5_perform_177 rfl ?_
    refine x_gi (by decide) fX5_97 dX5_perform_178 rfl rfl ht ?_
    refine x_pi (by decide) fX5_97 dX5_perform_181 rfl rfl ht ?_
    refine v_goto 275 dX5_perform_184 (by decide) ?_
    exact v_vret dX5_perform_275 ⟨rfl, by rw [xPf_9]; first | (rw [if_pos h_170]; done) | (rw [if_neg h_170])⟩
  · refine v_iload_n dX5_perform_173 rfl ?_
    refine v_goto 181 dX5_perform_174 (by decide) ?_
    refine x_pi (by decide) fX5_97 dX5_perform_181 rfl rfl ht ?_
    refine v_goto 275 dX5_perform_184 (by decide) ?_
    exact v_vret dX5_perform_275 ⟨rfl, by rw [xPf_9]; first | (rw [if_pos h_170]; done) | (rw [if_neg h_170])⟩
set_option maxHeartbeats 4000000 in
set_option maxRecDepth 100000 in
theorem c_X5_perf10 {a b : tH} {T : Nat} {t : Nat} {x : Int32} (ht : t < 24) {rr : Nat} (hr : a.1 15 0 2 = nI rr) (h100 : rr ≤ 100) (hN : a.1 7 t 0 = nI t) : Cn yX5_perform cX5_perform 4 3 [.inr (some (18, 0)), .inr (some (7, t)), .inl 10, .inl (x)] (mix a b) (mix (xPf 10 (x) a T t) b) := by
  refine Ct.of (by decide) [_, _, _, _] rfl (Nat.le_of_ble_eq_true rfl) ?_
  refine v_iload_n dX5_perform_0 rfl ?_
  refine v_tsIn (off := 186) 187 10 dX5_perform_1 rfl (by decide) (by decide) (by decide) (by decide) ?_
  refine v_aload_n dX5_perform_187 rfl ?_
  refine v_gr 0 fX5_34 dX5_perform_188 rfl rfl rfl Nat.zero_lt_one ?_
  refine v_aload_n dX5_perform_191 rfl ?_
  refine x_gk hN (by decide) fX5_195 dX5_perform_192 rfl rfl ht ?_
  refine v_aload_n dX5_perform_195 rfl ?_
  refine x_gi (by decide) fX5_180 dX5_perform_196 rfl rfl ht ?_
  refine v_call2n lX5_198 kX4_add (c_X4_add hr h100) dX5_perform_199 rfl rfl Nat.zero_lt_one rfl (by decide) (by decide) (st8 rfl) ?_
  refine v_goto 275 dX5_perform_202 (by decide) ?_
  exact v_vret dX5_perform_275 ⟨rfl, by rw [xPf_10]; unfold xLog; rw [hr, nv_nI (by omega)]⟩
set_option maxHeartbeats 4000000 in
set_option maxRecDepth 100000 in
theorem c_X5_perf11 {a b : tH} {T : Nat} {t : Nat} {x : Int32} (ht : t < 24) {q : Nat} (Ih : ∃ hc, hc ≤ 4 ∧ a.1 7 t 7 = nI hc) (hq : a.1 10 0 1 = nI q) (h24 : q ≤ 24) (hq24 : ¬ (a.1 7 t 3 < 1 ∨ 4 < a.1 7 t 3) → q < 24) (hok : okq a) : Cn yX5_perform cX5_perform 4 3 [.inr (some (18, 0)), .inr (some (7, t)), .inl 11, .inl (x)] (mix a b) (mix (xPf 11 (x) a T t) b) := by
  refine Ct.of (by decide) [_, _, _, _] rfl (Nat.le_of_ble_eq_true rfl) ?_
  refine v_iload_n dX5_perform_0 rfl ?_
  refine v_tsIn (off := 204) 205 11 dX5_perform_1 rfl (by decide) (by decide) (by decide) (by decide) ?_
  refine v_aload_n dX5_perform_205 rfl ?_
  refine v_aload_n dX5_perform_206 rfl ?_
  refine v_iload_n dX5_perform_207 rfl ?_
  refine v_call2n lX5_148 kX5_raise (c_X5_raise ht Ih hq h24 hq24 hok) dX5_perform_208 rfl rfl Nat.zero_lt_one rfl (by decide) (by decide) (st8 rfl) ?_
  refine v_goto 275 dX5_perform_211 (by decide) ?_
  exact v_vret dX5_perform_275 ⟨rfl, rfl⟩
set_option maxHeartbeats 4000000 in
set_option maxRecDepth 100000 in
theorem c_X5_perf12n {a b : tH} {T : Nat} {t : Nat} {x : Int32} (ht : t < 24) (hT : a.1 18 0 5 = nI T) (hT24 : T ≤ 24) (ho : a.1 7 t 6 < 0 ∨ a.1 18 0 5 ≤ a.1 7 t 6) : Cn yX5_perform cX5_perform 4 3 [.inr (some (18, 0)), .inr (some (7, t)), .inl 12, .inl (x)] (mix a b) (mix (xPf 12 (x) a T t) b) := by
  refine Ct.of (by decide) [_, _, _, _] rfl (Nat.le_of_ble_eq_true rfl) ?_
  refine v_iload_n dX5_perform_0 rfl ?_
  refine v_tsIn (off := 213) 214 12 dX5_perform_1 rfl (by decide) (by decide) (by decide) (by decide) ?_
  refine v_aload_n dX5_perform_214 rfl ?_
  refine v_aload_n dX5_perform_215 rfl ?_
  refine v_aload_n dX5_perform_216 rfl ?_
  refine x_gi (by decide) fX5_180 dX5_perform_217 rfl rfl ht ?_
  refine v_call1r lX5_200 kX5_fiberAt (c_X5_fiberAt_out ho) dX5_perform_220 rfl rfl Nat.zero_lt_one rfl (by decide) (by decide) (st8 rfl) ?_
  refine v_aload_n dX5_perform_223 rfl ?_
  refine v_iload_n dX5_perform_224 rfl ?_
  refine v_call3n lX5_204 kX5_throwTo (c_X5_throwTo0) dX5_perform_225 rfl rfl Nat.zero_lt_one rfl (by decide) (by decide) (st8 rfl) ?_
  refine v_goto 275 dX5_perform_228 (by decide) ?_
  exact v_vret dX5_perform_275 ⟨rfl, by rw [xPf_12]; unfold xThrow; rw [xTgt_n ho]⟩
set_option maxHeartbeats 4000000 in
set_option maxRecDepth 100000 in
theorem c_X5_perf12s {a b : tH} {T : Nat} {t : Nat} {x : Int32} (ht : t < 24) {u q : Nat} (hT : a.1 18 0 5 = nI T) (hT24 : T ≤ 24) (hu : u < T) (eu : a.1 7 t 6 = nI u) (Ih : ∃ hc, hc ≤ 4 ∧ a.1 7 u 7 = nI hc) (Ip : ∃ pc, pc ≤ 4 ∧ a.1 7 u 8 = nI pc) (hq : a.1 10 0 1 = nI q) (h24 : q ≤ 24) (hq24 : ¬ (a.1 7 u 3 < 1 ∨ 4 < a.1 7 u 3) → q < 24) (hok : okq a) : Cn yX5_perform cX5_perform 4 3 [.inr (some (18, 0)), .inr (some (7, t)), .inl 12, .inl (x)] (mix a b) (mix (xPf 12 (x) a T t) b) := by
  refine Ct.of (by decide) [_, _, _, _] rfl (Nat.le_of_ble_eq_true rfl) ?_
  refine v_iload_n dX5_perform_0 rfl ?_
  refine v_tsIn (off := 213) 214 12 dX5_perform_1 rfl (by decide) (by decide) (by decide) (by decide) ?_
  refine v_aload_n dX5_perform_214 rfl ?_
  refine v_aload_n dX5_perform_215 rfl ?_
  refine v_aload_n dX5_perform_216 rfl ?_
  refine x_gk eu (by decide) fX5_180 dX5_perform_217 rfl rfl ht ?_
  refine v_call1r lX5_200 kX5_fiberAt (c_X5_fiberAt_in hT hu hT24) dX5_perform_220 rfl rfl Nat.zero_lt_one rfl (by decide) (by decide) (st8 rfl) ?_
  refine v_aload_n dX5_perform_223 rfl ?_
  refine v_iload_n dX5_perform_224 rfl ?_
  refine v_call3n lX5_204 kX5_throwTo (c_X5_throwTo (show u < 24 by omega) ht Ih Ip hq h24 hq24 hok) dX5_perform_225 rfl rfl Nat.zero_lt_one rfl (by decide) (by decide) (st8 rfl) ?_
  refine v_goto 275 dX5_perform_228 (by decide) ?_
  exact v_vret dX5_perform_275 ⟨rfl, by rw [xPf_12]; unfold xThrow; rw [show xTgt a t = some u by unfold xTgt; rw [eu, hT, if_neg (nI_pos (by omega)), if_neg (nI_ge hu (by omega)), nv_nI (by omega)]]⟩
set_option maxHeartbeats 4000000 in
set_option maxRecDepth 100000 in
theorem c_X5_perf13 {a b : tH} {T : Nat} {t : Nat} {x : Int32} (ht : t < 24) {hc : Nat} (h4 : hc ≤ 4) (e1 : a.1 7 t 7 = nI hc) : Cn yX5_perform cX5_perform 4 3 [.inr (some (18, 0)), .inr (some (7, t)), .inl 13, .inl (x)] (mix a b) (mix (xPf 13 (x) a T t) b) := by
  refine Ct.of (by decide) [_, _, _, _] rfl (Nat.le_of_ble_eq_true rfl) ?_
  refine v_iload_n dX5_perform_0 rfl ?_
  refine v_tsIn (off := 230) 231 13 dX5_perform_1 rfl (by decide) (by decide) (by decide) (by decide) ?_
  refine v_aload_n dX5_perform_231 rfl ?_
  refine v_iload_n dX5_perform_232 rfl ?_
  refine v_call1n lX5_208 kX1_addHandler (c_X1_addHandler ht e1 h4) dX5_perform_233 rfl rfl ht rfl (by decide) (by decide) (st8 rfl) ?_
  refine v_goto 275 dX5_perform_236 (by decide) ?_
  exact v_vret dX5_perform_275 ⟨rfl, by rw [xPf_13]; unfold xCatch; rw [e1, nv_nI (by omega)]⟩
set_option maxHeartbeats 4000000 in
set_option maxRecDepth 100000 in
theorem c_X5_perf14 {a b : tH} {T : Nat} {t : Nat} {x : Int32} (ht : t < 24) : Cn yX5_perform cX5_perform 4 3 [.inr (some (18, 0)), .inr (some (7, t)), .inl 14, .inl (x)] (mix a b) (mix (xPf 14 (x) a T t) b) := by
  refine Ct.of (by decide) [_, _, _, _] rfl (Nat.le_of_ble_eq_true rfl) ?_
  refine v_iload_n dX5_perform_0 rfl ?_
  refine v_tsIn (off := 238) 239 14 dX5_perform_1 rfl (by decide) (by decide) (by decide) (by decide) ?_
  refine v_aload_n dX5_perform_239 rfl ?_
  refine v_call0n lX5_211 kX1_dropHandler (c_X1_dropHandler ht) dX5_perform_240 rfl rfl ht rfl (by decide) (by decide) (st8 rfl) ?_
  refine v_goto 275 dX5_perform_243 (by decide) ?_
  exact v_vret dX5_perform_275 ⟨rfl, rfl⟩
set_option maxHeartbeats 4000000 in
set_option maxRecDepth 100000 in
theorem c_X5_perf15 {a b : tH} {T : Nat} {t : Nat} {x : Int32} (ht : t < 24) (J : MI a t) : Cn yX5_perform cX5_perform 4 3 [.inr (some (18, 0)), .inr (some (7, t)), .inl 15, .inl (x)] (mix a b) (mix (xPf 15 (x) a T t) b) := by
  refine Ct.of (by decide) [_, _, _, _] rfl (Nat.le_of_ble_eq_true rfl) ?_
  refine v_iload_n dX5_perform_0 rfl ?_
  refine v_tsIn (off := 245) 246 15 dX5_perform_1 rfl (by decide) (by decide) (by decide) (by decide) ?_
  refine v_aload_n dX5_perform_246 rfl ?_
  refine v_aload_n dX5_perform_247 rfl ?_
  refine v_iload_n dX5_perform_248 rfl ?_
  refine v_iconst 1 dX5_perform_249 (by decide) ?_
  refine v_icmp_ne 257 dX5_perform_250 (by decide) (fun h_250 => ?_) (fun h_250 => ?_)
  · refine v_iconst 0 dX5_perform_257 (by decide) ?_
    refine v_call2n lX5_214 kX5_mask (c_X5_mask ht (by decide) J) dX5_perform_258 rfl rfl Nat.zero_lt_one rfl (by decide) (by decide) (st8 rfl) ?_
    refine v_goto 275 dX5_perform_261 (by decide) ?_
    exact v_vret dX5_perform_275 ⟨rfl, by rw [xPf_15]; first | (rw [if_pos h_250]; done) | (rw [if_neg h_250])⟩
  · refine v_iconst 1 dX5_perform_253 (by decide) ?_
    refine v_goto 258 dX5_perform_254 (by decide) ?_
    refine v_call2n lX5_214 kX5_mask (c_X5_mask ht (by decide) J) dX5_perform_258 rfl rfl Nat.zero_lt_one rfl (by decide) (by decide) (st8 rfl) ?_
    refine v_goto 275 dX5_perform_261 (by decide) ?_
    exact v_vret dX5_perform_275 ⟨rfl, by rw [xPf_15]; first | (rw [if_pos h_250]; done) | (rw [if_neg h_250])⟩
set_option maxHeartbeats 4000000 in
set_option maxRecDepth 100000 in
theorem c_X5_perf16 {a b : tH} {T : Nat} {t : Nat} {x : Int32} (ht : t < 24) (hN : a.1 7 t 0 = nI t) : Cn yX5_perform cX5_perform 4 3 [.inr (some (18, 0)), .inr (some (7, t)), .inl 16, .inl (x)] (mix a b) (mix (xPf 16 (x) a T t) b) := by
  refine Ct.of (by decide) [_, _, _, _] rfl (Nat.le_of_ble_eq_true rfl) ?_
  refine v_iload_n dX5_perform_0 rfl ?_
  refine v_tsIn (off := 263) 264 16 dX5_perform_1 rfl (by decide) (by decide) (by decide) (by decide) ?_
  refine v_aload_n dX5_perform_264 rfl ?_
  refine v_aload_n dX5_perform_265 rfl ?_
  refine x_gk hN (by decide) fX5_195 dX5_perform_266 rfl rfl ht ?_
  refine x_pi (by decide) fX5_180 dX5_perform_269 rfl rfl ht ?_
  refine v_goto 275 dX5_perform_272 (by decide) ?_
  exact v_vret dX5_perform_275 ⟨rfl, rfl⟩
set_option maxHeartbeats 4000000 in
set_option maxRecDepth 100000 in
theorem c_X5_perf5n {a b : tH} {T : Nat} {t : Nat} {x : Int32} (ht : t < 24) (hx : nI 24 ≤ a.1 18 0 5 ∨ x < 0 ∨ a.1 1 0 3 ≤ x) : Cn yX5_perform cX5_perform 4 3 [.inr (some (18, 0)), .inr (some (7, t)), .inl 5, .inl (x)] (mix a b) (mix (xPf 5 (x) a T t) b) := by
  refine Ct.of (by decide) [_, _, _, _] rfl (Nat.le_of_ble_eq_true rfl) ?_
  refine v_iload_n dX5_perform_0 rfl ?_
  refine v_tsIn (off := 140) 141 5 dX5_perform_1 rfl (by decide) (by decide) (by decide) (by decide) ?_
  refine v_aload_n dX5_perform_141 rfl ?_
  refine v_aload_n dX5_perform_142 rfl ?_
  refine v_iload_n dX5_perform_143 rfl ?_
  refine v_aload_n dX5_perform_144 rfl ?_
  refine x_gi (by decide) fX5_180 dX5_perform_145 rfl rfl ht ?_
  refine v_call2i lX5_78 kX5_startFiber (c_X5_startFiber_no hx) dX5_perform_148 rfl rfl Nat.zero_lt_one rfl (by decide) (by decide) (st8 rfl) ?_
  refine x_pi (by decide) fX5_180 dX5_perform_151 rfl rfl ht ?_
  refine v_goto 275 dX5_perform_154 (by decide) ?_
  exact v_vret dX5_perform_275 ⟨rfl, by rw [xPf_5]; unfold xFork; rw [if_pos hx]⟩
set_option maxHeartbeats 4000000 in
set_option maxRecDepth 100000 in
theorem c_X5_perf5s {a b : tH} {T : Nat} {t p : Nat} (ht : t < 24) {P q : Nat} (hP : a.1 1 0 3 = nI P) (h12 : P ≤ 12) (hT : a.1 18 0 5 = nI T) (hp : p < P) (h24 : T < 24) (hq : a.1 10 0 1 = nI q) (hq24 : q < 24) (hN : a.1 7 T 0 = nI T) : Cn yX5_perform cX5_perform 4 3 [.inr (some (18, 0)), .inr (some (7, t)), .inl 5, .inl (nI p)] (mix a b) (mix (xPf 5 (nI p) a T t) b) := by
  refine Ct.of (by decide) [_, _, _, _] rfl (Nat.le_of_ble_eq_true rfl) ?_
  refine v_iload_n dX5_perform_0 rfl ?_
  refine v_tsIn (off := 140) 141 5 dX5_perform_1 rfl (by decide) (by decide) (by decide) (by decide) ?_
  refine v_aload_n dX5_perform_141 rfl ?_
  refine v_aload_n dX5_perform_142 rfl ?_
  refine v_iload_n dX5_perform_143 rfl ?_
  refine v_aload_n dX5_perform_144 rfl ?_
  refine x_gi (by decide) fX5_180 dX5_perform_145 rfl rfl ht ?_
  refine v_call2i lX5_78 kX5_startFiber (c_X5_startFiber_ok hP h12 hp hT h24 hq hq24 hN) dX5_perform_148 rfl rfl Nat.zero_lt_one rfl (by decide) (by decide) (st8 rfl) ?_
  refine x_pi (by decide) fX5_180 dX5_perform_151 rfl rfl ht ?_
  refine v_goto 275 dX5_perform_154 (by decide) ?_
  exact v_vret dX5_perform_275 ⟨rfl, by rw [xPf_5]; unfold xFork; rw [if_neg (fun z => z.elim (fun w => absurd w (by rw [hT]; exact nI_ge (b := 24) h24 (by decide))) (fun w => w.elim (nI_pos (by omega)) (fun y => absurd y (by rw [hP]; exact nI_ge hp (by omega)))))]⟩
