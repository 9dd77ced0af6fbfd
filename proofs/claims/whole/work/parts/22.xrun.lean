/-! The class's Run: queue, ends, exceptions, boxes, as its code says it -/
def xAdd (a : tH) (t : Nat) : tH := put (putq a (nv (a.1 10 0 1)) (some t)) 10 0 1 (a.1 10 0 1 + 1)
def xReady (a : tH) (t : Nat) : tH := xAdd (put a 7 t 3 0) t
def xReset (a : tH) (t : Nat) (x y : Int32) : tH := put (put (put (put (put (put (put (put (put a 7 t 3 0) 7 t 4 x) 7 t 5 0) 7 t 6 y) 7 t 7 0) 7 t 8 0) 7 t 9 0) 7 t 10 0) 7 t 11 0
def xStart (a : tH) (T : Nat) (x y : Int32) : tH := xAdd (xReset (put a 18 0 5 (nI (T + 1))) T x y) T
def xHnd (a : tH) (t : Nat) (n : Int32) (hc : Nat) : tH := put (put (put a 7 t 7 (nI hc)) 7 t 5 (a.1 8 t hc)) 7 t 6 n
def xEndE (a : tH) (t : Nat) (n : Int32) : tH := put (put a 7 t 3 6) 7 t 10 n
def xRaise (a : tH) (t : Nat) (n : Int32) : tH := match nv (a.1 7 t 7) with
  | 0 => xRemove (xEndE a t n) t
  | hc + 1 => if a.1 7 t 3 < 1 ∨ 4 < a.1 7 t 3 then xHnd a t n hc else xAdd (put (xHnd a t n hc) 7 t 3 0) t
theorem xRaise_0 {a : tH} {t : Nat} {n : Int32} (h : a.1 7 t 7 = 0) : xRaise a t n = xRemove (xEndE a t n) t := by unfold xRaise; rw [h]; rfl
theorem xRaise_1 {a : tH} {t hc : Nat} {n : Int32} (h : a.1 7 t 7 = nI (hc + 1)) (h4 : hc < 4) : xRaise a t n = if a.1 7 t 3 < 1 ∨ 4 < a.1 7 t 3 then xHnd a t n hc else xAdd (put (xHnd a t n hc) 7 t 3 0) t := by
  unfold xRaise; rw [h, nv_nI (by omega)]
def xClS (a : tH) (k : Nat) : tH := if a.1 7 k 3 < 5 then put a 7 k 3 7 else a
def xClL : Nat → Nat → tH → tH
  | 0, _, a => a
  | m + 1, k, a => xClL m (k + 1) (xClS a k)
def xClose (a : tH) (T : Nat) : tH := if a.1 18 0 7 = 0 ∧ ¬ a.1 7 0 3 < 5 then xClL (T - 1) 1 (put (put a 18 0 7 1) 10 0 1 0) else a
def xRd (T x : Nat) (v : Int32) : Nat → tH → tH
  | 0, a => a
  | f + 1, a => match xFirst a T (nI x) 3 with
    | none => a
    | some t => xRd T x v f (xReady (put a 7 t 6 v) t)
theorem xRd_none {T x f : Nat} {v : Int32} {a : tH} (h : xFirst a T (nI x) 3 = none) : xRd T x v f a = a := by
  cases f with
  | zero => rfl
  | succ f => unfold xRd; rw [h]
theorem xRd_some {T x f t : Nat} {v : Int32} {a : tH} (h : xFirst a T (nI x) 3 = some t) : xRd T x v (f + 1) a = xRd T x v f (xReady (put a 7 t 6 v) t) := by
  conv => lhs; unfold xRd
  rw [h]
def xCom2 (a : tH) (T x : Nat) (v : Int32) : tH := match xFirst a T (nI x) 2 with
  | none => put (put a 13 0 x 1) 14 0 x v
  | some t => xReady (put a 7 t 6 v) t
def xBring (a : tH) (T x : Nat) (v : Int32) : tH := xCom2 (xRd T x v 24 a) T x v
def xTkB (a : tH) (t x : Nat) : tH := put (put a 7 t 6 (a.1 14 0 x)) 13 0 x 0
def xTakeF (a : tH) (T t x : Nat) : tH := match xFirst (xTkB a t x) T (nI x) 1 with
  | none => xTkB a t x
  | some u => xReady (put (put (xTkB a t x) 13 0 x 1) 14 0 x ((xTkB a t x).1 7 u 6)) u
def xPause (a : tH) (t : Nat) (s x : Int32) : tH := if s = 4 then put (put a 7 t 3 s) 7 t 12 (a.1 18 0 9 + x) else put (put (put (put a 7 t 3 s) 7 t 13 x) 7 t 14 (a.1 18 0 12)) 18 0 12 (a.1 18 0 12 + 1)
def xElde (a : tH) (t : Nat) : tH := put (put (put (put a 9 t 0 (a.1 9 t 1)) 9 t 1 (a.1 9 t 2)) 9 t 2 (a.1 9 t 3)) 7 t 8 (nI (nv (a.1 7 t 8) - 1))
def xMkL (t : Nat) : Nat → tH → tH
  | 0, a => a
  | f + 1, a => if ¬ a.1 7 t 8 = 0 ∧ a.1 7 t 3 < 5 then xMkL t f (xRaise (xElde a t) t (a.1 9 t 0)) else a
def xMask (a : tH) (t : Nat) (z : Int32) : tH := if z = 0 then xMkL t 4 (put a 7 t 9 z) else put a 7 t 9 z
def XQ (a : tH) (ρ : Option Nat) (T : Nat) (L : List Nat) : Prop := a.1 18 0 5 = nI T ∧ T ≤ 24 ∧ a.1 10 0 1 = nI L.length ∧ (∀ j s, L[j]? = some s → a.2 j = some s) ∧ L.Nodup ∧ (∀ t ∈ L, t < T ∧ a.1 7 t 3 = 0 ∧ ρ ≠ some t) ∧ okq a
theorem XQ.len {a : tH} {ρ : Option Nat} {T : Nat} {L : List Nat} (h : XQ a ρ T L) : L.length ≤ 24 := Nat.le_trans (nodup_len T L h.2.2.2.2.1 (fun t ht => (h.2.2.2.2.2.1 t ht).1)) h.2.1
theorem XQ.notin {a : tH} {ρ : Option Nat} {T t : Nat} {L : List Nat} (h : XQ a ρ T L) (hs : a.1 7 t 3 ≠ 0) : t ∉ L := fun z => hs (h.2.2.2.2.2.1 t z).2.1
theorem XQ.lenn {a : tH} {ρ : Option Nat} {T t : Nat} {L : List Nat} (h : XQ a ρ T L) (ht : t < T) (hn : t ∉ L) : L.length < 24 := by
  have h1 := nodup_len T (L ++ [t]) (by
    refine List.nodup_append.mpr ⟨h.2.2.2.2.1, by simp, fun x hx y hy => ?_⟩
    simp at hy
    subst hy
    exact fun e => hn (by rw [← e]; exact hx)) (fun s hs => by
    rcases List.mem_append.mp hs with q | q
    · exact (h.2.2.2.2.2.1 s q).1
    · simp at q; rw [q]; exact ht)
  have h2 := h.2.1
  simp at h1
  omega
theorem XQ.slot {a : tH} {ρ : Option Nat} {T t k : Nat} {L : List Nat} {x : Int32} (h : XQ a ρ T L) (hk : k ≠ 3) : XQ (put a 7 t k x) ρ T L :=
  ⟨h.1, h.2.1, h.2.2.1, h.2.2.2.1, h.2.2.2.2.1, fun s hs => ⟨(h.2.2.2.2.2.1 s hs).1, (put_ne (by omega)).trans (h.2.2.2.2.2.1 s hs).2.1, (h.2.2.2.2.2.1 s hs).2.2⟩, h.2.2.2.2.2.2⟩
theorem XQ.ready {a : tH} {ρ : Option Nat} {T t : Nat} {L : List Nat} (h : XQ a ρ T L) (ht : t < T) (hn : t ∉ L) (hρ : ρ ≠ some t) : XQ (xReady a t) ρ T (L ++ [t]) := by
  have hl := h.len
  obtain ⟨h1, h2, h3, h4, h5, h6, h7⟩ := h
  have e0 : (put a 7 t 3 0).1 10 0 1 = nI L.length := h3
  unfold xReady xAdd
  rw [e0, nv_nI (by omega), nI_1]
  refine ⟨h1, h2, by rw [put_eq]; simp, fun j s hj => ?_, ?_, fun s hs => ?_, okq_put (a := put a 7 t 3 0) h7 (fun s e => by cases e; omega)⟩
  · show (if j = L.length then some t else a.2 j) = some s
    by_cases hjl : j = L.length
    · subst hjl
      simp at hj
      rw [if_pos rfl, hj]
    · rw [if_neg hjl]
      refine h4 j s ?_
      rcases Nat.lt_or_ge j L.length with q | q
      · rwa [List.getElem?_append_left q] at hj
      · rw [List.getElem?_append_right q] at hj
        have hz : j - L.length < 1 := (List.getElem?_eq_some_iff.mp hj).1
        omega
  · refine List.nodup_append.mpr ⟨h5, by simp, fun x hx y hy => ?_⟩
    simp at hy
    subst hy
    exact fun e => hn (by rw [← e]; exact hx)
  · rw [put_ne (by omega)]
    show s < T ∧ (put a 7 t 3 0).1 7 s 3 = 0 ∧ ρ ≠ some s
    rcases List.mem_append.mp hs with q | q
    · have := h6 s q
      refine ⟨this.1, ?_, this.2.2⟩
      by_cases e : s = t
      · rw [e, put_eq]
      · rw [put_ne (by omega)]; exact this.2.1
    · simp at q
      subst q
      exact ⟨ht, put_eq, hρ⟩
theorem xFirst_st {a : tH} {T t : Nat} {x w : Int32} (h : xFirst a T x w = some t) : t < T ∧ a.1 7 t 3 = w ∧ a.1 7 t 13 = x := by
  have h1 := mins_lt h
  have h2 := Bool.and_eq_true_iff.mp h1.2
  exact ⟨h1.1, of_decide_eq_true h2.1, of_decide_eq_true h2.2⟩
theorem xReady_st {a : tH} {t s : Nat} : (xReady a t).1 7 s 3 = if s = t then 0 else a.1 7 s 3 := by
  by_cases h : s = t <;> simp [xReady, xAdd, putq, put_rd, h]

set_option maxHeartbeats 4000000 in
set_option maxRecDepth 100000 in
theorem c_X5_makeReady {a b : tH} {t q : Nat} (ht : t < 24) (hq : a.1 10 0 1 = nI q) (h24 : q < 24) : Cn yX5_makeReady cX5_makeReady 2 1 [.inr (some (18, 0)), .inr (some (7, t))] (mix a b) (mix (xReady a t) b) := by
  refine Ct.of (by decide) [_, _] rfl (Nat.le_of_ble_eq_true rfl) ?_
  refine v_aload_n dX5_makeReady_0 rfl ?_
  refine v_iconst 0 dX5_makeReady_1 (by decide) ?_
  refine x_pi (by decide) fX5_91 dX5_makeReady_2 rfl rfl ht ?_
  refine v_aload_n dX5_makeReady_5 rfl ?_
  refine v_gr 0 fX5_20 dX5_makeReady_6 rfl rfl rfl Nat.zero_lt_one ?_
  refine v_aload_n dX5_makeReady_9 rfl ?_
  refine v_call1n lX5_115 kX2_add (c_X2_add (n := q) ht (by exact hq) h24) dX5_makeReady_10 rfl rfl Nat.zero_lt_one rfl (by decide) (by decide) (st8 rfl) ?_
  exact v_vret dX5_makeReady_13 ⟨rfl, by unfold xReady xAdd; rw [show (put a 7 t 3 0).1 10 0 1 = nI q from hq, nv_nI (by omega), nI_1]⟩
set_option maxHeartbeats 4000000 in
set_option maxRecDepth 100000 in
theorem c_X5_startFiber_no {a b : tH} {x y : Int32} (hx : nI 24 ≤ a.1 18 0 5 ∨ x < 0 ∨ a.1 1 0 3 ≤ x) : Ci yX5_startFiber cX5_startFiber 4 .int 1 [.inr (some (18, 0)), .inl x, .inl y] (mix a b) ((-1)) (mix (a) b) := by
  refine Ct.of (by decide) [_, _, _, _] rfl (Nat.le_of_ble_eq_true rfl) ?_
  refine v_aload_n dX5_startFiber_0 rfl ?_
  refine x_gi (by decide) fX5_38 dX5_startFiber_1 rfl rfl Nat.zero_lt_one ?_
  refine v_bipush 24 dX5_startFiber_4 (by decide) ?_
  refine v_icmp_ge 20 dX5_startFiber_6 (by decide) (fun h_6 => ?_) (fun h_6 => ?_)
  · refine v_iconst (-1) dX5_startFiber_20 (by decide) ?_
    exact v_iret dX5_startFiber_21 ⟨rfl, rfl⟩
  · refine v_aload_n dX5_startFiber_9 rfl ?_
    refine v_gr 0 fX5_64 dX5_startFiber_10 rfl rfl rfl Nat.zero_lt_one ?_
    refine v_iload_n dX5_startFiber_13 rfl ?_
    refine v_call1i lX5_218 kX3_has (c_X3_has) dX5_startFiber_14 rfl rfl Nat.zero_lt_one rfl (by decide) (by decide) (st8 rfl) ?_
    refine v_if_ne 22 dX5_startFiber_17 (by decide) (fun h_17 => hx.elim (fun z => absurd z h_6) (fun z => absurd (by rw [i001]; exact z) h_17)) (fun h_17 => ?_)
    refine v_iconst (-1) dX5_startFiber_20 (by decide) ?_
    exact v_iret dX5_startFiber_21 ⟨rfl, rfl⟩
set_option maxHeartbeats 4000000 in
set_option maxRecDepth 100000 in
theorem c_X5_startFiber_ok {a b : tH} {y : Int32} {p P T q : Nat} (hP : a.1 1 0 3 = nI P) (h12 : P ≤ 12) (hp : p < P) (hT : a.1 18 0 5 = nI T) (h24 : T < 24) (hq : a.1 10 0 1 = nI q) (hq24 : q < 24) (hN : a.1 7 T 0 = nI T) : Ci yX5_startFiber cX5_startFiber 4 .int 1 [.inr (some (18, 0)), .inl (nI p), .inl y] (mix a b) (nI T) (mix (xStart a T (nI p) y) b) := by
  refine Ct.of (by decide) [_, _, _, _] rfl (Nat.le_of_ble_eq_true rfl) ?_
  refine v_aload_n dX5_startFiber_0 rfl ?_
  refine x_gk hT (by decide) fX5_38 dX5_startFiber_1 rfl rfl Nat.zero_lt_one ?_
  refine v_bipush 24 dX5_startFiber_4 (by decide) ?_
  refine v_icmp_ge 20 dX5_startFiber_6 (by decide) (fun h_6 => absurd h_6 (nI_ge (b := 24) h24 (by decide))) (fun h_6 => ?_)
  refine v_aload_n dX5_startFiber_9 rfl ?_
  refine v_gr 0 fX5_64 dX5_startFiber_10 rfl rfl rfl Nat.zero_lt_one ?_
  refine v_iload_n dX5_startFiber_13 rfl ?_
  refine v_call1i lX5_218 kX3_has (c_X3_has_in hP hp h12) dX5_startFiber_14 rfl rfl Nat.zero_lt_one rfl (by decide) (by decide) (st8 rfl) ?_
  refine v_if_ne 22 dX5_startFiber_17 (by decide) (fun h_17 => ?_) (fun h_17 => absurd h_17 n10)
  refine v_aload_n dX5_startFiber_22 rfl ?_
  refine v_gr 0 fX5_11 dX5_startFiber_23 rfl rfl rfl Nat.zero_lt_one ?_
  refine v_aload_n dX5_startFiber_26 rfl ?_
  refine x_gk hT (by decide) fX5_38 dX5_startFiber_27 rfl rfl Nat.zero_lt_one ?_
  refine v_aaldF T rfl dX5_startFiber_30 Nat.zero_lt_one rfl h24 ?_
  refine v_astore_n [_, _, _, _] dX5_startFiber_31 rfl (by decide) ?_
  refine v_aload_n dX5_startFiber_32 rfl ?_
  refine v_dup dX5_startFiber_33 ?_
  refine x_gk hT (by decide) fX5_38 dX5_startFiber_34 rfl rfl Nat.zero_lt_one ?_
  refine v_iconst 1 dX5_startFiber_37 (by decide) ?_
  refine v_iadd dX5_startFiber_38 ?_
  rw [nI_1]
  refine x_pi (by decide) fX5_38 dX5_startFiber_39 rfl rfl Nat.zero_lt_one ?_
  refine v_aload_n dX5_startFiber_42 rfl ?_
  refine v_iload_n dX5_startFiber_43 rfl ?_
  refine v_iload_n dX5_startFiber_44 rfl ?_
  refine v_call2n lX5_221 kX1_reset (c_X1_reset h24) dX5_startFiber_45 rfl rfl h24 rfl (by decide) (by decide) (st8 rfl) ?_
  refine v_aload_n dX5_startFiber_48 rfl ?_
  refine v_gr 0 fX5_20 dX5_startFiber_49 rfl rfl rfl Nat.zero_lt_one ?_
  refine v_aload_n dX5_startFiber_52 rfl ?_
  refine v_call1n lX5_115 kX2_add (c_X2_add (n := q) h24 (by exact hq) hq24) dX5_startFiber_53 rfl rfl Nat.zero_lt_one rfl (by decide) (by decide) (st8 rfl) ?_
  refine v_aload_n dX5_startFiber_56 rfl ?_
  refine x_gk (show _ = nI T by simp [put_rd, putq, hN]) (by decide) fX5_195 dX5_startFiber_57 rfl rfl h24 ?_
  exact v_iret dX5_startFiber_60 ⟨rfl, by unfold xStart xAdd; rw [show (xReset (put a 18 0 5 (nI (T + 1))) T (nI p) y).1 10 0 1 = nI q from hq, nv_nI (by omega), nI_1]; rfl⟩
set_option maxHeartbeats 4000000 in
set_option maxRecDepth 100000 in
theorem c_X5_raise0 {a b : tH} {t q : Nat} {n : Int32} (ht : t < 24) (h0 : a.1 7 t 7 = 0) (hq : a.1 10 0 1 = nI q) (h24 : q ≤ 24) (hok : okq a) : Cn yX5_raise cX5_raise 4 1 [.inr (some (18, 0)), .inr (some (7, t)), .inl n] (mix a b) (mix (xRaise a t n) b) := by
  refine Ct.of (by decide) [_, _, _, _] rfl (Nat.le_of_ble_eq_true rfl) ?_
  refine v_aload_n dX5_raise_0 rfl ?_
  refine v_call0i lX5_231 kX1_isAway (c_X1_isAway ht) dX5_raise_1 rfl rfl ht rfl (by decide) (by decide) (st8 rfl) ?_
  refine v_istore_n [_, _, _, _] dX5_raise_4 rfl (by decide) ?_
  refine v_aload_n dX5_raise_5 rfl ?_
  refine v_iload_n dX5_raise_6 rfl ?_
  refine v_call1i lX5_234 kX1_handles (c_X1_handles0 ht h0) dX5_raise_7 rfl rfl ht rfl (by decide) (by decide) (st8 rfl) ?_
  refine v_if_ne 35 dX5_raise_10 (by decide) (fun h_10 => absurd rfl h_10) (fun h_10 => ?_)
  refine v_aload_n dX5_raise_13 rfl ?_
  refine v_bipush 6 dX5_raise_14 (by decide) ?_
  refine x_pi (by decide) fX5_91 dX5_raise_16 rfl rfl ht ?_
  refine v_aload_n dX5_raise_19 rfl ?_
  refine v_iload_n dX5_raise_20 rfl ?_
  refine x_pi (by decide) fX5_237 dX5_raise_21 rfl rfl ht ?_
  refine v_aload_n dX5_raise_24 rfl ?_
  refine v_gr 0 fX5_20 dX5_raise_25 rfl rfl rfl Nat.zero_lt_one ?_
  refine v_aload_n dX5_raise_28 rfl ?_
  refine v_call1n lX5_240 kX2_remove (c_X2_remove (q := q) ht (by exact hq) h24 (by exact hok)) dX5_raise_29 rfl rfl Nat.zero_lt_one rfl (by decide) (by decide) (st8 rfl) ?_
  refine v_goto 52 dX5_raise_32 (by decide) ?_
  exact v_vret dX5_raise_52 ⟨rfl, by rw [xRaise_0 h0]; rfl⟩
set_option maxHeartbeats 4000000 in
set_option maxRecDepth 100000 in
theorem c_X5_raise1 {a b : tH} {t q hc : Nat} {n : Int32} (ht : t < 24) (hn : a.1 7 t 7 = nI (hc + 1)) (h4 : hc < 4) (hq : a.1 10 0 1 = nI q) (hq24 : ¬ (a.1 7 t 3 < 1 ∨ 4 < a.1 7 t 3) → q < 24) : Cn yX5_raise cX5_raise 4 1 [.inr (some (18, 0)), .inr (some (7, t)), .inl n] (mix a b) (mix (xRaise a t n) b) := by
  refine Ct.of (by decide) [_, _, _, _] rfl (Nat.le_of_ble_eq_true rfl) ?_
  refine v_aload_n dX5_raise_0 rfl ?_
  refine v_call0i lX5_231 kX1_isAway (c_X1_isAway ht) dX5_raise_1 rfl rfl ht rfl (by decide) (by decide) (st8 rfl) ?_
  refine v_istore_n [_, _, _, _] dX5_raise_4 rfl (by decide) ?_
  refine v_aload_n dX5_raise_5 rfl ?_
  refine v_iload_n dX5_raise_6 rfl ?_
  refine v_call1i lX5_234 kX1_handles (c_X1_handles1 ht hn h4) dX5_raise_7 rfl rfl ht rfl (by decide) (by decide) (st8 rfl) ?_
  refine v_if_ne 35 dX5_raise_10 (by decide) (fun h_10 => ?_) (fun h_10 => absurd h_10 n10)
  refine v_iload_n dX5_raise_35 rfl ?_
  refine v_if_eq 52 dX5_raise_36 (by decide) (fun h_36 => ?_) (fun h_36 => ?_)
  · rw [i001] at h_36
    exact v_vret dX5_raise_52 ⟨rfl, by rw [xRaise_1 hn h4]; first | (rw [if_pos h_36]; rfl) | (rw [if_neg h_36]; unfold xAdd; rw [show (put (xHnd a t n hc) 7 t 3 0).1 10 0 1 = nI q from hq, nv_nI (by have := hq24 h_36; omega), nI_1]; rfl)⟩
  · rw [i001] at h_36
    refine v_aload_n dX5_raise_39 rfl ?_
    refine v_iconst 0 dX5_raise_40 (by decide) ?_
    refine x_pi (by decide) fX5_91 dX5_raise_41 rfl rfl ht ?_
    refine v_aload_n dX5_raise_44 rfl ?_
    refine v_gr 0 fX5_20 dX5_raise_45 rfl rfl rfl Nat.zero_lt_one ?_
    refine v_aload_n dX5_raise_48 rfl ?_
    refine v_call1n lX5_115 kX2_add (c_X2_add (n := q) ht (by exact hq) (hq24 h_36)) dX5_raise_49 rfl rfl Nat.zero_lt_one rfl (by decide) (by decide) (st8 rfl) ?_
    exact v_vret dX5_raise_52 ⟨rfl, by rw [xRaise_1 hn h4]; first | (rw [if_pos h_36]; rfl) | (rw [if_neg h_36]; unfold xAdd; rw [show (put (xHnd a t n hc) 7 t 3 0).1 10 0 1 = nI q from hq, nv_nI (by have := hq24 h_36; omega), nI_1]; rfl)⟩
theorem c_X5_raise {a b : tH} {t q : Nat} {n : Int32} (ht : t < 24) (I : ∃ hc, hc ≤ 4 ∧ a.1 7 t 7 = nI hc) (hq : a.1 10 0 1 = nI q) (h24 : q ≤ 24) (hq24 : ¬ (a.1 7 t 3 < 1 ∨ 4 < a.1 7 t 3) → q < 24) (hok : okq a) : Cn yX5_raise cX5_raise 4 1 [.inr (some (18, 0)), .inr (some (7, t)), .inl n] (mix a b) (mix (xRaise a t n) b) := by
  obtain ⟨hc, h4, he⟩ := I
  cases hc with
  | zero => exact c_X5_raise0 ht he hq h24 hok
  | succ hc => exact c_X5_raise1 ht he (by omega) hq hq24
set_option maxHeartbeats 4000000 in
set_option maxRecDepth 100000 in
theorem l_X5_closeIfOver {b : tH} {T : Nat} (h24 : T ≤ 24) : ∀ (m k : Nat) (a : tH), T = k + m → a.1 18 0 5 = nI T → Vw yX5_closeIfOver.cls cX5_closeIfOver 2 none 1 (fun r h' => r = none ∧ h' = mix (xClL m k a) b) 34 [some (.inr (some (18, 0))), some (.inl (nI k))] [] (mix a b) := by
  intro m
  induction m with
  | zero =>
    intro k a hk hT
    obtain rfl : T = k := hk
    refine v_iload_n dX5_closeIfOver_34 rfl ?_
    refine v_aload_n dX5_closeIfOver_35 rfl ?_
    refine x_gk hT (by decide) fX5_38 dX5_closeIfOver_36 rfl rfl Nat.zero_lt_one ?_
    refine v_icmp_ge 71 dX5_closeIfOver_39 (by decide) (fun h_39 => ?_) (fun h_39 => absurd (Int32.le_refl _) h_39)
    exact v_vret dX5_closeIfOver_71 ⟨rfl, rfl⟩
  | succ m ih =>
    intro k a hk hT
    have hk24 : k < 24 := by omega
    refine v_iload_n dX5_closeIfOver_34 rfl ?_
    refine v_aload_n dX5_closeIfOver_35 rfl ?_
    refine x_gk hT (by decide) fX5_38 dX5_closeIfOver_36 rfl rfl Nat.zero_lt_one ?_
    refine v_icmp_ge 71 dX5_closeIfOver_39 (by decide) (fun h_39 => absurd h_39 (nI_ge (by omega) (by omega))) (fun h_39 => ?_)
    refine v_aload_n dX5_closeIfOver_42 rfl ?_
    refine v_gr 0 fX5_11 dX5_closeIfOver_43 rfl rfl rfl Nat.zero_lt_one ?_
    refine v_iload_n dX5_closeIfOver_46 rfl ?_
    refine v_aaldF k rfl dX5_closeIfOver_47 Nat.zero_lt_one rfl hk24 ?_
    refine v_call0i lX5_152 kX1_isDone (c_X1_isDone hk24) dX5_closeIfOver_48 rfl rfl hk24 rfl (by decide) (by decide) (st8 rfl) ?_
    refine v_if_ne 65 dX5_closeIfOver_51 (by decide) (fun h_51 => ?_) (fun h_51 => ?_)
    · rw [i01] at h_51
      refine v_iinc [_, _] dX5_closeIfOver_65 rfl (by first | exact inc1 _ | rfl) rfl (by decide) ?_
      refine v_goto 34 dX5_closeIfOver_68 (by decide) ?_
      have e1 : xClS a k = a := if_neg h_51
      have q := ih (k + 1) (xClS a k) (by omega) (by rw [e1]; exact hT)
      have e2 : xClL (m + 1) k a = xClL m (k + 1) (xClS a k) := rfl
      rw [e2]
      rw [e1] at q ⊢
      exact q
    · rw [i01] at h_51
      refine v_aload_n dX5_closeIfOver_54 rfl ?_
      refine v_gr 0 fX5_11 dX5_closeIfOver_55 rfl rfl rfl Nat.zero_lt_one ?_
      refine v_iload_n dX5_closeIfOver_58 rfl ?_
      refine v_aaldF k rfl dX5_closeIfOver_59 Nat.zero_lt_one rfl hk24 ?_
      refine v_bipush 7 dX5_closeIfOver_60 (by decide) ?_
      refine x_pi (by decide) fX5_91 dX5_closeIfOver_62 rfl rfl hk24 ?_
      refine v_iinc [_, _] dX5_closeIfOver_65 rfl (by first | exact inc1 _ | rfl) rfl (by decide) ?_
      refine v_goto 34 dX5_closeIfOver_68 (by decide) ?_
      have e1 : xClS a k = put a 7 k 3 7 := if_pos h_51
      have q := ih (k + 1) (xClS a k) (by omega) (by rw [e1]; exact hT)
      have e2 : xClL (m + 1) k a = xClL m (k + 1) (xClS a k) := rfl
      rw [e2]
      rw [e1] at q ⊢
      exact q
set_option maxHeartbeats 4000000 in
set_option maxRecDepth 100000 in
theorem c_X5_closeIfOver {a b : tH} {T : Nat} (hT : a.1 18 0 5 = nI T) (h24 : T ≤ 24) (h1 : 1 ≤ T) : Cn yX5_closeIfOver cX5_closeIfOver 2 1 [.inr (some (18, 0))] (mix a b) (mix (xClose a T) b) := by
  refine Ct.of (by decide) [_, _] rfl (Nat.le_of_ble_eq_true rfl) ?_
  refine v_aload_n dX5_closeIfOver_0 rfl ?_
  refine x_gi (by decide) fX5_46 dX5_closeIfOver_1 rfl rfl Nat.zero_lt_one ?_
  refine v_if_ne 19 dX5_closeIfOver_4 (by decide) (fun h_4 => ?_) (fun h_4 => ?_)
  · exact v_vret dX5_closeIfOver_19 ⟨rfl, by unfold xClose; first | (rw [if_neg (fun z => h_4 z.1)]; done) | (rw [if_neg (fun z => z.2 h_16)])⟩
  · refine v_aload_n dX5_closeIfOver_7 rfl ?_
    refine v_gr 0 fX5_11 dX5_closeIfOver_8 rfl rfl rfl Nat.zero_lt_one ?_
    refine v_iconst 0 dX5_closeIfOver_11 (by decide) ?_
    refine v_aaldF 0 rfl dX5_closeIfOver_12 Nat.zero_lt_one rfl (by decide) ?_
    refine v_call0i lX5_152 kX1_isDone (c_X1_isDone (t := 0) (by decide)) dX5_closeIfOver_13 rfl rfl (show 0 < 24 by decide) rfl (by decide) (by decide) (st8 rfl) ?_
    refine v_if_ne 20 dX5_closeIfOver_16 (by decide) (fun h_16 => ?_) (fun h_16 => ?_)
    · rw [i01] at h_16
      refine v_aload_n dX5_closeIfOver_20 rfl ?_
      refine v_iconst 1 dX5_closeIfOver_21 (by decide) ?_
      refine x_pz (by decide) fX5_46 dX5_closeIfOver_22 rfl rfl Nat.zero_lt_one (by decide) ?_
      refine v_aload_n dX5_closeIfOver_25 rfl ?_
      refine v_gr 0 fX5_20 dX5_closeIfOver_26 rfl rfl rfl Nat.zero_lt_one ?_
      refine v_call0n lX5_71 kX2_clear (c_X2_clear) dX5_closeIfOver_29 rfl rfl Nat.zero_lt_one rfl (by decide) (by decide) (st8 rfl) ?_
      refine v_iconst 1 dX5_closeIfOver_32 (by decide) ?_
      refine v_istore_n [_, _] dX5_closeIfOver_33 rfl (by decide) ?_
      have e1 : xClose a T = xClL (T - 1) 1 (put (put a 18 0 7 1) 10 0 1 0) := if_pos ⟨h_4, h_16⟩
      rw [e1]
      exact l_X5_closeIfOver h24 (T - 1) 1 _ (by omega) hT
    · rw [i01] at h_16
      exact v_vret dX5_closeIfOver_19 ⟨rfl, by unfold xClose; first | (rw [if_neg (fun z => h_4 z.1)]; done) | (rw [if_neg (fun z => z.2 h_16)])⟩
set_option maxHeartbeats 4000000 in
set_option maxRecDepth 100000 in
theorem l2_X5_bring {a b : tH} {T x : Nat} {v : Int32} {L3 L4 : Option tV} (hx : x < 8) {ρ : Option Nat} {L : List Nat} (Z : XQ a ρ T L) : Vw yX5_bring.cls cX5_bring 5 none 2 (fun r h' => r = none ∧ h' = mix (xCom2 a T x v) b) 42 [some (.inr (some (18, 0))), some (.inl (nI x)), some (.inl v), L3, L4] [] (mix a b) := by
  refine v_aload_n dX5_bring_42 rfl ?_
  refine v_iload_n dX5_bring_43 rfl ?_
  refine v_iconst 2 dX5_bring_44 (by decide) ?_
  refine v_call2r lX5_224 kX5_firstWaiting (c_X5_firstWaiting (T := T) Z.1 Z.2.1) dX5_bring_45 rfl rfl Nat.zero_lt_one rfl (by decide) (by decide) (st8 rfl) ?_
  refine v_astore_n [_, _, _, _, _] dX5_bring_48 rfl (by decide) ?_
  refine v_aload_n dX5_bring_49 rfl ?_
  refine v_ifnonnull 65 dX5_bring_50 (by decide) (fun q_50 h_50 => ?_) (fun h_50 => ?_)
  · obtain ⟨t, hj⟩ : ∃ t, xFirst a T (nI x) 2 = some t := by
      cases e : xFirst a T (nI x) 2 with
      | none => rw [e] at h_50; cases h_50
      | some t => exact ⟨t, rfl⟩
    have hs := xFirst_st hj
    have ht24 : t < 24 := by have := Z.2.1; omega
    have hnL : t ∉ L := Z.notin (by rw [hs.2.1]; decide)
    rw [hj]
    refine v_aload_n dX5_bring_65 rfl ?_
    refine v_iload_n dX5_bring_66 rfl ?_
    refine x_pi (by decide) fX5_180 dX5_bring_67 rfl rfl ht24 ?_
    refine v_aload_n dX5_bring_70 rfl ?_
    refine v_aload_n dX5_bring_71 rfl ?_
    refine v_call1n lX5_138 kX5_makeReady (c_X5_makeReady (q := L.length) ht24 (by exact Z.2.2.1) (Z.lenn hs.1 hnL)) dX5_bring_72 rfl rfl Nat.zero_lt_one rfl (by decide) (by decide) (st8 rfl) ?_
    exact v_vret dX5_bring_75 ⟨rfl, by unfold xCom2; rw [hj]⟩
  · have hj : xFirst a T (nI x) 2 = none := by
      cases e : xFirst a T (nI x) 2 with
      | none => rfl
      | some t => rw [e] at h_50; cases h_50
    refine v_aload_n dX5_bring_53 rfl ?_
    refine v_gr 0 fX5_27 dX5_bring_54 rfl rfl rfl Nat.zero_lt_one ?_
    refine v_iload_n dX5_bring_57 rfl ?_
    refine v_iload_n dX5_bring_58 rfl ?_
    refine v_call2n lX5_228 kX0_keep (c_X0_keep hx) dX5_bring_59 rfl rfl Nat.zero_lt_one rfl (by decide) (by decide) (st8 rfl) ?_
    refine v_goto 75 dX5_bring_62 (by decide) ?_
    exact v_vret dX5_bring_75 ⟨rfl, by unfold xCom2; rw [hj]⟩
set_option maxHeartbeats 4000000 in
set_option maxRecDepth 100000 in
theorem l_X5_bring {b : tH} {T x : Nat} {v : Int32} (hx : x < 8) {ρ : Option Nat} : ∀ (f k : Nat) (a : tH) (L : List Nat) (L4 : Option tV), 24 = k + f → XQ a ρ T L → (∀ r, ρ = some r → a.1 7 r 3 = 0) → Vw yX5_bring.cls cX5_bring 5 none 2 (fun r h' => r = none ∧ h' = mix (xCom2 (xRd T x v f a) T x v) b) 2 [some (.inr (some (18, 0))), some (.inl (nI x)), some (.inl v), some (.inl (nI k)), L4] [] (mix a b) := by
  intro f
  induction f with
  | zero =>
    intro k a L L4 hk Z hr
    obtain rfl : k = 24 := by omega
    refine v_iload_n dX5_bring_2 rfl ?_
    refine v_bipush 24 dX5_bring_3 (by decide) ?_
    refine v_icmp_ge 42 dX5_bring_5 (by decide) (fun h_5 => ?_) (fun h_5 => absurd (Int32.le_refl _) h_5)
    exact l2_X5_bring hx Z
  | succ f ih =>
    intro k a L L4 hk Z hr
    refine v_iload_n dX5_bring_2 rfl ?_
    refine v_bipush 24 dX5_bring_3 (by decide) ?_
    refine v_icmp_ge 42 dX5_bring_5 (by decide) (fun h_5 => absurd h_5 (nI_ge (b := 24) (by omega) (by decide))) (fun h_5 => ?_)
    refine v_aload_n dX5_bring_8 rfl ?_
    refine v_iload_n dX5_bring_9 rfl ?_
    refine v_iconst 3 dX5_bring_10 (by decide) ?_
    refine v_call2r lX5_224 kX5_firstWaiting (c_X5_firstWaiting (T := T) Z.1 Z.2.1) dX5_bring_11 rfl rfl Nat.zero_lt_one rfl (by decide) (by decide) (st8 rfl) ?_
    refine v_astore [_, _, _, _, _] dX5_bring_14 rfl (by decide) ?_
    refine v_aload dX5_bring_16 rfl ?_
    refine v_ifnonnull 24 dX5_bring_18 (by decide) (fun q_18 h_18 => ?_) (fun h_18 => ?_)
    · obtain ⟨t, hj⟩ : ∃ t, xFirst a T (nI x) 3 = some t := by
        cases e : xFirst a T (nI x) 3 with
        | none => rw [e] at h_18; cases h_18
        | some t => exact ⟨t, rfl⟩
      have hs := xFirst_st hj
      have ht24 : t < 24 := by have := Z.2.1; omega
      have hnL : t ∉ L := Z.notin (by rw [hs.2.1]; decide)
      rw [hj]
      have h0 : a.1 7 t 3 ≠ 0 := by rw [hs.2.1]; decide
      have Z3 : XQ (xReady (put a 7 t 6 v) t) ρ T (L ++ [t]) := XQ.ready (Z.slot (by decide)) hs.1 hnL (fun e => h0 (hr t e))
      refine v_aload dX5_bring_24 rfl ?_
      refine v_iload_n dX5_bring_26 rfl ?_
      refine x_pi (by decide) fX5_180 dX5_bring_27 rfl rfl ht24 ?_
      refine v_aload_n dX5_bring_30 rfl ?_
      refine v_aload dX5_bring_31 rfl ?_
      refine v_call1n lX5_138 kX5_makeReady (c_X5_makeReady (q := L.length) ht24 (by exact Z.2.2.1) (Z.lenn hs.1 hnL)) dX5_bring_33 rfl rfl Nat.zero_lt_one rfl (by decide) (by decide) (st8 rfl) ?_
      refine v_iinc [_, _, _, _, _] dX5_bring_36 rfl (by first | exact inc1 _ | rfl) rfl (by decide) ?_
      refine v_goto 2 dX5_bring_39 (by decide) ?_
      rw [xRd_some hj]
      refine ih (k + 1) (xReady (put a 7 t 6 v) t) (L ++ [t]) _ (by omega) Z3 (fun r e => ?_)
      rw [xReady_st]
      split
      · rfl
      · rw [put_ne (by omega)]; exact hr r e
    · have hj : xFirst a T (nI x) 3 = none := by
        cases e : xFirst a T (nI x) 3 with
        | none => rfl
        | some t => rw [e] at h_18; cases h_18
      refine v_goto 42 dX5_bring_21 (by decide) ?_
      rw [xRd_none hj]
      exact l2_X5_bring hx Z
set_option maxHeartbeats 4000000 in
set_option maxRecDepth 100000 in
theorem c_X5_bring {a b : tH} {x : Nat} {v : Int32} (hx : x < 8) {ρ : Option Nat} {T : Nat} {L : List Nat} (Z : XQ a ρ T L) (hr : ∀ r, ρ = some r → a.1 7 r 3 = 0) : Cn yX5_bring cX5_bring 5 2 [.inr (some (18, 0)), .inl (nI x), .inl v] (mix a b) (mix (xBring a T x v) b) := by
  refine Ct.of (by decide) [_, _, _, _, _] rfl (Nat.le_of_ble_eq_true rfl) ?_
  refine v_iconst 0 dX5_bring_0 (by decide) ?_
  refine v_istore_n [_, _, _, _, _] dX5_bring_1 rfl (by decide) ?_
  exact l_X5_bring hx 24 0 a L none (by omega) Z hr
theorem XQ.tkb {a : tH} {ρ : Option Nat} {T t x : Nat} {L : List Nat} (h : XQ a ρ T L) : XQ (xTkB a t x) ρ T L :=
  ⟨h.1, h.2.1, h.2.2.1, h.2.2.2.1, h.2.2.2.2.1, fun s hs => ⟨(h.2.2.2.2.2.1 s hs).1, (show (xTkB a t x).1 7 s 3 = a.1 7 s 3 by unfold xTkB; rw [put_ne (by omega), put_ne (by omega)]).trans (h.2.2.2.2.2.1 s hs).2.1, (h.2.2.2.2.2.1 s hs).2.2⟩, h.2.2.2.2.2.2⟩
set_option maxHeartbeats 4000000 in
set_option maxRecDepth 100000 in
theorem c_X5_takeFrom {a b : tH} {x t : Nat} (hx : x < 8) (ht : t < 24) {ρ : Option Nat} {T : Nat} {L : List Nat} (Z : XQ a ρ T L) : Cn yX5_takeFrom cX5_takeFrom 4 2 [.inr (some (18, 0)), .inl (nI x), .inr (some (7, t))] (mix a b) (mix (xTakeF a T t x) b) := by
  have Z1 : XQ (xTkB a t x) ρ T L := Z.tkb
  refine Ct.of (by decide) [_, _, _, _] rfl (Nat.le_of_ble_eq_true rfl) ?_
  refine v_aload_n dX5_takeFrom_0 rfl ?_
  refine v_aload_n dX5_takeFrom_1 rfl ?_
  refine v_gr 0 fX5_27 dX5_takeFrom_2 rfl rfl rfl Nat.zero_lt_one ?_
  refine v_iload_n dX5_takeFrom_5 rfl ?_
  refine v_call1i lX5_191 kX0_valueOf (c_X0_valueOf hx) dX5_takeFrom_6 rfl rfl Nat.zero_lt_one rfl (by decide) (by decide) (st8 rfl) ?_
  refine x_pi (by decide) fX5_180 dX5_takeFrom_9 rfl rfl ht ?_
  refine v_aload_n dX5_takeFrom_12 rfl ?_
  refine v_gr 0 fX5_27 dX5_takeFrom_13 rfl rfl rfl Nat.zero_lt_one ?_
  refine v_iload_n dX5_takeFrom_16 rfl ?_
  refine v_call1n lX5_75 kX0_empty (c_X0_empty hx) dX5_takeFrom_17 rfl rfl Nat.zero_lt_one rfl (by decide) (by decide) (st8 rfl) ?_
  refine v_aload_n dX5_takeFrom_20 rfl ?_
  refine v_iload_n dX5_takeFrom_21 rfl ?_
  refine v_iconst 1 dX5_takeFrom_22 (by decide) ?_
  refine v_call2r lX5_224 kX5_firstWaiting (c_X5_firstWaiting (a := xTkB a t x) (T := T) Z1.1 Z1.2.1) dX5_takeFrom_23 rfl rfl Nat.zero_lt_one rfl (by decide) (by decide) (st8 rfl) ?_
  refine v_astore_n [_, _, _, _] dX5_takeFrom_26 rfl (by decide) ?_
  refine v_aload_n dX5_takeFrom_27 rfl ?_
  refine v_ifnull 48 dX5_takeFrom_28 (by decide) (fun h_28 => ?_) (fun q_28 h_28 => ?_)
  · have hj : xFirst (xTkB a t x) T (nI x) 1 = none := by
      cases e : xFirst (xTkB a t x) T (nI x) 1 with
      | none => rfl
      | some t => rw [e] at h_28; cases h_28
    exact v_vret dX5_takeFrom_48 ⟨rfl, by unfold xTakeF; rw [hj]; try rfl⟩
  · obtain ⟨u, hj⟩ : ∃ u, xFirst (xTkB a t x) T (nI x) 1 = some u := by
      cases e : xFirst (xTkB a t x) T (nI x) 1 with
      | none => rw [e] at h_28; cases h_28
      | some u => exact ⟨u, rfl⟩
    have hs := xFirst_st hj
    have hu24 : u < 24 := by have := Z.2.1; omega
    have hnL : u ∉ L := Z1.notin (by rw [hs.2.1]; decide)
    rw [hj]
    refine v_aload_n dX5_takeFrom_31 rfl ?_
    refine v_gr 0 fX5_27 dX5_takeFrom_32 rfl rfl rfl Nat.zero_lt_one ?_
    refine v_iload_n dX5_takeFrom_35 rfl ?_
    refine v_aload_n dX5_takeFrom_36 rfl ?_
    refine x_gi (by decide) fX5_180 dX5_takeFrom_37 rfl rfl hu24 ?_
    refine v_call2n lX5_228 kX0_keep (c_X0_keep hx) dX5_takeFrom_40 rfl rfl Nat.zero_lt_one rfl (by decide) (by decide) (st8 rfl) ?_
    refine v_aload_n dX5_takeFrom_43 rfl ?_
    refine v_aload_n dX5_takeFrom_44 rfl ?_
    refine v_call1n lX5_138 kX5_makeReady (c_X5_makeReady (q := L.length) hu24 (by exact Z1.2.2.1) (Z1.lenn hs.1 hnL)) dX5_takeFrom_45 rfl rfl Nat.zero_lt_one rfl (by decide) (by decide) (st8 rfl) ?_
    exact v_vret dX5_takeFrom_48 ⟨rfl, by unfold xTakeF; rw [hj]; try rfl⟩
set_option maxHeartbeats 4000000 in
set_option maxRecDepth 100000 in
theorem c_X5_pause {a b : tH} {t : Nat} {s x : Int32} (ht : t < 24) : Cn yX5_pause cX5_pause 4 0 [.inr (some (18, 0)), .inr (some (7, t)), .inl s, .inl x] (mix a b) (mix (xPause a t s x) b) := by
  refine Ct.of (by decide) [_, _, _, _] rfl (Nat.le_of_ble_eq_true rfl) ?_
  refine v_aload_n dX5_pause_0 rfl ?_
  refine v_iload_n dX5_pause_1 rfl ?_
  refine x_pi (by decide) fX5_91 dX5_pause_2 rfl rfl ht ?_
  refine v_iload_n dX5_pause_5 rfl ?_
  refine v_iconst 4 dX5_pause_6 (by decide) ?_
  refine v_icmp_ne 23 dX5_pause_7 (by decide) (fun h_7 => ?_) (fun h_7 => ?_)
  · refine v_aload_n dX5_pause_23 rfl ?_
    refine v_iload_n dX5_pause_24 rfl ?_
    refine x_pi (by decide) fX5_174 dX5_pause_25 rfl rfl ht ?_
    refine v_aload_n dX5_pause_28 rfl ?_
    refine v_aload_n dX5_pause_29 rfl ?_
    refine x_gi (by decide) fX5_61 dX5_pause_30 rfl rfl Nat.zero_lt_one ?_
    refine x_pi (by decide) fX5_177 dX5_pause_33 rfl rfl ht ?_
    refine v_aload_n dX5_pause_36 rfl ?_
    refine v_dup dX5_pause_37 ?_
    refine x_gi (by decide) fX5_61 dX5_pause_38 rfl rfl Nat.zero_lt_one ?_
    refine v_iconst 1 dX5_pause_41 (by decide) ?_
    refine v_iadd dX5_pause_42 ?_
    refine x_pi (by decide) fX5_61 dX5_pause_43 rfl rfl Nat.zero_lt_one ?_
    exact v_vret dX5_pause_46 ⟨rfl, by unfold xPause; first | (rw [if_pos h_7]; rfl) | (rw [if_neg h_7]; rfl)⟩
  · refine v_aload_n dX5_pause_10 rfl ?_
    refine v_aload_n dX5_pause_11 rfl ?_
    refine x_gi (by decide) fX5_52 dX5_pause_12 rfl rfl Nat.zero_lt_one ?_
    refine v_iload_n dX5_pause_15 rfl ?_
    refine v_iadd dX5_pause_16 ?_
    refine x_pi (by decide) fX5_135 dX5_pause_17 rfl rfl ht ?_
    refine v_goto 46 dX5_pause_20 (by decide) ?_
    exact v_vret dX5_pause_46 ⟨rfl, by unfold xPause; first | (rw [if_pos h_7]; rfl) | (rw [if_neg h_7]; rfl)⟩
