/-! Rows of the judgement Vw: switches, fields, arrays, calls, ends -/
theorem uws_ok {C : String} {T : u_T} {N : Nat} : ∀ w ∈ u_ws C T N, tbOK w = true := by
  intro w hw
  unfold u_ws at hw
  obtain ⟨k, -, rfl⟩ := List.mem_map.mp hw
  unfold u_lay
  split <;> rfl
theorem lay_small (c : Nat) : (lay c).2.1 < 2147483648 := by
  have hb : ∀ q ∈ lays, q.2.1 < 2147483648 := by decide +kernel
  unfold lay
  rw [List.getD_eq_getElem?_getD]
  cases e : lays[c]? with
  | none => show (0 : Nat) < _; omega
  | some q => exact hb q (List.mem_of_getElem? e)
theorem wl_put {G : tG} {ad : Nat → Nat → Nat} {h : tH} {c i k q0 ci N n : Nat} {x : Int32} (hk : fams[q0]? = some (c, i)) (hl : lay c = (0, ci, N, n)) (hkN : k < N) (hs : sk c k = none) : (wl G ad h).set q0 (ad c i, .inr (ci, (fvs ad c i N (h.1 c i)).set k (.int x))) = wl G ad (put h c i k x) := by
  refine wl_set hk ?_ (fun q _ hq => cE_congr (put_off hq) (fun _ => rfl))
  rw [cE_0 hl, fvs_set hkN hs, put_upd]
theorem wl_puti {G : tG} {ad : Nat → Nat → Nat} {h : tH} {c i k q0 n b w : Nat} {x : Int32} (hk : fams[q0]? = some (c, i)) (hl : lay c = (1, n, b, w)) : (wl G ad h).set q0 (ad c i, .inl (G.2 0, n, .inl (upd (h.1 c i) k x))) = wl G ad (put h c i k x) := by
  refine wl_set hk ?_ (fun q _ hq => cE_congr (put_off hq) (fun _ => rfl))
  rw [cE_1 hl, put_upd]
theorem wl_putz {G : tG} {ad : Nat → Nat → Nat} {h : tH} {c i k q0 n b w : Nat} {x : Int32} (hk : fams[q0]? = some (c, i)) (hl : lay c = (2, n, b, w)) : (wl G ad h).set q0 (ad c i, .inl (G.2 1, n, .inl (upd (h.1 c i) k x))) = wl G ad (put h c i k x) := by
  refine wl_set hk ?_ (fun q _ hq => cE_congr (put_off hq) (fun _ => rfl))
  rw [cE_2 hl, put_upd]
theorem lay_5 (c : Nat) (hc : (lay c).1 = 5) : c = 11 := by
  have hb : (List.range 43).all (fun c => decide ((lay c).1 = 5 → c = 11)) = true := by decide +kernel
  rcases Nat.lt_or_ge c 43 with h | h
  · exact of_decide_eq_true (List.all_eq_true.mp hb c (List.mem_range.mpr h)) hc
  · exfalso
    have : lays[c]? = none := List.getElem?_eq_none (by simpa [lays] using h)
    unfold lay at hc
    rw [List.getD_eq_getElem?_getD, this] at hc
    exact absurd hc (by decide)
theorem wl_putq {G : tG} {ad : Nat → Nat → Nat} {h : tH} {k q0 : Nat} {r : Option Nat} (hk : fams[q0]? = some (11, 0)) : (wl G ad h).set q0 (ad 11 0, .inl (G.2 2, 24, .inr (.inr (.inr (.inr (va_up (fun j => (h.2 j).map (ad 7)) k (r.map (ad 7)))))))) = wl G ad (putq h k r) := by
  refine wl_set hk ?_ (fun q hm hq => cE_congr rfl (fun h5 => ?_))
  · rw [cE_5 (n := 24) (b := 0) (w := 1) rfl]
    refine congrArg (fun f => (Sum.inl (G.2 2, 24, .inr (.inr (.inr (.inr f)))) : va_E)) (funext fun j => ?_)
    show (if j = k then r.map (ad 7) else (h.2 j).map (ad 7)) = (if j = k then r else h.2 j).map (ad 7)
    split <;> rfl
  · exfalso
    obtain ⟨a, b⟩ := q
    have ha : a = 11 := lay_5 a h5
    have hb : ∀ q ∈ fams, q.1 = 11 → q.2 = 0 := by decide +kernel
    have hb2 : b = 0 := hb (a, b) hm ha
    subst ha
    subst hb2
    exact hq rfl
section VwRows2
variable {own : String} {cc : ByteArray} {nL : Nat} {ret : Option FieldType} {d : Nat} {Q : Option tV → tH → Prop} {pc : Nat} {lv : List (Option tV)} {st : List tV} {h : tH}
theorem v_tsIn {x : Int32} {dflt lo hi : Int} {offs : Array Int} {len : Nat} {off : Int} (tgt : Nat) (X : Int32) (hdg : decode cc pc = .ok (.tableswitch dflt lo hi offs, len)) (hx : x = X) (h1 : ¬ X.toInt < lo) (h2 : ¬ hi < X.toInt) (ho : offs[(X.toInt - lo).toNat]? = some off) (ht : (pc : Int) + off = (tgt : Int)) (k : Vw own cc nL ret d Q tgt lv st h) : Vw own cc nL ret d Q pc lv (.inl x :: st) h := by
  subst hx
  exact fun p l e s m args below meth c G ad A H locs ls C hP hD hS hl => lv_tableIn C.1 C.2.1 hdg h1 h2 ho ht (k p l e s m args below meth c G ad A H locs ls C hP hD hS hl)
theorem v_tsOut {x : Int32} {dflt lo hi : Int} {offs : Array Int} {len : Nat} (tgt : Nat) (hdg : decode cc pc = .ok (.tableswitch dflt lo hi offs, len)) (hx : x.toInt < lo ∨ hi < x.toInt) (ht : (pc : Int) + dflt = (tgt : Int)) (k : Vw own cc nL ret d Q tgt lv st h) : Vw own cc nL ret d Q pc lv (.inl x :: st) h :=
  fun p l e s m args below meth c G ad A H locs ls C hP hD hS hl => lv_tableOut C.1 C.2.1 hdg hx ht (k p l e s m args below meth c G ad A H locs ls C hP hD hS hl)
/-- the entry idx of own's pool is slot k of the family c -/
def FQ (own : String) (idx c k : Nat) (fin : Bool) (ty : FieldType) : Prop := ∃ (ci N n : Nat) (C : String) (T : u_T) (ty0 : Nat → FieldType), lay c = (0, ci, N, n) ∧ vwCl[ci]? = some (C, T, N) ∧ (∀ w ∈ u_ws C T N, w ∈ lw_tbl) ∧ (T k).1 = C ∧ k < N ∧ (∀ k, k < N → parseFieldDescriptor (T k).2.2.1 = some (ty0 k)) ∧ (∀ a, a < N → ∀ b, b < N → a ≠ b → (T a).2.1 ≠ (T b).2.1) ∧ (T k).2.2.2 = fin ∧ parseFieldDescriptor (T k).2.2.1 = some ty ∧
  (Cond.fieldLink own idx C (T k).2.1 (T k).2.2.1 ∈ lw_tbl ∨ ∃ host, Cond.fieldLinkNest own idx C (T k).2.1 (T k).2.2.1 host ∈ lw_tbl)
theorem v_getv {c i k idx : Nat} {fin : Bool} {ty : FieldType} {v : tV} (hf : FQ own idx c k fin ty) (hdg : decode cc pc = .ok (.getfield idx, 3)) (hi : i < (lay c).2.2.2) (hv : ∀ ad : Nat → Nat → Nat, fv ad c i k (h.1 c i k) = rv ad v) (kk : Vw own cc nL ret d Q (pc + 3) lv (v :: st) h) : Vw own cc nL ret d Q pc lv (.inr (some (c, i)) :: st) h := by
  obtain ⟨ci, N, n, C, T, ty0, hl0, hcl, hin, hdecl, hkN, hty, hnm, hfin, hpt, hlk⟩ := hf
  intro p l e s m args below meth c' G ad A H locs ls X hP hD hS hl
  have hkk := kk p l e s m args below meth c' G ad A H locs ls X hP hD hS hl
  obtain ⟨hx, hb, hml, hr, hown, hlk0, hT, hK⟩ := X
  obtain ⟨q0, hq0, hw⟩ := wl_get G ad h hi
  rw [cE_0 hl0] at hw
  have hv2 : (fvs ad c i N (h.1 c i))[k]? = some (rv ad v) := by rw [fvs_get hkN, hv]
  rcases hlk with hlk | ⟨host, hlk⟩
  · exact va_get hx hb (Ts := u_ws C T N) (fun w hw => hT.use (hin w hw) (uws_ok w hw)) (fun _ h => h) hown hK hP q0 hw hcl k hkN (hT.use hlk rfl) (fun x h9 => by rw [hdecl] at h9; exact h9) hv2 hdg hkk
  · exact va_getN hx hb (Ts := u_ws C T N) (fun w hw => hT.use (hin w hw) (uws_ok w hw)) (fun _ h => h) hown hK hP q0 hw hcl k hkN (hT.use hlk rfl) (fun x h9 => by rw [hdecl] at h9; exact h9) hv2 hdg hkk
theorem v_geti {c i k idx : Nat} {fin : Bool} {ty : FieldType} (hf : FQ own idx c k fin ty) (hdg : decode cc pc = .ok (.getfield idx, 3)) (hi : i < (lay c).2.2.2) (hs : sk c k = none) (kk : Vw own cc nL ret d Q (pc + 3) lv (.inl (h.1 c i k) :: st) h) : Vw own cc nL ret d Q pc lv (.inr (some (c, i)) :: st) h :=
  v_getv hf hdg hi (fun ad => by unfold fv; rw [hs]; rfl) kk
theorem v_getr {c i k idx c2 m2 : Nat} {fin : Bool} {ty : FieldType} (i2 : Nat) (hf : FQ own idx c k fin ty) (hdg : decode cc pc = .ok (.getfield idx, 3)) (hi : i < (lay c).2.2.2) (hs : sk c k = some (c2, m2)) (hi2 : rfi i m2 = i2) (kk : Vw own cc nL ret d Q (pc + 3) lv (.inr (some (c2, i2)) :: st) h) : Vw own cc nL ret d Q pc lv (.inr (some (c, i)) :: st) h :=
  v_getv hf hdg hi (fun ad => by unfold fv; rw [hs]; subst hi2; rfl) kk
theorem v_put {c i k idx : Nat} {ty : FieldType} {x : Int32} (hf : FQ own idx c k false ty) (hdg : decode cc pc = .ok (.putfield idx, 3)) (hi : i < (lay c).2.2.2) (hs : sk c k = none) (hn : narrow ty (.int x) = .int x) (hft : fits ty (.int x) = true) (kk : Vw own cc nL ret d Q (pc + 3) lv st (put h c i k x)) : Vw own cc nL ret d Q pc lv (.inl x :: .inr (some (c, i)) :: st) h := by
  obtain ⟨ci, N, n, C, T, ty0, hl0, hcl, hin, hdecl, hkN, hty, hnm, hfin, hpt, hlk⟩ := hf
  intro p l e s m args below meth c' G ad A H locs ls X hP hD hS hl
  have hkk := fun H1 locs1 a1 a2 a3 => kk p l e s m args below meth c' G ad A H1 locs1 ls X a1 a2 ⟨a3, hS.2⟩ hl
  obtain ⟨hx, hb, hml, hr, hown, hlk0, hT, hK⟩ := X
  obtain ⟨q0, hq0, hw⟩ := wl_get G ad h hi
  rw [cE_0 hl0] at hw
  have hset := wl_put (G := G) (ad := ad) (h := h) (x := x) hq0 hl0 hkN hs
  rcases hlk with hlk | ⟨host, hlk⟩
  · exact va_put hx hb (Ts := u_ws C T N) (fun w hw => hT.use (hin w hw) (uws_ok w hw)) (fun _ h => h) ty0 hty hnm hown hK hP hD hS.1 q0 hw hcl k hkN (hT.use hlk rfl) (fun x h9 => by rw [hdecl] at h9; exact h9) hfin hpt hn hft (by rw [fvs_len]; exact hkN) hdg (fun H1 locs1 a1 a2 a3 => hkk H1 locs1 (by rw [← hset]; exact a1) (by rw [← hset]; exact a2) a3)
  · exact va_putN hx hb (Ts := u_ws C T N) (fun w hw => hT.use (hin w hw) (uws_ok w hw)) (fun _ h => h) ty0 hty hnm hown hK hP hD hS.1 q0 hw hcl k hkN (hT.use hlk rfl) (fun x h9 => by rw [hdecl] at h9; exact h9) hfin hpt hn hft (by rw [fvs_len]; exact hkN) hdg (fun H1 locs1 a1 a2 a3 => hkk H1 locs1 (by rw [← hset]; exact a1) (by rw [← hset]; exact a2) a3)
theorem v_puti {c i k idx : Nat} {x : Int32} (hf : FQ own idx c k false .int) (hdg : decode cc pc = .ok (.putfield idx, 3)) (hi : i < (lay c).2.2.2) (hs : sk c k = none) (kk : Vw own cc nL ret d Q (pc + 3) lv st (put h c i k x)) : Vw own cc nL ret d Q pc lv (.inl x :: .inr (some (c, i)) :: st) h := v_put hf hdg hi hs rfl rfl kk
theorem nar_z {x : Int32} (hx : x = 0 ∨ x = 1) : narrow .boolean (.int x) = .int x ∧ fits .boolean (.int x) = true ∧ vp_nar .boolean x = x := by
  rcases hx with rfl | rfl <;> decide
theorem v_putz {c i k idx : Nat} {x : Int32} (hf : FQ own idx c k false .boolean) (hdg : decode cc pc = .ok (.putfield idx, 3)) (hi : i < (lay c).2.2.2) (hs : sk c k = none) (hx : x = 0 ∨ x = 1) (kk : Vw own cc nL ret d Q (pc + 3) lv st (put h c i k x)) : Vw own cc nL ret d Q pc lv (.inl x :: .inr (some (c, i)) :: st) h := v_put hf hdg hi hs (nar_z hx).1 (nar_z hx).2.1 kk
theorem v_iald {c i n b w : Nat} {j : Int32} (k : Nat) (hl0 : lay c = (1, n, b, w)) (hdg : decode cc pc = .ok (.iaload, 1)) (hi : i < w) (hj : j = nI k) (hk : k < n) (kk : Vw own cc nL ret d Q (pc + 1) lv (.inl (h.1 c i k) :: st) h) : Vw own cc nL ret d Q pc lv (.inl j :: .inr (some (c, i)) :: st) h := by
  subst hj
  have hn : n < 2 ^ 31 := by have := lay_small c; rw [hl0] at this; exact this
  intro p l e s m args below meth c' G ad A H locs ls X hP hD hS hl
  have hkk := kk p l e s m args below meth c' G ad A H locs ls X hP hD hS hl
  obtain ⟨q0, hq0, hw⟩ := wl_get G ad h (c := c) (i := i) (by rw [hl0]; exact hi)
  rw [cE_1 hl0] at hw
  refine va_iald X.1 X.2.1 X.2.2.2.2.2.2.2 hP q0 0 hw rfl (vp_in_nI hk hn) hdg ?_
  rw [nI_clamp (by omega)]
  exact hkk
theorem v_zald {c i n b w : Nat} {j : Int32} (k : Nat) (hl0 : lay c = (2, n, b, w)) (hdg : decode cc pc = .ok (.baload, 1)) (hi : i < w) (hj : j = nI k) (hk : k < n) (kk : Vw own cc nL ret d Q (pc + 1) lv (.inl (h.1 c i k) :: st) h) : Vw own cc nL ret d Q pc lv (.inl j :: .inr (some (c, i)) :: st) h := by
  subst hj
  have hn : n < 2 ^ 31 := by have := lay_small c; rw [hl0] at this; exact this
  intro p l e s m args below meth c' G ad A H locs ls X hP hD hS hl
  have hkk := kk p l e s m args below meth c' G ad A H locs ls X hP hD hS hl
  obtain ⟨q0, hq0, hw⟩ := wl_get G ad h (c := c) (i := i) (by rw [hl0]; exact hi)
  rw [cE_2 hl0] at hw
  refine va_zald X.1 X.2.1 X.2.2.2.2.2.2.2 hP q0 1 hw rfl (vp_in_nI hk hn) hdg ?_
  rw [nI_clamp (by omega)]
  exact hkk
theorem v_iast {c i n b w : Nat} {j x : Int32} (k : Nat) (hl0 : lay c = (1, n, b, w)) (hdg : decode cc pc = .ok (.iastore, 1)) (hi : i < w) (hj : j = nI k) (hk : k < n) (kk : Vw own cc nL ret d Q (pc + 1) lv st (put h c i k x)) : Vw own cc nL ret d Q pc lv (.inl x :: .inl j :: .inr (some (c, i)) :: st) h := by
  subst hj
  have hn : n < 2 ^ 31 := by have := lay_small c; rw [hl0] at this; exact this
  intro p l e s m args below meth c' G ad A H locs ls X hP hD hS hl
  obtain ⟨q0, hq0, hw⟩ := wl_get G ad h (c := c) (i := i) (by rw [hl0]; exact hi)
  rw [cE_1 hl0] at hw
  refine va_iast X.1 X.2.1 X.2.2.2.2.2.2.2 hP hD hS.1 q0 0 hw rfl (vp_in_nI hk hn) hdg (fun H1 locs1 a1 a2 a3 => ?_)
  rw [nI_clamp (by omega), wl_puti hq0 hl0] at a1 a2
  exact kk p l e s m args below meth c' G ad A H1 locs1 ls X a1 a2 ⟨a3, hS.2⟩ hl
theorem v_zast {c i n b w : Nat} {j x : Int32} (k : Nat) (hl0 : lay c = (2, n, b, w)) (hdg : decode cc pc = .ok (.bastore, 1)) (hi : i < w) (hj : j = nI k) (hk : k < n) (hx : x = 0 ∨ x = 1) (kk : Vw own cc nL ret d Q (pc + 1) lv st (put h c i k x)) : Vw own cc nL ret d Q pc lv (.inl x :: .inl j :: .inr (some (c, i)) :: st) h := by
  subst hj
  have hn : n < 2 ^ 31 := by have := lay_small c; rw [hl0] at this; exact this
  intro p l e s m args below meth c' G ad A H locs ls X hP hD hS hl
  obtain ⟨q0, hq0, hw⟩ := wl_get G ad h (c := c) (i := i) (by rw [hl0]; exact hi)
  rw [cE_2 hl0] at hw
  refine va_zast X.1 X.2.1 X.2.2.2.2.2.2.2 hP hD hS.1 q0 1 hw rfl (vp_in_nI hk hn) hdg (fun H1 locs1 a1 a2 a3 => ?_)
  rw [nI_clamp (by omega), (nar_z hx).2.2, wl_putz hq0 hl0] at a1 a2
  exact kk p l e s m args below meth c' G ad A H1 locs1 ls X a1 a2 ⟨a3, hS.2⟩ hl
/-- the arrays of references that stay -/
theorem v_aaldF {c i n b w : Nat} {j : Int32} (k : Nat) (hl0 : lay c = (3, n, b, w)) (hdg : decode cc pc = .ok (.aaload, 1)) (hi : i < w) (hj : j = nI k) (hk : k < n) (kk : Vw own cc nL ret d Q (pc + 1) lv (.inr (some (b, k)) :: st) h) : Vw own cc nL ret d Q pc lv (.inl j :: .inr (some (c, i)) :: st) h := by
  subst hj
  have hn : n < 2 ^ 31 := by have := lay_small c; rw [hl0] at this; exact this
  intro p l e s m args below meth c' G ad A H locs ls X hP hD hS hl
  have hkk := kk p l e s m args below meth c' G ad A H locs ls X hP hD hS hl
  obtain ⟨q0, hq0, hw⟩ := wl_get G ad h (c := c) (i := i) (by rw [hl0]; exact hi)
  rw [cE_3 hl0] at hw
  refine va_aldq X.1 X.2.1 X.2.2.2.2.2.2.2 hP q0 2 hw rfl (vp_in_nI hk hn) hdg ?_
  rw [nI_clamp (by omega)]
  exact hkk
theorem v_aaldG {c i n b w : Nat} {j : Int32} (k : Nat) (hl0 : lay c = (4, n, b, w)) (hdg : decode cc pc = .ok (.aaload, 1)) (hi : i < w) (hj : j = nI k) (hk : k < n) (kk : Vw own cc nL ret d Q (pc + 1) lv (.inr (some (b, k)) :: st) h) : Vw own cc nL ret d Q pc lv (.inl j :: .inr (some (c, i)) :: st) h := by
  subst hj
  have hn : n < 2 ^ 31 := by have := lay_small c; rw [hl0] at this; exact this
  have hin := vp_in_nI hk hn
  have hc0 : (nI k).toNatClampNeg = k := nI_clamp (by omega)
  intro p l e s m args below meth c' G ad A H locs ls X hP hD hS hl
  have hkk := kk p l e s m args below meth c' G ad A H locs ls X hP hD hS hl
  obtain ⟨q0, hq0, hw⟩ := wl_get G ad h (c := c) (i := i) (by rw [hl0]; exact hi)
  rw [cE_4 hl0] at hw
  exact W.aald (v := .ref (ad b k)) (ty := .array .int) X.1 X.2.1 (hP q0 _ hw) ((X.2.2.2.2.2.2.2.2 3 _ rfl).1 n (fun j => va_rf (some (ad b j)))) rfl (fun q => by cases q) (by show ¬ (_ ∨ (arrV _ _ _).slots.size ≤ _); rw [arrV_size]; exact hin) (by show (arrV _ _ _).slots[_]? = _; rw [hc0, arrV_read _ _ hk]; rfl) rfl rfl hdg hkk
/-- the queue's array -/
theorem v_aaldQ {j : Int32} (k : Nat) (hdg : decode cc pc = .ok (.aaload, 1)) (hj : j = nI k) (hk : k < 24) (kk : Vw own cc nL ret d Q (pc + 1) lv (.inr ((h.2 k).map (fun t => (7, t))) :: st) h) : Vw own cc nL ret d Q pc lv (.inl j :: .inr (some (11, 0)) :: st) h := by
  subst hj
  intro p l e s m args below meth c' G ad A H locs ls X hP hD hS hl
  have hkk := kk p l e s m args below meth c' G ad A H locs ls X hP hD hS hl
  obtain ⟨q0, hq0, hw⟩ := wl_get G ad h (c := 11) (i := 0) (by decide)
  rw [cE_5 (n := 24) (b := 0) (w := 1) rfl] at hw
  refine va_aldq X.1 X.2.1 X.2.2.2.2.2.2.2 hP q0 2 hw rfl (vp_in_nI hk (by omega)) hdg ?_
  rw [nI_clamp (by omega)]
  have e1 : va_rf ((h.2 k).map (ad 7)) = rv ad (.inr ((h.2 k).map (fun t => (7, t)))) := by cases h.2 k <;> rfl
  rw [e1]
  exact hkk
theorem v_aastQ {j : Int32} {r : Option Nat} (k : Nat) (hdg : decode cc pc = .ok (.aastore, 1)) (hj : j = nI k) (hk : k < 24) (hr : ∀ t, r = some t → t < 24) (kk : Vw own cc nL ret d Q (pc + 1) lv st (putq h k r)) : Vw own cc nL ret d Q pc lv (.inr (r.map (fun t => (7, t))) :: .inl j :: .inr (some (11, 0)) :: st) h := by
  subst hj
  intro p l e s m args below meth c' G ad A H locs ls X hP hD hS hl
  obtain ⟨q0, hq0, hw⟩ := wl_get G ad h (c := 11) (i := 0) (by decide)
  rw [cE_5 (n := 24) (b := 0) (w := 1) rfl] at hw
  have hset := wl_putq (G := G) (ad := ad) (h := h) (k := k) (r := r) hq0
  cases r with
  | none =>
    refine va_astqN X.1 X.2.1 X.2.2.2.2.2.2.2 hP hD hS.1 q0 2 hw rfl (vp_in_nI hk (by omega)) hdg (fun H1 locs1 a1 a2 a3 => ?_)
    rw [nI_clamp (by omega)] at a1 a2
    exact kk p l e s m args below meth c' G ad A H1 locs1 ls X (by rw [← hset]; exact a1) (by rw [← hset]; exact a2) ⟨a3, hS.2⟩ hl
  | some t =>
    obtain ⟨q1, hq1, hw1⟩ := wl_get G ad h (c := 7) (i := t) (hr t rfl)
    rw [cE_0 (ci := 1) (N := 15) (n := 24) rfl] at hw1
    refine va_astq X.1 X.2.1 X.2.2.2.2.2.2.2 hP hD hS.1 q0 2 q1 1 hw rfl hw1 rfl (vp_in_nI hk (by omega)) hdg (fun H1 locs1 a1 a2 a3 => ?_)
    rw [nI_clamp (by omega)] at a1 a2
    exact kk p l e s m args below meth c' G ad A H1 locs1 ls X (by rw [← hset]; exact a1) (by rw [← hset]; exact a2) ⟨a3, hS.2⟩ hl
/-! ends -/
theorem v_iret {x : Int32} (hdg : decode cc pc = .ok (.ireturn, 1)) (hq : Q (some (.inl x)) h) : Vw own cc nL (some .int) d Q pc lv [.inl x] h :=
  fun p l e s m args below meth c G ad A H locs ls X hP hD hS hl => W.iret (v := x) X.1 X.2.1 X.2.2.2.1 (fun t ht hW => ⟨⟨some (.inl x), h, rfl, hq, by rw [ht]; exact hP, hD⟩, hS.1.F ht⟩) hS.1.2.2 hdg X.2.2.2.2.2.1
theorem v_zret {x : Int32} (hdg : decode cc pc = .ok (.ireturn, 1)) (hx : x = 0 ∨ x = 1) (hq : Q (some (.inl x)) h) : Vw own cc nL (some .boolean) d Q pc lv [.inl x] h :=
  fun p l e s m args below meth c G ad A H locs ls X hP hD hS hl => W.zret (v := x) (ty := .boolean) X.1 X.2.1 X.2.2.2.1 (nar_z hx).1 (fun t ht hW => ⟨⟨some (.inl x), h, rfl, hq, by rw [ht]; exact hP, hD⟩, hS.1.F ht⟩) hS.1.2.2 hdg X.2.2.2.2.2.1
theorem v_vret (hdg : decode cc pc = .ok (.return_, 1)) (hq : Q none h) : Vw own cc nL none d Q pc lv [] h :=
  fun p l e s m args below meth c G ad A H locs ls X hP hD hS hl => W.vret X.1 X.2.1 X.2.2.2.1 (fun t ht hW => ⟨⟨none, h, rfl, hq, by rw [ht]; exact hP, hD⟩, hS.1.F ht⟩) hS.1.2.2 hdg X.2.2.2.2.2.1
theorem v_aret {r : Option (Nat × Nat)} {n : String} (hdg : decode cc pc = .ok (.areturn, 1)) (hq : Q (some (.inr r)) h) : Vw own cc nL (some (.object n)) d Q pc lv [.inr r] h :=
  fun p l e s m args below meth c G ad A H locs ls X hP hD hS hl => W.aret (v := rv ad (.inr r)) (rt := .object n) X.1 X.2.1 X.2.2.2.1 (Or.inl ⟨n, rfl⟩) (by cases r with | none => exact Or.inl rfl | some q => exact Or.inr ⟨_, rfl⟩) (fun t ht hW => ⟨⟨some (.inr r), h, rfl, hq, by rw [ht]; exact hP, hD⟩, hS.1.F ht⟩) hS.1.2.2 hdg X.2.2.2.2.2.1
/-! calls -/
def CQ (own : String) (idx : Nat) (y : MethodName) (n : Nat) : Prop := Cond.methodLink own idx y ∈ lw_tbl ∧ Cond.instanceMethod y ∈ lw_tbl ∧ Cond.selects y.cls y y ∈ lw_tbl ∧ Cond.initialized y.cls ∈ lw_tbl ∧ y.cls ≠ "java/lang/invoke/MethodHandle" ∧ y.cls ≠ "java/lang/invoke/VarHandle" ∧ (parseMethodDescriptor y.desc).map (fun d => d.parameters.length) = some n
def SQ (own : String) (idx : Nat) (y : MethodName) (n : Nat) : Prop := Cond.methodLink own idx y ∈ lw_tbl ∧ Cond.static y ∈ lw_tbl ∧ Cond.initialized y.cls ∈ lw_tbl ∧ y.cls ≠ "java/lang/invoke/MethodHandle" ∧ y.cls ≠ "java/lang/invoke/VarHandle" ∧ (parseMethodDescriptor y.desc).map (fun d => d.parameters.length) = some n
theorem Pw_blind (G : tG) (ad : Nat → Nat → Nat) (sz : Nat) (h : tH) (as : List Value) : FrameBlind (va_Pc as (Pw G ad sz h)) := by
  intro a U g mk q
  obtain ⟨q0, q1, q2, q3, q4, q5⟩ := q
  exact ⟨q0, q1, q2, q3, va_K.moved (u := U) (U := U.calling g mk a) (Vm.Alike.refl U.vm) q4, Tb.same (u := U) (U := U.calling g mk a) rfl q5⟩
theorem va_callw {p : Program} {l : Launch} {e : Env} {R : Room} {s : State} {m : MethodId} {args : Array Value} {below : List Frame} {meth : Method} {c : Code} {H : Heap} {locs : List Loc} {cells slots : Nat} {Qx : State → Prop} {pc : Nat} {ls : Array Slot} {rest st0 : List Value} {a : Array Value} {A0 A1 : Nat → Prop} {H0 : Heap} {mc ms : Nat} {free : Addr → Prop} {G : tG} {ad : Nat → Nat → Nat} {Q' : Option tV → tH → Prop}
    (hr : va_Run p l e R s m args below meth c H locs cells slots mc ms (F0 m pc ls st0) rest (Qw G ad A1 Q' a) free) (hS : va_S A0 H0 H locs) (hA : ∀ q, q < H.size → A1 q → A0 q) (hf : ∀ q, free q → A0 q)
    (kk : ∀ (r : Option tV) (h' : tH) (H1 : Heap) (locs1 : List Loc), Q' r h' → va_P G.1 vwCl (wl G ad h') H1 → va_D A1 (wl G ad h') → va_S A0 H0 H1 locs1 → W p l e R s m args below meth c H1 locs1 (cells + mc) (slots + ms) Qx (F0 m (pc + 3) ls ((r.map (rv ad)).toList ++ rest))) : W p l e R s m args below meth c H locs cells slots Qx (F0 m pc ls st0) := by
  intro T hT X
  obtain ⟨v, st₀, t, T', L, h0, X', hL, e1, e2, ⟨⟨r, h', hv, hp, hb1, hb2⟩, hz, hk⟩, st⟩ := hr T hT X
  cases hv
  rw [h0] at hz hk
  obtain ⟨t2, a1, b1⟩ := kk r h' T'.heap (locs ++ L) hp (by rw [e1]; exact hb1) hb2
    ⟨Nat.le_trans hS.1 (by rw [e1]; exact hz), fun q h1 h2 => by rw [e1, hk q (Nat.lt_of_lt_of_le h1 hS.1) (fun z => h2 (hA q (Nat.lt_of_lt_of_le h1 hS.1) z))]; exact hS.2.1 q h1 h2, fun q hq => by
      rcases List.mem_append.mp hq with h | h
      · exact hS.2.2 q h
      · exact hf _ (hL q h)⟩ T' rfl X'
  exact ⟨t2, st t2 a1, b1⟩
theorem st_room {ad : Nat → Nat → Nat} : ∀ {st : List tV} {n : Nat}, st.length ≤ n → ((st.map (rv ad)).map fun v => v.category).sum ≤ n
  | [], _, _ => Nat.zero_le _
  | a :: st, n, h => by
    have h2 : st.length ≤ n - 1 := by simp at h; omega
    have := st_room (ad := ad) h2
    simp only [List.map_cons, List.sum_cons, rv_cat]
    simp at h
    omega
theorem v_callV {y : MethodName} {cc' : ByteArray} {maxL' d' n idx ci N w c0 i : Nat} {ret' : Option FieldType} {as : List tV} {Q' : Option tV → tH → Prop} {T : u_T} (hq : CQ own idx y n) (hcd : Cond.code y cc' maxL' ret' ∈ lw_tbl) (hC : Ct y cc' maxL' ret' d' (.inr (some (c0, i)) :: as) h Q') (hdg : decode cc pc = .ok (.invokevirtual idx, 3)) (hl0 : lay c0 = (0, ci, N, w)) (hcl : vwCl[ci]? = some (y.cls, T, N)) (hi : i < w) (hn : as.length = n) (hd : d' < d) (hm : maxL' ≤ 8) (hst : st.length ≤ 8)
    (kk : ∀ r h', Q' r h' → Vw own cc nL ret d Q (pc + 3) lv (r.toList ++ st) h') : Vw own cc nL ret d Q pc lv (as.reverse ++ .inr (some (c0, i)) :: st) h := by
  obtain ⟨k1, k2, k3, k4, k5, k6, k7⟩ := hq
  intro p l e s m args below meth c' G ad A H locs ls X hP hD hS hl
  obtain ⟨hx, hb, hml, hr, hown, hlk0, hT, hK⟩ := id X
  obtain ⟨q0, hq0, hw⟩ := wl_get G ad h (c := c0) (i := i) (by rw [hl0]; exact hi)
  rw [cE_0 hl0] at hw
  have hF : ∀ q, va_A (wl G ad h) H.size q → A q := by
    intro q z
    rcases z with ⟨k, e0, z⟩ | z
    · exact hD.2 k _ z
    · exact hS.2 q (Nat.le_trans hS.1.1 z)
  have hcode : ∀ (a' : Array Value) (U : State), s.WarmedH U.vm → (Cond.code y cc' maxL' ret').before a' U = true := fun a' U hW => (Tb.warm hW hT).use hcd rfl
  have run := va_runV (args := args) (below := below) (meth := meth) (e := e) (R := rmd d) (locs := locs) (cells := 0) (slots := 0) (Ts := []) (own := own) (C := y.cls) (b := ad c0 i) (As := as.map (rv ad)) (rest := st.map (rv ad)) (g := F0 m pc ls ((as.reverse ++ .inr (some (c0, i)) :: st).map (rv ad))) (H := H) ⟨hx, hb, hml, hown, fun _ h => by cases h⟩ (hC l G ad H.size)
    (n := n) (bytes := cc') (maxL := maxL') (ret := ret')
    ⟨⟨rfl, rfl, by show d' + 1 ≤ d; omega, by show 8 + (maxL' + 11) + 27 * d' ≤ 27 * d; omega, fun w hw => by rw [List.mem_singleton.mp hw]; exact hcode, List.mem_singleton.mpr rfl, hT.use hcd rfl, hT.use k4 rfl, ⟨k5, k6⟩, fun sig hs => by rw [hs] at k7; exact (Option.some.inj k7).symm, hT.use k1 rfl⟩, hT.use k2 rfl, hT.use k3 rfl⟩
    ⟨Pw_blind G ad H.size h _, va_recv hK hP hcl hw, fun U hU hW => ⟨by simp [rv], by rw [hU], by rw [hU]; exact hP, hD.weaken (fun _ _ _ _ => trivial), va_K.moved hW.alike hK, Tb.warm hW hT⟩⟩
    rfl (by simpa using hn) hl.1 (by simp [rv]) (lv_room (st_room hst)) (by exact hdg) ⟨Nat.le_refl 0, Nat.le_refl 0⟩
  refine va_callw (G := G) (ad := ad) run hS.1 (fun q _ h => hF q h) hF (fun r h' H1 locs1 hq1 hP1 hD1 hS1 => ?_)
  have := kk r h' hq1 p l e s m args below meth c' G ad A H1 locs1 ls X hP1 (hD1.weaken (fun _ q _ z => hF q.1 z)) ⟨hS1, hS.2⟩ hl
  have e1 : (r.toList ++ st).map (rv ad) = (r.map (rv ad)).toList ++ st.map (rv ad) := by cases r <;> simp
  rw [e1] at this
  exact this
theorem v_callS {y : MethodName} {cc' : ByteArray} {maxL' d' n idx : Nat} {ret' : Option FieldType} {as : List tV} {Q' : Option tV → tH → Prop} (hq : SQ own idx y n) (hcd : Cond.code y cc' maxL' ret' ∈ lw_tbl) (hC : Ct y cc' maxL' ret' d' as h Q') (hdg : decode cc pc = .ok (.invokestatic idx, 3)) (hn : as.length = n) (hd : d' < d) (hm : maxL' ≤ 8) (hst : st.length ≤ 8)
    (kk : ∀ r h', Q' r h' → Vw own cc nL ret d Q (pc + 3) lv (r.toList ++ st) h') : Vw own cc nL ret d Q pc lv (as.reverse ++ st) h := by
  obtain ⟨k1, k2, k4, k5, k6, k7⟩ := hq
  intro p l e s m args below meth c' G ad A H locs ls X hP hD hS hl
  obtain ⟨hx, hb, hml, hr, hown, hlk0, hT, hK⟩ := id X
  have hF : ∀ q, va_A (wl G ad h) H.size q → A q := by
    intro q z
    rcases z with ⟨k, e0, z⟩ | z
    · exact hD.2 k _ z
    · exact hS.2 q (Nat.le_trans hS.1.1 z)
  have hcode : ∀ (a' : Array Value) (U : State), s.WarmedH U.vm → (Cond.code y cc' maxL' ret').before a' U = true := fun a' U hW => (Tb.warm hW hT).use hcd rfl
  have run := va_runS (args := args) (below := below) (meth := meth) (e := e) (R := rmd d) (locs := locs) (cells := 0) (slots := 0) (Ts := []) (own := own) (As := as.map (rv ad)) (rest := st.map (rv ad)) (g := F0 m pc ls ((as.reverse ++ st).map (rv ad))) (H := H) ⟨hx, hb, hml, hown, fun _ h => by cases h⟩ (hC l G ad H.size)
    (n := n) (bytes := cc') (maxL := maxL') (ret := ret')
    ⟨⟨rfl, rfl, by show d' + 1 ≤ d; omega, by show 8 + (maxL' + 11) + 27 * d' ≤ 27 * d; omega, fun w hw => by rw [List.mem_singleton.mp hw]; exact hcode, List.mem_singleton.mpr rfl, hT.use hcd rfl, hT.use k4 rfl, ⟨k5, k6⟩, fun sig hs => by rw [hs] at k7; exact (Option.some.inj k7).symm, hT.use k1 rfl⟩, hT.use k2 rfl⟩
    ⟨Pw_blind G ad H.size h _, fun U hU hW => ⟨rfl, by rw [hU], by rw [hU]; exact hP, hD.weaken (fun _ _ _ _ => trivial), va_K.moved hW.alike hK, Tb.warm hW hT⟩⟩
    rfl (by simpa using hn) hl.1 (by simp) (lv_room (st_room hst)) (by exact hdg) ⟨Nat.le_refl 0, Nat.le_refl 0⟩
  refine va_callw (G := G) (ad := ad) run hS.1 (fun q _ h => hF q h) hF (fun r h' H1 locs1 hq1 hP1 hD1 hS1 => ?_)
  have := kk r h' hq1 p l e s m args below meth c' G ad A H1 locs1 ls X hP1 (hD1.weaken (fun _ q _ z => hF q.1 z)) ⟨hS1, hS.2⟩ hl
  have e1 : (r.toList ++ st).map (rv ad) = (r.map (rv ad)).toList ++ st.map (rv ad) := by cases r <;> simp
  rw [e1] at this
  exact this
end VwRows2
