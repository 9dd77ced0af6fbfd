/-! Rows of the judgement Vw: one an instruction -/
section VwRows
variable {own : String} {cc : ByteArray} {nL : Nat} {ret : Option FieldType} {d : Nat} {Q : Option tV → tH → Prop} {pc : Nat} {lv : List (Option tV)} {st : List tV} {h : tH}
theorem v_iconst {n : Int} (x : Int32) (hdg : decode cc pc = .ok (.iconst n, 1)) (hv : Int32.ofInt n = x) (k : Vw own cc nL ret d Q (pc + 1) lv (.inl x :: st) h) : Vw own cc nL ret d Q pc lv st h :=
  fun p l e s m args below meth c G ad A H locs ls C hP hD hS hl => lv_iconst C.1 C.2.1 hdg hv (k p l e s m args below meth c G ad A H locs ls C hP hD hS hl)
theorem v_bipush {n : Int} (x : Int32) (hdg : decode cc pc = .ok (.bipush n, 2)) (hv : (Int8.ofInt n).toInt32 = x) (k : Vw own cc nL ret d Q (pc + 2) lv (.inl x :: st) h) : Vw own cc nL ret d Q pc lv st h :=
  fun p l e s m args below meth c G ad A H locs ls C hP hD hS hl => lv_bipush C.1 C.2.1 hdg hv (k p l e s m args below meth c G ad A H locs ls C hP hD hS hl)
theorem v_sipush {n : Int} (x : Int32) (hdg : decode cc pc = .ok (.sipush n, 3)) (hv : (Int16.ofInt n).toInt32 = x) (k : Vw own cc nL ret d Q (pc + 3) lv (.inl x :: st) h) : Vw own cc nL ret d Q pc lv st h :=
  fun p l e s m args below meth c G ad A H locs ls C hP hD hS hl => lv_sipush C.1 C.2.1 hdg hv (k p l e s m args below meth c G ad A H locs ls C hP hD hS hl)
theorem v_iload_n {j : Fin 4} {x : Int32} (hdg : decode cc pc = .ok (.iload_n j, 1)) (hg : lv.getD j none = some (.inl x)) (k : Vw own cc nL ret d Q (pc + 1) lv (.inl x :: st) h) : Vw own cc nL ret d Q pc lv st h :=
  fun p l e s m args below meth c G ad A H locs ls C hP hD hS hl => lv_iload_n C.1 C.2.1 hdg rfl (lvR_at hl hg) (k p l e s m args below meth c G ad A H locs ls C hP hD hS hl)
theorem v_iload {j : Nat} {x : Int32} (hdg : decode cc pc = .ok (.iload j, 2)) (hg : lv.getD j none = some (.inl x)) (k : Vw own cc nL ret d Q (pc + 2) lv (.inl x :: st) h) : Vw own cc nL ret d Q pc lv st h :=
  fun p l e s m args below meth c G ad A H locs ls C hP hD hS hl => lv_iload C.1 C.2.1 hdg (lvR_at hl hg) (k p l e s m args below meth c G ad A H locs ls C hP hD hS hl)
theorem v_aload_n {j : Fin 4} {r : Option (Nat × Nat)} (hdg : decode cc pc = .ok (.aload_n j, 1)) (hg : lv.getD j none = some (.inr r)) (k : Vw own cc nL ret d Q (pc + 1) lv (.inr r :: st) h) : Vw own cc nL ret d Q pc lv st h := by
  intro p l e s m args below meth c G ad A H locs ls C hP hD hS hl
  have hk := k p l e s m args below meth c G ad A H locs ls C hP hD hS hl
  have ha := lvR_at hl hg
  cases r with
  | none => exact lv_aload_nN C.1 C.2.1 hdg rfl ha hk
  | some q => exact lv_aload_n C.1 C.2.1 hdg rfl ha hk
theorem v_aload {j : Nat} {r : Option (Nat × Nat)} (hdg : decode cc pc = .ok (.aload j, 2)) (hg : lv.getD j none = some (.inr r)) (k : Vw own cc nL ret d Q (pc + 2) lv (.inr r :: st) h) : Vw own cc nL ret d Q pc lv st h := by
  intro p l e s m args below meth c G ad A H locs ls C hP hD hS hl
  have hk := k p l e s m args below meth c G ad A H locs ls C hP hD hS hl
  have ha := lvR_at hl hg
  cases r with
  | none => exact lv_aloadN C.1 C.2.1 hdg ha hk
  | some q => exact lv_aload C.1 C.2.1 hdg ha hk
theorem v_istore_n {j : Fin 4} {x : Int32} (lv' : List (Option tV)) (hdg : decode cc pc = .ok (.istore_n j, 1)) (hs : lv.set j (some (.inl x)) = lv') (hn : (j : Nat) < nL) (k : Vw own cc nL ret d Q (pc + 1) lv' st h) : Vw own cc nL ret d Q pc lv (.inl x :: st) h := by
  subst hs
  intro p l e s m args below meth c G ad A H locs ls C hP hD hS hl
  exact lv_istore_n C.1 C.2.1 hdg rfl hl hn rfl (fun ls' hl' => k p l e s m args below meth c G ad A H locs ls' C hP hD hS (lvR_set hl'))
theorem v_istore {j : Nat} {x : Int32} (lv' : List (Option tV)) (hdg : decode cc pc = .ok (.istore j, 2)) (hs : lv.set j (some (.inl x)) = lv') (hn : j < nL) (k : Vw own cc nL ret d Q (pc + 2) lv' st h) : Vw own cc nL ret d Q pc lv (.inl x :: st) h := by
  subst hs
  intro p l e s m args below meth c G ad A H locs ls C hP hD hS hl
  exact lv_istore C.1 C.2.1 hdg hl hn rfl (fun ls' hl' => k p l e s m args below meth c G ad A H locs ls' C hP hD hS (lvR_set hl'))
theorem v_astore_n {j : Fin 4} {r : Option (Nat × Nat)} (lv' : List (Option tV)) (hdg : decode cc pc = .ok (.astore_n j, 1)) (hs : lv.set j (some (.inr r)) = lv') (hn : (j : Nat) < nL) (k : Vw own cc nL ret d Q (pc + 1) lv' st h) : Vw own cc nL ret d Q pc lv (.inr r :: st) h := by
  subst hs
  intro p l e s m args below meth c G ad A H locs ls C hP hD hS hl
  cases r with
  | none => exact lv_astore_nN C.1 C.2.1 hdg rfl hl hn rfl (fun ls' hl' => k p l e s m args below meth c G ad A H locs ls' C hP hD hS (lvR_set hl'))
  | some q => exact lv_astore_n C.1 C.2.1 hdg rfl hl hn rfl (fun ls' hl' => k p l e s m args below meth c G ad A H locs ls' C hP hD hS (lvR_set hl'))
theorem v_astore {j : Nat} {r : Option (Nat × Nat)} (lv' : List (Option tV)) (hdg : decode cc pc = .ok (.astore j, 2)) (hs : lv.set j (some (.inr r)) = lv') (hn : j < nL) (k : Vw own cc nL ret d Q (pc + 2) lv' st h) : Vw own cc nL ret d Q pc lv (.inr r :: st) h := by
  subst hs
  intro p l e s m args below meth c G ad A H locs ls C hP hD hS hl
  cases r with
  | none => exact lv_astoreN C.1 C.2.1 hdg hl hn rfl (fun ls' hl' => k p l e s m args below meth c G ad A H locs ls' C hP hD hS (lvR_set hl'))
  | some q => exact lv_astore C.1 C.2.1 hdg hl hn rfl (fun ls' hl' => k p l e s m args below meth c G ad A H locs ls' C hP hD hS (lvR_set hl'))
theorem v_iinc {j : Nat} {n : Int} {x y : Int32} (lv' : List (Option tV)) (hdg : decode cc pc = .ok (.iinc j n, 3)) (hg : lv.getD j none = some (.inl x)) (hy : x + Int32.ofInt n = y) (hs : lv.set j (some (.inl y)) = lv') (hn : j < nL) (k : Vw own cc nL ret d Q (pc + 3) lv' st h) : Vw own cc nL ret d Q pc lv st h := by
  subst hs
  intro p l e s m args below meth c G ad A H locs ls C hP hD hS hl
  obtain ⟨i, hi⟩ := List.getElem?_of_mem (lvR_mem (ad := ad) hg)
  exact lv_iinc (k := i) C.1 C.2.1 hdg hl hi hy hn rfl (fun ls' hl' => k p l e s m args below meth c G ad A H locs ls' C hP hD hS (lvR_set hl'))
theorem v_iadd {x y : Int32} (hdg : decode cc pc = .ok (.iadd, 1)) (k : Vw own cc nL ret d Q (pc + 1) lv (.inl (x + y) :: st) h) : Vw own cc nL ret d Q pc lv (.inl y :: .inl x :: st) h :=
  fun p l e s m args below meth c G ad A H locs ls C hP hD hS hl => lv_iadd C.1 C.2.1 hdg (k p l e s m args below meth c G ad A H locs ls C hP hD hS hl)
theorem v_isub {x y : Int32} (hdg : decode cc pc = .ok (.isub, 1)) (k : Vw own cc nL ret d Q (pc + 1) lv (.inl (x - y) :: st) h) : Vw own cc nL ret d Q pc lv (.inl y :: .inl x :: st) h :=
  fun p l e s m args below meth c G ad A H locs ls C hP hD hS hl => lv_isub C.1 C.2.1 hdg (k p l e s m args below meth c G ad A H locs ls C hP hD hS hl)
theorem v_imul {x y : Int32} (hdg : decode cc pc = .ok (.imul, 1)) (k : Vw own cc nL ret d Q (pc + 1) lv (.inl (x * y) :: st) h) : Vw own cc nL ret d Q pc lv (.inl y :: .inl x :: st) h :=
  fun p l e s m args below meth c G ad A H locs ls C hP hD hS hl => lv_imul C.1 C.2.1 hdg (k p l e s m args below meth c G ad A H locs ls C hP hD hS hl)
theorem v_idiv {x y : Int32} (hdg : decode cc pc = .ok (.idiv, 1)) (hne : ¬ y = 0) (k : Vw own cc nL ret d Q (pc + 1) lv (.inl (x / y) :: st) h) : Vw own cc nL ret d Q pc lv (.inl y :: .inl x :: st) h :=
  fun p l e s m args below meth c G ad A H locs ls C hP hD hS hl => lv_idiv C.1 C.2.1 hdg hne (k p l e s m args below meth c G ad A H locs ls C hP hD hS hl)
theorem v_dup {v : tV} (hdg : decode cc pc = .ok (.dup, 1)) (k : Vw own cc nL ret d Q (pc + 1) lv (v :: v :: st) h) : Vw own cc nL ret d Q pc lv (v :: st) h :=
  fun p l e s m args below meth c G ad A H locs ls C hP hD hS hl => lv_dup C.1 C.2.1 hdg (rv_cat ad v) (k p l e s m args below meth c G ad A H locs ls C hP hD hS hl)
theorem v_dup2 {v w : tV} (hdg : decode cc pc = .ok (.dup2, 1)) (k : Vw own cc nL ret d Q (pc + 1) lv (v :: w :: v :: w :: st) h) : Vw own cc nL ret d Q pc lv (v :: w :: st) h :=
  fun p l e s m args below meth c G ad A H locs ls C hP hD hS hl => lv_dup2_11 C.1 C.2.1 hdg (rv_cat ad v) (rv_cat ad w) (k p l e s m args below meth c G ad A H locs ls C hP hD hS hl)
theorem v_pop {v : tV} (hdg : decode cc pc = .ok (.pop, 1)) (k : Vw own cc nL ret d Q (pc + 1) lv st h) : Vw own cc nL ret d Q pc lv (v :: st) h :=
  fun p l e s m args below meth c G ad A H locs ls C hP hD hS hl => lv_pop C.1 C.2.1 hdg (rv_cat ad v) (k p l e s m args below meth c G ad A H locs ls C hP hD hS hl)
theorem v_goto {off : Int} (tgt : Nat) (hdg : decode cc pc = .ok (.goto off, 3)) (ht : (pc : Int) + off = (tgt : Int)) (k : Vw own cc nL ret d Q tgt lv st h) : Vw own cc nL ret d Q pc lv st h :=
  fun p l e s m args below meth c G ad A H locs ls C hP hD hS hl => lv_goto C.1 C.2.1 hdg ht (k p l e s m args below meth c G ad A H locs ls C hP hD hS hl)
theorem v_null (hdg : decode cc pc = .ok (.aconst_null, 1)) (k : Vw own cc nL ret d Q (pc + 1) lv (.inr none :: st) h) : Vw own cc nL ret d Q pc lv st h :=
  fun p l e s m args below meth c G ad A H locs ls C hP hD hS hl => lv_null C.1 C.2.1 hdg (k p l e s m args below meth c G ad A H locs ls C hP hD hS hl)
theorem v_ifnull {r : Option (Nat × Nat)} {off : Int} (tgt : Nat) (hdg : decode cc pc = .ok (.ifnull off, 3)) (ht : (pc : Int) + off = (tgt : Int)) (kt : r = none → Vw own cc nL ret d Q tgt lv st h) (kf : ∀ q, r = some q → Vw own cc nL ret d Q (pc + 3) lv st h) : Vw own cc nL ret d Q pc lv (.inr r :: st) h := by
  intro p l e s m args below meth c G ad A H locs ls C hP hD hS hl
  cases r with
  | none => exact lv_ifnullN C.1 C.2.1 hdg ht (kt rfl p l e s m args below meth c G ad A H locs ls C hP hD hS hl)
  | some q => exact lv_ifnull C.1 C.2.1 hdg (kf q rfl p l e s m args below meth c G ad A H locs ls C hP hD hS hl)
theorem v_ifnonnull {r : Option (Nat × Nat)} {off : Int} (tgt : Nat) (hdg : decode cc pc = .ok (.ifnonnull off, 3)) (ht : (pc : Int) + off = (tgt : Int)) (kt : ∀ q, r = some q → Vw own cc nL ret d Q tgt lv st h) (kf : r = none → Vw own cc nL ret d Q (pc + 3) lv st h) : Vw own cc nL ret d Q pc lv (.inr r :: st) h := by
  intro p l e s m args below meth c G ad A H locs ls C hP hD hS hl
  cases r with
  | none => exact lv_ifnonnullN C.1 C.2.1 hdg (kf rfl p l e s m args below meth c G ad A H locs ls C hP hD hS hl)
  | some q => exact lv_ifnonnull C.1 C.2.1 hdg ht (kt q rfl p l e s m args below meth c G ad A H locs ls C hP hD hS hl)
def okr (r : Option (Nat × Nat)) : Prop := ∀ q, r = some q → q.2 < (lay q.1).2.2.2
theorem wl_inj {G : tG} {ad : Nat → Nat → Nat} {A : Nat → Prop} {h : tH} (hD : va_D A (wl G ad h)) {q r : Nat × Nat} (hq : q.2 < (lay q.1).2.2.2) (hr : r.2 < (lay r.1).2.2.2) (e : ad q.1 q.2 = ad r.1 r.2) : q = r := by
  obtain ⟨i, h1, h2⟩ := wl_get G ad h hq
  obtain ⟨j, h3, h4⟩ := wl_get G ad h hr
  have hij := hD.1 i j _ _ h2 h4 e
  subst hij
  exact Option.some.inj (h1.symm.trans h3)
theorem rv_rf (ad : Nat → Nat → Nat) (r : Option (Nat × Nat)) : rv ad (.inr r) = va_rf (r.map (fun q => ad q.1 q.2)) := by cases r <;> rfl
theorem v_acmpeq {r1 r2 : Option (Nat × Nat)} {off : Int} (tgt : Nat) (hdg : decode cc pc = .ok (.if_acmp .eq off, 3)) (ht : (pc : Int) + off = (tgt : Int)) (h1 : okr r1) (h2 : okr r2) (kt : r1 = r2 → Vw own cc nL ret d Q tgt lv st h) (kf : ¬ r1 = r2 → Vw own cc nL ret d Q (pc + 3) lv st h) : Vw own cc nL ret d Q pc lv (.inr r2 :: .inr r1 :: st) h := by
  intro p l e s m args below meth c G ad A H locs ls C hP hD hS hl
  have key : r1.map (fun q => ad q.1 q.2) = r2.map (fun q => ad q.1 q.2) → r1 = r2 := by
    intro z
    cases r1 with
    | none => cases r2 with
      | none => rfl
      | some b => cases z
    | some a => cases r2 with
      | none => cases z
      | some b => rw [wl_inj hD (h1 a rfl) (h2 b rfl) (Option.some.inj z)]
  show W p l e (rmd d) s m args below meth c H locs 0 0 _ (F0 m pc ls (rv ad (.inr r2) :: rv ad (.inr r1) :: st.map (rv ad)))
  rw [rv_rf, rv_rf]
  refine lv_acmp_eq C.1 C.2.1 hdg ht (fun z => ?_) (fun z => ?_)
  · exact kt (key z) p l e s m args below meth c G ad A H locs ls C hP hD hS hl
  · exact kf (fun q => z (by rw [q])) p l e s m args below meth c G ad A H locs ls C hP hD hS hl
theorem v_if_eq {x : Int32} {off : Int} (tgt : Nat) (hdg : decode cc pc = .ok (.ifCond .eq off, 3)) (ht : (pc : Int) + off = (tgt : Int)) (kt : x = 0 → Vw own cc nL ret d Q tgt lv st h) (kf : ¬ x = 0 → Vw own cc nL ret d Q (pc + 3) lv st h) : Vw own cc nL ret d Q pc lv (.inl x :: st) h :=
  fun p l e s m args below meth c G ad A H locs ls C hP hD hS hl => lv_if_eq C.1 C.2.1 hdg ht (fun z => kt z p l e s m args below meth c G ad A H locs ls C hP hD hS hl) (fun z => kf z p l e s m args below meth c G ad A H locs ls C hP hD hS hl)
theorem v_if_ne {x : Int32} {off : Int} (tgt : Nat) (hdg : decode cc pc = .ok (.ifCond .ne off, 3)) (ht : (pc : Int) + off = (tgt : Int)) (kt : ¬ x = 0 → Vw own cc nL ret d Q tgt lv st h) (kf : x = 0 → Vw own cc nL ret d Q (pc + 3) lv st h) : Vw own cc nL ret d Q pc lv (.inl x :: st) h :=
  fun p l e s m args below meth c G ad A H locs ls C hP hD hS hl => lv_if_ne C.1 C.2.1 hdg ht (fun z => kt z p l e s m args below meth c G ad A H locs ls C hP hD hS hl) (fun z => kf z p l e s m args below meth c G ad A H locs ls C hP hD hS hl)
theorem v_if_lt {x : Int32} {off : Int} (tgt : Nat) (hdg : decode cc pc = .ok (.ifCond .lt off, 3)) (ht : (pc : Int) + off = (tgt : Int)) (kt : x < 0 → Vw own cc nL ret d Q tgt lv st h) (kf : ¬ x < 0 → Vw own cc nL ret d Q (pc + 3) lv st h) : Vw own cc nL ret d Q pc lv (.inl x :: st) h :=
  fun p l e s m args below meth c G ad A H locs ls C hP hD hS hl => lv_if_lt C.1 C.2.1 hdg ht (fun z => kt z p l e s m args below meth c G ad A H locs ls C hP hD hS hl) (fun z => kf z p l e s m args below meth c G ad A H locs ls C hP hD hS hl)
theorem v_if_ge {x : Int32} {off : Int} (tgt : Nat) (hdg : decode cc pc = .ok (.ifCond .ge off, 3)) (ht : (pc : Int) + off = (tgt : Int)) (kt : 0 ≤ x → Vw own cc nL ret d Q tgt lv st h) (kf : ¬ 0 ≤ x → Vw own cc nL ret d Q (pc + 3) lv st h) : Vw own cc nL ret d Q pc lv (.inl x :: st) h :=
  fun p l e s m args below meth c G ad A H locs ls C hP hD hS hl => lv_if_ge C.1 C.2.1 hdg ht (fun z => kt z p l e s m args below meth c G ad A H locs ls C hP hD hS hl) (fun z => kf z p l e s m args below meth c G ad A H locs ls C hP hD hS hl)
theorem v_if_gt {x : Int32} {off : Int} (tgt : Nat) (hdg : decode cc pc = .ok (.ifCond .gt off, 3)) (ht : (pc : Int) + off = (tgt : Int)) (kt : 0 < x → Vw own cc nL ret d Q tgt lv st h) (kf : ¬ 0 < x → Vw own cc nL ret d Q (pc + 3) lv st h) : Vw own cc nL ret d Q pc lv (.inl x :: st) h :=
  fun p l e s m args below meth c G ad A H locs ls C hP hD hS hl => lv_if_gt C.1 C.2.1 hdg ht (fun z => kt z p l e s m args below meth c G ad A H locs ls C hP hD hS hl) (fun z => kf z p l e s m args below meth c G ad A H locs ls C hP hD hS hl)
theorem v_if_le {x : Int32} {off : Int} (tgt : Nat) (hdg : decode cc pc = .ok (.ifCond .le off, 3)) (ht : (pc : Int) + off = (tgt : Int)) (kt : x ≤ 0 → Vw own cc nL ret d Q tgt lv st h) (kf : ¬ x ≤ 0 → Vw own cc nL ret d Q (pc + 3) lv st h) : Vw own cc nL ret d Q pc lv (.inl x :: st) h :=
  fun p l e s m args below meth c G ad A H locs ls C hP hD hS hl => lv_if_le C.1 C.2.1 hdg ht (fun z => kt z p l e s m args below meth c G ad A H locs ls C hP hD hS hl) (fun z => kf z p l e s m args below meth c G ad A H locs ls C hP hD hS hl)
theorem v_icmp_eq {x y : Int32} {off : Int} (tgt : Nat) (hdg : decode cc pc = .ok (.if_icmp .eq off, 3)) (ht : (pc : Int) + off = (tgt : Int)) (kt : x = y → Vw own cc nL ret d Q tgt lv st h) (kf : ¬ x = y → Vw own cc nL ret d Q (pc + 3) lv st h) : Vw own cc nL ret d Q pc lv (.inl y :: .inl x :: st) h :=
  fun p l e s m args below meth c G ad A H locs ls C hP hD hS hl => lv_icmp_eq C.1 C.2.1 hdg ht (fun z => kt z p l e s m args below meth c G ad A H locs ls C hP hD hS hl) (fun z => kf z p l e s m args below meth c G ad A H locs ls C hP hD hS hl)
theorem v_icmp_ne {x y : Int32} {off : Int} (tgt : Nat) (hdg : decode cc pc = .ok (.if_icmp .ne off, 3)) (ht : (pc : Int) + off = (tgt : Int)) (kt : ¬ x = y → Vw own cc nL ret d Q tgt lv st h) (kf : x = y → Vw own cc nL ret d Q (pc + 3) lv st h) : Vw own cc nL ret d Q pc lv (.inl y :: .inl x :: st) h :=
  fun p l e s m args below meth c G ad A H locs ls C hP hD hS hl => lv_icmp_ne C.1 C.2.1 hdg ht (fun z => kt z p l e s m args below meth c G ad A H locs ls C hP hD hS hl) (fun z => kf z p l e s m args below meth c G ad A H locs ls C hP hD hS hl)
theorem v_icmp_lt {x y : Int32} {off : Int} (tgt : Nat) (hdg : decode cc pc = .ok (.if_icmp .lt off, 3)) (ht : (pc : Int) + off = (tgt : Int)) (kt : x < y → Vw own cc nL ret d Q tgt lv st h) (kf : ¬ x < y → Vw own cc nL ret d Q (pc + 3) lv st h) : Vw own cc nL ret d Q pc lv (.inl y :: .inl x :: st) h :=
  fun p l e s m args below meth c G ad A H locs ls C hP hD hS hl => lv_icmp_lt C.1 C.2.1 hdg ht (fun z => kt z p l e s m args below meth c G ad A H locs ls C hP hD hS hl) (fun z => kf z p l e s m args below meth c G ad A H locs ls C hP hD hS hl)
theorem v_icmp_ge {x y : Int32} {off : Int} (tgt : Nat) (hdg : decode cc pc = .ok (.if_icmp .ge off, 3)) (ht : (pc : Int) + off = (tgt : Int)) (kt : y ≤ x → Vw own cc nL ret d Q tgt lv st h) (kf : ¬ y ≤ x → Vw own cc nL ret d Q (pc + 3) lv st h) : Vw own cc nL ret d Q pc lv (.inl y :: .inl x :: st) h :=
  fun p l e s m args below meth c G ad A H locs ls C hP hD hS hl => lv_icmp_ge C.1 C.2.1 hdg ht (fun z => kt z p l e s m args below meth c G ad A H locs ls C hP hD hS hl) (fun z => kf z p l e s m args below meth c G ad A H locs ls C hP hD hS hl)
theorem v_icmp_gt {x y : Int32} {off : Int} (tgt : Nat) (hdg : decode cc pc = .ok (.if_icmp .gt off, 3)) (ht : (pc : Int) + off = (tgt : Int)) (kt : y < x → Vw own cc nL ret d Q tgt lv st h) (kf : ¬ y < x → Vw own cc nL ret d Q (pc + 3) lv st h) : Vw own cc nL ret d Q pc lv (.inl y :: .inl x :: st) h :=
  fun p l e s m args below meth c G ad A H locs ls C hP hD hS hl => lv_icmp_gt C.1 C.2.1 hdg ht (fun z => kt z p l e s m args below meth c G ad A H locs ls C hP hD hS hl) (fun z => kf z p l e s m args below meth c G ad A H locs ls C hP hD hS hl)
theorem v_icmp_le {x y : Int32} {off : Int} (tgt : Nat) (hdg : decode cc pc = .ok (.if_icmp .le off, 3)) (ht : (pc : Int) + off = (tgt : Int)) (kt : x ≤ y → Vw own cc nL ret d Q tgt lv st h) (kf : ¬ x ≤ y → Vw own cc nL ret d Q (pc + 3) lv st h) : Vw own cc nL ret d Q pc lv (.inl y :: .inl x :: st) h :=
  fun p l e s m args below meth c G ad A H locs ls C hP hD hS hl => lv_icmp_le C.1 C.2.1 hdg ht (fun z => kt z p l e s m args below meth c G ad A H locs ls C hP hD hS hl) (fun z => kf z p l e s m args below meth c G ad A H locs ls C hP hD hS hl)
end VwRows
