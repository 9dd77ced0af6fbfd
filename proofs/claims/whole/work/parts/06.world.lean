/-! The system's state: families of cells (a family: a number; its members by an index), each cell's slots as whole numbers; references that never change stand in the layout, the queue's own array of references apart. -/
abbrev tV : Type := Int32 ⊕ Option (Nat × Nat)
abbrev tH : Type := (Nat → Nat → Nat → Int32) × (Nat → Option Nat)
abbrev tG : Type := va_G × (Nat → ClassId)
def rv (ad : Nat → Nat → Nat) (v : tV) : Value := match v with
  | .inl x => .int x
  | .inr none => .null
  | .inr (some q) => .ref (ad q.1 q.2)
/-- a family: (0, its class, its slots, how many) an object; (1, length, 0, how many) int[]; (2, ..) boolean[]; (3, length, target, ..) Fiber[] that stays; (4, ..) int[][] that stays; (5, ..) the queue's Fiber[] -/
def lays : List (Nat × Nat × Nat × Nat) := [(0, 6, 2, 1), (0, 3, 4, 1), (1, 12, 0, 1), (4, 12, 4, 1), (1, 20, 0, 12), (4, 12, 6, 1), (1, 20, 0, 12), (0, 1, 15, 24), (1, 4, 0, 24), (1, 4, 0, 24), (0, 2, 2, 1), (5, 24, 0, 1), (0, 0, 2, 1), (2, 8, 0, 1), (1, 8, 0, 1), (0, 4, 3, 1), (1, 100, 0, 1), (1, 100, 0, 1), (0, 5, 13, 1), (3, 24, 7, 1), (0, 7, 35, 1), (1, 12, 0, 1), (1, 240, 0, 1), (1, 240, 0, 1), (1, 24, 0, 1), (1, 24, 0, 1), (1, 24, 0, 1), (1, 24, 0, 1), (1, 24, 0, 1), (1, 96, 0, 1), (2, 24, 0, 1), (1, 24, 0, 1), (1, 96, 0, 1), (1, 24, 0, 1), (1, 24, 0, 1), (1, 24, 0, 1), (1, 24, 0, 1), (1, 24, 0, 1), (1, 25, 0, 1), (1, 8, 0, 1), (2, 8, 0, 1), (1, 100, 0, 1), (1, 100, 0, 1)]
def lay (c : Nat) : Nat × Nat × Nat × Nat := lays.getD c (9, 0, 0, 0)
/-- which slots are references that stay: (family, 0: its first, 1: the one of the same index) -/
def sks : List (List (Option (Nat × Nat))) := [[some (1, 0), some (18, 0)], [some (2, 0), some (3, 0), some (5, 0), none], [], [], [], [], [], [none, some (8, 1), some (9, 1)], [], [], [some (11, 0), none], [], [some (13, 0), some (14, 0)], [], [], [some (16, 0), some (17, 0), none], [], [], [some (1, 0), some (19, 0), some (10, 0), some (12, 0), some (15, 0)], [],
  [none, none, some (21, 0), some (22, 0), some (23, 0), none, none, none, none, none, none, none, some (24, 0), some (25, 0), some (26, 0), some (27, 0), some (28, 0), some (29, 0), some (30, 0), some (31, 0), some (32, 0), some (33, 0), some (34, 0), some (35, 0), some (36, 0), some (37, 0), none, none, some (38, 0), some (39, 0), some (40, 0), none, some (41, 0), some (42, 0), none]]
def sk (c k : Nat) : Option (Nat × Nat) := (sks.getD c []).getD k none
def rfi (i m : Nat) : Nat := if m = 0 then 0 else i
def fv (ad : Nat → Nat → Nat) (c i k : Nat) (x : Int32) : Value := match sk c k with
  | none => .int x
  | some q => .ref (ad q.1 (rfi i q.2))
def fvs (ad : Nat → Nat → Nat) (c i N : Nat) (f : Nat → Int32) : List Value := (List.range N).map (fun k => fv ad c i k (f k))
def cE (G : tG) (ad : Nat → Nat → Nat) (h : tH) (c i : Nat) : va_E := match lay c with
  | (0, ci, N, _) => .inr (ci, fvs ad c i N (h.1 c i))
  | (1, n, _, _) => .inl (G.2 0, n, .inl (h.1 c i))
  | (2, n, _, _) => .inl (G.2 1, n, .inl (h.1 c i))
  | (3, n, b, _) => .inl (G.2 2, n, .inr (.inr (.inr (.inr (fun j => some (ad b j))))))
  | (4, n, b, _) => .inl (G.2 3, n, .inr (.inr (.inr (.inr (fun j => some (ad b j))))))
  | (5, n, _, _) => .inl (G.2 2, n, .inr (.inr (.inr (.inr (fun j => (h.2 j).map (ad 7))))))
  | _ => .inr (99, [])
theorem cE_0 {G : tG} {ad : Nat → Nat → Nat} {h : tH} {c i ci N n : Nat} (hl : lay c = (0, ci, N, n)) : cE G ad h c i = .inr (ci, fvs ad c i N (h.1 c i)) := by unfold cE; rw [hl]; rfl
theorem cE_1 {G : tG} {ad : Nat → Nat → Nat} {h : tH} {c i n b w : Nat} (hl : lay c = (1, n, b, w)) : cE G ad h c i = .inl (G.2 0, n, .inl (h.1 c i)) := by unfold cE; rw [hl]; rfl
theorem cE_2 {G : tG} {ad : Nat → Nat → Nat} {h : tH} {c i n b w : Nat} (hl : lay c = (2, n, b, w)) : cE G ad h c i = .inl (G.2 1, n, .inl (h.1 c i)) := by unfold cE; rw [hl]; rfl
theorem cE_3 {G : tG} {ad : Nat → Nat → Nat} {h : tH} {c i n b w : Nat} (hl : lay c = (3, n, b, w)) : cE G ad h c i = .inl (G.2 2, n, .inr (.inr (.inr (.inr (fun j => some (ad b j)))))) := by unfold cE; rw [hl]; rfl
theorem cE_4 {G : tG} {ad : Nat → Nat → Nat} {h : tH} {c i n b w : Nat} (hl : lay c = (4, n, b, w)) : cE G ad h c i = .inl (G.2 3, n, .inr (.inr (.inr (.inr (fun j => some (ad b j)))))) := by unfold cE; rw [hl]; rfl
theorem cE_5 {G : tG} {ad : Nat → Nat → Nat} {h : tH} {c i n b w : Nat} (hl : lay c = (5, n, b, w)) : cE G ad h c i = .inl (G.2 2, n, .inr (.inr (.inr (.inr (fun j => (h.2 j).map (ad 7)))))) := by unfold cE; rw [hl]; rfl
theorem cE_congr {G : tG} {ad : Nat → Nat → Nat} {h h' : tH} {c i : Nat} (h1 : h'.1 c i = h.1 c i) (h2 : (lay c).1 = 5 → h'.2 = h.2) : cE G ad h' c i = cE G ad h c i := by
  unfold cE
  rw [h1]
  split <;> first | rfl | (rename_i hl; rw [h2 (by rw [hl])])
/-- all cells -/
def fams : List (Nat × Nat) := (List.range 43).flatMap (fun c => (List.range (lay c).2.2.2).map (fun i => (c, i)))
def fpos (q : Nat × Nat) : Nat := ((List.range q.1).map (fun c => (lay c).2.2.2)).sum + q.2
theorem fams_pos : ∀ (k : Nat) (q : Nat × Nat), fams[k]? = some q → fpos q = k := by
  have h : (List.range fams.length).all (fun k => decide ((fams[k]?).map fpos = some k)) = true := by decide +kernel
  intro k q hk
  have hl := (List.getElem?_eq_some_iff.mp hk).1
  have h1 := of_decide_eq_true (List.all_eq_true.mp h k (List.mem_range.mpr hl))
  rw [hk] at h1
  exact Option.some.inj h1
theorem fam_at {c i : Nat} (hi : i < (lay c).2.2.2) : ∃ k : Nat, fams[k]? = some (c, i) := by
  have hc : c < 43 := by
    rcases Nat.lt_or_ge c 43 with h | h
    · exact h
    · exfalso
      have : lays[c]? = none := List.getElem?_eq_none (by simpa [lays] using h)
      unfold lay at hi
      rw [List.getD_eq_getElem?_getD, this] at hi
      exact absurd hi (by simp)
  exact List.getElem?_of_mem (List.mem_flatMap.mpr ⟨c, List.mem_range.mpr hc, List.mem_map.mpr ⟨i, List.mem_range.mpr hi, rfl⟩⟩)
def wl (G : tG) (ad : Nat → Nat → Nat) (h : tH) : va_W := fams.map (fun q => (ad q.1 q.2, cE G ad h q.1 q.2))
theorem wl_get (G : tG) (ad : Nat → Nat → Nat) (h : tH) {c i : Nat} (hi : i < (lay c).2.2.2) : ∃ k : Nat, fams[k]? = some (c, i) ∧ (wl G ad h)[k]? = some (ad c i, cE G ad h c i) := by
  obtain ⟨k, hk⟩ := fam_at hi
  exact ⟨k, hk, by unfold wl; rw [List.getElem?_map, hk]; rfl⟩
theorem wl_set {G : tG} {ad : Nat → Nat → Nat} {h h' : tH} {c i k : Nat} {e : va_E} (hk : fams[k]? = some (c, i)) (he : e = cE G ad h' c i) (ho : ∀ q : Nat × Nat, q ∈ fams → q ≠ (c, i) → cE G ad h' q.1 q.2 = cE G ad h q.1 q.2) : (wl G ad h).set k (ad c i, e) = wl G ad h' := by
  subst he
  have hl := (List.getElem?_eq_some_iff.mp hk).1
  apply List.ext_getElem?
  intro j
  by_cases hj : j = k
  · subst hj
    rw [List.getElem?_set_self (by unfold wl; simpa using hl)]
    unfold wl
    rw [List.getElem?_map, hk]
    rfl
  · rw [List.getElem?_set_ne (Ne.symm hj)]
    unfold wl
    rw [List.getElem?_map, List.getElem?_map]
    cases hq : fams[j]? with
    | none => rfl
    | some q =>
      have hne : q ≠ (c, i) := fun e => hj (by rw [← fams_pos j q hq, ← fams_pos k (c, i) hk, e])
      show some (ad q.1 q.2, cE G ad h q.1 q.2) = some (ad q.1 q.2, cE G ad h' q.1 q.2)
      rw [ho q (List.mem_of_getElem? hq) hne]
def put (h : tH) (c i k : Nat) (x : Int32) : tH := (fun c' i' k' => if c' = c ∧ i' = i ∧ k' = k then x else h.1 c' i' k', h.2)
def putq (h : tH) (k : Nat) (r : Option Nat) : tH := (h.1, fun j => if j = k then r else h.2 j)
theorem put_off {h : tH} {c i k : Nat} {x : Int32} {q : Nat × Nat} (hq : q ≠ (c, i)) : (put h c i k x).1 q.1 q.2 = h.1 q.1 q.2 := by
  funext j
  show (if q.1 = c ∧ q.2 = i ∧ j = k then x else h.1 q.1 q.2 j) = _
  rw [if_neg]
  rintro ⟨e1, e2, -⟩
  exact hq (Prod.ext e1 e2)
theorem put_upd {h : tH} {c i k : Nat} {x : Int32} : (put h c i k x).1 c i = upd (h.1 c i) k x := by
  funext j
  show (if c = c ∧ i = i ∧ j = k then x else h.1 c i j) = if j = k then x else h.1 c i j
  simp
theorem fvs_get {ad : Nat → Nat → Nat} {c i N k : Nat} {f : Nat → Int32} (hk : k < N) : (fvs ad c i N f)[k]? = some (fv ad c i k (f k)) := by
  unfold fvs
  rw [List.getElem?_map, List.getElem?_range hk]
  rfl
theorem fvs_set {ad : Nat → Nat → Nat} {c i N k : Nat} {f : Nat → Int32} {x : Int32} (hk : k < N) (hs : sk c k = none) : (fvs ad c i N f).set k (.int x) = fvs ad c i N (upd f k x) := by
  apply List.ext_getElem?
  intro j
  by_cases hj : j = k
  · subst hj
    rw [List.getElem?_set_self (by unfold fvs; simpa using hk), fvs_get hk]
    unfold fv
    rw [hs]
    simp [upd]
  · rw [List.getElem?_set_ne (Ne.symm hj)]
    rcases Nat.lt_or_ge j N with h | h
    · rw [fvs_get h, fvs_get h]
      simp [upd, hj]
    · rw [List.getElem?_eq_none (by unfold fvs; simpa using h), List.getElem?_eq_none (by unfold fvs; simpa using h)]
theorem fvs_len {ad : Nat → Nat → Nat} {c i N : Nat} {f : Nat → Int32} : (fvs ad c i N f).length = N := by unfold fvs; simp
/-! the tables' words -/
def isNest : Cond → Bool
  | .fieldLinkNest .. => true
  | .methodLinkNest .. => true
  | _ => false
def tbOK (w : Cond) : Bool := (w.onTables && w.keeps) || isNest w
theorem tbOK_on {w : Cond} (h : tbOK w = true) : w.onTables = true := by
  unfold tbOK at h
  rcases Bool.or_eq_true_iff.mp h with h | h
  · exact (Bool.and_eq_true_iff.mp h).1
  · cases w <;> first | rfl | (simp [isNest] at h)
def Tb (U : State) : Prop := ∀ w ∈ lw_tbl, tbOK w = true → w.before #[] U = true
theorem Tb.use {U : State} {args : Array Value} {w : Cond} (h : Tb U) (hw : w ∈ lw_tbl) (ho : tbOK w = true) : w.before args U = true := va_tabs (tbOK_on ho) rfl (h w hw ho)
theorem Tb.same {u U : State} (e : u.vm = U.vm) (h : Tb u) : Tb U := fun w hw ho => va_tabs (tbOK_on ho) e (h w hw ho)
theorem Tb.warm {s U : State} (hW : s.WarmedH U.vm) (h : Tb s) : Tb U := by
  intro w hw ho
  have h1 := h w hw ho
  unfold tbOK at ho
  rcases Bool.or_eq_true_iff.mp ho with ho | ho
  · exact word_at hW (Or.inl ho) h1
  · cases w <;> first | exact va_Nw.warmF hW h1 | exact va_Nw.warmM hW h1 | (simp [isNest] at ho)
abbrev tyG (G : tG) : List (ClassId × FieldType) := [(G.2 0, .int), (G.2 1, .boolean), (G.2 2, .object RX1), (G.2 3, .array .int)]
/-! the judgement -/
def rmd (d : Nat) : Room := { frames := d, cells := 0, slots := 0, locals := 27 * d }
def CX (p : Program) (s : State) (m : MethodId) (meth : Method) (c : Code) (own : String) (cc : ByteArray) (nL : Nat) (ret : Option FieldType) (G : tG) : Prop :=
  p.tables.exec = Jvm.exec ∧ c.code = cc ∧ c.maxLocals = nL ∧ meth.sig.returnType = ret ∧ s.vm.findClass own = some m.cls ∧ meth.locks = false ∧ Tb s ∧ va_K G.1 vwCl (tyG G) s
def Qw (G : tG) (ad : Nat → Nat → Nat) (A : Nat → Prop) (Q : Option tV → tH → Prop) : Array Value → State → Outcome → State → Prop := fun _ st oc t =>
  (∃ (r : Option tV) (h : tH), oc = .returned (r.map (rv ad)) ∧ Q r h ∧ va_P G.1 vwCl (wl G ad h) t.heap ∧ va_D A (wl G ad h)) ∧ va_F A st t
def lvR (ad : Nat → Nat → Nat) (lv : List (Option tV)) : List (Nat × Value) := (List.range lv.length).filterMap (fun j => (lv.getD j none).map (fun v => (j, rv ad v)))
def Sx (A : Nat → Prop) (H0 H : Heap) (locs : List Loc) : Prop := va_S A H0 H locs ∧ ∀ q, H0.size ≤ q → A q
def Vw (own : String) (cc : ByteArray) (nL : Nat) (ret : Option FieldType) (d : Nat) (Q : Option tV → tH → Prop) (pc : Nat) (lv : List (Option tV)) (st : List tV) (h : tH) : Prop :=
  ∀ (p : Program) (l : Launch) (e : Env) (s : State) (m : MethodId) (args : Array Value) (below : List Frame) (meth : Method) (c : Code) (G : tG) (ad : Nat → Nat → Nat) (A : Nat → Prop) (H : Heap) (locs : List Loc) (ls : Array Slot),
    CX p s m meth c own cc nL ret G → va_P G.1 vwCl (wl G ad h) H → va_D A (wl G ad h) → Sx A s.heap H locs → lv_has ls nL (lvR ad lv) →
    W p l e (rmd d) s m args below meth c H locs 0 0 (MQ below (Qw G ad A Q) args s 0 0 A) (F0 m pc ls (st.map (rv ad)))
def Pw (G : tG) (ad : Nat → Nat → Nat) (sz : Nat) (h : tH) (U : State) : Prop := U.heap.size = sz ∧ va_P G.1 vwCl (wl G ad h) U.heap ∧ va_D (fun _ => True) (wl G ad h) ∧ va_K G.1 vwCl (tyG G) U ∧ Tb U
/-- a method's contract over the system's state: arguments, state before; answer and state behind -/
def Ct (y : MethodName) (cc : ByteArray) (maxL : Nat) (ret : Option FieldType) (d : Nat) (as : List tV) (h : tH) (Q : Option tV → tH → Prop) : Prop :=
  ∀ (l : Launch) (G : tG) (ad : Nat → Nat → Nat) (sz : Nat), Met l y [Cond.code y cc maxL ret] (rmd d) (va_Pc (as.map (rv ad)) (Pw G ad sz h)) (Qw G ad (va_A (wl G ad h) sz) Q) 0 0 (va_A (wl G ad h) sz)
theorem rv_cat (ad : Nat → Nat → Nat) (v : tV) : (rv ad v).category = 1 := by
  cases v with
  | inl x => rfl
  | inr r => cases r <;> rfl
theorem lvR_mem {ad : Nat → Nat → Nat} {lv : List (Option tV)} {j : Nat} {v : tV} (h : lv.getD j none = some v) : (j, rv ad v) ∈ lvR ad lv := by
  have hl : j < lv.length := by
    rcases Nat.lt_or_ge j lv.length with q | q
    · exact q
    · rw [List.getD_eq_getElem?_getD, List.getElem?_eq_none q] at h
      cases h
  exact List.mem_filterMap.mpr ⟨j, List.mem_range.mpr hl, by rw [h]; rfl⟩
theorem lvR_of {ad : Nat → Nat → Nat} {lv : List (Option tV)} {q : Nat × Value} (h : q ∈ lvR ad lv) : ∃ v, lv.getD q.1 none = some v ∧ q.2 = rv ad v := by
  obtain ⟨j, -, hj⟩ := List.mem_filterMap.mp h
  cases e : lv.getD j none with
  | none => rw [e] at hj; cases hj
  | some v =>
    rw [e] at hj
    cases hj
    exact ⟨v, e, rfl⟩
theorem lvR_at {ad : Nat → Nat → Nat} {ls : Array Slot} {nL j : Nat} {lv : List (Option tV)} {v : tV} (hl : lv_has ls nL (lvR ad lv)) (h : lv.getD j none = some v) : ls[j]? = some (.val (rv ad v)) := hl.2.2 _ (lvR_mem h)
theorem lvR_set {ad : Nat → Nat → Nat} {ls : Array Slot} {nL i : Nat} {lv : List (Option tV)} {v : tV} (hl : lv_has ls nL ((i, rv ad v) :: (lvR ad lv).filter (fun q => !(q.1 == i) && !(q.1 + 1 == i && q.2.category == 2)))) : lv_has ls nL (lvR ad (lv.set i (some v))) := by
  refine ⟨hl.1, hl.2.1, fun q hq => hl.2.2 q ?_⟩
  obtain ⟨w, hw, e⟩ := lvR_of hq
  obtain ⟨j, x⟩ := q
  dsimp only at hw e
  subst e
  by_cases hj : j = i
  · subst hj
    have : w = v := by
      rw [List.getD_eq_getElem?_getD] at hw
      rcases Nat.lt_or_ge j lv.length with z | z
      · rw [List.getElem?_set_self z] at hw
        exact (Option.some.inj hw).symm
      · rw [List.getElem?_eq_none (by simpa using z)] at hw
        cases hw
    subst this
    exact List.mem_cons_self
  · refine List.mem_cons_of_mem _ (List.mem_filter.mpr ⟨lvR_mem ?_, ?_⟩)
    · rw [List.getD_eq_getElem?_getD, List.getElem?_set_ne (Ne.symm hj)] at hw
      rw [List.getD_eq_getElem?_getD]
      exact hw
    · simp [hj, rv_cat]
theorem lg_len (ad : Nat → Nat → Nat) : ∀ as : List tV, (lg_sl (as.map (rv ad))).length = as.length
  | [] => rfl
  | a :: as => by
    have h := lg_len ad as
    unfold lg_sl at h ⊢
    simp only [List.map_cons, List.flatMap_cons, rv_cat, List.length_append, List.length_cons]
    rw [h]
    simp
    omega
theorem lv_argsR (ad : Nat → Nat → Nat) : ∀ (as : List tV) (k : Nat) (q : Nat × Value), (∃ (j : Nat) (v : tV), as[j]? = some v ∧ q = (k + j, rv ad v)) → q ∈ lv_args k (as.map (rv ad))
  | [], _, q, ⟨j, v, h, _⟩ => by simp at h
  | a :: as, k, q, ⟨j, v, h, e⟩ => by
    simp only [List.map_cons, lv_args, rv_cat]
    cases j with
    | zero =>
      rw [List.getElem?_cons_zero] at h
      cases h
      rw [e]
      exact List.mem_cons_self
    | succ j =>
      rw [List.getElem?_cons_succ] at h
      refine List.mem_cons_of_mem _ (lv_argsR ad as _ q ⟨j, v, h, ?_⟩)
      rw [e]
      simp
      omega
/-- a contract out of the walk of the method's body -/
theorem Ct.of {y : MethodName} {cc : ByteArray} {maxL d : Nat} {ret : Option FieldType} {as : List tV} {h : tH} {Q : Option tV → tH → Prop} (hy : plainName y.cls = true) (lv : List (Option tV)) (hlv : as.map some ++ List.replicate (maxL - as.length) none = lv) (hm : as.length ≤ maxL) (hv : Vw y.cls cc maxL ret d Q 0 lv [] h) : Ct y cc maxL ret d as h Q := by
  subst hlv
  intro l G ad sz
  refine Met.ofW (cc := cc) (maxL := maxL) (ret := ret) hy rfl ?_
  intro p e s m args below meth c s₁ B hml hvp
  obtain ⟨rfl, hsz, hP, hD0, hK, hT⟩ := hvp
  have hown : s.vm.findClass y.cls = some m.cls := findClass_of_methodNamed B.named
  subst hsz
  have hD := hD0.self (sz := s.heap.size)
  have hl := lv_entry (as.map (rv ad)) (n := maxL) (by rw [lg_len]; exact hm)
  rw [lg_entry_eq]
  refine hv p l e s m _ below meth c G ad _ s.heap [] _ ⟨B.exec, B.bytes, hml, B.returns, hown, B.notSynchronized, hT, hK⟩ hP hD ⟨va_S.rf, fun q h => Or.inr h⟩ ⟨hl.1, hl.2.1, fun q hq => hl.2.2 q ?_⟩
  obtain ⟨v, h1, h2⟩ := lvR_of hq
  refine lv_argsR ad as 0 q ⟨q.1, v, ?_, by rw [← h2, Nat.zero_add]⟩
  rw [List.getD_eq_getElem?_getD] at h1
  rcases Nat.lt_or_ge q.1 as.length with z | z
  · rw [List.getElem?_append_left (by simpa using z), List.getElem?_map] at h1
    cases e : as[q.1]? with
    | none => rw [e] at h1; cases h1
    | some w =>
      rw [e] at h1
      simp at h1
      rw [h1]
  · rw [List.getElem?_append_right (by simpa using z)] at h1
    cases e : (List.replicate (maxL - as.length) (none : Option tV))[q.1 - (List.map some as).length]? with
    | none => rw [e] at h1; cases h1
    | some w =>
      have := List.eq_of_mem_replicate (List.mem_of_getElem? e)
      rw [e, this] at h1
      cases h1
