section
/-! The picture of a heap by numbers: cell k of the picture lies at the address ad k; what is made next lies at the heap's end. Values are ints, null and references to numbers. -/
abbrev pm_C : Type := (Nat × Nat × (Nat → Int32)) ⊕ ((Nat × Nat × (Nat → Option Nat)) ⊕ (Nat × List Value))
abbrev pm_I (t n : Nat) (f : Nat → Int32) : pm_C := .inl (t, n, f)
abbrev pm_R (t n : Nat) (f : Nat → Option Nat) : pm_C := .inr (.inl (t, n, f))
abbrev pm_O (c : Nat) (fs : List Value) : pm_C := .inr (.inr (c, fs))
abbrev pm_H : Type := Nat → pm_C
/-- the number of the law's own script, which is no cell of the picture -/
def pm_big : Nat := 1000000000
def pm_r (ad : Nat → Nat) (v : Value) : Value := match v with
  | .int x => .int x
  | .ref k => .ref (ad k)
  | _ => .null
theorem pm_r_cat (ad : Nat → Nat) (v : Value) : (pm_r ad v).category = 1 := by cases v <;> rfl
theorem pm_r_int (ad : Nat → Nat) (x : Int32) : pm_r ad (.int x) = .int x := rfl
theorem pm_r_ref (ad : Nat → Nat) (k : Nat) : pm_r ad (.ref k) = .ref (ad k) := rfl
theorem pm_r_rf (ad : Nat → Nat) (o : Option Nat) : pm_r ad (va_rf o) = va_rf (o.map ad) := by cases o <;> rfl
def pm_e (dA : Nat → ClassId) (ad : Nat → Nat) (c : pm_C) : va_E := match c with
  | .inl (t, n, f) => .inl (dA t, n, .inl f)
  | .inr (.inl (t, n, f)) => .inl (dA t, n, .inr (.inr (.inr (.inr (fun i => (f i).map ad)))))
  | .inr (.inr (c, fs)) => .inr (c, fs.map (pm_r ad))
def pm_w (dA : Nat → ClassId) (ad : Nat → Nat) (n : Nat) (h : pm_H) : va_W := (List.range n).map (fun k => (ad k, pm_e dA ad (h k)))
theorem pm_w_at {dA : Nat → ClassId} {ad : Nat → Nat} {n k : Nat} {h : pm_H} (hk : k < n) : (pm_w dA ad n h)[k]? = some (ad k, pm_e dA ad (h k)) := by
  simp [pm_w, List.getElem?_range hk]
theorem pm_w_set {dA : Nat → ClassId} {ad : Nat → Nat} {n k : Nat} {h : pm_H} (c : pm_C) (hk : k < n) : (pm_w dA ad n h).set k (ad k, pm_e dA ad c) = pm_w dA ad n (va_up h k c) := by
  apply List.ext_getElem?
  intro i
  by_cases hi : i = k
  · subst hi
    rw [List.getElem?_set_self (by simpa [pm_w] using hk), pm_w_at hk]
    simp [va_up]
  · rw [List.getElem?_set_ne (Ne.symm hi)]
    by_cases hn : i < n
    · rw [pm_w_at hn, pm_w_at hn]
      simp [va_up, hi]
    · rw [List.getElem?_eq_none (by simpa [pm_w] using hn), List.getElem?_eq_none (by simpa [pm_w] using hn)]
theorem pm_w_push {dA : Nat → ClassId} {ad : Nat → Nat} {n : Nat} {h : pm_H} (c : pm_C) : pm_w dA ad (n + 1) (va_up h n c) = pm_w dA ad n h ++ [(ad n, pm_e dA ad c)] := by
  unfold pm_w
  rw [List.range_succ, List.map_append]
  congr 1
  · apply List.map_congr_left
    intro k hk
    have := List.mem_range.mp hk
    simp [va_up, Nat.ne_of_lt this]
  · simp [va_up]
/-- locals: what is known of each place -/
def pm_l (ad : Nat → Nat) (ls : List (Option Value)) : List (Nat × Value) := (List.range ls.length).filterMap (fun j => (ls.getD j none).map (fun v => (j, pm_r ad v)))
theorem pm_l_mem {ad : Nat → Nat} {ls : List (Option Value)} {q : Nat × Value} : q ∈ pm_l ad ls ↔ ∃ v, ls[q.1]? = some (some v) ∧ q.2 = pm_r ad v := by
  unfold pm_l
  rw [List.mem_filterMap]
  constructor
  · rintro ⟨j, hj, h⟩
    rw [Option.map_eq_some_iff] at h
    obtain ⟨v, h1, rfl⟩ := h
    refine ⟨v, ?_, rfl⟩
    rw [List.getD_eq_getElem?_getD] at h1
    have hl := List.mem_range.mp hj
    rw [List.getElem?_eq_getElem hl] at h1 ⊢
    simpa using h1
  · rintro ⟨v, h1, h2⟩
    have hl := (List.getElem?_eq_some_iff.mp h1).1
    refine ⟨q.1, List.mem_range.mpr hl, ?_⟩
    rw [List.getD_eq_getElem?_getD, h1]
    simp [← h2]
theorem pm_l_at {ad : Nat → Nat} {ls : List (Option Value)} {la : Array Slot} {nL k : Nat} {v : Value} (h : lv_has la nL (pm_l ad ls)) (hk : ls[k]? = some (some v)) : la[k]? = some (.val (pm_r ad v)) := h.2.2 (k, pm_r ad v) (pm_l_mem.mpr ⟨v, hk, rfl⟩)

theorem pm_l_set {ad : Nat → Nat} {ls ls' : List (Option Value)} {la : Array Slot} {nL i : Nat} {v : Value} (hl : ls.set i (some v) = ls')
    (h : lv_has la nL ((i, pm_r ad v) :: (pm_l ad ls).filter (fun q => !(q.1 == i) && !(q.1 + 1 == i && q.2.category == 2)))) : lv_has la nL (pm_l ad ls') := by
  refine ⟨h.1, h.2.1, fun q hq => ?_⟩
  obtain ⟨w, h1, h2⟩ := pm_l_mem.mp hq
  subst hl
  by_cases hi : q.1 = i
  · have : w = v := by
      rw [hi] at h1
      have hlen := (List.getElem?_eq_some_iff.mp h1).1
      rw [List.getElem?_set_self (by simpa using hlen)] at h1
      simpa using h1.symm
    subst this
    have := h.2.2 (i, pm_r ad w) List.mem_cons_self
    rw [hi, h2]
    exact this
  · rw [List.getElem?_set_ne (Ne.symm hi)] at h1
    refine h.2.2 q (List.mem_cons_of_mem _ (List.mem_filter.mpr ⟨pm_l_mem.mpr ⟨w, h1, h2⟩, ?_⟩))
    rw [h2, pm_r_cat]
    simp [hi]
def pm_tys (dA : Nat → ClassId) (tl : List FieldType) : List (ClassId × FieldType) := (List.range tl.length).map (fun t => (dA t, tl.getD t .int))
theorem pm_tys_at {dA : Nat → ClassId} {tl : List FieldType} {t : Nat} {ty : FieldType} (h : tl[t]? = some ty) : (pm_tys dA tl)[t]? = some (dA t, ty) := by
  have hl := (List.getElem?_eq_some_iff.mp h).1
  simp [pm_tys, List.getElem?_range hl, List.getD_eq_getElem?_getD, h]
/-- the words of nest mates' links -/
def pm_N (nw : List Cond) (s : State) : Prop := ∀ w ∈ nw, (∃ a i y hh, w = Cond.methodLinkNest a i y hh) ∧ va_Nw w s
theorem pm_N.warm {nw : List Cond} {s U : State} (hW : s.WarmedH U.vm) (h : pm_N nw s) : pm_N nw U := fun w hw => by
  obtain ⟨⟨a, i, y, hh, rfl⟩, h2⟩ := h w hw
  exact ⟨⟨a, i, y, hh, rfl⟩, va_Nw.warmM hW h2⟩
theorem pm_N.same {nw : List Cond} {s U : State} (hv : s.vm = U.vm) (h : pm_N nw s) : pm_N nw U := fun w hw => by
  obtain ⟨⟨a, i, y, hh, rfl⟩, h2⟩ := h w hw
  exact ⟨⟨a, i, y, hh, rfl⟩, va_Nw.same rfl hv h2⟩
/-- what stands through a method's walk -/
def pm_X (p : Program) (s : State) (m : MethodId) (args : Array Value) (meth : Method) (c : Code) (cl : List vw_C) (tl : List FieldType) (gw nw : List Cond) (D : va_G) (dA : Nat → ClassId) (own : String) (cc : ByteArray) (nL : Nat) (ret : Option FieldType) (A : Nat → Prop) : Prop :=
  p.tables.exec = Jvm.exec ∧ c.code = cc ∧ c.maxLocals = nL ∧ s.vm.findClass own = some m.cls ∧ (∀ w ∈ gw, w.before args s = true) ∧ va_K D cl (pm_tys dA tl) s ∧ (∀ q, s.heap.size ≤ q → A q) ∧ meth.sig.returnType = ret ∧ meth.locks = false ∧ pm_N nw s
def pm_S (cl : List vw_C) (D : va_G) (dA : Nat → ClassId) (A : Nat → Prop) (ad : Nat → Nat) (n : Nat) (h : pm_H) (H0 H : Heap) (locs : List Loc) : Prop :=
  va_P D cl (pm_w dA ad n h) H ∧ va_D A (pm_w dA ad n h) ∧ va_S A H0 H locs ∧ ∀ i, n + i < pm_big → ad (n + i) = H.size + i
/-- the machine, at pc with these locals, this stack and this picture, comes to a state with Q -/
def pm_G (p : Program) (l : Launch) (e : Env) (R : Room) (s : State) (m : MethodId) (args : Array Value) (below : List Frame) (meth : Method) (c : Code) (Q : State → Prop) (cl : List vw_C) (D : va_G) (dA : Nat → ClassId) (A : Nat → Prop) (ad : Nat → Nat) (nL cells slots pc : Nat) (ls : List (Option Value)) (st : List Value) (n : Nat) (h : pm_H) : Prop :=
  ∀ (H : Heap) (locs : List Loc) (la : Array Slot), pm_S cl D dA A ad n h s.heap H locs → lv_has la nL (pm_l ad ls) → W p l e R s m args below meth c H locs cells slots Q (F0 m pc la (st.map (pm_r ad)))
abbrev pm_Gt : Type := Nat → Nat → Nat → List (Option Value) → List Value → Nat → pm_H → Prop
/-- G is the judgement of some walk of the method's body; cells, slots, pc, locals, stack, picture are its arguments -/
def pm_K (l : Launch) (cl : List vw_C) (tl : List FieldType) (gw nw : List Cond) (own nm : String) (cc : ByteArray) (nL : Nat) (ret : Option FieldType) (R : Room) (G : pm_Gt) : Prop :=
  ∃ (p : Program) (e : Env) (s : State) (m : MethodId) (args : Array Value) (below : List Frame) (meth : Method) (c : Code) (Q : State → Prop) (D : va_G) (dA : Nat → ClassId) (A : Nat → Prop) (ad : Nat → Nat), pm_X p s m args meth c cl tl gw nw D dA own cc nL ret A ∧ meth.name = nm ∧ G = pm_G p l e R s m args below meth c Q cl D dA A ad nL
section PMS
variable {l : Launch} {cl : List vw_C} {tl : List FieldType} {gw nw : List Cond} {own nm : String} {cc : ByteArray} {nL : Nat} {ret : Option FieldType} {R : Room} {G : pm_Gt} {cells slots pc q n : Nat} {ls ls' : List (Option Value)} {st : List Value} {h : pm_H}
theorem pm_iconst (K : pm_K l cl tl gw nw own nm cc nL ret R G) {k : Int} {v : Int32} (d : decode cc pc = .ok (.iconst k, 1)) (hq : pc + 1 = q) (hv : Int32.ofInt k = v) (kk : G cells slots q ls (.int v :: st) n h) : G cells slots pc ls st n h := by
  obtain ⟨p, e, s, m, args, below, meth, c, Q, D, dA, A, ad, X, hmn, rfl⟩ := K
  subst hq
  exact fun H locs la hS hL => lv_iconst X.1 X.2.1 d hv (kk H locs la hS hL)
theorem pm_bipush (K : pm_K l cl tl gw nw own nm cc nL ret R G) {k : Int} {v : Int32} (d : decode cc pc = .ok (.bipush k, 2)) (hq : pc + 2 = q) (hv : (Int8.ofInt k).toInt32 = v) (kk : G cells slots q ls (.int v :: st) n h) : G cells slots pc ls st n h := by
  obtain ⟨p, e, s, m, args, below, meth, c, Q, D, dA, A, ad, X, hmn, rfl⟩ := K
  subst hq
  exact fun H locs la hS hL => lv_bipush X.1 X.2.1 d hv (kk H locs la hS hL)
theorem pm_sipush (K : pm_K l cl tl gw nw own nm cc nL ret R G) {k : Int} {v : Int32} (d : decode cc pc = .ok (.sipush k, 3)) (hq : pc + 3 = q) (hv : (Int16.ofInt k).toInt32 = v) (kk : G cells slots q ls (.int v :: st) n h) : G cells slots pc ls st n h := by
  obtain ⟨p, e, s, m, args, below, meth, c, Q, D, dA, A, ad, X, hmn, rfl⟩ := K
  subst hq
  exact fun H locs la hS hL => lv_sipush X.1 X.2.1 d hv (kk H locs la hS hL)
theorem pm_null (K : pm_K l cl tl gw nw own nm cc nL ret R G)  (d : decode cc pc = .ok (.aconst_null, 1)) (hq : pc + 1 = q) (kk : G cells slots q ls (.null :: st) n h) : G cells slots pc ls st n h := by
  obtain ⟨p, e, s, m, args, below, meth, c, Q, D, dA, A, ad, X, hmn, rfl⟩ := K
  subst hq
  exact fun H locs la hS hL => lv_null X.1 X.2.1 d (kk H locs la hS hL)
theorem pm_iload_n (K : pm_K l cl tl gw nw own nm cc nL ret R G) {k : Fin 4} {i : Nat} {x : Int32} (d : decode cc pc = .ok (.iload_n k, 1)) (hq : pc + 1 = q) (hi : (k : Nat) = i) (hl : ls[i]? = some (some (.int x))) (kk : G cells slots q ls (.int x :: st) n h) : G cells slots pc ls st n h := by
  obtain ⟨p, e, s, m, args, below, meth, c, Q, D, dA, A, ad, X, hmn, rfl⟩ := K
  subst hq
  exact fun H locs la hS hL => lv_iload_n X.1 X.2.1 d hi (pm_l_at hL hl) (kk H locs la hS hL)
theorem pm_iload (K : pm_K l cl tl gw nw own nm cc nL ret R G) {i : Nat} {x : Int32} (d : decode cc pc = .ok (.iload i, 2)) (hq : pc + 2 = q) (hl : ls[i]? = some (some (.int x))) (kk : G cells slots q ls (.int x :: st) n h) : G cells slots pc ls st n h := by
  obtain ⟨p, e, s, m, args, below, meth, c, Q, D, dA, A, ad, X, hmn, rfl⟩ := K
  subst hq
  exact fun H locs la hS hL => lv_iload X.1 X.2.1 d (pm_l_at hL hl) (kk H locs la hS hL)
theorem pm_aload_n (K : pm_K l cl tl gw nw own nm cc nL ret R G) {k : Fin 4} {i x : Nat} (d : decode cc pc = .ok (.aload_n k, 1)) (hq : pc + 1 = q) (hi : (k : Nat) = i) (hl : ls[i]? = some (some (.ref x))) (kk : G cells slots q ls (.ref x :: st) n h) : G cells slots pc ls st n h := by
  obtain ⟨p, e, s, m, args, below, meth, c, Q, D, dA, A, ad, X, hmn, rfl⟩ := K
  subst hq
  exact fun H locs la hS hL => lv_aload_n X.1 X.2.1 d hi (pm_l_at hL hl) (kk H locs la hS hL)
theorem pm_aload (K : pm_K l cl tl gw nw own nm cc nL ret R G) {i x : Nat} (d : decode cc pc = .ok (.aload i, 2)) (hq : pc + 2 = q) (hl : ls[i]? = some (some (.ref x))) (kk : G cells slots q ls (.ref x :: st) n h) : G cells slots pc ls st n h := by
  obtain ⟨p, e, s, m, args, below, meth, c, Q, D, dA, A, ad, X, hmn, rfl⟩ := K
  subst hq
  exact fun H locs la hS hL => lv_aload X.1 X.2.1 d (pm_l_at hL hl) (kk H locs la hS hL)
theorem pm_aload_nN (K : pm_K l cl tl gw nw own nm cc nL ret R G) {k : Fin 4} {i : Nat} (d : decode cc pc = .ok (.aload_n k, 1)) (hq : pc + 1 = q) (hi : (k : Nat) = i) (hl : ls[i]? = some (some (.null))) (kk : G cells slots q ls (.null :: st) n h) : G cells slots pc ls st n h := by
  obtain ⟨p, e, s, m, args, below, meth, c, Q, D, dA, A, ad, X, hmn, rfl⟩ := K
  subst hq
  exact fun H locs la hS hL => lv_aload_nN X.1 X.2.1 d hi (pm_l_at hL hl) (kk H locs la hS hL)
theorem pm_aloadN (K : pm_K l cl tl gw nw own nm cc nL ret R G) {i : Nat} (d : decode cc pc = .ok (.aload i, 2)) (hq : pc + 2 = q) (hl : ls[i]? = some (some (.null))) (kk : G cells slots q ls (.null :: st) n h) : G cells slots pc ls st n h := by
  obtain ⟨p, e, s, m, args, below, meth, c, Q, D, dA, A, ad, X, hmn, rfl⟩ := K
  subst hq
  exact fun H locs la hS hL => lv_aloadN X.1 X.2.1 d (pm_l_at hL hl) (kk H locs la hS hL)
theorem pm_istore_n (K : pm_K l cl tl gw nw own nm cc nL ret R G) {k : Fin 4} {i : Nat} {x : Int32} (d : decode cc pc = .ok (.istore_n k, 1)) (hq : pc + 1 = q) (hi : (k : Nat) = i) (hn : i < nL) (hl : ls.set i (some (.int x)) = ls') (kk : G cells slots q ls' st n h) : G cells slots pc ls (.int x :: st) n h := by
  obtain ⟨p, e, s, m, args, below, meth, c, Q, D, dA, A, ad, X, hmn, rfl⟩ := K
  subst hq
  exact fun H locs la hS hL => lv_istore_n X.1 X.2.1 d hi hL hn rfl (fun la' h' => kk H locs la' hS (pm_l_set (v := .int x) hl h'))
theorem pm_istore (K : pm_K l cl tl gw nw own nm cc nL ret R G) {i : Nat} {x : Int32} (d : decode cc pc = .ok (.istore i, 2)) (hq : pc + 2 = q) (hn : i < nL) (hl : ls.set i (some (.int x)) = ls') (kk : G cells slots q ls' st n h) : G cells slots pc ls (.int x :: st) n h := by
  obtain ⟨p, e, s, m, args, below, meth, c, Q, D, dA, A, ad, X, hmn, rfl⟩ := K
  subst hq
  exact fun H locs la hS hL => lv_istore X.1 X.2.1 d hL hn rfl (fun la' h' => kk H locs la' hS (pm_l_set (v := .int x) hl h'))
theorem pm_astore_n (K : pm_K l cl tl gw nw own nm cc nL ret R G) {k : Fin 4} {i x : Nat} (d : decode cc pc = .ok (.astore_n k, 1)) (hq : pc + 1 = q) (hi : (k : Nat) = i) (hn : i < nL) (hl : ls.set i (some (.ref x)) = ls') (kk : G cells slots q ls' st n h) : G cells slots pc ls (.ref x :: st) n h := by
  obtain ⟨p, e, s, m, args, below, meth, c, Q, D, dA, A, ad, X, hmn, rfl⟩ := K
  subst hq
  exact fun H locs la hS hL => lv_astore_n X.1 X.2.1 d hi hL hn rfl (fun la' h' => kk H locs la' hS (pm_l_set (v := .ref x) hl h'))
theorem pm_astore (K : pm_K l cl tl gw nw own nm cc nL ret R G) {i x : Nat} (d : decode cc pc = .ok (.astore i, 2)) (hq : pc + 2 = q) (hn : i < nL) (hl : ls.set i (some (.ref x)) = ls') (kk : G cells slots q ls' st n h) : G cells slots pc ls (.ref x :: st) n h := by
  obtain ⟨p, e, s, m, args, below, meth, c, Q, D, dA, A, ad, X, hmn, rfl⟩ := K
  subst hq
  exact fun H locs la hS hL => lv_astore X.1 X.2.1 d hL hn rfl (fun la' h' => kk H locs la' hS (pm_l_set (v := .ref x) hl h'))
theorem pm_astore_nN (K : pm_K l cl tl gw nw own nm cc nL ret R G) {k : Fin 4} {i : Nat} (d : decode cc pc = .ok (.astore_n k, 1)) (hq : pc + 1 = q) (hi : (k : Nat) = i) (hn : i < nL) (hl : ls.set i (some (.null)) = ls') (kk : G cells slots q ls' st n h) : G cells slots pc ls (.null :: st) n h := by
  obtain ⟨p, e, s, m, args, below, meth, c, Q, D, dA, A, ad, X, hmn, rfl⟩ := K
  subst hq
  exact fun H locs la hS hL => lv_astore_nN X.1 X.2.1 d hi hL hn rfl (fun la' h' => kk H locs la' hS (pm_l_set (v := .null) hl h'))
theorem pm_astoreN (K : pm_K l cl tl gw nw own nm cc nL ret R G) {i : Nat} (d : decode cc pc = .ok (.astore i, 2)) (hq : pc + 2 = q) (hn : i < nL) (hl : ls.set i (some (.null)) = ls') (kk : G cells slots q ls' st n h) : G cells slots pc ls (.null :: st) n h := by
  obtain ⟨p, e, s, m, args, below, meth, c, Q, D, dA, A, ad, X, hmn, rfl⟩ := K
  subst hq
  exact fun H locs la hS hL => lv_astoreN X.1 X.2.1 d hL hn rfl (fun la' h' => kk H locs la' hS (pm_l_set (v := .null) hl h'))
theorem pm_iinc (K : pm_K l cl tl gw nw own nm cc nL ret R G) {i : Nat} {k : Int} {x v : Int32} (d : decode cc pc = .ok (.iinc i k, 3)) (hq : pc + 3 = q) (hl : ls[i]? = some (some (.int x))) (hv : x + Int32.ofInt k = v) (hn : i < nL) (hs : ls.set i (some (.int v)) = ls') (kk : G cells slots q ls' st n h) : G cells slots pc ls st n h := by
  obtain ⟨p, e, s, m, args, below, meth, c, Q, D, dA, A, ad, X, hmn, rfl⟩ := K
  subst hq
  exact fun H locs la hS hL => by
    obtain ⟨j, hj⟩ := List.getElem?_of_mem (pm_l_mem (ad := ad) (ls := ls) (q := (i, .int x)) |>.mpr ⟨.int x, hl, rfl⟩)
    exact lv_iinc X.1 X.2.1 d hL hj hv hn rfl (fun la' h' => kk H locs la' hS (pm_l_set (v := .int v) hs h'))
theorem pm_iadd (K : pm_K l cl tl gw nw own nm cc nL ret R G) {x y : Int32} (d : decode cc pc = .ok (.iadd, 1)) (hq : pc + 1 = q) (kk : G cells slots q ls (.int (x + y) :: st) n h) : G cells slots pc ls (.int y :: .int x :: st) n h := by
  obtain ⟨p, e, s, m, args, below, meth, c, Q, D, dA, A, ad, X, hmn, rfl⟩ := K
  subst hq
  exact fun H locs la hS hL => lv_iadd X.1 X.2.1 d (kk H locs la hS hL)
theorem pm_isub (K : pm_K l cl tl gw nw own nm cc nL ret R G) {x y : Int32} (d : decode cc pc = .ok (.isub, 1)) (hq : pc + 1 = q) (kk : G cells slots q ls (.int (x - y) :: st) n h) : G cells slots pc ls (.int y :: .int x :: st) n h := by
  obtain ⟨p, e, s, m, args, below, meth, c, Q, D, dA, A, ad, X, hmn, rfl⟩ := K
  subst hq
  exact fun H locs la hS hL => lv_isub X.1 X.2.1 d (kk H locs la hS hL)
theorem pm_imul (K : pm_K l cl tl gw nw own nm cc nL ret R G) {x y : Int32} (d : decode cc pc = .ok (.imul, 1)) (hq : pc + 1 = q) (kk : G cells slots q ls (.int (x * y) :: st) n h) : G cells slots pc ls (.int y :: .int x :: st) n h := by
  obtain ⟨p, e, s, m, args, below, meth, c, Q, D, dA, A, ad, X, hmn, rfl⟩ := K
  subst hq
  exact fun H locs la hS hL => lv_imul X.1 X.2.1 d (kk H locs la hS hL)
theorem pm_iand (K : pm_K l cl tl gw nw own nm cc nL ret R G) {x y : Int32} (d : decode cc pc = .ok (.iand, 1)) (hq : pc + 1 = q) (kk : G cells slots q ls (.int (x &&& y) :: st) n h) : G cells slots pc ls (.int y :: .int x :: st) n h := by
  obtain ⟨p, e, s, m, args, below, meth, c, Q, D, dA, A, ad, X, hmn, rfl⟩ := K
  subst hq
  exact fun H locs la hS hL => lv_iand X.1 X.2.1 d (kk H locs la hS hL)
theorem pm_idiv (K : pm_K l cl tl gw nw own nm cc nL ret R G) {x y : Int32} (d : decode cc pc = .ok (.idiv, 1)) (hq : pc + 1 = q) (hne : ¬ y = 0) (kk : G cells slots q ls (.int (x / y) :: st) n h) : G cells slots pc ls (.int y :: .int x :: st) n h := by
  obtain ⟨p, e, s, m, args, below, meth, c, Q, D, dA, A, ad, X, hmn, rfl⟩ := K
  subst hq
  exact fun H locs la hS hL => lv_idiv X.1 X.2.1 d hne (kk H locs la hS hL)
theorem pm_dup (K : pm_K l cl tl gw nw own nm cc nL ret R G) {v : Value} (d : decode cc pc = .ok (.dup, 1)) (hq : pc + 1 = q) (kk : G cells slots q ls (v :: v :: st) n h) : G cells slots pc ls (v :: st) n h := by
  obtain ⟨p, e, s, m, args, below, meth, c, Q, D, dA, A, ad, X, hmn, rfl⟩ := K
  subst hq
  exact fun H locs la hS hL => lv_dup X.1 X.2.1 d (pm_r_cat _ _) (kk H locs la hS hL)
theorem pm_pop (K : pm_K l cl tl gw nw own nm cc nL ret R G) {v : Value} (d : decode cc pc = .ok (.pop, 1)) (hq : pc + 1 = q) (kk : G cells slots q ls st n h) : G cells slots pc ls (v :: st) n h := by
  obtain ⟨p, e, s, m, args, below, meth, c, Q, D, dA, A, ad, X, hmn, rfl⟩ := K
  subst hq
  exact fun H locs la hS hL => lv_pop X.1 X.2.1 d (pm_r_cat _ _) (kk H locs la hS hL)
theorem pm_goto (K : pm_K l cl tl gw nw own nm cc nL ret R G) {off : Int} (d : decode cc pc = .ok (.goto off, 3)) (ht : (pc : Int) + off = (q : Int)) (kk : G cells slots q ls st n h) : G cells slots pc ls st n h := by
  obtain ⟨p, e, s, m, args, below, meth, c, Q, D, dA, A, ad, X, hmn, rfl⟩ := K
  exact fun H locs la hS hL => lv_goto X.1 X.2.1 d ht (kk H locs la hS hL)
theorem pm_icmp_eq (K : pm_K l cl tl gw nw own nm cc nL ret R G) {x y : Int32} {off : Int} {tgt : Nat} (d : decode cc pc = .ok (.if_icmp .eq off, 3)) (ht : (pc : Int) + off = (tgt : Int)) (hq : pc + 3 = q) (kt : x = y → G cells slots tgt ls st n h) (kf : ¬ x = y → G cells slots q ls st n h) : G cells slots pc ls (.int y :: .int x :: st) n h := by
  obtain ⟨p, e, s, m, args, below, meth, c, Q, D, dA, A, ad, X, hmn, rfl⟩ := K
  exact fun H locs la hS hL => lv_icmp_eq X.1 X.2.1 d ht (fun z => kt z H locs la hS hL) (fun z => by subst hq; exact kf z H locs la hS hL)
theorem pm_icmp_ne (K : pm_K l cl tl gw nw own nm cc nL ret R G) {x y : Int32} {off : Int} {tgt : Nat} (d : decode cc pc = .ok (.if_icmp .ne off, 3)) (ht : (pc : Int) + off = (tgt : Int)) (hq : pc + 3 = q) (kt : ¬ x = y → G cells slots tgt ls st n h) (kf : x = y → G cells slots q ls st n h) : G cells slots pc ls (.int y :: .int x :: st) n h := by
  obtain ⟨p, e, s, m, args, below, meth, c, Q, D, dA, A, ad, X, hmn, rfl⟩ := K
  exact fun H locs la hS hL => lv_icmp_ne X.1 X.2.1 d ht (fun z => kt z H locs la hS hL) (fun z => by subst hq; exact kf z H locs la hS hL)
theorem pm_icmp_lt (K : pm_K l cl tl gw nw own nm cc nL ret R G) {x y : Int32} {off : Int} {tgt : Nat} (d : decode cc pc = .ok (.if_icmp .lt off, 3)) (ht : (pc : Int) + off = (tgt : Int)) (hq : pc + 3 = q) (kt : x < y → G cells slots tgt ls st n h) (kf : ¬ x < y → G cells slots q ls st n h) : G cells slots pc ls (.int y :: .int x :: st) n h := by
  obtain ⟨p, e, s, m, args, below, meth, c, Q, D, dA, A, ad, X, hmn, rfl⟩ := K
  exact fun H locs la hS hL => lv_icmp_lt X.1 X.2.1 d ht (fun z => kt z H locs la hS hL) (fun z => by subst hq; exact kf z H locs la hS hL)
theorem pm_icmp_ge (K : pm_K l cl tl gw nw own nm cc nL ret R G) {x y : Int32} {off : Int} {tgt : Nat} (d : decode cc pc = .ok (.if_icmp .ge off, 3)) (ht : (pc : Int) + off = (tgt : Int)) (hq : pc + 3 = q) (kt : y ≤ x → G cells slots tgt ls st n h) (kf : ¬ y ≤ x → G cells slots q ls st n h) : G cells slots pc ls (.int y :: .int x :: st) n h := by
  obtain ⟨p, e, s, m, args, below, meth, c, Q, D, dA, A, ad, X, hmn, rfl⟩ := K
  exact fun H locs la hS hL => lv_icmp_ge X.1 X.2.1 d ht (fun z => kt z H locs la hS hL) (fun z => by subst hq; exact kf z H locs la hS hL)
theorem pm_icmp_gt (K : pm_K l cl tl gw nw own nm cc nL ret R G) {x y : Int32} {off : Int} {tgt : Nat} (d : decode cc pc = .ok (.if_icmp .gt off, 3)) (ht : (pc : Int) + off = (tgt : Int)) (hq : pc + 3 = q) (kt : y < x → G cells slots tgt ls st n h) (kf : ¬ y < x → G cells slots q ls st n h) : G cells slots pc ls (.int y :: .int x :: st) n h := by
  obtain ⟨p, e, s, m, args, below, meth, c, Q, D, dA, A, ad, X, hmn, rfl⟩ := K
  exact fun H locs la hS hL => lv_icmp_gt X.1 X.2.1 d ht (fun z => kt z H locs la hS hL) (fun z => by subst hq; exact kf z H locs la hS hL)
theorem pm_icmp_le (K : pm_K l cl tl gw nw own nm cc nL ret R G) {x y : Int32} {off : Int} {tgt : Nat} (d : decode cc pc = .ok (.if_icmp .le off, 3)) (ht : (pc : Int) + off = (tgt : Int)) (hq : pc + 3 = q) (kt : x ≤ y → G cells slots tgt ls st n h) (kf : ¬ x ≤ y → G cells slots q ls st n h) : G cells slots pc ls (.int y :: .int x :: st) n h := by
  obtain ⟨p, e, s, m, args, below, meth, c, Q, D, dA, A, ad, X, hmn, rfl⟩ := K
  exact fun H locs la hS hL => lv_icmp_le X.1 X.2.1 d ht (fun z => kt z H locs la hS hL) (fun z => by subst hq; exact kf z H locs la hS hL)
theorem pm_if_eq (K : pm_K l cl tl gw nw own nm cc nL ret R G) {x : Int32} {off : Int} {tgt : Nat} (d : decode cc pc = .ok (.ifCond .eq off, 3)) (ht : (pc : Int) + off = (tgt : Int)) (hq : pc + 3 = q) (kt : x = 0 → G cells slots tgt ls st n h) (kf : ¬ x = 0 → G cells slots q ls st n h) : G cells slots pc ls (.int x :: st) n h := by
  obtain ⟨p, e, s, m, args, below, meth, c, Q, D, dA, A, ad, X, hmn, rfl⟩ := K
  exact fun H locs la hS hL => lv_if_eq X.1 X.2.1 d ht (fun z => kt z H locs la hS hL) (fun z => by subst hq; exact kf z H locs la hS hL)
theorem pm_if_ne (K : pm_K l cl tl gw nw own nm cc nL ret R G) {x : Int32} {off : Int} {tgt : Nat} (d : decode cc pc = .ok (.ifCond .ne off, 3)) (ht : (pc : Int) + off = (tgt : Int)) (hq : pc + 3 = q) (kt : ¬ x = 0 → G cells slots tgt ls st n h) (kf : x = 0 → G cells slots q ls st n h) : G cells slots pc ls (.int x :: st) n h := by
  obtain ⟨p, e, s, m, args, below, meth, c, Q, D, dA, A, ad, X, hmn, rfl⟩ := K
  exact fun H locs la hS hL => lv_if_ne X.1 X.2.1 d ht (fun z => kt z H locs la hS hL) (fun z => by subst hq; exact kf z H locs la hS hL)
theorem pm_if_lt (K : pm_K l cl tl gw nw own nm cc nL ret R G) {x : Int32} {off : Int} {tgt : Nat} (d : decode cc pc = .ok (.ifCond .lt off, 3)) (ht : (pc : Int) + off = (tgt : Int)) (hq : pc + 3 = q) (kt : x < 0 → G cells slots tgt ls st n h) (kf : ¬ x < 0 → G cells slots q ls st n h) : G cells slots pc ls (.int x :: st) n h := by
  obtain ⟨p, e, s, m, args, below, meth, c, Q, D, dA, A, ad, X, hmn, rfl⟩ := K
  exact fun H locs la hS hL => lv_if_lt X.1 X.2.1 d ht (fun z => kt z H locs la hS hL) (fun z => by subst hq; exact kf z H locs la hS hL)
theorem pm_if_ge (K : pm_K l cl tl gw nw own nm cc nL ret R G) {x : Int32} {off : Int} {tgt : Nat} (d : decode cc pc = .ok (.ifCond .ge off, 3)) (ht : (pc : Int) + off = (tgt : Int)) (hq : pc + 3 = q) (kt : 0 ≤ x → G cells slots tgt ls st n h) (kf : ¬ 0 ≤ x → G cells slots q ls st n h) : G cells slots pc ls (.int x :: st) n h := by
  obtain ⟨p, e, s, m, args, below, meth, c, Q, D, dA, A, ad, X, hmn, rfl⟩ := K
  exact fun H locs la hS hL => lv_if_ge X.1 X.2.1 d ht (fun z => kt z H locs la hS hL) (fun z => by subst hq; exact kf z H locs la hS hL)
theorem pm_if_gt (K : pm_K l cl tl gw nw own nm cc nL ret R G) {x : Int32} {off : Int} {tgt : Nat} (d : decode cc pc = .ok (.ifCond .gt off, 3)) (ht : (pc : Int) + off = (tgt : Int)) (hq : pc + 3 = q) (kt : 0 < x → G cells slots tgt ls st n h) (kf : ¬ 0 < x → G cells slots q ls st n h) : G cells slots pc ls (.int x :: st) n h := by
  obtain ⟨p, e, s, m, args, below, meth, c, Q, D, dA, A, ad, X, hmn, rfl⟩ := K
  exact fun H locs la hS hL => lv_if_gt X.1 X.2.1 d ht (fun z => kt z H locs la hS hL) (fun z => by subst hq; exact kf z H locs la hS hL)
theorem pm_if_le (K : pm_K l cl tl gw nw own nm cc nL ret R G) {x : Int32} {off : Int} {tgt : Nat} (d : decode cc pc = .ok (.ifCond .le off, 3)) (ht : (pc : Int) + off = (tgt : Int)) (hq : pc + 3 = q) (kt : x ≤ 0 → G cells slots tgt ls st n h) (kf : ¬ x ≤ 0 → G cells slots q ls st n h) : G cells slots pc ls (.int x :: st) n h := by
  obtain ⟨p, e, s, m, args, below, meth, c, Q, D, dA, A, ad, X, hmn, rfl⟩ := K
  exact fun H locs la hS hL => lv_if_le X.1 X.2.1 d ht (fun z => kt z H locs la hS hL) (fun z => by subst hq; exact kf z H locs la hS hL)
theorem pm_ifnull (K : pm_K l cl tl gw nw own nm cc nL ret R G) {x : Nat} {off : Int} (d : decode cc pc = .ok (.ifnull off, 3)) (hq : pc + 3 = q) (kk : G cells slots q ls st n h) : G cells slots pc ls (.ref x :: st) n h := by
  obtain ⟨p, e, s, m, args, below, meth, c, Q, D, dA, A, ad, X, hmn, rfl⟩ := K
  exact fun H locs la hS hL => by subst hq; exact lv_ifnull X.1 X.2.1 d (kk H locs la hS hL)
theorem pm_ifnullN (K : pm_K l cl tl gw nw own nm cc nL ret R G) {off : Int} (d : decode cc pc = .ok (.ifnull off, 3)) (ht : (pc : Int) + off = (q : Int)) (kk : G cells slots q ls st n h) : G cells slots pc ls (.null :: st) n h := by
  obtain ⟨p, e, s, m, args, below, meth, c, Q, D, dA, A, ad, X, hmn, rfl⟩ := K
  exact fun H locs la hS hL => lv_ifnullN X.1 X.2.1 d ht (kk H locs la hS hL)
theorem pm_ifnonnull (K : pm_K l cl tl gw nw own nm cc nL ret R G) {x : Nat} {off : Int} (d : decode cc pc = .ok (.ifnonnull off, 3)) (ht : (pc : Int) + off = (q : Int)) (kk : G cells slots q ls st n h) : G cells slots pc ls (.ref x :: st) n h := by
  obtain ⟨p, e, s, m, args, below, meth, c, Q, D, dA, A, ad, X, hmn, rfl⟩ := K
  exact fun H locs la hS hL => lv_ifnonnull X.1 X.2.1 d ht (kk H locs la hS hL)
theorem pm_ifnonnullN (K : pm_K l cl tl gw nw own nm cc nL ret R G) {off : Int} (d : decode cc pc = .ok (.ifnonnull off, 3)) (hq : pc + 3 = q) (kk : G cells slots q ls st n h) : G cells slots pc ls (.null :: st) n h := by
  obtain ⟨p, e, s, m, args, below, meth, c, Q, D, dA, A, ad, X, hmn, rfl⟩ := K
  exact fun H locs la hS hL => by subst hq; exact lv_ifnonnullN X.1 X.2.1 d (kk H locs la hS hL)
theorem pm_tableOut (K : pm_K l cl tl gw nw own nm cc nL ret R G) {dflt lo hi : Int} {offs : Array Int} {len : Nat} {x : Int32} (d : decode cc pc = .ok (.tableswitch dflt lo hi offs, len)) (hx : x.toInt < lo ∨ hi < x.toInt) (ht : (pc : Int) + dflt = (q : Int)) (kk : G cells slots q ls st n h) : G cells slots pc ls (.int x :: st) n h := by
  obtain ⟨p, e, s, m, args, below, meth, c, Q, D, dA, A, ad, X, hmn, rfl⟩ := K
  exact fun H locs la hS hL => lv_tableOut X.1 X.2.1 d hx ht (kk H locs la hS hL)
theorem pm_tableIn (K : pm_K l cl tl gw nw own nm cc nL ret R G) {dflt lo hi : Int} {offs : Array Int} {len : Nat} {x : Int32} {off : Int} (d : decode cc pc = .ok (.tableswitch dflt lo hi offs, len)) (h1 : ¬ x.toInt < lo) (h2 : ¬ hi < x.toInt) (ho : offs[(x.toInt - lo).toNat]? = some off) (ht : (pc : Int) + off = (q : Int)) (kk : G cells slots q ls st n h) : G cells slots pc ls (.int x :: st) n h := by
  obtain ⟨p, e, s, m, args, below, meth, c, Q, D, dA, A, ad, X, hmn, rfl⟩ := K
  exact fun H locs la hS hL => lv_tableIn X.1 X.2.1 d h1 h2 ho ht (kk H locs la hS hL)
theorem pm_lookup (K : pm_K l cl tl gw nw own nm cc nL ret R G) {dflt : Int} {ps : Array (Int × Int)} {len : Nat} {x : Int32} {off : Int} (d : decode cc pc = .ok (.lookupswitch dflt ps, len)) (hp : (ps.toList.zip (ps.toList.drop 1)).all (fun (a, next) => a.1 < next.1) = true) (ho : Op.lookupswitch.offset ps.toList dflt x.toInt = off) (ht : (pc : Int) + off = (q : Int)) (kk : G cells slots q ls st n h) : G cells slots pc ls (.int x :: st) n h := by
  obtain ⟨p, e, s, m, args, below, meth, c, Q, D, dA, A, ad, X, hmn, rfl⟩ := K
  exact fun H locs la hS hL => lv_lookup X.1 X.2.1 d hp ho ht (kk H locs la hS hL)
end PMS
end
section
/-! The picture's heap rows: fields, arrays, new cells. -/
section PMH
variable {l : Launch} {cl : List vw_C} {tl : List FieldType} {gw nw : List Cond} {own nm : String} {cc : ByteArray} {nL : Nat} {ret : Option FieldType} {R : Room} {G : pm_Gt} {cells slots pc q n : Nat} {ls ls' : List (Option Value)} {st : List Value} {h : pm_H}
/-- a cell read -/
theorem pm_get (K : pm_K l cl tl gw nw own nm cc nL ret R G) {C : String} {T : u_T} {N ci index : Nat} (hin : ∀ w ∈ u_ws C T N, w ∈ gw) (hc : cl[ci]? = some (C, T, N)) {k : Nat} (hk : k < N) (hlink : Cond.fieldLink own index C (T k).2.1 (T k).2.2.1 ∈ gw) (hdecl : (T k).1 = C) {a : Nat} {fs : List Value} {v : Value} (ha : a < n) (hcell : h a = pm_O ci fs) (hv : fs[k]? = some v) (d : decode cc pc = .ok (.getfield index, 3)) (hq : pc + 3 = q) (kk : G cells slots q ls (v :: st) n h) : G cells slots pc ls (.ref a :: st) n h := by
  obtain ⟨p, e, s, m, args, below, meth, c, Q, D, dA, A, ad, X, hmn, rfl⟩ := K
  subst hq
  intro H locs la hS hL
  obtain ⟨hx, hb, -, hown, hts, hK, -⟩ := X
  refine va_get (D := D) (ci := ci) (v := pm_r ad v) (C := C) (T := T) (N := N) hx hb hts hin hown hK hS.1 a (fs := fs.map (pm_r ad)) ?_ hc k hk (hts _ hlink) (fun x hx => by rw [← hdecl]; exact hx) ?_ d (kk H locs la hS hL)
  · rw [pm_w_at ha, hcell]; rfl
  · rw [List.getElem?_map, hv]; rfl
/-- a cell written: a field that isn't final -/
theorem pm_put (K : pm_K l cl tl gw nw own nm cc nL ret R G) {C : String} {T : u_T} {N ci index : Nat} (hin : ∀ w ∈ u_ws C T N, w ∈ gw) (ty0 : Nat → FieldType) (hty : ∀ k, k < N → parseFieldDescriptor (T k).2.2.1 = some (ty0 k)) (hnm : ∀ a, a < N → ∀ b, b < N → a ≠ b → (T a).2.1 ≠ (T b).2.1) (hc : cl[ci]? = some (C, T, N)) {k : Nat} (hk : k < N) (hlink : Cond.fieldLink own index C (T k).2.1 (T k).2.2.1 ∈ gw) (hdecl : (T k).1 = C) (hfin : (T k).2.2.2 = false) {a : Nat} {fs fs' : List Value} {v : Value} (hfit : ∀ ad, narrow (ty0 k) (pm_r ad v) = pm_r ad v ∧ fits (ty0 k) (pm_r ad v) = true) (ha : a < n) (hcell : h a = pm_O ci fs) (hl : k < fs.length) (hfs : fs.set k v = fs') (d : decode cc pc = .ok (.putfield index, 3)) (hq : pc + 3 = q) (kk : G cells slots q ls st n (va_up h a (pm_O ci fs'))) : G cells slots pc ls (v :: .ref a :: st) n h := by
  obtain ⟨p, e, s, m, args, below, meth, c, Q, D, dA, A, ad, X, hmn, rfl⟩ := K
  subst hq
  intro H locs la hS hL
  obtain ⟨hx, hb, -, hown, hts, hK, -⟩ := X
  obtain ⟨hP, hD, hSS, hAd⟩ := hS
  have he : (pm_w dA ad n h)[a]? = some (ad a, .inr (ci, fs.map (pm_r ad))) := by rw [pm_w_at ha, hcell]; rfl
  have hap := va_apart (own := own) hts hin ty0 hty hnm hK hc
  obtain ⟨r, h1, cell, q1, q2, q3, q4⟩ := hP a _ he
  have hr : r = (C, T, N) := Option.some.inj (h1.symm.trans hc)
  subst hr
  obtain ⟨hSl, hfc, kC, hkC, hkind⟩ := hK.1 ci _ hc
  obtain ⟨cf, kf, fi, f, hi, hsl⟩ := hSl k hk
  have hlay := hts _ (hin _ (u_in_lay hk))
  unfold u_lay at hlay
  rw [if_neg (by rw [hfin]; decide)] at hlay
  have hst := (u_facts hfc hkC (u_lays hts hin hk) hi).1
  have h6 := u_store hfc hkC hkind hlay hi (hty k hk) (hfit ad).1 (hfit ad).2
  have hi' : s.fieldFound? C (T k).2.1 (T k).2.2.1 = some (cf, kf, fi, f) := by rw [← hdecl]; exact hi
  refine W.putK hx hb (f := f) ⟨hown, hts _ hlink, ⟨_, _, _, hi'⟩, hst⟩ (by rw [q2]; exact h6) q1 q3 (by rw [hsl]; exact k2_hasslot (q4 k hk)) rfl rfl d fun H' e1 e2 e3 => ?_
  rw [hsl] at e1 ⊢
  have hl' : k < (fs.map (pm_r ad)).length := by rw [List.length_map]; exact hl
  have hP' := hP.set (e := .inr (ci, (fs.map (pm_r ad)).set k (pm_r ad v))) hD he ⟨_, hc, t_OB.to (V := updV (vp_V (fs.map (pm_r ad))) k (pm_r ad v)) ⟨_, e1, q2, q3, t_set q4 hap hk _⟩ (fun j _ => vp_updV_set hl' _ j)⟩ e3
  have hD' := hD.set (e := .inr (ci, (fs.map (pm_r ad)).set k (pm_r ad v))) he
  have ew : (pm_w dA ad n h).set a (ad a, .inr (ci, (fs.map (pm_r ad)).set k (pm_r ad v))) = pm_w dA ad n (va_up h a (pm_O ci fs')) := by
    rw [← pm_w_set _ ha, ← hfs]
    simp only [pm_e, List.map_set]
  rw [ew] at hP' hD'
  exact kk H' _ la ⟨hP', hD', hSS.put e2 e3 (hD.2 a _ he), by rw [e2]; exact hAd⟩ hL

theorem pm_putF (K : pm_K l cl tl gw nw own nm cc nL ret R G) {C : String} {T : u_T} {N ci index : Nat} (hin : ∀ w ∈ u_ws C T N, w ∈ gw) (ty0 : Nat → FieldType) (hty : ∀ k, k < N → parseFieldDescriptor (T k).2.2.1 = some (ty0 k)) (hnm : ∀ a, a < N → ∀ b, b < N → a ≠ b → (T a).2.1 ≠ (T b).2.1) (hc : cl[ci]? = some (C, T, N)) {k : Nat} (hk : k < N) (hlink : Cond.fieldLink own index C (T k).2.1 (T k).2.2.1 ∈ gw) (hdecl : (T k).1 = C) (hownC : C = own) (hfin : (T k).2.2.2 = true) (hin2 : nm = "<init>") {a : Nat} {fs fs' : List Value} {v : Value} (hfit : ∀ ad, narrow (ty0 k) (pm_r ad v) = pm_r ad v ∧ fits (ty0 k) (pm_r ad v) = true) (ha : a < n) (hcell : h a = pm_O ci fs) (hl : k < fs.length) (hfs : fs.set k v = fs') (d : decode cc pc = .ok (.putfield index, 3)) (hq : pc + 3 = q) (kk : G cells slots q ls st n (va_up h a (pm_O ci fs'))) : G cells slots pc ls (v :: .ref a :: st) n h := by
  obtain ⟨p, e, s, m, args, below, meth, c, Q, D, dA, A, ad, X, hmn, rfl⟩ := K
  subst hq
  intro H locs la hS hL
  obtain ⟨hx, hb, -, hown, hts, hK, -⟩ := X
  obtain ⟨hP, hD, hSS, hAd⟩ := hS
  have he : (pm_w dA ad n h)[a]? = some (ad a, .inr (ci, fs.map (pm_r ad))) := by rw [pm_w_at ha, hcell]; rfl
  have hap := va_apart (own := own) hts hin ty0 hty hnm hK hc
  obtain ⟨r, h1, cell, q1, q2, q3, q4⟩ := hP a _ he
  have hr : r = (C, T, N) := Option.some.inj (h1.symm.trans hc)
  subst hr
  obtain ⟨hSl, hfc, kC, hkC, hkind⟩ := hK.1 ci _ hc
  obtain ⟨cf, kf, fi, f, hi, hsl⟩ := hSl k hk
  have hlay := hts _ (hin _ (u_in_lay hk))
  unfold u_lay at hlay
  rw [if_pos hfin] at hlay
  have hst := (u_facts hfc hkC (u_lays hts hin hk) hi).1
  have hcf : m.cls = cf := by
    obtain ⟨_, _, c', _, _, _, -, -, hf', -, -, -, hown2, -⟩ := Cond.laysFinal_spec hlay
    have e1 : c' = cf := by have := hi.symm.trans hf'; simp at this; exact this.1.symm
    rw [hdecl, hownC] at hown2
    rw [← e1]; exact Option.some.inj (hown.symm.trans hown2)
  have h6 := u_fits hfc hkC hkind (Or.inr hlay) hi (hty k hk) (hfit ad).1 (hfit ad).2
  have hi' : s.fieldFound? C (T k).2.1 (T k).2.2.1 = some (cf, kf, fi, f) := by rw [← hdecl]; exact hi
  refine W.putFinK hx hb hown (hts _ hlink) hi' hst hcf (hmn.trans hin2) (by rw [q2]; exact h6) q1 q3 (by rw [hsl]; exact k2_hasslot (q4 k hk)) rfl rfl d fun H' e1 e2 e3 => ?_
  rw [hsl] at e1 ⊢
  have hl' : k < (fs.map (pm_r ad)).length := by rw [List.length_map]; exact hl
  have hP' := hP.set (e := .inr (ci, (fs.map (pm_r ad)).set k (pm_r ad v))) hD he ⟨_, hc, t_OB.to (V := updV (vp_V (fs.map (pm_r ad))) k (pm_r ad v)) ⟨_, e1, q2, q3, t_set q4 hap hk _⟩ (fun j _ => vp_updV_set hl' _ j)⟩ e3
  have hD' := hD.set (e := .inr (ci, (fs.map (pm_r ad)).set k (pm_r ad v))) he
  have ew : (pm_w dA ad n h).set a (ad a, .inr (ci, (fs.map (pm_r ad)).set k (pm_r ad v))) = pm_w dA ad n (va_up h a (pm_O ci fs')) := by
    rw [← pm_w_set _ ha, ← hfs]
    simp only [pm_e, List.map_set]
  rw [ew] at hP' hD'
  exact kk H' _ la ⟨hP', hD', hSS.put e2 e3 (hD.2 a _ he), by rw [e2]; exact hAd⟩ hL
theorem pm_iald (K : pm_K l cl tl gw nw own nm cc nL ret R G) {a t len : Nat} {f : Nat → Int32} {i x : Int32} (ha : a < n) (hcell : h a = pm_I t len f) (ht : tl[t]? = some .int) (hin : vp_in i len) (hv : f i.toNatClampNeg = x) (d : decode cc pc = .ok (.iaload, 1)) (hq : pc + 1 = q) (kk : G cells slots q ls (.int x :: st) n h) : G cells slots pc ls (.int i :: .ref a :: st) n h := by
  obtain ⟨p, e, s, m, args, below, meth, c, Q, D, dA, A, ad, X, hmn, rfl⟩ := K
  subst hq
  intro H locs la hS hL
  subst hv
  exact va_iald X.1 X.2.1 X.2.2.2.2.2.1 hS.1 a t (cA := dA t) (n := len) (f := f) (by rw [pm_w_at ha, hcell]; rfl) (pm_tys_at ht) hin d (kk H locs la hS hL)
theorem pm_iast (K : pm_K l cl tl gw nw own nm cc nL ret R G) {a t len : Nat} {f : Nat → Int32} {i x : Int32} (ha : a < n) (hcell : h a = pm_I t len f) (ht : tl[t]? = some .int) (hin : vp_in i len) (d : decode cc pc = .ok (.iastore, 1)) (hq : pc + 1 = q) (kk : G cells slots q ls st n (va_up h a (pm_I t len (upd f i.toNatClampNeg x)))) : G cells slots pc ls (.int x :: .int i :: .ref a :: st) n h := by
  obtain ⟨p, e, s, m, args, below, meth, c, Q, D, dA, A, ad, X, hmn, rfl⟩ := K
  subst hq
  intro H locs la hS hL
  obtain ⟨hx, hb, -, hown, hts, hK, -⟩ := X
  obtain ⟨hP, hD, hSS, hAd⟩ := hS
  have he : (pm_w dA ad n h)[a]? = some (ad a, .inl (dA t, len, .inl f)) := by rw [pm_w_at ha, hcell]; rfl
  refine W.iast hx hb (hP a _ he) ((hK.2 t _ (pm_tys_at ht)).1 len (fun j => .int (f j))) (fun q => by cases q) (by show ¬ (i < 0 ∨ (arrV _ _ _).slots.size ≤ _); rw [arrV_size]; exact hin) rfl rfl d fun H1 e1 z oq => ?_
  have hat : va_at D cl (ad a, .inl (dA t, len, .inl (upd f i.toNatClampNeg x))) H1 := by
    show H1[ad a]? = some (vp_cell _ _)
    rw [e1, vp_cell_i, vp_cell_i, arrV_store]
    congr 2
    funext q
    by_cases hq : q = i.toNatClampNeg
    · subst hq
      simp [updV, upd]
    · simp [updV, upd, hq]
  have hP' := hP.set hD he hat oq
  have hD' := hD.set (e := .inl (dA t, len, .inl (upd f i.toNatClampNeg x))) he
  have ew : (pm_w dA ad n h).set a (ad a, .inl (dA t, len, .inl (upd f i.toNatClampNeg x))) = pm_w dA ad n (va_up h a (pm_I t len (upd f i.toNatClampNeg x))) := by
    rw [← pm_w_set _ ha]; rfl
  rw [ew] at hP' hD'
  exact kk H1 _ la ⟨hP', hD', hSS.put z oq (hD.2 a _ he), by rw [z]; exact hAd⟩ hL
theorem pm_aald (K : pm_K l cl tl gw nw own nm cc nL ret R G) {a t len k : Nat} {C : String} {f : Nat → Option Nat} {i : Int32} (ha : a < n) (hcell : h a = pm_R t len f) (ht : tl[t]? = some (.object C)) (hin : vp_in i len) (hv : f i.toNatClampNeg = some k) (d : decode cc pc = .ok (.aaload, 1)) (hq : pc + 1 = q) (kk : G cells slots q ls (.ref k :: st) n h) : G cells slots pc ls (.int i :: .ref a :: st) n h := by
  obtain ⟨p, e, s, m, args, below, meth, c, Q, D, dA, A, ad, X, hmn, rfl⟩ := K
  subst hq
  intro H locs la hS hL
  refine va_aldq X.1 X.2.1 X.2.2.2.2.2.1 hS.1 a t (cA := dA t) (C := C) (n := len) (f := fun j => (f j).map ad) (by rw [pm_w_at ha, hcell]; rfl) (pm_tys_at ht) hin d ?_
  rw [hv]
  exact kk H locs la hS hL
theorem pm_aast (K : pm_K l cl tl gw nw own nm cc nL ret R G) {a t len k cv : Nat} {r : vw_C} {vs : List Value} {f : Nat → Option Nat} {i : Int32} (ha : a < n) (hcell : h a = pm_R t len f) (ht : tl[t]? = some (.object r.1)) (hk : k < n) (hobj : h k = pm_O cv vs) (hc : cl[cv]? = some r) (hin : vp_in i len) (d : decode cc pc = .ok (.aastore, 1)) (hq : pc + 1 = q) (kk : G cells slots q ls st n (va_up h a (pm_R t len (va_up f i.toNatClampNeg (some k))))) : G cells slots pc ls (.ref k :: .int i :: .ref a :: st) n h := by
  obtain ⟨p, e, s, m, args, below, meth, c, Q, D, dA, A, ad, X, hmn, rfl⟩ := K
  subst hq
  intro H locs la hS hL
  obtain ⟨hx, hb, -, hown, hts, hK, -⟩ := X
  obtain ⟨hP, hD, hSS, hAd⟩ := hS
  have he : (pm_w dA ad n h)[a]? = some (ad a, .inl (dA t, len, .inr (.inr (.inr (.inr (fun j => (f j).map ad)))))) := by rw [pm_w_at ha, hcell]; rfl
  have hev : (pm_w dA ad n h)[k]? = some (ad k, .inr (cv, vs.map (pm_r ad))) := by rw [pm_w_at hk, hobj]; rfl
  have hlt : i.toNatClampNeg < len := Nat.not_le.mp fun q => hin (Or.inr q)
  have h0 : ¬ i < 0 := fun q => hin (Or.inl q)
  obtain ⟨r', hr', cellV, g1, g2, g3, -⟩ := hP k _ hev
  have hcls := (hK.1 cv r hc).2
  obtain ⟨kA, comp, k1, k2, k3, -⟩ := (hK.2 t _ (pm_tys_at ht)).2
  have hcomp : comp = D.1 cv := Option.some.inj (k3.symm.trans hcls.1)
  subst hcomp
  obtain ⟨kC, hkC, -⟩ := hcls.2
  refine W.aast hx hb (hP a _ he) (fun q hq => by cases hq) (fun hq => by cases hq) k1 k2 rfl hkC ⟨h0, by show _ < (arrV _ _ _).slots.size; rw [arrV_size]; exact hlt⟩ g1 (fun q hq => by rw [g3] at hq; cases hq) (by rw [g2]; exact hkC) (by rw [g2]; exact va_assign hcls) rfl rfl d fun H1 e1 z oq => ?_
  have hat : va_at D cl (ad a, .inl (dA t, len, .inr (.inr (.inr (.inr (fun j => (va_up f i.toNatClampNeg (some k) j).map ad)))))) H1 := by
    show H1[ad a]? = some (vp_cell _ _)
    rw [e1, vp_cell_q, vp_cell_q, arrV_store]
    congr 2
    funext q
    by_cases hq : q = i.toNatClampNeg
    · subst hq
      simp [updV, va_up, va_rf]
    · simp [updV, va_up, hq]
  have hP' := hP.set hD he hat oq
  have hD' := hD.set (e := .inl (dA t, len, .inr (.inr (.inr (.inr (fun j => (va_up f i.toNatClampNeg (some k) j).map ad)))))) he
  have ew : (pm_w dA ad n h).set a (ad a, .inl (dA t, len, .inr (.inr (.inr (.inr (fun j => (va_up f i.toNatClampNeg (some k) j).map ad)))))) = pm_w dA ad n (va_up h a (pm_R t len (va_up f i.toNatClampNeg (some k)))) := by
    rw [← pm_w_set _ ha]; rfl
  rw [ew] at hP' hD'
  exact kk H1 _ la ⟨hP', hD', hSS.put z oq (hD.2 a _ he), by rw [z]; exact hAd⟩ hL
theorem pm_alenI (K : pm_K l cl tl gw nw own nm cc nL ret R G) {a t len : Nat} {ty : FieldType} {f : Nat → Int32} {v : Int32} (ha : a < n) (hcell : h a = pm_I t len f) (ht : tl[t]? = some ty) (hv : Int32.ofNat len = v) (d : decode cc pc = .ok (.arraylength, 1)) (hq : pc + 1 = q) (kk : G cells slots q ls (.int v :: st) n h) : G cells slots pc ls (.ref a :: st) n h := by
  obtain ⟨p, e, s, m, args, below, meth, c, Q, D, dA, A, ad, X, hmn, rfl⟩ := K
  subst hq
  intro H locs la hS hL
  exact va_alen X.1 X.2.1 X.2.2.2.2.2.1 hS.1 a t (cA := dA t) (x := (len, .inl f)) (by rw [pm_w_at ha, hcell]; rfl) (pm_tys_at ht) hv d (kk H locs la hS hL)
/-- a new object: it gets the next number -/
theorem pm_new (K : pm_K l cl tl gw nw own nm cc nL ret R G) {C : String} {T : u_T} {N ci index : Nat} (hin : ∀ w ∈ u_ws C T N, w ∈ gw) (ty : Nat → FieldType) (hty : ∀ k, k < N → parseFieldDescriptor (T k).2.2.1 = some (ty k)) (hcl : Cond.classLink own index C ∈ gw) (hinst : Cond.instantiable C N ∈ gw) (hini : Cond.initialized C ∈ gw) (hc : cl[ci]? = some (C, T, N)) {fs : List Value} (hfs : ∀ j, j < N → defaultValue (ty j) = vp_V fs j) (hpure : ∀ ad, fs.map (pm_r ad) = fs) (hbig : n < pm_big) (hcells : cells + 1 ≤ R.cells) (hslots : slots + N ≤ R.slots) (d : decode cc pc = .ok (.new index, 3)) (hq : pc + 3 = q) (kk : G (cells + 1) (slots + N) q ls (.ref n :: st) (n + 1) (va_up h n (pm_O ci fs))) : G cells slots pc ls st n h := by
  obtain ⟨p, e, s, m, args, below, meth, c, Q, D, dA, A, ad, X, hmn, rfl⟩ := K
  subst hq
  intro H locs la hS hL
  obtain ⟨hx, hb, -, hown, hts, hK, hA, -⟩ := X
  obtain ⟨hP, hD, hSS, hAd⟩ := hS
  have hsz : ad n = H.size := by have := hAd 0 (by omega); simpa using this
  have hKn := hK.1 ci _ hc
  refine W.newcK hx hb hown (hts _ hcl) (hts _ hinst) (hts _ hini) rfl d hcells hslots hKn.2.1 rfl fun H1 kC hkC e1 z1 o1 => ?_
  have hk : ∀ (k : Nat) (x : Nat × va_E), (pm_w dA ad n h)[k]? = some x → H1[x.1]? = H[x.1]? := fun k x hx => o1 x.1 ((hP k x hx).lt)
  have hnew : va_at D cl (ad n, pm_e dA ad (pm_O ci fs)) H1 := by
    show ∃ r : vw_C, cl[ci]? = some r ∧ t_OB (ad n) (D.1 ci) r.2.2 (D.2 ci) H1 (vp_V (fs.map (pm_r ad)))
    rw [hpure, hsz]
    exact ⟨_, hc, (u_born ty hts hin hKn hkC e1 hty).to hfs⟩
  have hP' : va_P D cl (pm_w dA ad (n + 1) (va_up h n (pm_O ci fs))) H1 := by
    rw [pm_w_push]
    refine (hP.kept hk).app (fun k x hx => ?_)
    have hz : k < 1 := (List.getElem?_eq_some_iff.mp hx).1
    rw [show k = 0 by omega] at hx
    cases hx
    exact hnew
  have hD' : va_D A (pm_w dA ad (n + 1) (va_up h n (pm_O ci fs))) := by
    rw [pm_w_push]
    exact hD.push hP hsz (by rw [hsz]; exact hA _ hSS.1)
  have hg := kk H1 locs la ⟨hP', hD', ⟨Nat.le_trans hSS.1 (by omega), fun x h1 h2 => (o1 x (Nat.lt_of_lt_of_le h1 hSS.1)).trans (hSS.2.1 x h1 h2), hSS.2.2⟩, fun i hi => by
    have := hAd (i + 1) (by omega)
    rw [z1, show n + 1 + i = n + (i + 1) by omega, this]
    omega⟩ hL
  have ew : (Value.ref n :: st).map (pm_r ad) = .ref H.size :: st.map (pm_r ad) := by rw [List.map_cons, pm_r_ref, hsz]
  rw [ew] at hg
  exact hg
/-- a new array of ints, chars .. -/
theorem pm_newa (K : pm_K l cl tl gw nw own nm cc nL ret R G) {atype : ArrayType} {ty : FieldType} {t : Nat} (hty : newarray.typeOf atype = ty) (harr : Cond.arrayClass ty ∈ gw) (ht : tl[t]? = some ty) (hprim : ∀ (s : State) (cA : ClassId), va_RA s cA ty → s.vm.findClass ("[" ++ ty.toString) = some cA) (hdef : defaultValue ty = .int 0) {k : Int32} {N : Nat} (hn : ¬ k < 0) (hN : k.toNatClampNeg = N) (hbytes : N * componentBytes ty ≤ 536870912) (hbig : n < pm_big) (hcells : cells + 1 ≤ R.cells) (hslots : slots + N ≤ R.slots) (d : decode cc pc = .ok (.newarray atype, 2)) (hq : pc + 2 = q) (kk : G (cells + 1) (slots + N) q ls (.ref n :: st) (n + 1) (va_up h n (pm_I t N (fun _ => 0)))) : G cells slots pc ls (.int k :: st) n h := by
  obtain ⟨p, e, s, m, args, below, meth, c, Q, D, dA, A, ad, X, hmn, rfl⟩ := K
  subst hq
  intro H locs la hS hL
  obtain ⟨hx, hb, -, hown, hts, hK, hA, -⟩ := X
  obtain ⟨hP, hD, hSS, hAd⟩ := hS
  subst hty
  have hsz : ad n = H.size := by have := hAd 0 (by omega); simpa using this
  refine va_newaK hx hb (hts _ harr) rfl d rfl hn hN hbytes hcells hslots rfl fun H1 cA e1 z1 o1 hAr hNm => ?_
  have hcA : cA = dA t := Option.some.inj (hNm.symm.trans (hprim _ _ (hK.2 t _ (pm_tys_at ht)).2))
  subst hcA
  have hk : ∀ (k : Nat) (x : Nat × va_E), (pm_w dA ad n h)[k]? = some x → H1[x.1]? = H[x.1]? := fun k x hx => o1 x.1 ((hP k x hx).lt)
  have hnew : va_at D cl (ad n, pm_e dA ad (pm_I t N (fun _ => 0))) H1 := by
    show H1[ad n]? = some (vp_cell (dA t) (N, .inl (fun _ => 0)))
    rw [hsz, e1, vp_cell_i, hdef]
  have hP' : va_P D cl (pm_w dA ad (n + 1) (va_up h n (pm_I t N (fun _ => 0)))) H1 := by
    rw [pm_w_push]
    refine (hP.kept hk).app (fun k x hx => ?_)
    have hz : k < 1 := (List.getElem?_eq_some_iff.mp hx).1
    rw [show k = 0 by omega] at hx
    cases hx
    exact hnew
  have hD' : va_D A (pm_w dA ad (n + 1) (va_up h n (pm_I t N (fun _ => 0)))) := by
    rw [pm_w_push]
    exact hD.push hP hsz (by rw [hsz]; exact hA _ hSS.1)
  have hg := kk H1 locs la ⟨hP', hD', ⟨Nat.le_trans hSS.1 (by omega), fun x h1 h2 => (o1 x (Nat.lt_of_lt_of_le h1 hSS.1)).trans (hSS.2.1 x h1 h2), hSS.2.2⟩, fun i hi => by
    have := hAd (i + 1) (by omega)
    rw [z1, show n + 1 + i = n + (i + 1) by omega, this]
    omega⟩ hL
  have ew : (Value.ref n :: st).map (pm_r ad) = .ref H.size :: st.map (pm_r ad) := by rw [List.map_cons, pm_r_ref, hsz]
  rw [ew] at hg
  exact hg
/-- a new array of references: each is null -/
theorem pm_anewa (K : pm_K l cl tl gw nw own nm cc nL ret R G) {C : String} {index t : Nat} (hclk : Cond.classLink own index C ∈ gw) (hover : Cond.arrayOver (.object C) ∈ gw) (ht : tl[t]? = some (.object C)) {k : Int32} {N : Nat} (hn : ¬ k < 0) (hN : k.toNatClampNeg = N) (hbytes : N * 4 ≤ 536870912) (hbig : n < pm_big) (hcells : cells + 1 ≤ R.cells) (hslots : slots + N ≤ R.slots) (d : decode cc pc = .ok (.anewarray index, 3)) (hq : pc + 3 = q) (kk : G (cells + 1) (slots + N) q ls (.ref n :: st) (n + 1) (va_up h n (pm_R t N (fun _ => none)))) : G cells slots pc ls (.int k :: st) n h := by
  obtain ⟨p, e, s, m, args, below, meth, c, Q, D, dA, A, ad, X, hmn, rfl⟩ := K
  subst hq
  intro H locs la hS hL
  obtain ⟨hx, hb, -, hown, hts, hK, hA, -⟩ := X
  obtain ⟨hP, hD, hSS, hAd⟩ := hS
  subst hN
  have hsz : ad n = H.size := by have := hAd 0 (by omega); simpa using this
  refine W.anew hx hb hown (hts _ hclk) (hts _ hover) rfl d rfl hn hbytes hcells hslots fun cA kA comp h1 h2 h3 h4 => ?_
  obtain ⟨kA', comp', k1, k2, k3, k4⟩ := (hK.2 t _ (pm_tys_at ht)).2
  have hcA : cA = dA t := Option.some.inj (h1.symm.trans k4)
  subst hcA
  have z1 : (H.push { cls := dA t, slots := Array.replicate k.toNatClampNeg .null, vm := .none }).size = H.size + 1 := by simp
  have o1 : ∀ x, x < H.size → (H.push { cls := dA t, slots := Array.replicate k.toNatClampNeg .null, vm := .none })[x]? = H[x]? := fun x hx => by
    rw [Array.getElem?_push, if_neg (Nat.ne_of_lt hx)]
  have e1 : (H.push { cls := dA t, slots := Array.replicate k.toNatClampNeg .null, vm := .none })[H.size]? = some (vp_cell (dA t) (k.toNatClampNeg, .inr (.inr (.inr (.inr (fun _ => none)))))) := by
    rw [vp_cell_q, Array.getElem?_push, if_pos rfl]
    congr 1
    exact (arrV_new _ _ _)
  generalize (H.push { cls := dA t, slots := Array.replicate k.toNatClampNeg .null, vm := .none }) = H1 at z1 o1 e1 ⊢
  have hk : ∀ (k : Nat) (x : Nat × va_E), (pm_w dA ad n h)[k]? = some x → H1[x.1]? = H[x.1]? := fun k x hx => o1 x.1 ((hP k x hx).lt)
  have hnew : va_at D cl (ad n, pm_e dA ad (pm_R t k.toNatClampNeg (fun _ => none))) H1 := by
    show H1[ad n]? = some (vp_cell (dA t) (k.toNatClampNeg, .inr (.inr (.inr (.inr (fun _ => none))))))
    rw [hsz, e1]
  have hP' : va_P D cl (pm_w dA ad (n + 1) (va_up h n (pm_R t k.toNatClampNeg (fun _ => none)))) H1 := by
    rw [pm_w_push]
    refine (hP.kept hk).app (fun k x hx => ?_)
    have hz : k < 1 := (List.getElem?_eq_some_iff.mp hx).1
    rw [show k = 0 by omega] at hx
    cases hx
    exact hnew
  have hD' : va_D A (pm_w dA ad (n + 1) (va_up h n (pm_R t k.toNatClampNeg (fun _ => none)))) := by
    rw [pm_w_push]
    exact hD.push hP hsz (by rw [hsz]; exact hA _ hSS.1)
  have hg := kk H1 locs la ⟨hP', hD', ⟨Nat.le_trans hSS.1 (by omega), fun x h1 h2 => (o1 x (Nat.lt_of_lt_of_le h1 hSS.1)).trans (hSS.2.1 x h1 h2), hSS.2.2⟩, fun i hi => by
    have := hAd (i + 1) (by omega)
    rw [z1, show n + 1 + i = n + (i + 1) by omega, this]
    omega⟩ hL
  have ew : (Value.ref n :: st).map (pm_r ad) = .ref H.size :: st.map (pm_r ad) := by rw [List.map_cons, pm_r_ref, hsz]
  rw [ew] at hg
  exact hg
end PMH
end
section
/-! Contracts over the picture; returns; calls. -/
/-! ===== contracts ===== -/
def pm_kL : Nat := 48
def pm_rm (d mc ms : Nat) : Room := { frames := d, cells := mc, slots := ms, locals := pm_kL * d }
/-- a method's start: its arguments, the picture, the tables -/
def pm_Pc (cl : List vw_C) (tl : List FieldType) (nw : List Cond) (D : va_G) (dA : Nat → ClassId) (ad : Nat → Nat) (sz : Nat) (vs : List Value) (n : Nat) (h : pm_H) : Array Value → State → Prop :=
  va_Pc (vs.map (pm_r ad)) (fun U => U.heap.size = sz ∧ va_P D cl (pm_w dA ad n h) U.heap ∧ va_K D cl (pm_tys dA tl) U ∧ va_D (fun _ => True) (pm_w dA ad n h) ∧ pm_N nw U)
def pm_Q (cl : List vw_C) (D : va_G) (dA : Nat → ClassId) (ad : Nat → Nat) (sz n : Nat) (h : pm_H) (Post : Option Value → Nat → pm_H → Prop) : Array Value → State → Outcome → State → Prop := fun _ st oc t =>
  (∃ (r : Option Value) (n' : Nat) (h' : pm_H), oc = .returned (r.map (pm_r ad)) ∧ Post r n' h' ∧ va_P D cl (pm_w dA ad n' h') t.heap ∧ va_D (va_A (pm_w dA ad n h) sz) (pm_w dA ad n' h') ∧ ∀ i, n' + i < pm_big → ad (n' + i) = t.heap.size + i) ∧ va_F (va_A (pm_w dA ad n h) sz) st t
/-- method y, called with vs over the picture h of n cells: it returns, with Post; d frames deep, at most mc cells of ms slots new -/
def pm_M (l : Launch) (cl : List vw_C) (tl : List FieldType) (gw nw : List Cond) (y : MethodName) (code : ByteArray) (maxL : Nat) (ret : Option FieldType) (d mc ms : Nat) (vs : List Value) (n : Nat) (h : pm_H) (Post : Option Value → Nat → pm_H → Prop) : Prop :=
  ∀ (D : va_G) (dA : Nat → ClassId) (ad : Nat → Nat) (sz : Nat), (∀ i, n + i < pm_big → ad (n + i) = sz + i) → Met l y (.code y code maxL ret :: gw) (pm_rm d mc ms) (pm_Pc cl tl nw D dA ad sz vs n h) (pm_Q cl D dA ad sz n h Post) mc ms (va_A (pm_w dA ad n h) sz)
theorem pm_lg (ad : Nat → Nat) (vs : List Value) : (lg_sl (vs.map (pm_r ad))).length = vs.length := by
  induction vs with
  | nil => rfl
  | cons v vs ih =>
    unfold lg_sl at ih ⊢
    rw [List.map_cons, List.flatMap_cons, List.length_append, ih, pm_r_cat]
    simp
    omega
theorem pm_args {ad : Nat → Nat} : ∀ (vs : List Value) (i k : Nat) (v : Value), vs[k]? = some v → (i + k, pm_r ad v) ∈ lv_args i (vs.map (pm_r ad))
  | [], i, k, v, h => by simp at h
  | x :: vs, i, k, v, h => by
    rw [List.map_cons]
    unfold lv_args
    rw [pm_r_cat]
    cases k with
    | zero =>
      rw [List.getElem?_cons_zero] at h
      cases h
      exact List.mem_cons_self
    | succ k =>
      rw [List.getElem?_cons_succ] at h
      have := pm_args (ad := ad) vs (i + 1) k v h
      rw [show i + (k + 1) = i + 1 + k by omega]
      exact List.mem_cons_of_mem _ (by simpa using this)
/-- the same walk, with what its return must bring -/
def pm_Z (l : Launch) (cl : List vw_C) (tl : List FieldType) (gw nw : List Cond) (own nm : String) (cc : ByteArray) (nL : Nat) (ret : Option FieldType) (R : Room) (mc ms n0 : Nat) (h0 : pm_H) (Post : Option Value → Nat → pm_H → Prop) (G : pm_Gt) : Prop :=
  ∃ (p : Program) (e : Env) (s : State) (m : MethodId) (args : Array Value) (below : List Frame) (meth : Method) (c : Code) (D : va_G) (dA : Nat → ClassId) (A : Nat → Prop) (ad : Nat → Nat), pm_X p s m args meth c cl tl gw nw D dA own cc nL ret A ∧ meth.name = nm ∧ A = va_A (pm_w dA ad n0 h0) s.heap.size ∧ G = pm_G p l e R s m args below meth c (MQ below (pm_Q cl D dA ad s.heap.size n0 h0 Post) args s mc ms A) cl D dA A ad nL
theorem pm_Z.k {l : Launch} {cl : List vw_C} {tl : List FieldType} {gw nw : List Cond} {own nm : String} {cc : ByteArray} {nL : Nat} {ret : Option FieldType} {R : Room} {mc ms n0 : Nat} {h0 : pm_H} {Post : Option Value → Nat → pm_H → Prop} {G : pm_Gt} (Z : pm_Z l cl tl gw nw own nm cc nL ret R mc ms n0 h0 Post G) : pm_K l cl tl gw nw own nm cc nL ret R G := by
  obtain ⟨p, e, s, m, args, below, meth, c, D, dA, A, ad, X, hmn, hA, rfl⟩ := Z
  exact ⟨p, e, s, m, args, below, meth, c, _, D, dA, A, ad, X, hmn, rfl⟩
/-- a method's contract out of the walk of its body -/
theorem pm_enter {l : Launch} {cl : List vw_C} {tl : List FieldType} {gw nw : List Cond} {y : MethodName} {code : ByteArray} {maxL : Nat} {ret : Option FieldType} {d mc ms : Nat} {vs : List Value} {n : Nat} {h : pm_H} {Post : Option Value → Nat → pm_H → Prop} (hy : plainName y.cls = true) (hvs : vs.length ≤ maxL)
    (body : ∀ (G : pm_Gt), pm_K l cl tl gw nw y.cls y.name code maxL ret (pm_rm d mc ms) G → pm_Z l cl tl gw nw y.cls y.name code maxL ret (pm_rm d mc ms) mc ms n h Post G → G 0 0 0 (vs.map some ++ List.replicate (maxL - vs.length) none) [] n h) : pm_M l cl tl gw nw y code maxL ret d mc ms vs n h Post := by
  intro D dA ad sz hAd
  refine Met.ofW (cc := code) (maxL := maxL) (ret := ret) hy rfl ?_
  intro p e s m args below meth c s₁ B hml hv
  obtain ⟨rfl, hsz, hP, hK, hD0, hN⟩ := hv
  subst hsz
  have hts := atoms_spec (ws := Cond.code y code maxL ret :: gw) B.pre
  have hX : pm_X p s m (vs.map (pm_r ad)).toArray meth c cl tl gw nw D dA y.cls code maxL ret (va_A (pm_w dA ad n h) s.heap.size) := ⟨B.exec, B.bytes, hml, findClass_of_methodNamed B.named, fun w hw => hts w (List.mem_cons_of_mem _ hw), hK, fun q hq => Or.inr hq, B.returns, B.notSynchronized, hN⟩
  have hnm := (name_of_methodNamed B.named B.method).1
  have hZ : pm_Z l cl tl gw nw y.cls y.name code maxL ret (pm_rm d mc ms) mc ms n h Post (pm_G p l e (pm_rm d mc ms) s m (vs.map (pm_r ad)).toArray below meth c (MQ below (pm_Q cl D dA ad s.heap.size n h Post) (vs.map (pm_r ad)).toArray s mc ms (va_A (pm_w dA ad n h) s.heap.size)) cl D dA (va_A (pm_w dA ad n h) s.heap.size) ad maxL) := ⟨p, e, s, m, _, below, meth, c, D, dA, _, ad, hX, hnm, rfl, rfl⟩
  have hG := body _ hZ.k hZ
  rw [lg_entry_eq]
  refine hG s.heap [] _ ⟨hP, hD0.self, va_S.rf, hAd⟩ ?_
  have hl := lv_entry (vs.map (pm_r ad)) (n := maxL) (by rw [pm_lg]; exact hvs)
  refine ⟨hl.1, hl.2.1, fun q hq => ?_⟩
  obtain ⟨v, h1, h2⟩ := pm_l_mem.mp hq
  have hk : vs[q.1]? = some v := by
    by_cases hlt : q.1 < vs.length
    · rw [List.getElem?_append_left (by simpa using hlt), List.getElem?_map] at h1
      cases h3 : vs[q.1]? with
      | none => rw [h3] at h1; cases h1
      | some x => rw [h3] at h1; simpa using h1
    · rw [List.getElem?_append_right (by simpa using hlt)] at h1
      have := List.eq_of_mem_replicate (List.mem_of_getElem? h1)
      cases this
  have hm := pm_args (ad := ad) vs 0 q.1 v hk
  rw [Nat.zero_add, ← h2] at hm
  exact hl.2.2 q hm
section PMC
variable {l : Launch} {cl : List vw_C} {tl : List FieldType} {gw nw : List Cond} {own nm : String} {cc : ByteArray} {nL : Nat} {ret : Option FieldType} {R : Room} {G : pm_Gt} {cells slots pc q n : Nat} {ls ls' : List (Option Value)} {st st0 : List Value} {h : pm_H}
theorem pm_iret {mc ms n0 : Nat} {h0 : pm_H} {Post : Option Value → Nat → pm_H → Prop} (Z : pm_Z l cl tl gw nw own nm cc nL ret R mc ms n0 h0 Post G) {x : Int32} {ty : FieldType} (d : decode cc pc = .ok (.ireturn, 1)) (hr : ret = some ty) (hn : narrow ty (.int x) = .int x) (hc : cells ≤ mc) (hs : slots ≤ ms) (hP : Post (some (.int x)) n h) : G cells slots pc ls [.int x] n h := by
  obtain ⟨p, e, s, m, args, below, meth, c, D, dA, A, ad, X, hmn, hA, rfl⟩ := Z
  intro H locs la hS hL
  subst hA
  obtain ⟨hP1, hD, hSS, hAd⟩ := hS
  obtain ⟨hx, hb, -, -, -, -, -, hret, hlocks, -⟩ := X
  refine W.widen hc hs ?_
  exact W.zret hx hb (hret.trans hr) hn (fun t ht hW => ⟨⟨some (.int x), n, h, rfl, hP, by rw [ht]; exact hP1, hD, by rw [ht]; exact hAd⟩, hSS.F ht⟩) hSS.2.2 d hlocks
theorem pm_vret {mc ms n0 : Nat} {h0 : pm_H} {Post : Option Value → Nat → pm_H → Prop} (Z : pm_Z l cl tl gw nw own nm cc nL ret R mc ms n0 h0 Post G) (d : decode cc pc = .ok (.return_, 1)) (hr : ret = none) (hc : cells ≤ mc) (hs : slots ≤ ms) (hP : Post none n h) : G cells slots pc ls [] n h := by
  obtain ⟨p, e, s, m, args, below, meth, c, D, dA, A, ad, X, hmn, hA, rfl⟩ := Z
  intro H locs la hS hL
  subst hA
  obtain ⟨hP1, hD, hSS, hAd⟩ := hS
  obtain ⟨hx, hb, -, -, -, -, -, hret, hlocks, -⟩ := X
  refine W.widen hc hs ?_
  exact W.vret hx hb (hret.trans hr) (fun t ht hW => ⟨⟨none, n, h, rfl, hP, by rw [ht]; exact hP1, hD, by rw [ht]; exact hAd⟩, hSS.F ht⟩) hSS.2.2 d hlocks
theorem pm_aret {mc ms n0 : Nat} {h0 : pm_H} {Post : Option Value → Nat → pm_H → Prop} (Z : pm_Z l cl tl gw nw own nm cc nL ret R mc ms n0 h0 Post G) {k : Nat} {C : String} (d : decode cc pc = .ok (.areturn, 1)) (hr : ret = some (.object C)) (hc : cells ≤ mc) (hs : slots ≤ ms) (hP : Post (some (.ref k)) n h) : G cells slots pc ls [.ref k] n h := by
  obtain ⟨p, e, s, m, args, below, meth, c, D, dA, A, ad, X, hmn, hA, rfl⟩ := Z
  intro H locs la hS hL
  subst hA
  obtain ⟨hP1, hD, hSS, hAd⟩ := hS
  obtain ⟨hx, hb, -, -, -, -, -, hret, hlocks, -⟩ := X
  refine W.widen hc hs ?_
  exact W.aret hx hb (hret.trans hr) (Or.inl ⟨C, rfl⟩) (Or.inr ⟨ad k, rfl⟩) (fun t ht hW => ⟨⟨some (.ref k), n, h, rfl, hP, by rw [ht]; exact hP1, hD, by rw [ht]; exact hAd⟩, hSS.F ht⟩) hSS.2.2 d hlocks
/-- a call, whatever its kind: over the walk's own words -/
theorem pm_call {p : Program} {e : Env} {s : State} {m : MethodId} {args : Array Value} {below : List Frame} {meth : Method} {c : Code} {Q : State → Prop} {D : va_G} {dA : Nat → ClassId} {A : Nat → Prop} {ad : Nat → Nat} (X : pm_X p s m args meth c cl tl gw nw D dA own cc nL ret A) {mc ms : Nat} {Post : Option Value → Nat → pm_H → Prop} {a0 : Array Value}
    (hr : ∀ (H : Heap) (locs : List Loc) (la : Array Slot), pm_S cl D dA A ad n h s.heap H locs → lv_has la nL (pm_l ad ls) → va_Run p l e R s m args below meth c H locs cells slots mc ms (F0 m pc la (st0.map (pm_r ad))) (st.map (pm_r ad)) (pm_Q cl D dA ad H.size n h Post a0) (va_A (pm_w dA ad n h) H.size))
    (kk : ∀ (r : Option Value) (n' : Nat) (h' : pm_H), Post r n' h' → pm_G p l e R s m args below meth c Q cl D dA A ad nL (cells + mc) (slots + ms) (pc + 3) ls (r.toList ++ st) n' h') : pm_G p l e R s m args below meth c Q cl D dA A ad nL cells slots pc ls st0 n h := by
  intro H locs la hS hL
  have hr' := hr H locs la hS hL
  obtain ⟨hP, hD, hSS, hAd⟩ := hS
  have hA0 := X.2.2.2.2.2.2.1
  have hsub : ∀ q, va_A (pm_w dA ad n h) H.size q → A q := by
    intro q hq
    rcases hq with ⟨k, e', hk⟩ | hq
    · exact hD.2 k (q, e') hk
    · exact hA0 q (Nat.le_trans hSS.1 hq)
  intro T hT XT
  obtain ⟨v, st₀, t, T', L, h0, X', hL', e1, e2, ⟨⟨r, n', h', hv, hPost, hP', hD', hAd'⟩, hz, hk⟩, stp⟩ := hr' T hT XT
  have hv : v = r.map (pm_r ad) := Outcome.returned.inj hv
  subst hv
  rw [h0] at hz hk
  have hg := kk r n' h' hPost T'.heap (locs ++ L) la ⟨by rw [e1]; exact hP', hD'.weaken (fun _ q _ hq => hsub q.1 hq), ⟨Nat.le_trans hSS.1 (by rw [e1]; exact hz), fun q h1 h2 => by rw [e1, hk q (Nat.lt_of_lt_of_le h1 hSS.1) (fun z => h2 (hsub q z))]; exact hSS.2.1 q h1 h2, fun q hq => by
    rcases List.mem_append.mp hq with hq | hq
    · exact hSS.2.2 q hq
    · exact hsub _ (hL' q hq)⟩, by rw [e1]; exact hAd'⟩ hL
  have es : (r.toList ++ st).map (pm_r ad) = (r.map (pm_r ad)).toList ++ st.map (pm_r ad) := by cases r <;> rfl
  rw [es] at hg
  obtain ⟨t2, a1, b1⟩ := hg T' rfl X'
  exact ⟨t2, stp t2 a1, b1⟩
theorem pm_blind {D : va_G} {dA : Nat → ClassId} {ad : Nat → Nat} {vs : List Value} {sz : Nat} : FrameBlind (pm_Pc cl tl nw D dA ad sz vs n h) := fun a U g mk q => by
  obtain ⟨q0, q1, qP, qK, qD, qN⟩ := q
  exact ⟨q0, q1, qP, va_K.moved (u := U) (U := U.calling g mk a) (Vm.Alike.refl U.vm) qK, qD, pm_N.same (s := U) (U := U.calling g mk a) rfl qN⟩
theorem pm_room {m : MethodId} {ad : Nat → Nat} {la : Array Slot} {st1 : List Value} (hst : st.length ≤ 8) : 2 * (F0 m pc la st1).monitorRoom + ((st.map (pm_r ad)).map fun v => v.category).sum ≤ 8 := by
  refine lv_room ?_
  rw [List.map_map]
  have : ∀ l : List Value, (l.map ((fun v => v.category) ∘ pm_r ad)).sum = l.length := by
    intro l
    induction l with
    | nil => rfl
    | cons v l ih => simp only [List.map_cons, List.sum_cons, ih, Function.comp, pm_r_cat, List.length_cons]; omega
  rw [this]
  exact hst
/-- what an invokevirtual wants of the tables -/
def pm_cV (gw : List Cond) (own : String) (idx : Nat) (y : MethodName) (code : ByteArray) (maxL : Nat) (ret : Option FieldType) (k : Nat) : Prop :=
  Cond.methodLink own idx y ∈ gw ∧ Cond.instanceMethod y ∈ gw ∧ Cond.selects y.cls y y ∈ gw ∧ Cond.initialized y.cls ∈ gw ∧ Cond.code y code maxL ret ∈ gw ∧ y.cls ≠ "java/lang/invoke/MethodHandle" ∧ y.cls ≠ "java/lang/invoke/VarHandle" ∧ (parseMethodDescriptor y.desc).map (fun d => d.parameters.length) = some k
theorem pm_callV (K : pm_K l cl tl gw nw own nm cc nL ret R G) (hgw : ∀ w ∈ gw, (w.onTables && w.keeps) = true ∨ ∃ ty, w = .arrayClass ty) {y : MethodName} {code : ByteArray} {maxL idx d' mc ms a ci N : Nat} {ret' : Option FieldType} {vs fs : List Value} {T : u_T} {Post : Option Value → Nat → pm_H → Prop}
    (hc : pm_cV gw own idx y code maxL ret' vs.length) (hM : pm_M l cl tl gw nw y code maxL ret' d' mc ms (.ref a :: vs) n h Post) (ha : a < n) (hcell : h a = pm_O ci fs) (hcl : cl[ci]? = some (y.cls, T, N)) (hst0 : st0 = vs.reverse ++ .ref a :: st) (hst : st.length ≤ 8) (hfr : d' + 1 ≤ R.frames ∧ 8 + (maxL + 11) + pm_kL * d' ≤ R.locals) (hcs : cells + mc ≤ R.cells ∧ slots + ms ≤ R.slots) (d : decode cc pc = .ok (.invokevirtual idx, 3)) (hq : pc + 3 = q)
    (kk : ∀ (r : Option Value) (n' : Nat) (h' : pm_H), Post r n' h' → G (cells + mc) (slots + ms) q ls (r.toList ++ st) n' h') : G cells slots pc ls st0 n h := by
  obtain ⟨p, e, s, m, args, below, meth, c, Q, D, dA, A, ad, X, hmn, rfl⟩ := K
  subst hq
  subst hst0
  refine pm_call (st := st) (a0 := (Value.ref (ad a) :: vs.map (pm_r ad)).toArray) X (fun H locs la hS hL => ?_) kk
  obtain ⟨hP, hD, hSS, hAd⟩ := hS
  obtain ⟨hx, hb, hml, hown, hts, hK, -, -, -, hN⟩ := X
  obtain ⟨c1, c2, c3, c4, c5, c6, c7, c8⟩ := hc
  have hG : GoodIn gw (wsV own idx y.cls y (Cond.code y code maxL ret' :: gw)) := by
    intro w hw
    have hw' : w ∈ gw := by
      simp only [wsV, List.mem_append, List.mem_cons, List.not_mem_nil, or_false] at hw
      rcases hw with (rfl | rfl | rfl | rfl) | rfl | hw
      · exact c1
      · exact c2
      · exact c3
      · exact c4
      · exact c5
      · exact hw
    exact ⟨hw', hgw w hw'⟩
  refine va_runV (As := vs.map (pm_r ad)) (b := ad a) (C := y.cls) ⟨hx, hb, hml, hown, hts⟩ (hM D dA ad H.size hAd) (cwV vs.length hts hG rfl rfl rfl ⟨rfl, c6, c7, c8⟩ hfr) ⟨pm_blind, ?_, fun U hU hW => ⟨rfl, by rw [hU], by rw [hU]; exact hP, va_K.moved hW.alike hK, hD.weaken (fun _ _ _ _ => trivial), hN.warm hW⟩⟩ rfl (by rw [List.length_map]) hL.1 ?_ (pm_room hst) d hcs
  · exact va_recv hK hP hcl (q0 := a) (fs := fs.map (pm_r ad)) (by rw [pm_w_at ha, hcell]; rfl)
  · show (vs.reverse ++ Value.ref a :: st).map (pm_r ad) = _
    rw [List.map_append, List.map_reverse, List.map_cons, pm_r_ref]

def pm_cS (gw : List Cond) (own : String) (idx : Nat) (y : MethodName) (code : ByteArray) (maxL : Nat) (ret : Option FieldType) (k : Nat) : Prop :=
  Cond.methodLink own idx y ∈ gw ∧ Cond.static y ∈ gw ∧ Cond.initialized own ∈ gw ∧ Cond.code y code maxL ret ∈ gw ∧ y.cls = own ∧ y.cls ≠ "java/lang/invoke/MethodHandle" ∧ y.cls ≠ "java/lang/invoke/VarHandle" ∧ (parseMethodDescriptor y.desc).map (fun d => d.parameters.length) = some k
theorem pm_callS (K : pm_K l cl tl gw nw own nm cc nL ret R G) (hgw : ∀ w ∈ gw, (w.onTables && w.keeps) = true ∨ ∃ ty, w = .arrayClass ty) {y : MethodName} {code : ByteArray} {maxL idx d' mc ms : Nat} {ret' : Option FieldType} {vs : List Value} {Post : Option Value → Nat → pm_H → Prop}
    (hc : pm_cS gw own idx y code maxL ret' vs.length) (hM : pm_M l cl tl gw nw y code maxL ret' d' mc ms vs n h Post) (hst0 : st0 = vs.reverse ++ st) (hst : st.length ≤ 8) (hfr : d' + 1 ≤ R.frames ∧ 8 + (maxL + 11) + pm_kL * d' ≤ R.locals) (hcs : cells + mc ≤ R.cells ∧ slots + ms ≤ R.slots) (d : decode cc pc = .ok (.invokestatic idx, 3)) (hq : pc + 3 = q)
    (kk : ∀ (r : Option Value) (n' : Nat) (h' : pm_H), Post r n' h' → G (cells + mc) (slots + ms) q ls (r.toList ++ st) n' h') : G cells slots pc ls st0 n h := by
  obtain ⟨p, e, s, m, args, below, meth, c, Q, D, dA, A, ad, X, hmn, rfl⟩ := K
  subst hq
  subst hst0
  refine pm_call (st := st) (a0 := (vs.map (pm_r ad)).toArray) X (fun H locs la hS hL => ?_) kk
  obtain ⟨hP, hD, hSS, hAd⟩ := hS
  obtain ⟨hx, hb, hml, hown, hts, hK, -, -, -, hN⟩ := X
  obtain ⟨c1, c2, c3, c4, c5, c6, c7, c8⟩ := hc
  have hG : GoodIn gw (wsS own idx y (Cond.code y code maxL ret' :: gw)) := by
    intro w hw
    have hw' : w ∈ gw := by
      simp only [wsS, List.mem_append, List.mem_cons, List.not_mem_nil, or_false] at hw
      rcases hw with (rfl | rfl | rfl) | rfl | hw
      · exact c1
      · exact c2
      · exact c3
      · exact c4
      · exact hw
    exact ⟨hw', hgw w hw'⟩
  refine va_runS (As := vs.map (pm_r ad)) ⟨hx, hb, hml, hown, hts⟩ (hM D dA ad H.size hAd) (cwS vs.length hts hG rfl rfl rfl ⟨c5, c6, c7, c8⟩ hfr) ⟨pm_blind, fun U hU hW => ⟨rfl, by rw [hU], by rw [hU]; exact hP, va_K.moved hW.alike hK, hD.weaken (fun _ _ _ _ => trivial), hN.warm hW⟩⟩ rfl (by rw [List.length_map]) hL.1 ?_ (pm_room hst) d hcs
  show (vs.reverse ++ st).map (pm_r ad) = _
  rw [List.map_append, List.map_reverse]
/-- what an invokespecial of a constructor wants of the tables -/
def pm_cI (gw : List Cond) (own : String) (idx : Nat) (y : MethodName) (code : ByteArray) (maxL : Nat) (k : Nat) : Prop :=
  Cond.methodLink own idx y ∈ gw ∧ Cond.instanceMethod y ∈ gw ∧ Cond.initialized y.cls ∈ gw ∧ Cond.code y code maxL none ∈ gw ∧ y.name = "<init>" ∧ y.cls ≠ "java/lang/invoke/MethodHandle" ∧ y.cls ≠ "java/lang/invoke/VarHandle" ∧ (parseMethodDescriptor y.desc).map (fun d => d.parameters.length) = some k
theorem pm_callI (K : pm_K l cl tl gw nw own nm cc nL ret R G) (hgw : ∀ w ∈ gw, (w.onTables && w.keeps) = true ∨ ∃ ty, w = .arrayClass ty) {y : MethodName} {code : ByteArray} {maxL idx d' mc ms a : Nat} {vs : List Value} {Post : Option Value → Nat → pm_H → Prop}
    (hc : pm_cI gw own idx y code maxL vs.length) (hM : pm_M l cl tl gw nw y code maxL none d' mc ms (.ref a :: vs) n h Post) (hst0 : st0 = vs.reverse ++ .ref a :: st) (hst : st.length ≤ 8) (hfr : d' + 1 ≤ R.frames ∧ 8 + (maxL + 11) + pm_kL * d' ≤ R.locals) (hcs : cells + mc ≤ R.cells ∧ slots + ms ≤ R.slots) (d : decode cc pc = .ok (.invokespecial idx, 3)) (hq : pc + 3 = q)
    (kk : ∀ (r : Option Value) (n' : Nat) (h' : pm_H), Post r n' h' → G (cells + mc) (slots + ms) q ls (r.toList ++ st) n' h') : G cells slots pc ls st0 n h := by
  obtain ⟨p, e, s, m, args, below, meth, c, Q, D, dA, A, ad, X, hmn, rfl⟩ := K
  subst hq
  subst hst0
  refine pm_call (st := st) (a0 := (Value.ref (ad a) :: vs.map (pm_r ad)).toArray) X (fun H locs la hS hL => ?_) kk
  obtain ⟨hP, hD, hSS, hAd⟩ := hS
  obtain ⟨hx, hb, hml, hown, hts, hK, -, -, -, hN⟩ := X
  obtain ⟨c1, c2, c3, c4, c5, c6, c7, c8⟩ := hc
  have hG : GoodIn gw (Cond.code y code maxL none :: gw) := by
    intro w hw
    have hw' : w ∈ gw := by
      rcases List.mem_cons.mp hw with rfl | hw
      · exact c4
      · exact hw
    exact ⟨hw', hgw w hw'⟩
  refine va_runI (As := vs.map (pm_r ad)) (b := ad a) ⟨hx, hb, hml, hown, hts⟩ (hM D dA ad H.size hAd) (cwI vs.length hts hG rfl rfl rfl (hts _ c3) (hts _ c1) (hts _ c2) c5 ⟨c6, c7, c8⟩ hfr) ⟨pm_blind, fun U hU hW => ⟨rfl, by rw [hU], by rw [hU]; exact hP, va_K.moved hW.alike hK, hD.weaken (fun _ _ _ _ => trivial), hN.warm hW⟩⟩ rfl (by rw [List.length_map]) hL.1 ?_ (pm_room hst) d hcs
  show (vs.reverse ++ Value.ref a :: st).map (pm_r ad) = _
  rw [List.map_append, List.map_reverse, List.map_cons, pm_r_ref]
/-- Object's constructor -/
theorem pm_objInit (K : pm_K l cl tl gw nw own nm cc nL ret R G) {idx a : Nat} (h1 : Cond.methodLink own idx Lib.objectInit ∈ gw) (h2 : Cond.instanceMethod Lib.objectInit ∈ gw) (h3 : Cond.code Lib.objectInit ⟨#[0xb1]⟩ 1 none ∈ gw) (hst : st.length ≤ 8) (hfr : 1 ≤ R.frames) (hlo : 20 ≤ R.locals) (d : decode cc pc = .ok (.invokespecial idx, 3)) (hq : pc + 3 = q) (kk : G cells slots q ls st n h) : G cells slots pc ls (.ref a :: st) n h := by
  obtain ⟨p, e, s, m, args, below, meth, c, Q, D, dA, A, ad, X, hmn, rfl⟩ := K
  subst hq
  intro H locs la hS hL
  obtain ⟨hx, hb, hml, hown, hts, hK, -, -, -, hN⟩ := X
  exact W.objInit hx hb hown (hts _ h1) (hts _ h2) (hts _ h3) rfl (by rw [hml]; exact hL.1) rfl d hfr (by have := pm_room (m := m) (pc := pc) (la := la) (st1 := (Value.ref a :: st).map (pm_r ad)) (ad := ad) hst; omega) (kk H locs la hS hL)


theorem pm_callIN (K : pm_K l cl tl gw nw own nm cc nL ret R G) (hgw : ∀ w ∈ gw, (w.onTables && w.keeps) = true ∨ ∃ ty, w = .arrayClass ty) {y : MethodName} {host : String} {code : ByteArray} {maxL idx d' mc ms a : Nat} {vs : List Value} {Post : Option Value → Nat → pm_H → Prop}
    (hc : Cond.methodLinkNest own idx y host ∈ nw ∧ Cond.instanceMethod y ∈ gw ∧ Cond.initialized y.cls ∈ gw ∧ Cond.code y code maxL none ∈ gw ∧ y.name = "<init>" ∧ y.cls ≠ "java/lang/invoke/MethodHandle" ∧ y.cls ≠ "java/lang/invoke/VarHandle" ∧ (parseMethodDescriptor y.desc).map (fun d => d.parameters.length) = some vs.length) (hM : pm_M l cl tl gw nw y code maxL none d' mc ms (.ref a :: vs) n h Post) (hst0 : st0 = vs.reverse ++ .ref a :: st) (hst : st.length ≤ 8) (hfr : d' + 1 ≤ R.frames ∧ 8 + (maxL + 11) + pm_kL * d' ≤ R.locals) (hcs : cells + mc ≤ R.cells ∧ slots + ms ≤ R.slots) (d : decode cc pc = .ok (.invokespecial idx, 3)) (hq : pc + 3 = q)
    (kk : ∀ (r : Option Value) (n' : Nat) (h' : pm_H), Post r n' h' → G (cells + mc) (slots + ms) q ls (r.toList ++ st) n' h') : G cells slots pc ls st0 n h := by
  obtain ⟨p, e, s, m, args, below, meth, c, Q, D, dA, A, ad, X, hmn, rfl⟩ := K
  subst hq
  subst hst0
  refine pm_call (st := st) (a0 := (Value.ref (ad a) :: vs.map (pm_r ad)).toArray) X (fun H locs la hS hL => ?_) kk
  obtain ⟨hP, hD, hSS, hAd⟩ := hS
  obtain ⟨hx, hb, hml, hown, hts, hK, -, -, -, hN⟩ := X
  obtain ⟨c1, c2, c3, c4, c5, c6, c7, c8⟩ := hc
  have hG : GoodIn gw (Cond.code y code maxL none :: gw) := by
    intro w hw
    have hw' : w ∈ gw := by
      rcases List.mem_cons.mp hw with rfl | hw
      · exact c4
      · exact hw
    exact ⟨hw', hgw w hw'⟩
  refine va_runIN (As := vs.map (pm_r ad)) (b := ad a) ⟨hx, hb, hml, hown, hts⟩ (hM D dA ad H.size hAd) ⟨va_cnB vs.length hts hG rfl rfl rfl (hN _ c1).2 (hts _ c3) ⟨c6, c7, c8⟩ hfr, c5, hts _ c2⟩ ⟨pm_blind, fun U hU hW => ⟨rfl, by rw [hU], by rw [hU]; exact hP, va_K.moved hW.alike hK, hD.weaken (fun _ _ _ _ => trivial), hN.warm hW⟩⟩ rfl (by rw [List.length_map]) hL.1 ?_ (pm_room hst) d hcs
  show (vs.reverse ++ Value.ref a :: st).map (pm_r ad) = _
  rw [List.map_append, List.map_reverse, List.map_cons, pm_r_ref]
/-- Math.max -/
theorem pm_mmax (K : pm_K l cl tl gw nw own nm cc nL ret R G) {idx : Nat} {x y : Int32} (h1 : Cond.methodLink own idx Lib.Math.max.name ∈ gw) (h2 : Cond.static Lib.Math.max.name ∈ gw) (h3 : Cond.initialized "java/lang/Math" ∈ gw) (h4 : Cond.code Lib.Math.max.name Lib.Math.max.code 2 (some .int) ∈ gw) (hst : st.length ≤ 8) (hfr : 1 ≤ R.frames) (hlo : 21 ≤ R.locals) (hcs : cells ≤ R.cells ∧ slots ≤ R.slots) (d : decode cc pc = .ok (.invokestatic idx, 3)) (hq : pc + 3 = q) (kk : G cells slots q ls (.int (if x < y then y else x) :: st) n h) : G cells slots pc ls (.int y :: .int x :: st) n h := by
  obtain ⟨p, e, s, m, args, below, meth, c, Q, D, dA, A, ad, X, hmn, rfl⟩ := K
  subst hq
  intro H locs la hS hL
  obtain ⟨hx, hb, hml, hown, hts, hK, -, -, -, hN⟩ := X
  exact va_mmax hx hb (by rw [hml]; exact hL.1.symm) hown (hts _ h1) (hts _ h2) (hts _ h3) (hts _ h4) hfr (by have := pm_room (m := m) (pc := pc) (la := la) (st1 := (Value.ref 0 :: st).map (pm_r ad)) (ad := ad) hst; omega) hcs.1 hcs.2 d (kk H locs la hS hL)
end PMC
end
section
/-! Rows with numbers in them: constants, counters, places of arrays. -/
section PMN
variable {l : Launch} {cl : List vw_C} {tl : List FieldType} {gw nw : List Cond} {own nm : String} {cc : ByteArray} {nL : Nat} {ret : Option FieldType} {R : Room} {G : pm_Gt} {cells slots pc q n : Nat} {ls ls' : List (Option Value)} {st : List Value} {h : pm_H}
theorem pm_icm1 (K : pm_K l cl tl gw nw own nm cc nL ret R G) (d : decode cc pc = .ok (.iconst (-1), 1)) (hq : pc + 1 = q) (kk : G cells slots q ls (.int (-1) :: st) n h) : G cells slots pc ls st n h := pm_iconst K d hq (by decide) kk
theorem pm_ic0 (K : pm_K l cl tl gw nw own nm cc nL ret R G) (d : decode cc pc = .ok (.iconst (0), 1)) (hq : pc + 1 = q) (kk : G cells slots q ls (.int (0) :: st) n h) : G cells slots pc ls st n h := pm_iconst K d hq (by decide) kk
theorem pm_ic1 (K : pm_K l cl tl gw nw own nm cc nL ret R G) (d : decode cc pc = .ok (.iconst (1), 1)) (hq : pc + 1 = q) (kk : G cells slots q ls (.int (1) :: st) n h) : G cells slots pc ls st n h := pm_iconst K d hq (by decide) kk
theorem pm_ic2 (K : pm_K l cl tl gw nw own nm cc nL ret R G) (d : decode cc pc = .ok (.iconst (2), 1)) (hq : pc + 1 = q) (kk : G cells slots q ls (.int (2) :: st) n h) : G cells slots pc ls st n h := pm_iconst K d hq (by decide) kk
theorem pm_ic3 (K : pm_K l cl tl gw nw own nm cc nL ret R G) (d : decode cc pc = .ok (.iconst (3), 1)) (hq : pc + 1 = q) (kk : G cells slots q ls (.int (3) :: st) n h) : G cells slots pc ls st n h := pm_iconst K d hq (by decide) kk
theorem pm_ic4 (K : pm_K l cl tl gw nw own nm cc nL ret R G) (d : decode cc pc = .ok (.iconst (4), 1)) (hq : pc + 1 = q) (kk : G cells slots q ls (.int (4) :: st) n h) : G cells slots pc ls st n h := pm_iconst K d hq (by decide) kk
theorem pm_ic5 (K : pm_K l cl tl gw nw own nm cc nL ret R G) (d : decode cc pc = .ok (.iconst (5), 1)) (hq : pc + 1 = q) (kk : G cells slots q ls (.int (5) :: st) n h) : G cells slots pc ls st n h := pm_iconst K d hq (by decide) kk
theorem pm_inc (K : pm_K l cl tl gw nw own nm cc nL ret R G) {i p : Nat} (d : decode cc pc = .ok (.iinc i 1, 3)) (hq : pc + 3 = q) (hl : ls[i]? = some (some (.int (nI p)))) (hn : i < nL) (hs : ls.set i (some (.int (nI (p + 1)))) = ls') (kk : G cells slots q ls' st n h) : G cells slots pc ls st n h :=
  pm_iinc K d hq hl (by rw [nI_succ]; congr 1) hn hs kk
theorem pm_dec (K : pm_K l cl tl gw nw own nm cc nL ret R G) {i p : Nat} (d : decode cc pc = .ok (.iinc i (-1), 3)) (hq : pc + 3 = q) (hl : ls[i]? = some (some (.int (nI (p + 1))))) (hn : i < nL) (hs : ls.set i (some (.int (nI p))) = ls') (kk : G cells slots q ls' st n h) : G cells slots pc ls st n h :=
  pm_iinc K d hq hl (by rw [← pk_m1 p]; congr 1) hn hs kk
theorem pm_ialdN (K : pm_K l cl tl gw nw own nm cc nL ret R G) {a t len r : Nat} {f : Nat → Int32} (ha : a < n) (hcell : h a = pm_I t len f) (ht : tl[t]? = some .int) (hr : r < len) (hb : len < 2 ^ 31) (d : decode cc pc = .ok (.iaload, 1)) (hq : pc + 1 = q) (kk : G cells slots q ls (.int (f r) :: st) n h) : G cells slots pc ls (.int (nI r) :: .ref a :: st) n h :=
  pm_iald K ha hcell ht (vp_in_nI hr hb) (congrArg f (nI_clamp (Nat.lt_trans hr hb))) d hq kk
theorem pm_iastN (K : pm_K l cl tl gw nw own nm cc nL ret R G) {a t len r : Nat} {f : Nat → Int32} {x : Int32} (ha : a < n) (hcell : h a = pm_I t len f) (ht : tl[t]? = some .int) (hr : r < len) (hb : len < 2 ^ 31) (d : decode cc pc = .ok (.iastore, 1)) (hq : pc + 1 = q) (kk : G cells slots q ls st n (va_up h a (pm_I t len (upd f r x)))) : G cells slots pc ls (.int x :: .int (nI r) :: .ref a :: st) n h :=
  pm_iast K ha hcell ht (vp_in_nI hr hb) d hq (by rw [nI_clamp (Nat.lt_trans hr hb)]; exact kk)
theorem pm_aaldN (K : pm_K l cl tl gw nw own nm cc nL ret R G) {a t len k r : Nat} {C : String} {f : Nat → Option Nat} (ha : a < n) (hcell : h a = pm_R t len f) (ht : tl[t]? = some (.object C)) (hr : r < len) (hb : len < 2 ^ 31) (hv : f r = some k) (d : decode cc pc = .ok (.aaload, 1)) (hq : pc + 1 = q) (kk : G cells slots q ls (.ref k :: st) n h) : G cells slots pc ls (.int (nI r) :: .ref a :: st) n h :=
  pm_aald K ha hcell ht (vp_in_nI hr hb) (by rw [nI_clamp (Nat.lt_trans hr hb)]; exact hv) d hq kk
theorem pm_aastN (K : pm_K l cl tl gw nw own nm cc nL ret R G) {a t len k cv r : Nat} {rr : vw_C} {vs : List Value} {f : Nat → Option Nat} (ha : a < n) (hcell : h a = pm_R t len f) (hk : k < n) (hobj : h k = pm_O cv vs) (hc : cl[cv]? = some rr) (ht : tl[t]? = some (.object rr.1)) (hr : r < len) (hb : len < 2 ^ 31) (d : decode cc pc = .ok (.aastore, 1)) (hq : pc + 1 = q) (kk : G cells slots q ls st n (va_up h a (pm_R t len (va_up f r (some k))))) : G cells slots pc ls (.ref k :: .int (nI r) :: .ref a :: st) n h :=
  pm_aast K ha hcell ht hk hobj hc (vp_in_nI hr hb) d hq (by rw [nI_clamp (Nat.lt_trans hr hb)]; exact kk)
end PMN
section PMZ
variable {l : Launch} {cl : List vw_C} {tl : List FieldType} {gw nw : List Cond} {own nm : String} {cc : ByteArray} {nL : Nat} {ret : Option FieldType} {R : Room} {G : pm_Gt} {cells slots pc q n : Nat} {ls ls' : List (Option Value)} {st st0 : List Value} {h : pm_H}
/-- calls that make no cell -/
theorem pm_callV0 (K : pm_K l cl tl gw nw own nm cc nL ret R G) (hgw : ∀ w ∈ gw, (w.onTables && w.keeps) = true ∨ ∃ ty, w = .arrayClass ty) {y : MethodName} {code : ByteArray} {maxL idx d' a ci N : Nat} {ret' : Option FieldType} {vs fs : List Value} {T : u_T} {Post : Option Value → pm_H → Prop}
    (hc : pm_cV gw own idx y code maxL ret' vs.length) (hM : pm_M l cl tl gw nw y code maxL ret' d' 0 0 (.ref a :: vs) n h (fun r n' h' => n' = n ∧ Post r h')) (ha : a < n) (hcell : h a = pm_O ci fs) (hcl : cl[ci]? = some (y.cls, T, N)) (hst0 : st0 = vs.reverse ++ .ref a :: st) (hst : st.length ≤ 8) (hfr : (d' + 1 ≤ R.frames ∧ 8 + (maxL + 11) + pm_kL * d' ≤ R.locals) ∧ cells ≤ R.cells ∧ slots ≤ R.slots) (d : decode cc pc = .ok (.invokevirtual idx, 3)) (hq : pc + 3 = q)
    (kk : ∀ (r : Option Value) (h' : pm_H), Post r h' → G cells slots q ls (r.toList ++ st) n h') : G cells slots pc ls st0 n h :=
  pm_callV K hgw hc hM ha hcell hcl hst0 hst hfr.1 hfr.2 d hq (fun r n' h' hp => by
    obtain ⟨e, hp⟩ := hp
    rw [e]
    exact kk r h' hp)
theorem pm_callS0 (K : pm_K l cl tl gw nw own nm cc nL ret R G) (hgw : ∀ w ∈ gw, (w.onTables && w.keeps) = true ∨ ∃ ty, w = .arrayClass ty) {y : MethodName} {code : ByteArray} {maxL idx d' : Nat} {ret' : Option FieldType} {vs : List Value} {Post : Option Value → pm_H → Prop}
    (hc : pm_cS gw own idx y code maxL ret' vs.length) (hM : pm_M l cl tl gw nw y code maxL ret' d' 0 0 vs n h (fun r n' h' => n' = n ∧ Post r h')) (hst0 : st0 = vs.reverse ++ st) (hst : st.length ≤ 8) (hfr : (d' + 1 ≤ R.frames ∧ 8 + (maxL + 11) + pm_kL * d' ≤ R.locals) ∧ cells ≤ R.cells ∧ slots ≤ R.slots) (d : decode cc pc = .ok (.invokestatic idx, 3)) (hq : pc + 3 = q)
    (kk : ∀ (r : Option Value) (h' : pm_H), Post r h' → G cells slots q ls (r.toList ++ st) n h') : G cells slots pc ls st0 n h :=
  pm_callS K hgw hc hM hst0 hst hfr.1 hfr.2 d hq (fun r n' h' hp => by
    obtain ⟨e, hp⟩ := hp
    rw [e]
    exact kk r h' hp)
end PMZ
end
