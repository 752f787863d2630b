/-! The picture of a heap by numbers: cell k of the picture lies at the address ad k; what is made next lies at the heap's end. Values are ints, null and references to numbers. -/
abbrev pm_C : Type := (Nat × Nat × (Nat → Int32)) ⊕ ((Nat × Nat × (Nat → Option Nat)) ⊕ (Nat × List Value))
abbrev pm_I (t n : Nat) (f : Nat → Int32) : pm_C := .inl (t, n, f)
abbrev pm_R (t n : Nat) (f : Nat → Option Nat) : pm_C := .inr (.inl (t, n, f))
abbrev pm_O (c : Nat) (fs : List Value) : pm_C := .inr (.inr (c, fs))
abbrev pm_H : Type := Nat → pm_C
/-- the number of the law's own script, which is no cell of the picture -/
def pm_big : Nat := 1000000000
def pm_r (ad : Nat → Nat) (v : Value) : Value := match v with
  | .int x => .int x
  | .ref k => .ref (ad k)
  | _ => .null
theorem pm_r_cat (ad : Nat → Nat) (v : Value) : (pm_r ad v).category = 1 := by cases v <;> rfl
theorem pm_r_int (ad : Nat → Nat) (x : Int32) : pm_r ad (.int x) = .int x := rfl
theorem pm_r_ref (ad : Nat → Nat) (k : Nat) : pm_r ad (.ref k) = .ref (ad k) := rfl
theorem pm_r_rf (ad : Nat → Nat) (o : Option Nat) : pm_r ad (va_rf o) = va_rf (o.map ad) := by cases o <;> rfl
def pm_e (dA : Nat → ClassId) (ad : Nat → Nat) (c : pm_C) : va_E := match c with
  | .inl (t, n, f) => .inl (dA t, n, .inl f)
  | .inr (.inl (t, n, f)) => .inl (dA t, n, .inr (.inr (.inr (.inr (fun i => (f i).map ad)))))
  | .inr (.inr (c, fs)) => .inr (c, fs.map (pm_r ad))
def pm_w (dA : Nat → ClassId) (ad : Nat → Nat) (n : Nat) (h : pm_H) : va_W := (List.range n).map (fun k => (ad k, pm_e dA ad (h k)))
theorem pm_w_at {dA : Nat → ClassId} {ad : Nat → Nat} {n k : Nat} {h : pm_H} (hk : k < n) : (pm_w dA ad n h)[k]? = some (ad k, pm_e dA ad (h k)) := by
  simp [pm_w, List.getElem?_range hk]
theorem pm_w_set {dA : Nat → ClassId} {ad : Nat → Nat} {n k : Nat} {h : pm_H} (c : pm_C) (hk : k < n) : (pm_w dA ad n h).set k (ad k, pm_e dA ad c) = pm_w dA ad n (va_up h k c) := by
  apply List.ext_getElem?
  intro i
  by_cases hi : i = k
  · subst hi
    rw [List.getElem?_set_self (by simpa [pm_w] using hk), pm_w_at hk]
    simp [va_up]
  · rw [List.getElem?_set_ne (Ne.symm hi)]
    by_cases hn : i < n
    · rw [pm_w_at hn, pm_w_at hn]
      simp [va_up, hi]
    · rw [List.getElem?_eq_none (by simpa [pm_w] using hn), List.getElem?_eq_none (by simpa [pm_w] using hn)]
theorem pm_w_push {dA : Nat → ClassId} {ad : Nat → Nat} {n : Nat} {h : pm_H} (c : pm_C) : pm_w dA ad (n + 1) (va_up h n c) = pm_w dA ad n h ++ [(ad n, pm_e dA ad c)] := by
  unfold pm_w
  rw [List.range_succ, List.map_append]
  congr 1
  · apply List.map_congr_left
    intro k hk
    have := List.mem_range.mp hk
    simp [va_up, Nat.ne_of_lt this]
  · simp [va_up]
/-- locals: what is known of each place -/
def pm_l (ad : Nat → Nat) (ls : List (Option Value)) : List (Nat × Value) := (List.range ls.length).filterMap (fun j => (ls.getD j none).map (fun v => (j, pm_r ad v)))
theorem pm_l_mem {ad : Nat → Nat} {ls : List (Option Value)} {q : Nat × Value} : q ∈ pm_l ad ls ↔ ∃ v, ls[q.1]? = some (some v) ∧ q.2 = pm_r ad v := by
  unfold pm_l
  rw [List.mem_filterMap]
  constructor
  · rintro ⟨j, hj, h⟩
    rw [Option.map_eq_some_iff] at h
    obtain ⟨v, h1, rfl⟩ := h
    refine ⟨v, ?_, rfl⟩
    rw [List.getD_eq_getElem?_getD] at h1
    have hl := List.mem_range.mp hj
    rw [List.getElem?_eq_getElem hl] at h1 ⊢
    simpa using h1
  · rintro ⟨v, h1, h2⟩
    have hl := (List.getElem?_eq_some_iff.mp h1).1
    refine ⟨q.1, List.mem_range.mpr hl, ?_⟩
    rw [List.getD_eq_getElem?_getD, h1]
    simp [← h2]
theorem pm_l_at {ad : Nat → Nat} {ls : List (Option Value)} {la : Array Slot} {nL k : Nat} {v : Value} (h : lv_has la nL (pm_l ad ls)) (hk : ls[k]? = some (some v)) : la[k]? = some (.val (pm_r ad v)) := h.2.2 (k, pm_r ad v) (pm_l_mem.mpr ⟨v, hk, rfl⟩)

theorem pm_l_set {ad : Nat → Nat} {ls ls' : List (Option Value)} {la : Array Slot} {nL i : Nat} {v : Value} (hl : ls.set i (some v) = ls')
    (h : lv_has la nL ((i, pm_r ad v) :: (pm_l ad ls).filter (fun q => !(q.1 == i) && !(q.1 + 1 == i && q.2.category == 2)))) : lv_has la nL (pm_l ad ls') := by
  refine ⟨h.1, h.2.1, fun q hq => ?_⟩
  obtain ⟨w, h1, h2⟩ := pm_l_mem.mp hq
  subst hl
  by_cases hi : q.1 = i
  · have : w = v := by
      rw [hi] at h1
      have hlen := (List.getElem?_eq_some_iff.mp h1).1
      rw [List.getElem?_set_self (by simpa using hlen)] at h1
      simpa using h1.symm
    subst this
    have := h.2.2 (i, pm_r ad w) List.mem_cons_self
    rw [hi, h2]
    exact this
  · rw [List.getElem?_set_ne (Ne.symm hi)] at h1
    refine h.2.2 q (List.mem_cons_of_mem _ (List.mem_filter.mpr ⟨pm_l_mem.mpr ⟨w, h1, h2⟩, ?_⟩))
    rw [h2, pm_r_cat]
    simp [hi]
def pm_tys (dA : Nat → ClassId) (tl : List FieldType) : List (ClassId × FieldType) := (List.range tl.length).map (fun t => (dA t, tl.getD t .int))
theorem pm_tys_at {dA : Nat → ClassId} {tl : List FieldType} {t : Nat} {ty : FieldType} (h : tl[t]? = some ty) : (pm_tys dA tl)[t]? = some (dA t, ty) := by
  have hl := (List.getElem?_eq_some_iff.mp h).1
  simp [pm_tys, List.getElem?_range hl, List.getD_eq_getElem?_getD, h]
/-- the words of nest mates' links -/
def pm_N (nw : List Cond) (s : State) : Prop := ∀ w ∈ nw, ((∃ a i y hh, w = Cond.methodLinkNest a i y hh) ∨ ∃ C, w = Cond.arrayOver (.object C)) ∧ va_Nw w s
theorem pm_N.warm {nw : List Cond} {s U : State} (hW : s.WarmedH U.vm) (h : pm_N nw s) : pm_N nw U := fun w hw => by
  obtain ⟨h1, h2⟩ := h w hw
  refine ⟨h1, ?_⟩
  rcases h1 with ⟨a, i, y, hh, rfl⟩ | ⟨C, rfl⟩
  · exact va_Nw.warmM hW h2
  · exact va_AO.moved hW.alike h2
theorem pm_N.same {nw : List Cond} {s U : State} (hv : s.vm = U.vm) (h : pm_N nw s) : pm_N nw U := fun w hw => by
  obtain ⟨h1, h2⟩ := h w hw
  refine ⟨h1, ?_⟩
  rcases h1 with ⟨a, i, y, hh, rfl⟩ | ⟨C, rfl⟩
  · exact va_Nw.same rfl hv h2
  · exact va_AO.moved (by rw [hv]; exact Vm.Alike.refl _) h2
/-- what stands through a method's walk -/
def pm_X (p : Program) (s : State) (m : MethodId) (args : Array Value) (meth : Method) (c : Code) (cl : List vw_C) (tl : List FieldType) (gw nw : List Cond) (D : va_G) (dA : Nat → ClassId) (own : String) (cc : ByteArray) (nL : Nat) (ret : Option FieldType) (A : Nat → Prop) : Prop :=
  p.tables.exec = Jvm.exec ∧ c.code = cc ∧ c.maxLocals = nL ∧ s.vm.findClass own = some m.cls ∧ (∀ w ∈ gw, w.before args s = true) ∧ va_K D cl (pm_tys dA tl) s ∧ (∀ q, s.heap.size ≤ q → A q) ∧ meth.sig.returnType = ret ∧ meth.locks = false ∧ pm_N nw s
def pm_S (cl : List vw_C) (D : va_G) (dA : Nat → ClassId) (A : Nat → Prop) (ad : Nat → Nat) (n : Nat) (h : pm_H) (H0 H : Heap) (locs : List Loc) : Prop :=
  va_P D cl (pm_w dA ad n h) H ∧ va_D A (pm_w dA ad n h) ∧ va_S A H0 H locs ∧ ∀ i, n + i < pm_big → ad (n + i) = H.size + i
/-- the machine, at pc with these locals, this stack and this picture, comes to a state with Q -/
def pm_G (p : Program) (l : Launch) (e : Env) (R : Room) (s : State) (m : MethodId) (args : Array Value) (below : List Frame) (meth : Method) (c : Code) (Q : State → Prop) (cl : List vw_C) (D : va_G) (dA : Nat → ClassId) (A : Nat → Prop) (ad : Nat → Nat) (nL cells slots pc : Nat) (ls : List (Option Value)) (st : List Value) (n : Nat) (h : pm_H) : Prop :=
  ∀ (H : Heap) (locs : List Loc) (la : Array Slot), pm_S cl D dA A ad n h s.heap H locs → lv_has la nL (pm_l ad ls) → W p l e R s m args below meth c H locs cells slots Q (F0 m pc la (st.map (pm_r ad)))
abbrev pm_Gt : Type := Nat → Nat → Nat → List (Option Value) → List Value → Nat → pm_H → Prop
/-- G is the judgement of some walk of the method's body; cells, slots, pc, locals, stack, picture are its arguments -/
def pm_K (l : Launch) (cl : List vw_C) (tl : List FieldType) (gw nw : List Cond) (own nm : String) (cc : ByteArray) (nL : Nat) (ret : Option FieldType) (R : Room) (G : pm_Gt) : Prop :=
  ∃ (p : Program) (e : Env) (s : State) (m : MethodId) (args : Array Value) (below : List Frame) (meth : Method) (c : Code) (Q : State → Prop) (D : va_G) (dA : Nat → ClassId) (A : Nat → Prop) (ad : Nat → Nat), pm_X p s m args meth c cl tl gw nw D dA own cc nL ret A ∧ meth.name = nm ∧ G = pm_G p l e R s m args below meth c Q cl D dA A ad nL
section PMS
variable {l : Launch} {cl : List vw_C} {tl : List FieldType} {gw nw : List Cond} {own nm : String} {cc : ByteArray} {nL : Nat} {ret : Option FieldType} {R : Room} {G : pm_Gt} {cells slots pc q n : Nat} {ls ls' : List (Option Value)} {st : List Value} {h : pm_H}
theorem pm_iconst (K : pm_K l cl tl gw nw own nm cc nL ret R G) {k : Int} {v : Int32} (d : decode cc pc = .ok (.iconst k, 1)) (hq : pc + 1 = q) (hv : Int32.ofInt k = v) (kk : G cells slots q ls (.int v :: st) n h) : G cells slots pc ls st n h := by
  obtain ⟨p, e, s, m, args, below, meth, c, Q, D, dA, A, ad, X, hmn, rfl⟩ := K
  subst hq
  exact fun H locs la hS hL => lv_iconst X.1 X.2.1 d hv (kk H locs la hS hL)
theorem pm_bipush (K : pm_K l cl tl gw nw own nm cc nL ret R G) {k : Int} {v : Int32} (d : decode cc pc = .ok (.bipush k, 2)) (hq : pc + 2 = q) (hv : (Int8.ofInt k).toInt32 = v) (kk : G cells slots q ls (.int v :: st) n h) : G cells slots pc ls st n h := by
  obtain ⟨p, e, s, m, args, below, meth, c, Q, D, dA, A, ad, X, hmn, rfl⟩ := K
  subst hq
  exact fun H locs la hS hL => lv_bipush X.1 X.2.1 d hv (kk H locs la hS hL)
theorem pm_sipush (K : pm_K l cl tl gw nw own nm cc nL ret R G) {k : Int} {v : Int32} (d : decode cc pc = .ok (.sipush k, 3)) (hq : pc + 3 = q) (hv : (Int16.ofInt k).toInt32 = v) (kk : G cells slots q ls (.int v :: st) n h) : G cells slots pc ls st n h := by
  obtain ⟨p, e, s, m, args, below, meth, c, Q, D, dA, A, ad, X, hmn, rfl⟩ := K
  subst hq
  exact fun H locs la hS hL => lv_sipush X.1 X.2.1 d hv (kk H locs la hS hL)
theorem pm_null (K : pm_K l cl tl gw nw own nm cc nL ret R G)  (d : decode cc pc = .ok (.aconst_null, 1)) (hq : pc + 1 = q) (kk : G cells slots q ls (.null :: st) n h) : G cells slots pc ls st n h := by
  obtain ⟨p, e, s, m, args, below, meth, c, Q, D, dA, A, ad, X, hmn, rfl⟩ := K
  subst hq
  exact fun H locs la hS hL => lv_null X.1 X.2.1 d (kk H locs la hS hL)
theorem pm_iload_n (K : pm_K l cl tl gw nw own nm cc nL ret R G) {k : Fin 4} {i : Nat} {x : Int32} (d : decode cc pc = .ok (.iload_n k, 1)) (hq : pc + 1 = q) (hi : (k : Nat) = i) (hl : ls[i]? = some (some (.int x))) (kk : G cells slots q ls (.int x :: st) n h) : G cells slots pc ls st n h := by
  obtain ⟨p, e, s, m, args, below, meth, c, Q, D, dA, A, ad, X, hmn, rfl⟩ := K
  subst hq
  exact fun H locs la hS hL => lv_iload_n X.1 X.2.1 d hi (pm_l_at hL hl) (kk H locs la hS hL)
theorem pm_iload (K : pm_K l cl tl gw nw own nm cc nL ret R G) {i : Nat} {x : Int32} (d : decode cc pc = .ok (.iload i, 2)) (hq : pc + 2 = q) (hl : ls[i]? = some (some (.int x))) (kk : G cells slots q ls (.int x :: st) n h) : G cells slots pc ls st n h := by
  obtain ⟨p, e, s, m, args, below, meth, c, Q, D, dA, A, ad, X, hmn, rfl⟩ := K
  subst hq
  exact fun H locs la hS hL => lv_iload X.1 X.2.1 d (pm_l_at hL hl) (kk H locs la hS hL)
theorem pm_aload_n (K : pm_K l cl tl gw nw own nm cc nL ret R G) {k : Fin 4} {i x : Nat} (d : decode cc pc = .ok (.aload_n k, 1)) (hq : pc + 1 = q) (hi : (k : Nat) = i) (hl : ls[i]? = some (some (.ref x))) (kk : G cells slots q ls (.ref x :: st) n h) : G cells slots pc ls st n h := by
  obtain ⟨p, e, s, m, args, below, meth, c, Q, D, dA, A, ad, X, hmn, rfl⟩ := K
  subst hq
  exact fun H locs la hS hL => lv_aload_n X.1 X.2.1 d hi (pm_l_at hL hl) (kk H locs la hS hL)
theorem pm_aload (K : pm_K l cl tl gw nw own nm cc nL ret R G) {i x : Nat} (d : decode cc pc = .ok (.aload i, 2)) (hq : pc + 2 = q) (hl : ls[i]? = some (some (.ref x))) (kk : G cells slots q ls (.ref x :: st) n h) : G cells slots pc ls st n h := by
  obtain ⟨p, e, s, m, args, below, meth, c, Q, D, dA, A, ad, X, hmn, rfl⟩ := K
  subst hq
  exact fun H locs la hS hL => lv_aload X.1 X.2.1 d (pm_l_at hL hl) (kk H locs la hS hL)
theorem pm_aload_nN (K : pm_K l cl tl gw nw own nm cc nL ret R G) {k : Fin 4} {i : Nat} (d : decode cc pc = .ok (.aload_n k, 1)) (hq : pc + 1 = q) (hi : (k : Nat) = i) (hl : ls[i]? = some (some (.null))) (kk : G cells slots q ls (.null :: st) n h) : G cells slots pc ls st n h := by
  obtain ⟨p, e, s, m, args, below, meth, c, Q, D, dA, A, ad, X, hmn, rfl⟩ := K
  subst hq
  exact fun H locs la hS hL => lv_aload_nN X.1 X.2.1 d hi (pm_l_at hL hl) (kk H locs la hS hL)
theorem pm_aloadN (K : pm_K l cl tl gw nw own nm cc nL ret R G) {i : Nat} (d : decode cc pc = .ok (.aload i, 2)) (hq : pc + 2 = q) (hl : ls[i]? = some (some (.null))) (kk : G cells slots q ls (.null :: st) n h) : G cells slots pc ls st n h := by
  obtain ⟨p, e, s, m, args, below, meth, c, Q, D, dA, A, ad, X, hmn, rfl⟩ := K
  subst hq
  exact fun H locs la hS hL => lv_aloadN X.1 X.2.1 d (pm_l_at hL hl) (kk H locs la hS hL)
theorem pm_istore_n (K : pm_K l cl tl gw nw own nm cc nL ret R G) {k : Fin 4} {i : Nat} {x : Int32} (d : decode cc pc = .ok (.istore_n k, 1)) (hq : pc + 1 = q) (hi : (k : Nat) = i) (hn : i < nL) (hl : ls.set i (some (.int x)) = ls') (kk : G cells slots q ls' st n h) : G cells slots pc ls (.int x :: st) n h := by
  obtain ⟨p, e, s, m, args, below, meth, c, Q, D, dA, A, ad, X, hmn, rfl⟩ := K
  subst hq
  exact fun H locs la hS hL => lv_istore_n X.1 X.2.1 d hi hL hn rfl (fun la' h' => kk H locs la' hS (pm_l_set (v := .int x) hl h'))
theorem pm_istore (K : pm_K l cl tl gw nw own nm cc nL ret R G) {i : Nat} {x : Int32} (d : decode cc pc = .ok (.istore i, 2)) (hq : pc + 2 = q) (hn : i < nL) (hl : ls.set i (some (.int x)) = ls') (kk : G cells slots q ls' st n h) : G cells slots pc ls (.int x :: st) n h := by
  obtain ⟨p, e, s, m, args, below, meth, c, Q, D, dA, A, ad, X, hmn, rfl⟩ := K
  subst hq
  exact fun H locs la hS hL => lv_istore X.1 X.2.1 d hL hn rfl (fun la' h' => kk H locs la' hS (pm_l_set (v := .int x) hl h'))
theorem pm_astore_n (K : pm_K l cl tl gw nw own nm cc nL ret R G) {k : Fin 4} {i x : Nat} (d : decode cc pc = .ok (.astore_n k, 1)) (hq : pc + 1 = q) (hi : (k : Nat) = i) (hn : i < nL) (hl : ls.set i (some (.ref x)) = ls') (kk : G cells slots q ls' st n h) : G cells slots pc ls (.ref x :: st) n h := by
  obtain ⟨p, e, s, m, args, below, meth, c, Q, D, dA, A, ad, X, hmn, rfl⟩ := K
  subst hq
  exact fun H locs la hS hL => lv_astore_n X.1 X.2.1 d hi hL hn rfl (fun la' h' => kk H locs la' hS (pm_l_set (v := .ref x) hl h'))
theorem pm_astore (K : pm_K l cl tl gw nw own nm cc nL ret R G) {i x : Nat} (d : decode cc pc = .ok (.astore i, 2)) (hq : pc + 2 = q) (hn : i < nL) (hl : ls.set i (some (.ref x)) = ls') (kk : G cells slots q ls' st n h) : G cells slots pc ls (.ref x :: st) n h := by
  obtain ⟨p, e, s, m, args, below, meth, c, Q, D, dA, A, ad, X, hmn, rfl⟩ := K
  subst hq
  exact fun H locs la hS hL => lv_astore X.1 X.2.1 d hL hn rfl (fun la' h' => kk H locs la' hS (pm_l_set (v := .ref x) hl h'))
theorem pm_astore_nN (K : pm_K l cl tl gw nw own nm cc nL ret R G) {k : Fin 4} {i : Nat} (d : decode cc pc = .ok (.astore_n k, 1)) (hq : pc + 1 = q) (hi : (k : Nat) = i) (hn : i < nL) (hl : ls.set i (some (.null)) = ls') (kk : G cells slots q ls' st n h) : G cells slots pc ls (.null :: st) n h := by
  obtain ⟨p, e, s, m, args, below, meth, c, Q, D, dA, A, ad, X, hmn, rfl⟩ := K
  subst hq
  exact fun H locs la hS hL => lv_astore_nN X.1 X.2.1 d hi hL hn rfl (fun la' h' => kk H locs la' hS (pm_l_set (v := .null) hl h'))
theorem pm_astoreN (K : pm_K l cl tl gw nw own nm cc nL ret R G) {i : Nat} (d : decode cc pc = .ok (.astore i, 2)) (hq : pc + 2 = q) (hn : i < nL) (hl : ls.set i (some (.null)) = ls') (kk : G cells slots q ls' st n h) : G cells slots pc ls (.null :: st) n h := by
  obtain ⟨p, e, s, m, args, below, meth, c, Q, D, dA, A, ad, X, hmn, rfl⟩ := K
  subst hq
  exact fun H locs la hS hL => lv_astoreN X.1 X.2.1 d hL hn rfl (fun la' h' => kk H locs la' hS (pm_l_set (v := .null) hl h'))
theorem pm_iinc (K : pm_K l cl tl gw nw own nm cc nL ret R G) {i : Nat} {k : Int} {x v : Int32} (d : decode cc pc = .ok (.iinc i k, 3)) (hq : pc + 3 = q) (hl : ls[i]? = some (some (.int x))) (hv : x + Int32.ofInt k = v) (hn : i < nL) (hs : ls.set i (some (.int v)) = ls') (kk : G cells slots q ls' st n h) : G cells slots pc ls st n h := by
  obtain ⟨p, e, s, m, args, below, meth, c, Q, D, dA, A, ad, X, hmn, rfl⟩ := K
  subst hq
  exact fun H locs la hS hL => by
    obtain ⟨j, hj⟩ := List.getElem?_of_mem (pm_l_mem (ad := ad) (ls := ls) (q := (i, .int x)) |>.mpr ⟨.int x, hl, rfl⟩)
    exact lv_iinc X.1 X.2.1 d hL hj hv hn rfl (fun la' h' => kk H locs la' hS (pm_l_set (v := .int v) hs h'))
theorem pm_iadd (K : pm_K l cl tl gw nw own nm cc nL ret R G) {x y : Int32} (d : decode cc pc = .ok (.iadd, 1)) (hq : pc + 1 = q) (kk : G cells slots q ls (.int (x + y) :: st) n h) : G cells slots pc ls (.int y :: .int x :: st) n h := by
  obtain ⟨p, e, s, m, args, below, meth, c, Q, D, dA, A, ad, X, hmn, rfl⟩ := K
  subst hq
  exact fun H locs la hS hL => lv_iadd X.1 X.2.1 d (kk H locs la hS hL)
theorem pm_isub (K : pm_K l cl tl gw nw own nm cc nL ret R G) {x y : Int32} (d : decode cc pc = .ok (.isub, 1)) (hq : pc + 1 = q) (kk : G cells slots q ls (.int (x - y) :: st) n h) : G cells slots pc ls (.int y :: .int x :: st) n h := by
  obtain ⟨p, e, s, m, args, below, meth, c, Q, D, dA, A, ad, X, hmn, rfl⟩ := K
  subst hq
  exact fun H locs la hS hL => lv_isub X.1 X.2.1 d (kk H locs la hS hL)
theorem pm_imul (K : pm_K l cl tl gw nw own nm cc nL ret R G) {x y : Int32} (d : decode cc pc = .ok (.imul, 1)) (hq : pc + 1 = q) (kk : G cells slots q ls (.int (x * y) :: st) n h) : G cells slots pc ls (.int y :: .int x :: st) n h := by
  obtain ⟨p, e, s, m, args, below, meth, c, Q, D, dA, A, ad, X, hmn, rfl⟩ := K
  subst hq
  exact fun H locs la hS hL => lv_imul X.1 X.2.1 d (kk H locs la hS hL)
theorem pm_iand (K : pm_K l cl tl gw nw own nm cc nL ret R G) {x y : Int32} (d : decode cc pc = .ok (.iand, 1)) (hq : pc + 1 = q) (kk : G cells slots q ls (.int (x &&& y) :: st) n h) : G cells slots pc ls (.int y :: .int x :: st) n h := by
  obtain ⟨p, e, s, m, args, below, meth, c, Q, D, dA, A, ad, X, hmn, rfl⟩ := K
  subst hq
  exact fun H locs la hS hL => lv_iand X.1 X.2.1 d (kk H locs la hS hL)
theorem pm_idiv (K : pm_K l cl tl gw nw own nm cc nL ret R G) {x y : Int32} (d : decode cc pc = .ok (.idiv, 1)) (hq : pc + 1 = q) (hne : ¬ y = 0) (kk : G cells slots q ls (.int (x / y) :: st) n h) : G cells slots pc ls (.int y :: .int x :: st) n h := by
  obtain ⟨p, e, s, m, args, below, meth, c, Q, D, dA, A, ad, X, hmn, rfl⟩ := K
  subst hq
  exact fun H locs la hS hL => lv_idiv X.1 X.2.1 d hne (kk H locs la hS hL)
theorem pm_dup (K : pm_K l cl tl gw nw own nm cc nL ret R G) {v : Value} (d : decode cc pc = .ok (.dup, 1)) (hq : pc + 1 = q) (kk : G cells slots q ls (v :: v :: st) n h) : G cells slots pc ls (v :: st) n h := by
  obtain ⟨p, e, s, m, args, below, meth, c, Q, D, dA, A, ad, X, hmn, rfl⟩ := K
  subst hq
  exact fun H locs la hS hL => lv_dup X.1 X.2.1 d (pm_r_cat _ _) (kk H locs la hS hL)
theorem pm_pop (K : pm_K l cl tl gw nw own nm cc nL ret R G) {v : Value} (d : decode cc pc = .ok (.pop, 1)) (hq : pc + 1 = q) (kk : G cells slots q ls st n h) : G cells slots pc ls (v :: st) n h := by
  obtain ⟨p, e, s, m, args, below, meth, c, Q, D, dA, A, ad, X, hmn, rfl⟩ := K
  subst hq
  exact fun H locs la hS hL => lv_pop X.1 X.2.1 d (pm_r_cat _ _) (kk H locs la hS hL)
theorem pm_goto (K : pm_K l cl tl gw nw own nm cc nL ret R G) {off : Int} (d : decode cc pc = .ok (.goto off, 3)) (ht : (pc : Int) + off = (q : Int)) (kk : G cells slots q ls st n h) : G cells slots pc ls st n h := by
  obtain ⟨p, e, s, m, args, below, meth, c, Q, D, dA, A, ad, X, hmn, rfl⟩ := K
  exact fun H locs la hS hL => lv_goto X.1 X.2.1 d ht (kk H locs la hS hL)
theorem pm_icmp_eq (K : pm_K l cl tl gw nw own nm cc nL ret R G) {x y : Int32} {off : Int} {tgt : Nat} (d : decode cc pc = .ok (.if_icmp .eq off, 3)) (ht : (pc : Int) + off = (tgt : Int)) (hq : pc + 3 = q) (kt : x = y → G cells slots tgt ls st n h) (kf : ¬ x = y → G cells slots q ls st n h) : G cells slots pc ls (.int y :: .int x :: st) n h := by
  obtain ⟨p, e, s, m, args, below, meth, c, Q, D, dA, A, ad, X, hmn, rfl⟩ := K
  exact fun H locs la hS hL => lv_icmp_eq X.1 X.2.1 d ht (fun z => kt z H locs la hS hL) (fun z => by subst hq; exact kf z H locs la hS hL)
theorem pm_icmp_ne (K : pm_K l cl tl gw nw own nm cc nL ret R G) {x y : Int32} {off : Int} {tgt : Nat} (d : decode cc pc = .ok (.if_icmp .ne off, 3)) (ht : (pc : Int) + off = (tgt : Int)) (hq : pc + 3 = q) (kt : ¬ x = y → G cells slots tgt ls st n h) (kf : x = y → G cells slots q ls st n h) : G cells slots pc ls (.int y :: .int x :: st) n h := by
  obtain ⟨p, e, s, m, args, below, meth, c, Q, D, dA, A, ad, X, hmn, rfl⟩ := K
  exact fun H locs la hS hL => lv_icmp_ne X.1 X.2.1 d ht (fun z => kt z H locs la hS hL) (fun z => by subst hq; exact kf z H locs la hS hL)
theorem pm_icmp_lt (K : pm_K l cl tl gw nw own nm cc nL ret R G) {x y : Int32} {off : Int} {tgt : Nat} (d : decode cc pc = .ok (.if_icmp .lt off, 3)) (ht : (pc : Int) + off = (tgt : Int)) (hq : pc + 3 = q) (kt : x < y → G cells slots tgt ls st n h) (kf : ¬ x < y → G cells slots q ls st n h) : G cells slots pc ls (.int y :: .int x :: st) n h := by
  obtain ⟨p, e, s, m, args, below, meth, c, Q, D, dA, A, ad, X, hmn, rfl⟩ := K
  exact fun H locs la hS hL => lv_icmp_lt X.1 X.2.1 d ht (fun z => kt z H locs la hS hL) (fun z => by subst hq; exact kf z H locs la hS hL)
theorem pm_icmp_ge (K : pm_K l cl tl gw nw own nm cc nL ret R G) {x y : Int32} {off : Int} {tgt : Nat} (d : decode cc pc = .ok (.if_icmp .ge off, 3)) (ht : (pc : Int) + off = (tgt : Int)) (hq : pc + 3 = q) (kt : y ≤ x → G cells slots tgt ls st n h) (kf : ¬ y ≤ x → G cells slots q ls st n h) : G cells slots pc ls (.int y :: .int x :: st) n h := by
  obtain ⟨p, e, s, m, args, below, meth, c, Q, D, dA, A, ad, X, hmn, rfl⟩ := K
  exact fun H locs la hS hL => lv_icmp_ge X.1 X.2.1 d ht (fun z => kt z H locs la hS hL) (fun z => by subst hq; exact kf z H locs la hS hL)
theorem pm_icmp_gt (K : pm_K l cl tl gw nw own nm cc nL ret R G) {x y : Int32} {off : Int} {tgt : Nat} (d : decode cc pc = .ok (.if_icmp .gt off, 3)) (ht : (pc : Int) + off = (tgt : Int)) (hq : pc + 3 = q) (kt : y < x → G cells slots tgt ls st n h) (kf : ¬ y < x → G cells slots q ls st n h) : G cells slots pc ls (.int y :: .int x :: st) n h := by
  obtain ⟨p, e, s, m, args, below, meth, c, Q, D, dA, A, ad, X, hmn, rfl⟩ := K
  exact fun H locs la hS hL => lv_icmp_gt X.1 X.2.1 d ht (fun z => kt z H locs la hS hL) (fun z => by subst hq; exact kf z H locs la hS hL)
theorem pm_icmp_le (K : pm_K l cl tl gw nw own nm cc nL ret R G) {x y : Int32} {off : Int} {tgt : Nat} (d : decode cc pc = .ok (.if_icmp .le off, 3)) (ht : (pc : Int) + off = (tgt : Int)) (hq : pc + 3 = q) (kt : x ≤ y → G cells slots tgt ls st n h) (kf : ¬ x ≤ y → G cells slots q ls st n h) : G cells slots pc ls (.int y :: .int x :: st) n h := by
  obtain ⟨p, e, s, m, args, below, meth, c, Q, D, dA, A, ad, X, hmn, rfl⟩ := K
  exact fun H locs la hS hL => lv_icmp_le X.1 X.2.1 d ht (fun z => kt z H locs la hS hL) (fun z => by subst hq; exact kf z H locs la hS hL)
theorem pm_if_eq (K : pm_K l cl tl gw nw own nm cc nL ret R G) {x : Int32} {off : Int} {tgt : Nat} (d : decode cc pc = .ok (.ifCond .eq off, 3)) (ht : (pc : Int) + off = (tgt : Int)) (hq : pc + 3 = q) (kt : x = 0 → G cells slots tgt ls st n h) (kf : ¬ x = 0 → G cells slots q ls st n h) : G cells slots pc ls (.int x :: st) n h := by
  obtain ⟨p, e, s, m, args, below, meth, c, Q, D, dA, A, ad, X, hmn, rfl⟩ := K
  exact fun H locs la hS hL => lv_if_eq X.1 X.2.1 d ht (fun z => kt z H locs la hS hL) (fun z => by subst hq; exact kf z H locs la hS hL)
theorem pm_if_ne (K : pm_K l cl tl gw nw own nm cc nL ret R G) {x : Int32} {off : Int} {tgt : Nat} (d : decode cc pc = .ok (.ifCond .ne off, 3)) (ht : (pc : Int) + off = (tgt : Int)) (hq : pc + 3 = q) (kt : ¬ x = 0 → G cells slots tgt ls st n h) (kf : x = 0 → G cells slots q ls st n h) : G cells slots pc ls (.int x :: st) n h := by
  obtain ⟨p, e, s, m, args, below, meth, c, Q, D, dA, A, ad, X, hmn, rfl⟩ := K
  exact fun H locs la hS hL => lv_if_ne X.1 X.2.1 d ht (fun z => kt z H locs la hS hL) (fun z => by subst hq; exact kf z H locs la hS hL)
theorem pm_if_lt (K : pm_K l cl tl gw nw own nm cc nL ret R G) {x : Int32} {off : Int} {tgt : Nat} (d : decode cc pc = .ok (.ifCond .lt off, 3)) (ht : (pc : Int) + off = (tgt : Int)) (hq : pc + 3 = q) (kt : x < 0 → G cells slots tgt ls st n h) (kf : ¬ x < 0 → G cells slots q ls st n h) : G cells slots pc ls (.int x :: st) n h := by
  obtain ⟨p, e, s, m, args, below, meth, c, Q, D, dA, A, ad, X, hmn, rfl⟩ := K
  exact fun H locs la hS hL => lv_if_lt X.1 X.2.1 d ht (fun z => kt z H locs la hS hL) (fun z => by subst hq; exact kf z H locs la hS hL)
theorem pm_if_ge (K : pm_K l cl tl gw nw own nm cc nL ret R G) {x : Int32} {off : Int} {tgt : Nat} (d : decode cc pc = .ok (.ifCond .ge off, 3)) (ht : (pc : Int) + off = (tgt : Int)) (hq : pc + 3 = q) (kt : 0 ≤ x → G cells slots tgt ls st n h) (kf : ¬ 0 ≤ x → G cells slots q ls st n h) : G cells slots pc ls (.int x :: st) n h := by
  obtain ⟨p, e, s, m, args, below, meth, c, Q, D, dA, A, ad, X, hmn, rfl⟩ := K
  exact fun H locs la hS hL => lv_if_ge X.1 X.2.1 d ht (fun z => kt z H locs la hS hL) (fun z => by subst hq; exact kf z H locs la hS hL)
theorem pm_if_gt (K : pm_K l cl tl gw nw own nm cc nL ret R G) {x : Int32} {off : Int} {tgt : Nat} (d : decode cc pc = .ok (.ifCond .gt off, 3)) (ht : (pc : Int) + off = (tgt : Int)) (hq : pc + 3 = q) (kt : 0 < x → G cells slots tgt ls st n h) (kf : ¬ 0 < x → G cells slots q ls st n h) : G cells slots pc ls (.int x :: st) n h := by
  obtain ⟨p, e, s, m, args, below, meth, c, Q, D, dA, A, ad, X, hmn, rfl⟩ := K
  exact fun H locs la hS hL => lv_if_gt X.1 X.2.1 d ht (fun z => kt z H locs la hS hL) (fun z => by subst hq; exact kf z H locs la hS hL)
theorem pm_if_le (K : pm_K l cl tl gw nw own nm cc nL ret R G) {x : Int32} {off : Int} {tgt : Nat} (d : decode cc pc = .ok (.ifCond .le off, 3)) (ht : (pc : Int) + off = (tgt : Int)) (hq : pc + 3 = q) (kt : x ≤ 0 → G cells slots tgt ls st n h) (kf : ¬ x ≤ 0 → G cells slots q ls st n h) : G cells slots pc ls (.int x :: st) n h := by
  obtain ⟨p, e, s, m, args, below, meth, c, Q, D, dA, A, ad, X, hmn, rfl⟩ := K
  exact fun H locs la hS hL => lv_if_le X.1 X.2.1 d ht (fun z => kt z H locs la hS hL) (fun z => by subst hq; exact kf z H locs la hS hL)
theorem pm_ifnull (K : pm_K l cl tl gw nw own nm cc nL ret R G) {x : Nat} {off : Int} (d : decode cc pc = .ok (.ifnull off, 3)) (hq : pc + 3 = q) (kk : G cells slots q ls st n h) : G cells slots pc ls (.ref x :: st) n h := by
  obtain ⟨p, e, s, m, args, below, meth, c, Q, D, dA, A, ad, X, hmn, rfl⟩ := K
  exact fun H locs la hS hL => by subst hq; exact lv_ifnull X.1 X.2.1 d (kk H locs la hS hL)
theorem pm_ifnullN (K : pm_K l cl tl gw nw own nm cc nL ret R G) {off : Int} (d : decode cc pc = .ok (.ifnull off, 3)) (ht : (pc : Int) + off = (q : Int)) (kk : G cells slots q ls st n h) : G cells slots pc ls (.null :: st) n h := by
  obtain ⟨p, e, s, m, args, below, meth, c, Q, D, dA, A, ad, X, hmn, rfl⟩ := K
  exact fun H locs la hS hL => lv_ifnullN X.1 X.2.1 d ht (kk H locs la hS hL)
theorem pm_ifnonnull (K : pm_K l cl tl gw nw own nm cc nL ret R G) {x : Nat} {off : Int} (d : decode cc pc = .ok (.ifnonnull off, 3)) (ht : (pc : Int) + off = (q : Int)) (kk : G cells slots q ls st n h) : G cells slots pc ls (.ref x :: st) n h := by
  obtain ⟨p, e, s, m, args, below, meth, c, Q, D, dA, A, ad, X, hmn, rfl⟩ := K
  exact fun H locs la hS hL => lv_ifnonnull X.1 X.2.1 d ht (kk H locs la hS hL)
theorem pm_ifnonnullN (K : pm_K l cl tl gw nw own nm cc nL ret R G) {off : Int} (d : decode cc pc = .ok (.ifnonnull off, 3)) (hq : pc + 3 = q) (kk : G cells slots q ls st n h) : G cells slots pc ls (.null :: st) n h := by
  obtain ⟨p, e, s, m, args, below, meth, c, Q, D, dA, A, ad, X, hmn, rfl⟩ := K
  exact fun H locs la hS hL => by subst hq; exact lv_ifnonnullN X.1 X.2.1 d (kk H locs la hS hL)
theorem pm_tableOut (K : pm_K l cl tl gw nw own nm cc nL ret R G) {dflt lo hi : Int} {offs : Array Int} {len : Nat} {x : Int32} (d : decode cc pc = .ok (.tableswitch dflt lo hi offs, len)) (hx : x.toInt < lo ∨ hi < x.toInt) (ht : (pc : Int) + dflt = (q : Int)) (kk : G cells slots q ls st n h) : G cells slots pc ls (.int x :: st) n h := by
  obtain ⟨p, e, s, m, args, below, meth, c, Q, D, dA, A, ad, X, hmn, rfl⟩ := K
  exact fun H locs la hS hL => lv_tableOut X.1 X.2.1 d hx ht (kk H locs la hS hL)
theorem pm_tableIn (K : pm_K l cl tl gw nw own nm cc nL ret R G) {dflt lo hi : Int} {offs : Array Int} {len : Nat} {x : Int32} {off : Int} (d : decode cc pc = .ok (.tableswitch dflt lo hi offs, len)) (h1 : ¬ x.toInt < lo) (h2 : ¬ hi < x.toInt) (ho : offs[(x.toInt - lo).toNat]? = some off) (ht : (pc : Int) + off = (q : Int)) (kk : G cells slots q ls st n h) : G cells slots pc ls (.int x :: st) n h := by
  obtain ⟨p, e, s, m, args, below, meth, c, Q, D, dA, A, ad, X, hmn, rfl⟩ := K
  exact fun H locs la hS hL => lv_tableIn X.1 X.2.1 d h1 h2 ho ht (kk H locs la hS hL)
theorem pm_lookup (K : pm_K l cl tl gw nw own nm cc nL ret R G) {dflt : Int} {ps : Array (Int × Int)} {len : Nat} {x : Int32} {off : Int} (d : decode cc pc = .ok (.lookupswitch dflt ps, len)) (hp : (ps.toList.zip (ps.toList.drop 1)).all (fun (a, next) => a.1 < next.1) = true) (ho : Op.lookupswitch.offset ps.toList dflt x.toInt = off) (ht : (pc : Int) + off = (q : Int)) (kk : G cells slots q ls st n h) : G cells slots pc ls (.int x :: st) n h := by
  obtain ⟨p, e, s, m, args, below, meth, c, Q, D, dA, A, ad, X, hmn, rfl⟩ := K
  exact fun H locs la hS hL => lv_lookup X.1 X.2.1 d hp ho ht (kk H locs la hS hL)
end PMS
