/-! Contracts over the picture; returns; calls. -/
/-! ===== contracts ===== -/
def pm_kL : Nat := 48
def pm_rm (d mc ms : Nat) : Room := { frames := d, cells := mc, slots := ms, locals := pm_kL * d }
/-- a method's start: its arguments, the picture, the tables -/
def pm_Pc (cl : List vw_C) (tl : List FieldType) (nw : List Cond) (D : va_G) (dA : Nat → ClassId) (ad : Nat → Nat) (sz : Nat) (vs : List Value) (n : Nat) (h : pm_H) : Array Value → State → Prop :=
  va_Pc (vs.map (pm_r ad)) (fun U => U.heap.size = sz ∧ va_P D cl (pm_w dA ad n h) U.heap ∧ va_K D cl (pm_tys dA tl) U ∧ va_D (fun _ => True) (pm_w dA ad n h) ∧ pm_N nw U)
def pm_Q (cl : List vw_C) (D : va_G) (dA : Nat → ClassId) (ad : Nat → Nat) (sz n : Nat) (h : pm_H) (Post : Option Value → Nat → pm_H → Prop) : Array Value → State → Outcome → State → Prop := fun _ st oc t =>
  (∃ (r : Option Value) (n' : Nat) (h' : pm_H), oc = .returned (r.map (pm_r ad)) ∧ Post r n' h' ∧ va_P D cl (pm_w dA ad n' h') t.heap ∧ va_D (va_A (pm_w dA ad n h) sz) (pm_w dA ad n' h') ∧ ∀ i, n' + i < pm_big → ad (n' + i) = t.heap.size + i) ∧ va_F (va_A (pm_w dA ad n h) sz) st t
/-- method y, called with vs over the picture h of n cells: it returns, with Post; d frames deep, at most mc cells of ms slots new -/
def pm_M (l : Launch) (cl : List vw_C) (tl : List FieldType) (gw nw : List Cond) (y : MethodName) (code : ByteArray) (maxL : Nat) (ret : Option FieldType) (d mc ms : Nat) (vs : List Value) (n : Nat) (h : pm_H) (Post : Option Value → Nat → pm_H → Prop) : Prop :=
  ∀ (D : va_G) (dA : Nat → ClassId) (ad : Nat → Nat) (sz : Nat), (∀ i, n + i < pm_big → ad (n + i) = sz + i) → Met l y (.code y code maxL ret :: gw) (pm_rm d mc ms) (pm_Pc cl tl nw D dA ad sz vs n h) (pm_Q cl D dA ad sz n h Post) mc ms (va_A (pm_w dA ad n h) sz)
theorem pm_lg (ad : Nat → Nat) (vs : List Value) : (lg_sl (vs.map (pm_r ad))).length = vs.length := by
  induction vs with
  | nil => rfl
  | cons v vs ih =>
    unfold lg_sl at ih ⊢
    rw [List.map_cons, List.flatMap_cons, List.length_append, ih, pm_r_cat]
    simp
    omega
theorem pm_args {ad : Nat → Nat} : ∀ (vs : List Value) (i k : Nat) (v : Value), vs[k]? = some v → (i + k, pm_r ad v) ∈ lv_args i (vs.map (pm_r ad))
  | [], i, k, v, h => by simp at h
  | x :: vs, i, k, v, h => by
    rw [List.map_cons]
    unfold lv_args
    rw [pm_r_cat]
    cases k with
    | zero =>
      rw [List.getElem?_cons_zero] at h
      cases h
      exact List.mem_cons_self
    | succ k =>
      rw [List.getElem?_cons_succ] at h
      have := pm_args (ad := ad) vs (i + 1) k v h
      rw [show i + (k + 1) = i + 1 + k by omega]
      exact List.mem_cons_of_mem _ (by simpa using this)
/-- the same walk, with what its return must bring -/
def pm_Z (l : Launch) (cl : List vw_C) (tl : List FieldType) (gw nw : List Cond) (own nm : String) (cc : ByteArray) (nL : Nat) (ret : Option FieldType) (R : Room) (mc ms n0 : Nat) (h0 : pm_H) (Post : Option Value → Nat → pm_H → Prop) (G : pm_Gt) : Prop :=
  ∃ (p : Program) (e : Env) (s : State) (m : MethodId) (args : Array Value) (below : List Frame) (meth : Method) (c : Code) (D : va_G) (dA : Nat → ClassId) (A : Nat → Prop) (ad : Nat → Nat), pm_X p s m args meth c cl tl gw nw D dA own cc nL ret A ∧ meth.name = nm ∧ A = va_A (pm_w dA ad n0 h0) s.heap.size ∧ G = pm_G p l e R s m args below meth c (MQ below (pm_Q cl D dA ad s.heap.size n0 h0 Post) args s mc ms A) cl D dA A ad nL
theorem pm_Z.k {l : Launch} {cl : List vw_C} {tl : List FieldType} {gw nw : List Cond} {own nm : String} {cc : ByteArray} {nL : Nat} {ret : Option FieldType} {R : Room} {mc ms n0 : Nat} {h0 : pm_H} {Post : Option Value → Nat → pm_H → Prop} {G : pm_Gt} (Z : pm_Z l cl tl gw nw own nm cc nL ret R mc ms n0 h0 Post G) : pm_K l cl tl gw nw own nm cc nL ret R G := by
  obtain ⟨p, e, s, m, args, below, meth, c, D, dA, A, ad, X, hmn, hA, rfl⟩ := Z
  exact ⟨p, e, s, m, args, below, meth, c, _, D, dA, A, ad, X, hmn, rfl⟩
/-- a method's contract out of the walk of its body -/
theorem pm_enter {l : Launch} {cl : List vw_C} {tl : List FieldType} {gw nw : List Cond} {y : MethodName} {code : ByteArray} {maxL : Nat} {ret : Option FieldType} {d mc ms : Nat} {vs : List Value} {n : Nat} {h : pm_H} {Post : Option Value → Nat → pm_H → Prop} (hy : plainName y.cls = true) (hvs : vs.length ≤ maxL)
    (body : ∀ (G : pm_Gt), pm_K l cl tl gw nw y.cls y.name code maxL ret (pm_rm d mc ms) G → pm_Z l cl tl gw nw y.cls y.name code maxL ret (pm_rm d mc ms) mc ms n h Post G → G 0 0 0 (vs.map some ++ List.replicate (maxL - vs.length) none) [] n h) : pm_M l cl tl gw nw y code maxL ret d mc ms vs n h Post := by
  intro D dA ad sz hAd
  refine Met.ofW (cc := code) (maxL := maxL) (ret := ret) hy rfl ?_
  intro p e s m args below meth c s₁ B hml hv
  obtain ⟨rfl, hsz, hP, hK, hD0, hN⟩ := hv
  subst hsz
  have hts := atoms_spec (ws := Cond.code y code maxL ret :: gw) B.pre
  have hX : pm_X p s m (vs.map (pm_r ad)).toArray meth c cl tl gw nw D dA y.cls code maxL ret (va_A (pm_w dA ad n h) s.heap.size) := ⟨B.exec, B.bytes, hml, findClass_of_methodNamed B.named, fun w hw => hts w (List.mem_cons_of_mem _ hw), hK, fun q hq => Or.inr hq, B.returns, B.notSynchronized, hN⟩
  have hnm := (name_of_methodNamed B.named B.method).1
  have hZ : pm_Z l cl tl gw nw y.cls y.name code maxL ret (pm_rm d mc ms) mc ms n h Post (pm_G p l e (pm_rm d mc ms) s m (vs.map (pm_r ad)).toArray below meth c (MQ below (pm_Q cl D dA ad s.heap.size n h Post) (vs.map (pm_r ad)).toArray s mc ms (va_A (pm_w dA ad n h) s.heap.size)) cl D dA (va_A (pm_w dA ad n h) s.heap.size) ad maxL) := ⟨p, e, s, m, _, below, meth, c, D, dA, _, ad, hX, hnm, rfl, rfl⟩
  have hG := body _ hZ.k hZ
  rw [lg_entry_eq]
  refine hG s.heap [] _ ⟨hP, hD0.self, va_S.rf, hAd⟩ ?_
  have hl := lv_entry (vs.map (pm_r ad)) (n := maxL) (by rw [pm_lg]; exact hvs)
  refine ⟨hl.1, hl.2.1, fun q hq => ?_⟩
  obtain ⟨v, h1, h2⟩ := pm_l_mem.mp hq
  have hk : vs[q.1]? = some v := by
    by_cases hlt : q.1 < vs.length
    · rw [List.getElem?_append_left (by simpa using hlt), List.getElem?_map] at h1
      cases h3 : vs[q.1]? with
      | none => rw [h3] at h1; cases h1
      | some x => rw [h3] at h1; simpa using h1
    · rw [List.getElem?_append_right (by simpa using hlt)] at h1
      have := List.eq_of_mem_replicate (List.mem_of_getElem? h1)
      cases this
  have hm := pm_args (ad := ad) vs 0 q.1 v hk
  rw [Nat.zero_add, ← h2] at hm
  exact hl.2.2 q hm
section PMC
variable {l : Launch} {cl : List vw_C} {tl : List FieldType} {gw nw : List Cond} {own nm : String} {cc : ByteArray} {nL : Nat} {ret : Option FieldType} {R : Room} {G : pm_Gt} {cells slots pc q n : Nat} {ls ls' : List (Option Value)} {st st0 : List Value} {h : pm_H}
theorem pm_iret {mc ms n0 : Nat} {h0 : pm_H} {Post : Option Value → Nat → pm_H → Prop} (Z : pm_Z l cl tl gw nw own nm cc nL ret R mc ms n0 h0 Post G) {x : Int32} {ty : FieldType} (d : decode cc pc = .ok (.ireturn, 1)) (hr : ret = some ty) (hn : narrow ty (.int x) = .int x) (hc : cells ≤ mc) (hs : slots ≤ ms) (hP : Post (some (.int x)) n h) : G cells slots pc ls [.int x] n h := by
  obtain ⟨p, e, s, m, args, below, meth, c, D, dA, A, ad, X, hmn, hA, rfl⟩ := Z
  intro H locs la hS hL
  subst hA
  obtain ⟨hP1, hD, hSS, hAd⟩ := hS
  obtain ⟨hx, hb, -, -, -, -, -, hret, hlocks, -⟩ := X
  refine W.widen hc hs ?_
  exact W.zret hx hb (hret.trans hr) hn (fun t ht hW => ⟨⟨some (.int x), n, h, rfl, hP, by rw [ht]; exact hP1, hD, by rw [ht]; exact hAd⟩, hSS.F ht⟩) hSS.2.2 d hlocks
theorem pm_vret {mc ms n0 : Nat} {h0 : pm_H} {Post : Option Value → Nat → pm_H → Prop} (Z : pm_Z l cl tl gw nw own nm cc nL ret R mc ms n0 h0 Post G) (d : decode cc pc = .ok (.return_, 1)) (hr : ret = none) (hc : cells ≤ mc) (hs : slots ≤ ms) (hP : Post none n h) : G cells slots pc ls [] n h := by
  obtain ⟨p, e, s, m, args, below, meth, c, D, dA, A, ad, X, hmn, hA, rfl⟩ := Z
  intro H locs la hS hL
  subst hA
  obtain ⟨hP1, hD, hSS, hAd⟩ := hS
  obtain ⟨hx, hb, -, -, -, -, -, hret, hlocks, -⟩ := X
  refine W.widen hc hs ?_
  exact W.vret hx hb (hret.trans hr) (fun t ht hW => ⟨⟨none, n, h, rfl, hP, by rw [ht]; exact hP1, hD, by rw [ht]; exact hAd⟩, hSS.F ht⟩) hSS.2.2 d hlocks
theorem pm_aret {mc ms n0 : Nat} {h0 : pm_H} {Post : Option Value → Nat → pm_H → Prop} (Z : pm_Z l cl tl gw nw own nm cc nL ret R mc ms n0 h0 Post G) {k : Nat} {C : String} (d : decode cc pc = .ok (.areturn, 1)) (hr : ret = some (.object C)) (hc : cells ≤ mc) (hs : slots ≤ ms) (hP : Post (some (.ref k)) n h) : G cells slots pc ls [.ref k] n h := by
  obtain ⟨p, e, s, m, args, below, meth, c, D, dA, A, ad, X, hmn, hA, rfl⟩ := Z
  intro H locs la hS hL
  subst hA
  obtain ⟨hP1, hD, hSS, hAd⟩ := hS
  obtain ⟨hx, hb, -, -, -, -, -, hret, hlocks, -⟩ := X
  refine W.widen hc hs ?_
  exact W.aret hx hb (hret.trans hr) (Or.inl ⟨C, rfl⟩) (Or.inr ⟨ad k, rfl⟩) (fun t ht hW => ⟨⟨some (.ref k), n, h, rfl, hP, by rw [ht]; exact hP1, hD, by rw [ht]; exact hAd⟩, hSS.F ht⟩) hSS.2.2 d hlocks
/-- a call, whatever its kind: over the walk's own words -/
theorem pm_call {p : Program} {e : Env} {s : State} {m : MethodId} {args : Array Value} {below : List Frame} {meth : Method} {c : Code} {Q : State → Prop} {D : va_G} {dA : Nat → ClassId} {A : Nat → Prop} {ad : Nat → Nat} (X : pm_X p s m args meth c cl tl gw nw D dA own cc nL ret A) {mc ms : Nat} {Post : Option Value → Nat → pm_H → Prop} {a0 : Array Value}
    (hr : ∀ (H : Heap) (locs : List Loc) (la : Array Slot), pm_S cl D dA A ad n h s.heap H locs → lv_has la nL (pm_l ad ls) → va_Run p l e R s m args below meth c H locs cells slots mc ms (F0 m pc la (st0.map (pm_r ad))) (st.map (pm_r ad)) (pm_Q cl D dA ad H.size n h Post a0) (va_A (pm_w dA ad n h) H.size))
    (kk : ∀ (r : Option Value) (n' : Nat) (h' : pm_H), Post r n' h' → pm_G p l e R s m args below meth c Q cl D dA A ad nL (cells + mc) (slots + ms) (pc + 3) ls (r.toList ++ st) n' h') : pm_G p l e R s m args below meth c Q cl D dA A ad nL cells slots pc ls st0 n h := by
  intro H locs la hS hL
  have hr' := hr H locs la hS hL
  obtain ⟨hP, hD, hSS, hAd⟩ := hS
  have hA0 := X.2.2.2.2.2.2.1
  have hsub : ∀ q, va_A (pm_w dA ad n h) H.size q → A q := by
    intro q hq
    rcases hq with ⟨k, e', hk⟩ | hq
    · exact hD.2 k (q, e') hk
    · exact hA0 q (Nat.le_trans hSS.1 hq)
  intro T hT XT
  obtain ⟨v, st₀, t, T', L, h0, X', hL', e1, e2, ⟨⟨r, n', h', hv, hPost, hP', hD', hAd'⟩, hz, hk⟩, stp⟩ := hr' T hT XT
  have hv : v = r.map (pm_r ad) := Outcome.returned.inj hv
  subst hv
  rw [h0] at hz hk
  have hg := kk r n' h' hPost T'.heap (locs ++ L) la ⟨by rw [e1]; exact hP', hD'.weaken (fun _ q _ hq => hsub q.1 hq), ⟨Nat.le_trans hSS.1 (by rw [e1]; exact hz), fun q h1 h2 => by rw [e1, hk q (Nat.lt_of_lt_of_le h1 hSS.1) (fun z => h2 (hsub q z))]; exact hSS.2.1 q h1 h2, fun q hq => by
    rcases List.mem_append.mp hq with hq | hq
    · exact hSS.2.2 q hq
    · exact hsub _ (hL' q hq)⟩, by rw [e1]; exact hAd'⟩ hL
  have es : (r.toList ++ st).map (pm_r ad) = (r.map (pm_r ad)).toList ++ st.map (pm_r ad) := by cases r <;> rfl
  rw [es] at hg
  obtain ⟨t2, a1, b1⟩ := hg T' rfl X'
  exact ⟨t2, stp t2 a1, b1⟩
theorem pm_blind {D : va_G} {dA : Nat → ClassId} {ad : Nat → Nat} {vs : List Value} {sz : Nat} : FrameBlind (pm_Pc cl tl nw D dA ad sz vs n h) := fun a U g mk q => by
  obtain ⟨q0, q1, qP, qK, qD, qN⟩ := q
  exact ⟨q0, q1, qP, va_K.moved (u := U) (U := U.calling g mk a) (Vm.Alike.refl U.vm) qK, qD, pm_N.same (s := U) (U := U.calling g mk a) rfl qN⟩
theorem pm_room {m : MethodId} {ad : Nat → Nat} {la : Array Slot} {st1 : List Value} (hst : st.length ≤ 8) : 2 * (F0 m pc la st1).monitorRoom + ((st.map (pm_r ad)).map fun v => v.category).sum ≤ 8 := by
  refine lv_room ?_
  rw [List.map_map]
  have : ∀ l : List Value, (l.map ((fun v => v.category) ∘ pm_r ad)).sum = l.length := by
    intro l
    induction l with
    | nil => rfl
    | cons v l ih => simp only [List.map_cons, List.sum_cons, ih, Function.comp, pm_r_cat, List.length_cons]; omega
  rw [this]
  exact hst
/-- what an invokevirtual wants of the tables -/
def pm_cV (gw : List Cond) (own : String) (idx : Nat) (y : MethodName) (code : ByteArray) (maxL : Nat) (ret : Option FieldType) (k : Nat) : Prop :=
  Cond.methodLink own idx y ∈ gw ∧ Cond.instanceMethod y ∈ gw ∧ Cond.selects y.cls y y ∈ gw ∧ Cond.initialized y.cls ∈ gw ∧ Cond.code y code maxL ret ∈ gw ∧ y.cls ≠ "java/lang/invoke/MethodHandle" ∧ y.cls ≠ "java/lang/invoke/VarHandle" ∧ (parseMethodDescriptor y.desc).map (fun d => d.parameters.length) = some k
theorem pm_callV (K : pm_K l cl tl gw nw own nm cc nL ret R G) (hgw : ∀ w ∈ gw, (w.onTables && w.keeps) = true ∨ ∃ ty, w = .arrayClass ty) {y : MethodName} {code : ByteArray} {maxL idx d' mc ms a ci N : Nat} {ret' : Option FieldType} {vs fs : List Value} {T : u_T} {Post : Option Value → Nat → pm_H → Prop}
    {kv : Nat} (hc : pm_cV gw own idx y code maxL ret' kv) (hM : pm_M l cl tl gw nw y code maxL ret' d' mc ms (.ref a :: vs) n h Post) (hkv : kv = vs.length) (ha : a < n) (hcell : h a = pm_O ci fs) (hcl : cl[ci]? = some (y.cls, T, N)) (hst0 : st0 = vs.reverse ++ .ref a :: st) (hst : st.length ≤ 8) (hfr : d' + 1 ≤ R.frames ∧ 8 + (maxL + 11) + pm_kL * d' ≤ R.locals) (hcs : cells + mc ≤ R.cells ∧ slots + ms ≤ R.slots) (d : decode cc pc = .ok (.invokevirtual idx, 3)) (hq : pc + 3 = q)
    (kk : ∀ (r : Option Value) (n' : Nat) (h' : pm_H), Post r n' h' → G (cells + mc) (slots + ms) q ls (r.toList ++ st) n' h') : G cells slots pc ls st0 n h := by
  obtain ⟨p, e, s, m, args, below, meth, c, Q, D, dA, A, ad, X, hmn, rfl⟩ := K
  subst hq
  subst hst0
  subst hkv
  refine pm_call (st := st) (a0 := (Value.ref (ad a) :: vs.map (pm_r ad)).toArray) X (fun H locs la hS hL => ?_) kk
  obtain ⟨hP, hD, hSS, hAd⟩ := hS
  obtain ⟨hx, hb, hml, hown, hts, hK, -, -, -, hN⟩ := X
  obtain ⟨c1, c2, c3, c4, c5, c6, c7, c8⟩ := hc
  have hG : GoodIn gw (wsV own idx y.cls y (Cond.code y code maxL ret' :: gw)) := by
    intro w hw
    have hw' : w ∈ gw := by
      simp only [wsV, List.mem_append, List.mem_cons, List.not_mem_nil, or_false] at hw
      rcases hw with (rfl | rfl | rfl | rfl) | rfl | hw
      · exact c1
      · exact c2
      · exact c3
      · exact c4
      · exact c5
      · exact hw
    exact ⟨hw', hgw w hw'⟩
  refine va_runV (As := vs.map (pm_r ad)) (b := ad a) (C := y.cls) ⟨hx, hb, hml, hown, hts⟩ (hM D dA ad H.size hAd) (cwV vs.length hts hG rfl rfl rfl ⟨rfl, c6, c7, c8⟩ hfr) ⟨pm_blind, ?_, fun U hU hW => ⟨rfl, by rw [hU], by rw [hU]; exact hP, va_K.moved hW.alike hK, hD.weaken (fun _ _ _ _ => trivial), hN.warm hW⟩⟩ rfl (by rw [List.length_map]) hL.1 ?_ (pm_room hst) d hcs
  · exact va_recv hK hP hcl (q0 := a) (fs := fs.map (pm_r ad)) (by rw [pm_w_at ha, hcell]; rfl)
  · show (vs.reverse ++ Value.ref a :: st).map (pm_r ad) = _
    rw [List.map_append, List.map_reverse, List.map_cons, pm_r_ref]

def pm_cS (gw : List Cond) (own : String) (idx : Nat) (y : MethodName) (code : ByteArray) (maxL : Nat) (ret : Option FieldType) (k : Nat) : Prop :=
  Cond.methodLink own idx y ∈ gw ∧ Cond.static y ∈ gw ∧ Cond.initialized own ∈ gw ∧ Cond.code y code maxL ret ∈ gw ∧ y.cls = own ∧ y.cls ≠ "java/lang/invoke/MethodHandle" ∧ y.cls ≠ "java/lang/invoke/VarHandle" ∧ (parseMethodDescriptor y.desc).map (fun d => d.parameters.length) = some k
theorem pm_callS (K : pm_K l cl tl gw nw own nm cc nL ret R G) (hgw : ∀ w ∈ gw, (w.onTables && w.keeps) = true ∨ ∃ ty, w = .arrayClass ty) {y : MethodName} {code : ByteArray} {maxL idx d' mc ms : Nat} {ret' : Option FieldType} {vs : List Value} {Post : Option Value → Nat → pm_H → Prop}
    {kv : Nat} (hc : pm_cS gw own idx y code maxL ret' kv) (hM : pm_M l cl tl gw nw y code maxL ret' d' mc ms vs n h Post) (hkv : kv = vs.length) (hst0 : st0 = vs.reverse ++ st) (hst : st.length ≤ 8) (hfr : d' + 1 ≤ R.frames ∧ 8 + (maxL + 11) + pm_kL * d' ≤ R.locals) (hcs : cells + mc ≤ R.cells ∧ slots + ms ≤ R.slots) (d : decode cc pc = .ok (.invokestatic idx, 3)) (hq : pc + 3 = q)
    (kk : ∀ (r : Option Value) (n' : Nat) (h' : pm_H), Post r n' h' → G (cells + mc) (slots + ms) q ls (r.toList ++ st) n' h') : G cells slots pc ls st0 n h := by
  obtain ⟨p, e, s, m, args, below, meth, c, Q, D, dA, A, ad, X, hmn, rfl⟩ := K
  subst hq
  subst hst0
  subst hkv
  refine pm_call (st := st) (a0 := (vs.map (pm_r ad)).toArray) X (fun H locs la hS hL => ?_) kk
  obtain ⟨hP, hD, hSS, hAd⟩ := hS
  obtain ⟨hx, hb, hml, hown, hts, hK, -, -, -, hN⟩ := X
  obtain ⟨c1, c2, c3, c4, c5, c6, c7, c8⟩ := hc
  have hG : GoodIn gw (wsS own idx y (Cond.code y code maxL ret' :: gw)) := by
    intro w hw
    have hw' : w ∈ gw := by
      simp only [wsS, List.mem_append, List.mem_cons, List.not_mem_nil, or_false] at hw
      rcases hw with (rfl | rfl | rfl) | rfl | hw
      · exact c1
      · exact c2
      · exact c3
      · exact c4
      · exact hw
    exact ⟨hw', hgw w hw'⟩
  refine va_runS (As := vs.map (pm_r ad)) ⟨hx, hb, hml, hown, hts⟩ (hM D dA ad H.size hAd) (cwS vs.length hts hG rfl rfl rfl ⟨c5, c6, c7, c8⟩ hfr) ⟨pm_blind, fun U hU hW => ⟨rfl, by rw [hU], by rw [hU]; exact hP, va_K.moved hW.alike hK, hD.weaken (fun _ _ _ _ => trivial), hN.warm hW⟩⟩ rfl (by rw [List.length_map]) hL.1 ?_ (pm_room hst) d hcs
  show (vs.reverse ++ st).map (pm_r ad) = _
  rw [List.map_append, List.map_reverse]
/-- what an invokespecial of a constructor wants of the tables -/
def pm_cI (gw : List Cond) (own : String) (idx : Nat) (y : MethodName) (code : ByteArray) (maxL : Nat) (k : Nat) : Prop :=
  Cond.methodLink own idx y ∈ gw ∧ Cond.instanceMethod y ∈ gw ∧ Cond.initialized y.cls ∈ gw ∧ Cond.code y code maxL none ∈ gw ∧ y.name = "<init>" ∧ y.cls ≠ "java/lang/invoke/MethodHandle" ∧ y.cls ≠ "java/lang/invoke/VarHandle" ∧ (parseMethodDescriptor y.desc).map (fun d => d.parameters.length) = some k
theorem pm_callI (K : pm_K l cl tl gw nw own nm cc nL ret R G) (hgw : ∀ w ∈ gw, (w.onTables && w.keeps) = true ∨ ∃ ty, w = .arrayClass ty) {y : MethodName} {code : ByteArray} {maxL idx d' mc ms a : Nat} {vs : List Value} {Post : Option Value → Nat → pm_H → Prop}
    {kv : Nat} (hc : pm_cI gw own idx y code maxL kv) (hM : pm_M l cl tl gw nw y code maxL none d' mc ms (.ref a :: vs) n h Post) (hkv : kv = vs.length) (hst0 : st0 = vs.reverse ++ .ref a :: st) (hst : st.length ≤ 8) (hfr : d' + 1 ≤ R.frames ∧ 8 + (maxL + 11) + pm_kL * d' ≤ R.locals) (hcs : cells + mc ≤ R.cells ∧ slots + ms ≤ R.slots) (d : decode cc pc = .ok (.invokespecial idx, 3)) (hq : pc + 3 = q)
    (kk : ∀ (r : Option Value) (n' : Nat) (h' : pm_H), Post r n' h' → G (cells + mc) (slots + ms) q ls (r.toList ++ st) n' h') : G cells slots pc ls st0 n h := by
  obtain ⟨p, e, s, m, args, below, meth, c, Q, D, dA, A, ad, X, hmn, rfl⟩ := K
  subst hq
  subst hst0
  subst hkv
  refine pm_call (st := st) (a0 := (Value.ref (ad a) :: vs.map (pm_r ad)).toArray) X (fun H locs la hS hL => ?_) kk
  obtain ⟨hP, hD, hSS, hAd⟩ := hS
  obtain ⟨hx, hb, hml, hown, hts, hK, -, -, -, hN⟩ := X
  obtain ⟨c1, c2, c3, c4, c5, c6, c7, c8⟩ := hc
  have hG : GoodIn gw (Cond.code y code maxL none :: gw) := by
    intro w hw
    have hw' : w ∈ gw := by
      rcases List.mem_cons.mp hw with rfl | hw
      · exact c4
      · exact hw
    exact ⟨hw', hgw w hw'⟩
  refine va_runI (As := vs.map (pm_r ad)) (b := ad a) ⟨hx, hb, hml, hown, hts⟩ (hM D dA ad H.size hAd) (cwI vs.length hts hG rfl rfl rfl (hts _ c3) (hts _ c1) (hts _ c2) c5 ⟨c6, c7, c8⟩ hfr) ⟨pm_blind, fun U hU hW => ⟨rfl, by rw [hU], by rw [hU]; exact hP, va_K.moved hW.alike hK, hD.weaken (fun _ _ _ _ => trivial), hN.warm hW⟩⟩ rfl (by rw [List.length_map]) hL.1 ?_ (pm_room hst) d hcs
  show (vs.reverse ++ Value.ref a :: st).map (pm_r ad) = _
  rw [List.map_append, List.map_reverse, List.map_cons, pm_r_ref]
/-- Object's constructor -/
theorem pm_objInit (K : pm_K l cl tl gw nw own nm cc nL ret R G) {idx a : Nat} (h1 : Cond.methodLink own idx Lib.objectInit ∈ gw) (h2 : Cond.instanceMethod Lib.objectInit ∈ gw) (h3 : Cond.code Lib.objectInit ⟨#[0xb1]⟩ 1 none ∈ gw) (hst : st.length ≤ 8) (hfr : 1 ≤ R.frames) (hlo : 20 ≤ R.locals) (d : decode cc pc = .ok (.invokespecial idx, 3)) (hq : pc + 3 = q) (kk : G cells slots q ls st n h) : G cells slots pc ls (.ref a :: st) n h := by
  obtain ⟨p, e, s, m, args, below, meth, c, Q, D, dA, A, ad, X, hmn, rfl⟩ := K
  subst hq
  intro H locs la hS hL
  obtain ⟨hx, hb, hml, hown, hts, hK, -, -, -, hN⟩ := X
  exact W.objInit hx hb hown (hts _ h1) (hts _ h2) (hts _ h3) rfl (by rw [hml]; exact hL.1) rfl d hfr (by have := pm_room (m := m) (pc := pc) (la := la) (st1 := (Value.ref a :: st).map (pm_r ad)) (ad := ad) hst; omega) (kk H locs la hS hL)


theorem pm_callIN (K : pm_K l cl tl gw nw own nm cc nL ret R G) (hgw : ∀ w ∈ gw, (w.onTables && w.keeps) = true ∨ ∃ ty, w = .arrayClass ty) {y : MethodName} {host : String} {code : ByteArray} {maxL idx d' mc ms a : Nat} {vs : List Value} {Post : Option Value → Nat → pm_H → Prop}
    {kv : Nat} (hc : Cond.methodLinkNest own idx y host ∈ nw ∧ Cond.instanceMethod y ∈ gw ∧ Cond.initialized y.cls ∈ gw ∧ Cond.code y code maxL none ∈ gw ∧ y.name = "<init>" ∧ y.cls ≠ "java/lang/invoke/MethodHandle" ∧ y.cls ≠ "java/lang/invoke/VarHandle" ∧ (parseMethodDescriptor y.desc).map (fun d => d.parameters.length) = some kv) (hM : pm_M l cl tl gw nw y code maxL none d' mc ms (.ref a :: vs) n h Post) (hkv : kv = vs.length) (hst0 : st0 = vs.reverse ++ .ref a :: st) (hst : st.length ≤ 8) (hfr : d' + 1 ≤ R.frames ∧ 8 + (maxL + 11) + pm_kL * d' ≤ R.locals) (hcs : cells + mc ≤ R.cells ∧ slots + ms ≤ R.slots) (d : decode cc pc = .ok (.invokespecial idx, 3)) (hq : pc + 3 = q)
    (kk : ∀ (r : Option Value) (n' : Nat) (h' : pm_H), Post r n' h' → G (cells + mc) (slots + ms) q ls (r.toList ++ st) n' h') : G cells slots pc ls st0 n h := by
  obtain ⟨p, e, s, m, args, below, meth, c, Q, D, dA, A, ad, X, hmn, rfl⟩ := K
  subst hq
  subst hst0
  subst hkv
  refine pm_call (st := st) (a0 := (Value.ref (ad a) :: vs.map (pm_r ad)).toArray) X (fun H locs la hS hL => ?_) kk
  obtain ⟨hP, hD, hSS, hAd⟩ := hS
  obtain ⟨hx, hb, hml, hown, hts, hK, -, -, -, hN⟩ := X
  obtain ⟨c1, c2, c3, c4, c5, c6, c7, c8⟩ := hc
  have hG : GoodIn gw (Cond.code y code maxL none :: gw) := by
    intro w hw
    have hw' : w ∈ gw := by
      rcases List.mem_cons.mp hw with rfl | hw
      · exact c4
      · exact hw
    exact ⟨hw', hgw w hw'⟩
  refine va_runIN (As := vs.map (pm_r ad)) (b := ad a) ⟨hx, hb, hml, hown, hts⟩ (hM D dA ad H.size hAd) ⟨va_cnB vs.length hts hG rfl rfl rfl (hN _ c1).2 (hts _ c3) ⟨c6, c7, c8⟩ hfr, c5, hts _ c2⟩ ⟨pm_blind, fun U hU hW => ⟨rfl, by rw [hU], by rw [hU]; exact hP, va_K.moved hW.alike hK, hD.weaken (fun _ _ _ _ => trivial), hN.warm hW⟩⟩ rfl (by rw [List.length_map]) hL.1 ?_ (pm_room hst) d hcs
  show (vs.reverse ++ Value.ref a :: st).map (pm_r ad) = _
  rw [List.map_append, List.map_reverse, List.map_cons, pm_r_ref]
/-- Math.max -/
theorem pm_mmax (K : pm_K l cl tl gw nw own nm cc nL ret R G) {idx : Nat} {x y : Int32} (h1 : Cond.methodLink own idx Lib.Math.max.name ∈ gw) (h2 : Cond.static Lib.Math.max.name ∈ gw) (h3 : Cond.initialized "java/lang/Math" ∈ gw) (h4 : Cond.code Lib.Math.max.name Lib.Math.max.code 2 (some .int) ∈ gw) (hst : st.length ≤ 8) (hfr : 1 ≤ R.frames) (hlo : 21 ≤ R.locals) (hcs : cells ≤ R.cells ∧ slots ≤ R.slots) (d : decode cc pc = .ok (.invokestatic idx, 3)) (hq : pc + 3 = q) (kk : G cells slots q ls (.int (if x < y then y else x) :: st) n h) : G cells slots pc ls (.int y :: .int x :: st) n h := by
  obtain ⟨p, e, s, m, args, below, meth, c, Q, D, dA, A, ad, X, hmn, rfl⟩ := K
  subst hq
  intro H locs la hS hL
  obtain ⟨hx, hb, hml, hown, hts, hK, -, -, -, hN⟩ := X
  exact va_mmax hx hb (by rw [hml]; exact hL.1.symm) hown (hts _ h1) (hts _ h2) (hts _ h3) (hts _ h4) hfr (by have := pm_room (m := m) (pc := pc) (la := la) (st1 := (Value.ref 0 :: st).map (pm_r ad)) (ad := ad) hst; omega) hcs.1 hcs.2 d (kk H locs la hS hL)
end PMC
