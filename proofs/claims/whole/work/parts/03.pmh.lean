/-! The picture's heap rows: fields, arrays, new cells. -/
section PMH
variable {l : Launch} {cl : List vw_C} {tl : List FieldType} {gw nw : List Cond} {own nm : String} {cc : ByteArray} {nL : Nat} {ret : Option FieldType} {R : Room} {G : pm_Gt} {cells slots pc q n : Nat} {ls ls' : List (Option Value)} {st : List Value} {h : pm_H}
/-- a cell read -/
theorem pm_get (K : pm_K l cl tl gw nw own nm cc nL ret R G) {C : String} {T : u_T} {N ci index : Nat} (hin : ∀ w ∈ u_ws C T N, w ∈ gw) (hc : cl[ci]? = some (C, T, N)) {k : Nat} (hk : k < N) (hlink : Cond.fieldLink own index C (T k).2.1 (T k).2.2.1 ∈ gw) (hdecl : (T k).1 = C) {a : Nat} {fs : List Value} {v : Value} (ha : a < n) (hcell : h a = pm_O ci fs) (hv : fs[k]? = some v) (d : decode cc pc = .ok (.getfield index, 3)) (hq : pc + 3 = q) (kk : G cells slots q ls (v :: st) n h) : G cells slots pc ls (.ref a :: st) n h := by
  obtain ⟨p, e, s, m, args, below, meth, c, Q, D, dA, A, ad, X, hmn, rfl⟩ := K
  subst hq
  intro H locs la hS hL
  obtain ⟨hx, hb, -, hown, hts, hK, -⟩ := X
  refine va_get (D := D) (ci := ci) (v := pm_r ad v) (C := C) (T := T) (N := N) hx hb hts hin hown hK hS.1 a (fs := fs.map (pm_r ad)) ?_ hc k hk (hts _ hlink) (fun x hx => by rw [← hdecl]; exact hx) ?_ d (kk H locs la hS hL)
  · rw [pm_w_at ha, hcell]; rfl
  · rw [List.getElem?_map, hv]; rfl
/-- a cell written: a field that isn't final -/
theorem pm_put (K : pm_K l cl tl gw nw own nm cc nL ret R G) {C : String} {T : u_T} {N ci index : Nat} (hin : ∀ w ∈ u_ws C T N, w ∈ gw) (ty0 : Nat → FieldType) (hty : ∀ k, k < N → parseFieldDescriptor (T k).2.2.1 = some (ty0 k)) (hnm : ∀ a, a < N → ∀ b, b < N → a ≠ b → (T a).2.1 ≠ (T b).2.1) (hc : cl[ci]? = some (C, T, N)) {k : Nat} (hk : k < N) (hlink : Cond.fieldLink own index C (T k).2.1 (T k).2.2.1 ∈ gw) (hdecl : (T k).1 = C) (hfin : (T k).2.2.2 = false) {a : Nat} {fs fs' : List Value} {v : Value} (hfit : ∀ ad, narrow (ty0 k) (pm_r ad v) = pm_r ad v ∧ fits (ty0 k) (pm_r ad v) = true) (ha : a < n) (hcell : h a = pm_O ci fs) (hl : k < fs.length) (hfs : fs.set k v = fs') (d : decode cc pc = .ok (.putfield index, 3)) (hq : pc + 3 = q) (kk : G cells slots q ls st n (va_up h a (pm_O ci fs'))) : G cells slots pc ls (v :: .ref a :: st) n h := by
  obtain ⟨p, e, s, m, args, below, meth, c, Q, D, dA, A, ad, X, hmn, rfl⟩ := K
  subst hq
  intro H locs la hS hL
  obtain ⟨hx, hb, -, hown, hts, hK, -⟩ := X
  obtain ⟨hP, hD, hSS, hAd⟩ := hS
  have he : (pm_w dA ad n h)[a]? = some (ad a, .inr (ci, fs.map (pm_r ad))) := by rw [pm_w_at ha, hcell]; rfl
  have hap := va_apart (own := own) hts hin ty0 hty hnm hK hc
  obtain ⟨r, h1, cell, q1, q2, q3, q4⟩ := hP a _ he
  have hr : r = (C, T, N) := Option.some.inj (h1.symm.trans hc)
  subst hr
  obtain ⟨hSl, hfc, kC, hkC, hkind⟩ := hK.1 ci _ hc
  obtain ⟨cf, kf, fi, f, hi, hsl⟩ := hSl k hk
  have hlay := hts _ (hin _ (u_in_lay hk))
  unfold u_lay at hlay
  rw [if_neg (by rw [hfin]; decide)] at hlay
  have hst := (u_facts hfc hkC (u_lays hts hin hk) hi).1
  have h6 := u_store hfc hkC hkind hlay hi (hty k hk) (hfit ad).1 (hfit ad).2
  have hi' : s.fieldFound? C (T k).2.1 (T k).2.2.1 = some (cf, kf, fi, f) := by rw [← hdecl]; exact hi
  refine W.putK hx hb (f := f) ⟨hown, hts _ hlink, ⟨_, _, _, hi'⟩, hst⟩ (by rw [q2]; exact h6) q1 q3 (by rw [hsl]; exact k2_hasslot (q4 k hk)) rfl rfl d fun H' e1 e2 e3 => ?_
  rw [hsl] at e1 ⊢
  have hl' : k < (fs.map (pm_r ad)).length := by rw [List.length_map]; exact hl
  have hP' := hP.set (e := .inr (ci, (fs.map (pm_r ad)).set k (pm_r ad v))) hD he ⟨_, hc, t_OB.to (V := updV (vp_V (fs.map (pm_r ad))) k (pm_r ad v)) ⟨_, e1, q2, q3, t_set q4 hap hk _⟩ (fun j _ => vp_updV_set hl' _ j)⟩ e3
  have hD' := hD.set (e := .inr (ci, (fs.map (pm_r ad)).set k (pm_r ad v))) he
  have ew : (pm_w dA ad n h).set a (ad a, .inr (ci, (fs.map (pm_r ad)).set k (pm_r ad v))) = pm_w dA ad n (va_up h a (pm_O ci fs')) := by
    rw [← pm_w_set _ ha, ← hfs]
    simp only [pm_e, List.map_set]
  rw [ew] at hP' hD'
  exact kk H' _ la ⟨hP', hD', hSS.put e2 e3 (hD.2 a _ he), by rw [e2]; exact hAd⟩ hL

theorem pm_putF (K : pm_K l cl tl gw nw own nm cc nL ret R G) {C : String} {T : u_T} {N ci index : Nat} (hin : ∀ w ∈ u_ws C T N, w ∈ gw) (ty0 : Nat → FieldType) (hty : ∀ k, k < N → parseFieldDescriptor (T k).2.2.1 = some (ty0 k)) (hnm : ∀ a, a < N → ∀ b, b < N → a ≠ b → (T a).2.1 ≠ (T b).2.1) (hc : cl[ci]? = some (C, T, N)) {k : Nat} (hk : k < N) (hlink : Cond.fieldLink own index C (T k).2.1 (T k).2.2.1 ∈ gw) (hdecl : (T k).1 = C) (hownC : C = own) (hfin : (T k).2.2.2 = true) (hin2 : nm = "<init>") {a : Nat} {fs fs' : List Value} {v : Value} (hfit : ∀ ad, narrow (ty0 k) (pm_r ad v) = pm_r ad v ∧ fits (ty0 k) (pm_r ad v) = true) (ha : a < n) (hcell : h a = pm_O ci fs) (hl : k < fs.length) (hfs : fs.set k v = fs') (d : decode cc pc = .ok (.putfield index, 3)) (hq : pc + 3 = q) (kk : G cells slots q ls st n (va_up h a (pm_O ci fs'))) : G cells slots pc ls (v :: .ref a :: st) n h := by
  obtain ⟨p, e, s, m, args, below, meth, c, Q, D, dA, A, ad, X, hmn, rfl⟩ := K
  subst hq
  intro H locs la hS hL
  obtain ⟨hx, hb, -, hown, hts, hK, -⟩ := X
  obtain ⟨hP, hD, hSS, hAd⟩ := hS
  have he : (pm_w dA ad n h)[a]? = some (ad a, .inr (ci, fs.map (pm_r ad))) := by rw [pm_w_at ha, hcell]; rfl
  have hap := va_apart (own := own) hts hin ty0 hty hnm hK hc
  obtain ⟨r, h1, cell, q1, q2, q3, q4⟩ := hP a _ he
  have hr : r = (C, T, N) := Option.some.inj (h1.symm.trans hc)
  subst hr
  obtain ⟨hSl, hfc, kC, hkC, hkind⟩ := hK.1 ci _ hc
  obtain ⟨cf, kf, fi, f, hi, hsl⟩ := hSl k hk
  have hlay := hts _ (hin _ (u_in_lay hk))
  unfold u_lay at hlay
  rw [if_pos hfin] at hlay
  have hst := (u_facts hfc hkC (u_lays hts hin hk) hi).1
  have hcf : m.cls = cf := by
    obtain ⟨_, _, c', _, _, _, -, -, hf', -, -, -, hown2, -⟩ := Cond.laysFinal_spec hlay
    have e1 : c' = cf := by have := hi.symm.trans hf'; simp at this; exact this.1.symm
    rw [hdecl, hownC] at hown2
    rw [← e1]; exact Option.some.inj (hown.symm.trans hown2)
  have h6 := u_fits hfc hkC hkind (Or.inr hlay) hi (hty k hk) (hfit ad).1 (hfit ad).2
  have hi' : s.fieldFound? C (T k).2.1 (T k).2.2.1 = some (cf, kf, fi, f) := by rw [← hdecl]; exact hi
  refine W.putFinK hx hb hown (hts _ hlink) hi' hst hcf (hmn.trans hin2) (by rw [q2]; exact h6) q1 q3 (by rw [hsl]; exact k2_hasslot (q4 k hk)) rfl rfl d fun H' e1 e2 e3 => ?_
  rw [hsl] at e1 ⊢
  have hl' : k < (fs.map (pm_r ad)).length := by rw [List.length_map]; exact hl
  have hP' := hP.set (e := .inr (ci, (fs.map (pm_r ad)).set k (pm_r ad v))) hD he ⟨_, hc, t_OB.to (V := updV (vp_V (fs.map (pm_r ad))) k (pm_r ad v)) ⟨_, e1, q2, q3, t_set q4 hap hk _⟩ (fun j _ => vp_updV_set hl' _ j)⟩ e3
  have hD' := hD.set (e := .inr (ci, (fs.map (pm_r ad)).set k (pm_r ad v))) he
  have ew : (pm_w dA ad n h).set a (ad a, .inr (ci, (fs.map (pm_r ad)).set k (pm_r ad v))) = pm_w dA ad n (va_up h a (pm_O ci fs')) := by
    rw [← pm_w_set _ ha, ← hfs]
    simp only [pm_e, List.map_set]
  rw [ew] at hP' hD'
  exact kk H' _ la ⟨hP', hD', hSS.put e2 e3 (hD.2 a _ he), by rw [e2]; exact hAd⟩ hL
theorem pm_iald (K : pm_K l cl tl gw nw own nm cc nL ret R G) {a t len : Nat} {f : Nat → Int32} {i x : Int32} (ha : a < n) (hcell : h a = pm_I t len f) (ht : tl[t]? = some .int) (hin : vp_in i len) (hv : f i.toNatClampNeg = x) (d : decode cc pc = .ok (.iaload, 1)) (hq : pc + 1 = q) (kk : G cells slots q ls (.int x :: st) n h) : G cells slots pc ls (.int i :: .ref a :: st) n h := by
  obtain ⟨p, e, s, m, args, below, meth, c, Q, D, dA, A, ad, X, hmn, rfl⟩ := K
  subst hq
  intro H locs la hS hL
  subst hv
  exact va_iald X.1 X.2.1 X.2.2.2.2.2.1 hS.1 a t (cA := dA t) (n := len) (f := f) (by rw [pm_w_at ha, hcell]; rfl) (pm_tys_at ht) hin d (kk H locs la hS hL)
theorem pm_iast (K : pm_K l cl tl gw nw own nm cc nL ret R G) {a t len : Nat} {f : Nat → Int32} {i x : Int32} (ha : a < n) (hcell : h a = pm_I t len f) (ht : tl[t]? = some .int) (hin : vp_in i len) (d : decode cc pc = .ok (.iastore, 1)) (hq : pc + 1 = q) (kk : G cells slots q ls st n (va_up h a (pm_I t len (upd f i.toNatClampNeg x)))) : G cells slots pc ls (.int x :: .int i :: .ref a :: st) n h := by
  obtain ⟨p, e, s, m, args, below, meth, c, Q, D, dA, A, ad, X, hmn, rfl⟩ := K
  subst hq
  intro H locs la hS hL
  obtain ⟨hx, hb, -, hown, hts, hK, -⟩ := X
  obtain ⟨hP, hD, hSS, hAd⟩ := hS
  have he : (pm_w dA ad n h)[a]? = some (ad a, .inl (dA t, len, .inl f)) := by rw [pm_w_at ha, hcell]; rfl
  refine W.iast hx hb (hP a _ he) ((hK.2 t _ (pm_tys_at ht)).1 len (fun j => .int (f j))) (fun q => by cases q) (by show ¬ (i < 0 ∨ (arrV _ _ _).slots.size ≤ _); rw [arrV_size]; exact hin) rfl rfl d fun H1 e1 z oq => ?_
  have hat : va_at D cl (ad a, .inl (dA t, len, .inl (upd f i.toNatClampNeg x))) H1 := by
    show H1[ad a]? = some (vp_cell _ _)
    rw [e1, vp_cell_i, vp_cell_i, arrV_store]
    congr 2
    funext q
    by_cases hq : q = i.toNatClampNeg
    · subst hq
      simp [updV, upd]
    · simp [updV, upd, hq]
  have hP' := hP.set hD he hat oq
  have hD' := hD.set (e := .inl (dA t, len, .inl (upd f i.toNatClampNeg x))) he
  have ew : (pm_w dA ad n h).set a (ad a, .inl (dA t, len, .inl (upd f i.toNatClampNeg x))) = pm_w dA ad n (va_up h a (pm_I t len (upd f i.toNatClampNeg x))) := by
    rw [← pm_w_set _ ha]; rfl
  rw [ew] at hP' hD'
  exact kk H1 _ la ⟨hP', hD', hSS.put z oq (hD.2 a _ he), by rw [z]; exact hAd⟩ hL
theorem pm_aald (K : pm_K l cl tl gw nw own nm cc nL ret R G) {a t len k : Nat} {C : String} {f : Nat → Option Nat} {i : Int32} (ha : a < n) (hcell : h a = pm_R t len f) (ht : tl[t]? = some (.object C)) (hin : vp_in i len) (hv : f i.toNatClampNeg = some k) (d : decode cc pc = .ok (.aaload, 1)) (hq : pc + 1 = q) (kk : G cells slots q ls (.ref k :: st) n h) : G cells slots pc ls (.int i :: .ref a :: st) n h := by
  obtain ⟨p, e, s, m, args, below, meth, c, Q, D, dA, A, ad, X, hmn, rfl⟩ := K
  subst hq
  intro H locs la hS hL
  refine va_aldq X.1 X.2.1 X.2.2.2.2.2.1 hS.1 a t (cA := dA t) (C := C) (n := len) (f := fun j => (f j).map ad) (by rw [pm_w_at ha, hcell]; rfl) (pm_tys_at ht) hin d ?_
  rw [hv]
  exact kk H locs la hS hL
theorem pm_aast (K : pm_K l cl tl gw nw own nm cc nL ret R G) {a t len k cv : Nat} {r : vw_C} {vs : List Value} {f : Nat → Option Nat} {i : Int32} (ha : a < n) (hcell : h a = pm_R t len f) (ht : tl[t]? = some (.object r.1)) (hk : k < n) (hobj : h k = pm_O cv vs) (hc : cl[cv]? = some r) (hin : vp_in i len) (d : decode cc pc = .ok (.aastore, 1)) (hq : pc + 1 = q) (kk : G cells slots q ls st n (va_up h a (pm_R t len (va_up f i.toNatClampNeg (some k))))) : G cells slots pc ls (.ref k :: .int i :: .ref a :: st) n h := by
  obtain ⟨p, e, s, m, args, below, meth, c, Q, D, dA, A, ad, X, hmn, rfl⟩ := K
  subst hq
  intro H locs la hS hL
  obtain ⟨hx, hb, -, hown, hts, hK, -⟩ := X
  obtain ⟨hP, hD, hSS, hAd⟩ := hS
  have he : (pm_w dA ad n h)[a]? = some (ad a, .inl (dA t, len, .inr (.inr (.inr (.inr (fun j => (f j).map ad)))))) := by rw [pm_w_at ha, hcell]; rfl
  have hev : (pm_w dA ad n h)[k]? = some (ad k, .inr (cv, vs.map (pm_r ad))) := by rw [pm_w_at hk, hobj]; rfl
  have hlt : i.toNatClampNeg < len := Nat.not_le.mp fun q => hin (Or.inr q)
  have h0 : ¬ i < 0 := fun q => hin (Or.inl q)
  obtain ⟨r', hr', cellV, g1, g2, g3, -⟩ := hP k _ hev
  have hcls := (hK.1 cv r hc).2
  obtain ⟨kA, comp, k1, k2, k3, -⟩ := (hK.2 t _ (pm_tys_at ht)).2
  have hcomp : comp = D.1 cv := Option.some.inj (k3.symm.trans hcls.1)
  subst hcomp
  obtain ⟨kC, hkC, -⟩ := hcls.2
  refine W.aast hx hb (hP a _ he) (fun q hq => by cases hq) (fun hq => by cases hq) k1 k2 rfl hkC ⟨h0, by show _ < (arrV _ _ _).slots.size; rw [arrV_size]; exact hlt⟩ g1 (fun q hq => by rw [g3] at hq; cases hq) (by rw [g2]; exact hkC) (by rw [g2]; exact va_assign hcls) rfl rfl d fun H1 e1 z oq => ?_
  have hat : va_at D cl (ad a, .inl (dA t, len, .inr (.inr (.inr (.inr (fun j => (va_up f i.toNatClampNeg (some k) j).map ad)))))) H1 := by
    show H1[ad a]? = some (vp_cell _ _)
    rw [e1, vp_cell_q, vp_cell_q, arrV_store]
    congr 2
    funext q
    by_cases hq : q = i.toNatClampNeg
    · subst hq
      simp [updV, va_up, va_rf]
    · simp [updV, va_up, hq]
  have hP' := hP.set hD he hat oq
  have hD' := hD.set (e := .inl (dA t, len, .inr (.inr (.inr (.inr (fun j => (va_up f i.toNatClampNeg (some k) j).map ad)))))) he
  have ew : (pm_w dA ad n h).set a (ad a, .inl (dA t, len, .inr (.inr (.inr (.inr (fun j => (va_up f i.toNatClampNeg (some k) j).map ad)))))) = pm_w dA ad n (va_up h a (pm_R t len (va_up f i.toNatClampNeg (some k)))) := by
    rw [← pm_w_set _ ha]; rfl
  rw [ew] at hP' hD'
  exact kk H1 _ la ⟨hP', hD', hSS.put z oq (hD.2 a _ he), by rw [z]; exact hAd⟩ hL
theorem pm_alenI (K : pm_K l cl tl gw nw own nm cc nL ret R G) {a t len : Nat} {ty : FieldType} {f : Nat → Int32} {v : Int32} (ha : a < n) (hcell : h a = pm_I t len f) (ht : tl[t]? = some ty) (hv : Int32.ofNat len = v) (d : decode cc pc = .ok (.arraylength, 1)) (hq : pc + 1 = q) (kk : G cells slots q ls (.int v :: st) n h) : G cells slots pc ls (.ref a :: st) n h := by
  obtain ⟨p, e, s, m, args, below, meth, c, Q, D, dA, A, ad, X, hmn, rfl⟩ := K
  subst hq
  intro H locs la hS hL
  exact va_alen X.1 X.2.1 X.2.2.2.2.2.1 hS.1 a t (cA := dA t) (x := (len, .inl f)) (by rw [pm_w_at ha, hcell]; rfl) (pm_tys_at ht) hv d (kk H locs la hS hL)
/-- a new object: it gets the next number -/
theorem pm_new (K : pm_K l cl tl gw nw own nm cc nL ret R G) {C : String} {T : u_T} {N ci index : Nat} (hin : ∀ w ∈ u_ws C T N, w ∈ gw) (ty : Nat → FieldType) (hty : ∀ k, k < N → parseFieldDescriptor (T k).2.2.1 = some (ty k)) (hcl : Cond.classLink own index C ∈ gw) (hinst : Cond.instantiable C N ∈ gw) (hini : Cond.initialized C ∈ gw) (hc : cl[ci]? = some (C, T, N)) {fs : List Value} (hfs : ∀ j, j < N → defaultValue (ty j) = vp_V fs j) (hpure : ∀ ad, fs.map (pm_r ad) = fs) (hbig : n < pm_big) (hcells : cells + 1 ≤ R.cells) (hslots : slots + N ≤ R.slots) (d : decode cc pc = .ok (.new index, 3)) (hq : pc + 3 = q) (kk : G (cells + 1) (slots + N) q ls (.ref n :: st) (n + 1) (va_up h n (pm_O ci fs))) : G cells slots pc ls st n h := by
  obtain ⟨p, e, s, m, args, below, meth, c, Q, D, dA, A, ad, X, hmn, rfl⟩ := K
  subst hq
  intro H locs la hS hL
  obtain ⟨hx, hb, -, hown, hts, hK, hA, -⟩ := X
  obtain ⟨hP, hD, hSS, hAd⟩ := hS
  have hsz : ad n = H.size := by have := hAd 0 (by omega); simpa using this
  have hKn := hK.1 ci _ hc
  refine W.newcK hx hb hown (hts _ hcl) (hts _ hinst) (hts _ hini) rfl d hcells hslots hKn.2.1 rfl fun H1 kC hkC e1 z1 o1 => ?_
  have hk : ∀ (k : Nat) (x : Nat × va_E), (pm_w dA ad n h)[k]? = some x → H1[x.1]? = H[x.1]? := fun k x hx => o1 x.1 ((hP k x hx).lt)
  have hnew : va_at D cl (ad n, pm_e dA ad (pm_O ci fs)) H1 := by
    show ∃ r : vw_C, cl[ci]? = some r ∧ t_OB (ad n) (D.1 ci) r.2.2 (D.2 ci) H1 (vp_V (fs.map (pm_r ad)))
    rw [hpure, hsz]
    exact ⟨_, hc, (u_born ty hts hin hKn hkC e1 hty).to hfs⟩
  have hP' : va_P D cl (pm_w dA ad (n + 1) (va_up h n (pm_O ci fs))) H1 := by
    rw [pm_w_push]
    refine (hP.kept hk).app (fun k x hx => ?_)
    have hz : k < 1 := (List.getElem?_eq_some_iff.mp hx).1
    rw [show k = 0 by omega] at hx
    cases hx
    exact hnew
  have hD' : va_D A (pm_w dA ad (n + 1) (va_up h n (pm_O ci fs))) := by
    rw [pm_w_push]
    exact hD.push hP hsz (by rw [hsz]; exact hA _ hSS.1)
  have hg := kk H1 locs la ⟨hP', hD', ⟨Nat.le_trans hSS.1 (by omega), fun x h1 h2 => (o1 x (Nat.lt_of_lt_of_le h1 hSS.1)).trans (hSS.2.1 x h1 h2), hSS.2.2⟩, fun i hi => by
    have := hAd (i + 1) (by omega)
    rw [z1, show n + 1 + i = n + (i + 1) by omega, this]
    omega⟩ hL
  have ew : (Value.ref n :: st).map (pm_r ad) = .ref H.size :: st.map (pm_r ad) := by rw [List.map_cons, pm_r_ref, hsz]
  rw [ew] at hg
  exact hg
/-- a new array of ints, chars .. -/
theorem pm_newa (K : pm_K l cl tl gw nw own nm cc nL ret R G) {atype : ArrayType} {ty : FieldType} {t : Nat} (hty : newarray.typeOf atype = ty) (harr : Cond.arrayClass ty ∈ gw) (ht : tl[t]? = some ty) (hprim : ∀ (s : State) (cA : ClassId), va_RA s cA ty → s.vm.findClass ("[" ++ ty.toString) = some cA) (hdef : defaultValue ty = .int 0) {k : Int32} {N : Nat} (hn : ¬ k < 0) (hN : k.toNatClampNeg = N) (hbytes : N * componentBytes ty ≤ 536870912) (hbig : n < pm_big) (hcells : cells + 1 ≤ R.cells) (hslots : slots + N ≤ R.slots) (d : decode cc pc = .ok (.newarray atype, 2)) (hq : pc + 2 = q) (kk : G (cells + 1) (slots + N) q ls (.ref n :: st) (n + 1) (va_up h n (pm_I t N (fun _ => 0)))) : G cells slots pc ls (.int k :: st) n h := by
  obtain ⟨p, e, s, m, args, below, meth, c, Q, D, dA, A, ad, X, hmn, rfl⟩ := K
  subst hq
  intro H locs la hS hL
  obtain ⟨hx, hb, -, hown, hts, hK, hA, -⟩ := X
  obtain ⟨hP, hD, hSS, hAd⟩ := hS
  subst hty
  have hsz : ad n = H.size := by have := hAd 0 (by omega); simpa using this
  refine va_newaK hx hb (hts _ harr) rfl d rfl hn hN hbytes hcells hslots rfl fun H1 cA e1 z1 o1 hAr hNm => ?_
  have hcA : cA = dA t := Option.some.inj (hNm.symm.trans (hprim _ _ (hK.2 t _ (pm_tys_at ht)).2))
  subst hcA
  have hk : ∀ (k : Nat) (x : Nat × va_E), (pm_w dA ad n h)[k]? = some x → H1[x.1]? = H[x.1]? := fun k x hx => o1 x.1 ((hP k x hx).lt)
  have hnew : va_at D cl (ad n, pm_e dA ad (pm_I t N (fun _ => 0))) H1 := by
    show H1[ad n]? = some (vp_cell (dA t) (N, .inl (fun _ => 0)))
    rw [hsz, e1, vp_cell_i, hdef]
  have hP' : va_P D cl (pm_w dA ad (n + 1) (va_up h n (pm_I t N (fun _ => 0)))) H1 := by
    rw [pm_w_push]
    refine (hP.kept hk).app (fun k x hx => ?_)
    have hz : k < 1 := (List.getElem?_eq_some_iff.mp hx).1
    rw [show k = 0 by omega] at hx
    cases hx
    exact hnew
  have hD' : va_D A (pm_w dA ad (n + 1) (va_up h n (pm_I t N (fun _ => 0)))) := by
    rw [pm_w_push]
    exact hD.push hP hsz (by rw [hsz]; exact hA _ hSS.1)
  have hg := kk H1 locs la ⟨hP', hD', ⟨Nat.le_trans hSS.1 (by omega), fun x h1 h2 => (o1 x (Nat.lt_of_lt_of_le h1 hSS.1)).trans (hSS.2.1 x h1 h2), hSS.2.2⟩, fun i hi => by
    have := hAd (i + 1) (by omega)
    rw [z1, show n + 1 + i = n + (i + 1) by omega, this]
    omega⟩ hL
  have ew : (Value.ref n :: st).map (pm_r ad) = .ref H.size :: st.map (pm_r ad) := by rw [List.map_cons, pm_r_ref, hsz]
  rw [ew] at hg
  exact hg
/-- a new array of references: each is null -/
theorem pm_anewa (K : pm_K l cl tl gw nw own nm cc nL ret R G) {C : String} {index t : Nat} (hclk : Cond.classLink own index C ∈ gw) (hover : Cond.arrayOver (.object C) ∈ nw) (ht : tl[t]? = some (.object C)) {k : Int32} {N : Nat} (hn : ¬ k < 0) (hN : k.toNatClampNeg = N) (hbytes : N * 4 ≤ 536870912) (hbig : n < pm_big) (hcells : cells + 1 ≤ R.cells) (hslots : slots + N ≤ R.slots) (d : decode cc pc = .ok (.anewarray index, 3)) (hq : pc + 3 = q) (kk : G (cells + 1) (slots + N) q ls (.ref n :: st) (n + 1) (va_up h n (pm_R t N (fun _ => none)))) : G cells slots pc ls (.int k :: st) n h := by
  obtain ⟨p, e, s, m, args, below, meth, c, Q, D, dA, A, ad, X, hmn, rfl⟩ := K
  subst hq
  intro H locs la hS hL
  obtain ⟨hx, hb, -, hown, hts, hK, hA, -, -, hN0⟩ := X
  obtain ⟨hP, hD, hSS, hAd⟩ := hS
  subst hN
  have hsz : ad n = H.size := by have := hAd 0 (by omega); simpa using this
  refine W.anew hx hb hown (hts _ hclk) (va_AO.use (hN0 _ hover).2) rfl d rfl hn hbytes hcells hslots fun cA kA comp h1 h2 h3 h4 => ?_
  obtain ⟨kA', comp', k1, k2, k3, k4⟩ := (hK.2 t _ (pm_tys_at ht)).2
  have hcA : cA = dA t := Option.some.inj (h1.symm.trans k4)
  subst hcA
  have z1 : (H.push { cls := dA t, slots := Array.replicate k.toNatClampNeg .null, vm := .none }).size = H.size + 1 := by simp
  have o1 : ∀ x, x < H.size → (H.push { cls := dA t, slots := Array.replicate k.toNatClampNeg .null, vm := .none })[x]? = H[x]? := fun x hx => by
    rw [Array.getElem?_push, if_neg (Nat.ne_of_lt hx)]
  have e1 : (H.push { cls := dA t, slots := Array.replicate k.toNatClampNeg .null, vm := .none })[H.size]? = some (vp_cell (dA t) (k.toNatClampNeg, .inr (.inr (.inr (.inr (fun _ => none)))))) := by
    rw [vp_cell_q, Array.getElem?_push, if_pos rfl]
    congr 1
    exact (arrV_new _ _ _)
  generalize (H.push { cls := dA t, slots := Array.replicate k.toNatClampNeg .null, vm := .none }) = H1 at z1 o1 e1 ⊢
  have hk : ∀ (k : Nat) (x : Nat × va_E), (pm_w dA ad n h)[k]? = some x → H1[x.1]? = H[x.1]? := fun k x hx => o1 x.1 ((hP k x hx).lt)
  have hnew : va_at D cl (ad n, pm_e dA ad (pm_R t k.toNatClampNeg (fun _ => none))) H1 := by
    show H1[ad n]? = some (vp_cell (dA t) (k.toNatClampNeg, .inr (.inr (.inr (.inr (fun _ => none))))))
    rw [hsz, e1]
  have hP' : va_P D cl (pm_w dA ad (n + 1) (va_up h n (pm_R t k.toNatClampNeg (fun _ => none)))) H1 := by
    rw [pm_w_push]
    refine (hP.kept hk).app (fun k x hx => ?_)
    have hz : k < 1 := (List.getElem?_eq_some_iff.mp hx).1
    rw [show k = 0 by omega] at hx
    cases hx
    exact hnew
  have hD' : va_D A (pm_w dA ad (n + 1) (va_up h n (pm_R t k.toNatClampNeg (fun _ => none)))) := by
    rw [pm_w_push]
    exact hD.push hP hsz (by rw [hsz]; exact hA _ hSS.1)
  have hg := kk H1 locs la ⟨hP', hD', ⟨Nat.le_trans hSS.1 (by omega), fun x h1 h2 => (o1 x (Nat.lt_of_lt_of_le h1 hSS.1)).trans (hSS.2.1 x h1 h2), hSS.2.2⟩, fun i hi => by
    have := hAd (i + 1) (by omega)
    rw [z1, show n + 1 + i = n + (i + 1) by omega, this]
    omega⟩ hL
  have ew : (Value.ref n :: st).map (pm_r ad) = .ref H.size :: st.map (pm_r ad) := by rw [List.map_cons, pm_r_ref, hsz]
  rw [ew] at hg
  exact hg
end PMH
