/-! The reference: its cells, and rows for them. -/
section MOB
variable {l : Launch} {cl : List vw_C} {tl : List FieldType} {gw nw : List Cond} {own nm : String} {cc : ByteArray} {nL : Nat} {ret : Option FieldType} {R : Room} {G : pm_Gt} {cells slots pc q n : Nat} {ls ls' : List (Option Value)} {st : List Value} {h : pm_H}
theorem pm_dup2 (K : pm_K l cl tl gw nw own nm cc nL ret R G) {v w : Value} (d : decode cc pc = .ok (.dup2, 1)) (hq : pc + 1 = q) (kk : G cells slots q ls (v :: w :: v :: w :: st) n h) : G cells slots pc ls (v :: w :: st) n h := by
  obtain ⟨p, e, s, m, args, below, meth, c, Q, D, dA, A, ad, X, hmn, rfl⟩ := K
  subst hq
  exact fun H locs la hS hL => lv_dup2_11 X.1 X.2.1 d (pm_r_cat _ _) (pm_r_cat _ _) (kk H locs la hS hL)
theorem pm_zald (K : pm_K l cl tl gw nw own nm cc nL ret R G) {a t len r : Nat} {f : Nat → Int32} (ha : a < n) (hcell : h a = pm_I t len f) (ht : tl[t]? = some .boolean) (hr : r < len) (hb : len < 2 ^ 31) (d : decode cc pc = .ok (.baload, 1)) (hq : pc + 1 = q) (kk : G cells slots q ls (.int (f r) :: st) n h) : G cells slots pc ls (.int (nI r) :: .ref a :: st) n h := by
  obtain ⟨p, e, s, m, args, below, meth, c, Q, D, dA, A, ad, X, hmn, rfl⟩ := K
  subst hq
  intro H locs la hS hL
  have hk := kk H locs la hS hL
  have e1 : f r = f (nI r).toNatClampNeg := (congrArg f (nI_clamp (Nat.lt_trans hr hb))).symm
  rw [e1] at hk
  exact va_zald X.1 X.2.1 X.2.2.2.2.2.1 hS.1 a t (cA := dA t) (n := len) (f := f) (by rw [pm_w_at ha, hcell]; rfl) (pm_tys_at ht) (vp_in_nI hr hb) d hk
theorem pm_zast (K : pm_K l cl tl gw nw own nm cc nL ret R G) {a t len r : Nat} {f : Nat → Int32} {x : Int32} (ha : a < n) (hcell : h a = pm_I t len f) (ht : tl[t]? = some .boolean) (hr : r < len) (hb : len < 2 ^ 31) (hx2 : x = 0 ∨ x = 1) (d : decode cc pc = .ok (.bastore, 1)) (hq : pc + 1 = q) (kk : G cells slots q ls st n (va_up h a (pm_I t len (upd f r x)))) : G cells slots pc ls (.int x :: .int (nI r) :: .ref a :: st) n h := by
  obtain ⟨p, e, s, m, args, below, meth, c, Q, D, dA, A, ad, X, hmn, rfl⟩ := K
  subst hq
  intro H locs la hS hL
  obtain ⟨hx, hb2, -, hown, hts, hK, -⟩ := X
  obtain ⟨hP, hD, hSS, hAd⟩ := hS
  have hin := vp_in_nI hr hb
  have ec := nI_clamp (Nat.lt_trans hr hb)
  have he : (pm_w dA ad n h)[a]? = some (ad a, .inl (dA t, len, .inl f)) := by rw [pm_w_at ha, hcell]; rfl
  refine W.zast hx hb2 (hP a _ he) ((hK.2 t _ (pm_tys_at ht)).1 len (fun j => .int (f j))) (fun q => by cases q) (by show ¬ (nI r < 0 ∨ (arrV _ _ _).slots.size ≤ _); rw [arrV_size]; exact hin) rfl rfl d fun H1 e1 z oq => ?_
  rw [(rw_boo hx2).1, ec] at e1
  rw [ec]
  have hat : va_at D cl (ad a, .inl (dA t, len, .inl (upd f r x))) H1 := by
    show H1[ad a]? = some (vp_cell _ _)
    rw [e1, vp_cell_i, vp_cell_i, arrV_store]
    congr 2
    funext q
    by_cases hq : q = r
    · subst hq
      simp [updV, upd]
    · simp [updV, upd, hq]
  have hP' := hP.set hD he hat oq
  have hD' := hD.set (e := .inl (dA t, len, .inl (upd f r x))) he
  have ew : (pm_w dA ad n h).set a (ad a, .inl (dA t, len, .inl (upd f r x))) = pm_w dA ad n (va_up h a (pm_I t len (upd f r x))) := by
    rw [← pm_w_set _ ha]; rfl
  rw [ew] at hP' hD'
  exact kk H1 _ la ⟨hP', hD', hSS.put z oq (hD.2 a _ he), by rw [z]; exact hAd⟩ hL
end MOB
/-- the reference's fields: ints by their numbers; its arrays are the cells 113 .. 127 -/
def mo_fs (g : Nat → Int32) : List Value := [.ref 113, .ref 114, .int (g 2), .int (g 3), .int (g 4), .ref 115, .ref 116, .ref 117, .ref 118, .int (g 9), .ref 119, .ref 120, .ref 121, .int (g 13), .ref 122, .int (g 15), .ref 123, .int (g 17), .int (g 18), .ref 124, .ref 125, .ref 126, .ref 127, .int (g 23), .int (g 24), .int (g 25), .int (g 26)]
def mo_ln (j : Nat) : Nat := [108, 3, 3, 3, 3, 3, 6, 18, 72, 75, 72, 3, 3, 3, 3].getD j 0
def mo_at (n : Nat) (h : pm_H) (g : Nat → Int32) (A : Nat → Nat → Int32) : Prop := 127 < n ∧ h 112 = pm_O cMod (mo_fs g) ∧ ∀ j, j < 15 → h (113 + j) = pm_I (if j = 6 then 4 else 0) (mo_ln j) (A j)
def mo_fr (h h' : pm_H) : Prop := ∀ q, q < 112 → h' q = h q
theorem mo_fr.tr {h h' h'' : pm_H} (a : mo_fr h h') (b : mo_fr h' h'') : mo_fr h h'' := fun q hq => (b q hq).trans (a q hq)
theorem mo_fr.rf {h : pm_H} : mo_fr h h := fun _ _ => rfl
def mo_ik (k : Nat) : Bool := decide (k ∈ [3, 4, 9, 13, 15, 17, 18, 23, 24, 25, 26])
theorem mo_set (g : Nat → Int32) (x : Int32) {k : Nat} (hk : mo_ik k = true) : (mo_fs g).set k (.int x) = mo_fs (upd g k x) := by
  have h := of_decide_eq_true hk
  simp only [List.mem_cons, List.not_mem_nil, or_false] at h
  rcases h with rfl | rfl | rfl | rfl | rfl | rfl | rfl | rfl | rfl | rfl | rfl <;> rfl
theorem mo_decl : ∀ k, k < 27 → (TX7 k).1 = RX7 := by decide +kernel
theorem mo_int : ∀ k, k < 27 → mo_ik k = true → tyX7 k = .int ∧ (TX7 k).2.2.2 = false := by decide +kernel
theorem mo_ik27 {k : Nat} (hk : mo_ik k = true) : k < 27 := by
  have h := of_decide_eq_true hk
  simp only [List.mem_cons, List.not_mem_nil, or_false] at h
  omega
section MOC
variable {l : Launch} {own nm : String} {cc : ByteArray} {nL : Nat} {ret : Option FieldType} {R : Room} {G : pm_Gt} {cells slots pc q n : Nat} {ls : List (Option Value)} {st : List Value} {h : pm_H} {g : Nat → Int32} {A : Nat → Nat → Int32}
theorem mo_at.fld (M : mo_at n h g A) (g' : Nat → Int32) : mo_at n (va_up h 112 (pm_O cMod (mo_fs g'))) g' A := ⟨M.1, pm_same _ _ _, fun j hj => pm_ne (by omega) (M.2.2 j hj)⟩
theorem mo_at.arr (M : mo_at n h g A) {j : Nat} (hj : j < 15) (f : Nat → Int32) : mo_at n (va_up h (113 + j) (pm_I (if j = 6 then 4 else 0) (mo_ln j) f)) g (va_up A j f) := by
  refine ⟨M.1, pm_ne (by omega) M.2.1, fun k hk => ?_⟩
  by_cases e : k = j
  · subst e
    rw [pm_same]
    simp [va_up]
  · rw [pm_ne (by omega) (M.2.2 k hk)]
    simp [va_up, e]
theorem mo_put (K : pm_K l bt_cl bt_tl gw bt_nw own nm cc nL ret R G) (M : mo_at n h g A) {index k : Nat} {x : Int32} (hk : mo_ik k = true) (hlink : Cond.fieldLink own index RX7 (TX7 k).2.1 (TX7 k).2.2.1 ∈ gw) (d : decode cc pc = .ok (.putfield index, 3)) (hq : pc + 3 = q) (kk : ∀ h', mo_at n h' (upd g k x) A → mo_fr h h' → G cells slots q ls st n h') : G cells slots pc ls (.int x :: .ref 112 :: st) n h :=
  pm_put K inX7 tyX7 tyX7_ok nmX7 rfl (mo_ik27 hk) hlink (mo_decl k (mo_ik27 hk)) (mo_int k (mo_ik27 hk) hk).2 (fun _ => by rw [(mo_int k (mo_ik27 hk) hk).1]; exact ⟨rfl, rfl⟩) (by have := M.1; omega) M.2.1 (mo_ik27 hk) (mo_set g x hk) d hq (kk _ (M.fld _) (fun q hq => pm_ne (by omega) rfl))
theorem mo_putB (K : pm_K l bt_cl bt_tl gw bt_nw own nm cc nL ret R G) (M : mo_at n h g A) {index : Nat} {x : Int32} (hx : x = 0 ∨ x = 1) (hlink : Cond.fieldLink own index RX7 (TX7 2).2.1 (TX7 2).2.2.1 ∈ gw) (d : decode cc pc = .ok (.putfield index, 3)) (hq : pc + 3 = q) (kk : ∀ h', mo_at n h' (upd g 2 x) A → mo_fr h h' → G cells slots q ls st n h') : G cells slots pc ls (.int x :: .ref 112 :: st) n h :=
  pm_put K inX7 tyX7 tyX7_ok nmX7 rfl (k := 2) (by decide) hlink rfl rfl (fun _ => rw_boo hx) (by have := M.1; omega) M.2.1 (Nat.le_of_ble_eq_true rfl) (fs' := mo_fs (upd g 2 x)) rfl d hq (kk _ (M.fld _) (fun q hq => pm_ne (by omega) rfl))
theorem mo_lnlt (j : Nat) : mo_ln j < 2 ^ 31 := by
  unfold mo_ln
  by_cases h : j < 15
  · rcases (show j = 0 ∨ j = 1 ∨ j = 2 ∨ j = 3 ∨ j = 4 ∨ j = 5 ∨ j = 6 ∨ j = 7 ∨ j = 8 ∨ j = 9 ∨ j = 10 ∨ j = 11 ∨ j = 12 ∨ j = 13 ∨ j = 14 by omega) with rfl | rfl | rfl | rfl | rfl | rfl | rfl | rfl | rfl | rfl | rfl | rfl | rfl | rfl | rfl <;> decide
  · rw [List.getD_eq_getElem?_getD, List.getElem?_eq_none (by simp; omega)]
    decide
theorem mo_iald (K : pm_K l bt_cl bt_tl gw bt_nw own nm cc nL ret R G) (M : mo_at n h g A) {j r : Nat} (hj : j < 15) (h6 : j ≠ 6) (hr : r < mo_ln j) (d : decode cc pc = .ok (.iaload, 1)) (hq : pc + 1 = q) (kk : G cells slots q ls (.int (A j r) :: st) n h) : G cells slots pc ls (.int (nI r) :: .ref (113 + j) :: st) n h :=
  pm_ialdN K (by have := M.1; omega) ((M.2.2 j hj).trans (by rw [if_neg h6])) rfl hr (mo_lnlt j) d hq kk
theorem mo_iast (K : pm_K l bt_cl bt_tl gw bt_nw own nm cc nL ret R G) (M : mo_at n h g A) {j r : Nat} {x : Int32} (hj : j < 15) (h6 : j ≠ 6) (hr : r < mo_ln j) (d : decode cc pc = .ok (.iastore, 1)) (hq : pc + 1 = q) (kk : ∀ h', mo_at n h' g (va_up A j (upd (A j) r x)) → mo_fr h h' → G cells slots q ls st n h') : G cells slots pc ls (.int x :: .int (nI r) :: .ref (113 + j) :: st) n h :=
  pm_iastN K (by have := M.1; omega) ((M.2.2 j hj).trans (by rw [if_neg h6])) rfl hr (mo_lnlt j) d hq (kk _ (by have := M.arr hj (upd (A j) r x); rw [if_neg h6] at this; exact this) (fun q hq => pm_ne (by omega) rfl))
theorem mo_zald (K : pm_K l bt_cl bt_tl gw bt_nw own nm cc nL ret R G) (M : mo_at n h g A) {r : Nat} (hr : r < 6) (d : decode cc pc = .ok (.baload, 1)) (hq : pc + 1 = q) (kk : G cells slots q ls (.int (A 6 r) :: st) n h) : G cells slots pc ls (.int (nI r) :: .ref 119 :: st) n h :=
  pm_zald K (by have := M.1; omega) (M.2.2 6 (by decide)) rfl hr (by decide) d hq kk
theorem mo_zast (K : pm_K l bt_cl bt_tl gw bt_nw own nm cc nL ret R G) (M : mo_at n h g A) {r : Nat} {x : Int32} (hr : r < 6) (hx : x = 0 ∨ x = 1) (d : decode cc pc = .ok (.bastore, 1)) (hq : pc + 1 = q) (kk : ∀ h', mo_at n h' g (va_up A 6 (upd (A 6) r x)) → mo_fr h h' → G cells slots q ls st n h') : G cells slots pc ls (.int x :: .int (nI r) :: .ref 119 :: st) n h :=
  pm_zast K (by have := M.1; omega) (M.2.2 6 (by decide)) rfl hr (by decide) hx d hq (kk _ (M.arr (j := 6) (by decide) (upd (A 6) r x)) (fun q hq => pm_ne (by omega) rfl))
end MOC
