/-! Rows with numbers in them: constants, counters, places of arrays. -/
section PMN
variable {l : Launch} {cl : List vw_C} {tl : List FieldType} {gw nw : List Cond} {own nm : String} {cc : ByteArray} {nL : Nat} {ret : Option FieldType} {R : Room} {G : pm_Gt} {cells slots pc q n : Nat} {ls ls' : List (Option Value)} {st : List Value} {h : pm_H}
theorem pm_icm1 (K : pm_K l cl tl gw nw own nm cc nL ret R G) (d : decode cc pc = .ok (.iconst (-1), 1)) (hq : pc + 1 = q) (kk : G cells slots q ls (.int (-1) :: st) n h) : G cells slots pc ls st n h := pm_iconst K d hq (by decide) kk
theorem pm_ic0 (K : pm_K l cl tl gw nw own nm cc nL ret R G) (d : decode cc pc = .ok (.iconst (0), 1)) (hq : pc + 1 = q) (kk : G cells slots q ls (.int (0) :: st) n h) : G cells slots pc ls st n h := pm_iconst K d hq (by decide) kk
theorem pm_ic1 (K : pm_K l cl tl gw nw own nm cc nL ret R G) (d : decode cc pc = .ok (.iconst (1), 1)) (hq : pc + 1 = q) (kk : G cells slots q ls (.int (1) :: st) n h) : G cells slots pc ls st n h := pm_iconst K d hq (by decide) kk
theorem pm_ic2 (K : pm_K l cl tl gw nw own nm cc nL ret R G) (d : decode cc pc = .ok (.iconst (2), 1)) (hq : pc + 1 = q) (kk : G cells slots q ls (.int (2) :: st) n h) : G cells slots pc ls st n h := pm_iconst K d hq (by decide) kk
theorem pm_ic3 (K : pm_K l cl tl gw nw own nm cc nL ret R G) (d : decode cc pc = .ok (.iconst (3), 1)) (hq : pc + 1 = q) (kk : G cells slots q ls (.int (3) :: st) n h) : G cells slots pc ls st n h := pm_iconst K d hq (by decide) kk
theorem pm_ic4 (K : pm_K l cl tl gw nw own nm cc nL ret R G) (d : decode cc pc = .ok (.iconst (4), 1)) (hq : pc + 1 = q) (kk : G cells slots q ls (.int (4) :: st) n h) : G cells slots pc ls st n h := pm_iconst K d hq (by decide) kk
theorem pm_ic5 (K : pm_K l cl tl gw nw own nm cc nL ret R G) (d : decode cc pc = .ok (.iconst (5), 1)) (hq : pc + 1 = q) (kk : G cells slots q ls (.int (5) :: st) n h) : G cells slots pc ls st n h := pm_iconst K d hq (by decide) kk
theorem pm_inc (K : pm_K l cl tl gw nw own nm cc nL ret R G) {i p : Nat} (d : decode cc pc = .ok (.iinc i 1, 3)) (hq : pc + 3 = q) (hl : ls[i]? = some (some (.int (nI p)))) (hn : i < nL) (hs : ls.set i (some (.int (nI (p + 1)))) = ls') (kk : G cells slots q ls' st n h) : G cells slots pc ls st n h :=
  pm_iinc K d hq hl (by rw [nI_succ]; congr 1) hn hs kk
theorem pm_dec (K : pm_K l cl tl gw nw own nm cc nL ret R G) {i p : Nat} (d : decode cc pc = .ok (.iinc i (-1), 3)) (hq : pc + 3 = q) (hl : ls[i]? = some (some (.int (nI (p + 1))))) (hn : i < nL) (hs : ls.set i (some (.int (nI p))) = ls') (kk : G cells slots q ls' st n h) : G cells slots pc ls st n h :=
  pm_iinc K d hq hl (by rw [← pk_m1 p]; congr 1) hn hs kk
theorem pm_ialdN (K : pm_K l cl tl gw nw own nm cc nL ret R G) {a t len r : Nat} {f : Nat → Int32} (ha : a < n) (hcell : h a = pm_I t len f) (ht : tl[t]? = some .int) (hr : r < len) (hb : len < 2 ^ 31) (d : decode cc pc = .ok (.iaload, 1)) (hq : pc + 1 = q) (kk : G cells slots q ls (.int (f r) :: st) n h) : G cells slots pc ls (.int (nI r) :: .ref a :: st) n h :=
  pm_iald K ha hcell ht (vp_in_nI hr hb) (congrArg f (nI_clamp (Nat.lt_trans hr hb))) d hq kk
theorem pm_iastN (K : pm_K l cl tl gw nw own nm cc nL ret R G) {a t len r : Nat} {f : Nat → Int32} {x : Int32} (ha : a < n) (hcell : h a = pm_I t len f) (ht : tl[t]? = some .int) (hr : r < len) (hb : len < 2 ^ 31) (d : decode cc pc = .ok (.iastore, 1)) (hq : pc + 1 = q) (kk : G cells slots q ls st n (va_up h a (pm_I t len (upd f r x)))) : G cells slots pc ls (.int x :: .int (nI r) :: .ref a :: st) n h :=
  pm_iast K ha hcell ht (vp_in_nI hr hb) d hq (by rw [nI_clamp (Nat.lt_trans hr hb)]; exact kk)
theorem pm_aaldN (K : pm_K l cl tl gw nw own nm cc nL ret R G) {a t len k r : Nat} {C : String} {f : Nat → Option Nat} (ha : a < n) (hcell : h a = pm_R t len f) (ht : tl[t]? = some (.object C)) (hr : r < len) (hb : len < 2 ^ 31) (hv : f r = some k) (d : decode cc pc = .ok (.aaload, 1)) (hq : pc + 1 = q) (kk : G cells slots q ls (.ref k :: st) n h) : G cells slots pc ls (.int (nI r) :: .ref a :: st) n h :=
  pm_aald K ha hcell ht (vp_in_nI hr hb) (by rw [nI_clamp (Nat.lt_trans hr hb)]; exact hv) d hq kk
theorem pm_aastN (K : pm_K l cl tl gw nw own nm cc nL ret R G) {a t len k cv r : Nat} {rr : vw_C} {vs : List Value} {f : Nat → Option Nat} (ha : a < n) (hcell : h a = pm_R t len f) (hk : k < n) (hobj : h k = pm_O cv vs) (hc : cl[cv]? = some rr) (ht : tl[t]? = some (.object rr.1)) (hr : r < len) (hb : len < 2 ^ 31) (d : decode cc pc = .ok (.aastore, 1)) (hq : pc + 1 = q) (kk : G cells slots q ls st n (va_up h a (pm_R t len (va_up f r (some k))))) : G cells slots pc ls (.ref k :: .int (nI r) :: .ref a :: st) n h :=
  pm_aast K ha hcell ht hk hobj hc (vp_in_nI hr hb) d hq (by rw [nI_clamp (Nat.lt_trans hr hb)]; exact kk)
end PMN
section PMZ
variable {l : Launch} {cl : List vw_C} {tl : List FieldType} {gw nw : List Cond} {own nm : String} {cc : ByteArray} {nL : Nat} {ret : Option FieldType} {R : Room} {G : pm_Gt} {cells slots pc q n : Nat} {ls ls' : List (Option Value)} {st st0 : List Value} {h : pm_H}
/-- calls that make no cell -/
theorem pm_callV0 (K : pm_K l cl tl gw nw own nm cc nL ret R G) (hgw : ∀ w ∈ gw, (w.onTables && w.keeps) = true ∨ ∃ ty, w = .arrayClass ty) {y : MethodName} {code : ByteArray} {maxL idx d' a ci N : Nat} {ret' : Option FieldType} {vs fs : List Value} {T : u_T} {Post : Option Value → pm_H → Prop}
    {kv : Nat} (hc : pm_cV gw own idx y code maxL ret' kv) (hM : pm_M l cl tl gw nw y code maxL ret' d' 0 0 (.ref a :: vs) n h (fun r n' h' => n' = n ∧ Post r h')) (hkv : kv = vs.length) (ha : a < n) (hcell : h a = pm_O ci fs) (hcl : cl[ci]? = some (y.cls, T, N)) (hst0 : st0 = vs.reverse ++ .ref a :: st) (hst : st.length ≤ 8) (hfr : (d' + 1 ≤ R.frames ∧ 8 + (maxL + 11) + pm_kL * d' ≤ R.locals) ∧ cells ≤ R.cells ∧ slots ≤ R.slots) (d : decode cc pc = .ok (.invokevirtual idx, 3)) (hq : pc + 3 = q)
    (kk : ∀ (r : Option Value) (h' : pm_H), Post r h' → G cells slots q ls (r.toList ++ st) n h') : G cells slots pc ls st0 n h :=
  pm_callV K hgw hc hM hkv ha hcell hcl hst0 hst hfr.1 hfr.2 d hq (fun r n' h' hp => by
    obtain ⟨e, hp⟩ := hp
    rw [e]
    exact kk r h' hp)
theorem pm_callS0 (K : pm_K l cl tl gw nw own nm cc nL ret R G) (hgw : ∀ w ∈ gw, (w.onTables && w.keeps) = true ∨ ∃ ty, w = .arrayClass ty) {y : MethodName} {code : ByteArray} {maxL idx d' : Nat} {ret' : Option FieldType} {vs : List Value} {Post : Option Value → pm_H → Prop}
    {kv : Nat} (hc : pm_cS gw own idx y code maxL ret' kv) (hM : pm_M l cl tl gw nw y code maxL ret' d' 0 0 vs n h (fun r n' h' => n' = n ∧ Post r h')) (hkv : kv = vs.length) (hst0 : st0 = vs.reverse ++ st) (hst : st.length ≤ 8) (hfr : (d' + 1 ≤ R.frames ∧ 8 + (maxL + 11) + pm_kL * d' ≤ R.locals) ∧ cells ≤ R.cells ∧ slots ≤ R.slots) (d : decode cc pc = .ok (.invokestatic idx, 3)) (hq : pc + 3 = q)
    (kk : ∀ (r : Option Value) (h' : pm_H), Post r h' → G cells slots q ls (r.toList ++ st) n h') : G cells slots pc ls st0 n h :=
  pm_callS K hgw hc hM hkv hst0 hst hfr.1 hfr.2 d hq (fun r n' h' hp => by
    obtain ⟨e, hp⟩ := hp
    rw [e]
    exact kk r h' hp)
end PMZ
