/-! Rows of the store: contracts of the methods of a row. -/
section RWP
variable {l : Launch} {own nm : String} {cc : ByteArray} {nL : Nat} {ret : Option FieldType} {R : Room} {G : pm_Gt} {cells slots pc q n : Nat} {ls : List (Option Value)} {st : List Value} {h : pm_H}
theorem rw_decl : ∀ k, k < 13 → (TX3 k).1 = RX3 := by decide +kernel
theorem rw_fin : ∀ k, k < 13 → (TX3 k).2.2.2 = false := by decide +kernel
theorem rw_int : ∀ k, k < 13 → k ≠ 10 → tyX3 k = .int := by decide +kernel
theorem rw_boo {x : Int32} (h : x = 0 ∨ x = 1) : narrow .boolean (.int x) = .int x ∧ fits .boolean (.int x) = true := by
  rcases h with rfl | rfl <;> exact ⟨by decide, by decide⟩
theorem rw_put (K : pm_K l bt_cl bt_tl gw bt_nw own nm cc nL ret R G) {index k a : Nat} {f : rw_T} {x : Int32} (hk : k < 13) (hk10 : k ≠ 10) (hlink : Cond.fieldLink own index RX3 (TX3 k).2.1 (TX3 k).2.2.1 ∈ gw) (ha : a < n) (hcell : h a = pm_O cRow (rw_fs f)) (d : decode cc pc = .ok (.putfield index, 3)) (hq : pc + 3 = q) (kk : G cells slots q ls st n (va_up h a (pm_O cRow (rw_fs (upd f k x))))) : G cells slots pc ls (.int x :: .ref a :: st) n h :=
  pm_put K inX3 tyX3 tyX3_ok nmX3 rfl hk hlink (rw_decl k hk) (rw_fin k hk) (fun _ => by rw [rw_int k hk hk10]; exact ⟨rfl, rfl⟩) ha hcell hk (rw_set f x hk) d hq kk
theorem rw_putU (K : pm_K l bt_cl bt_tl gw bt_nw own nm cc nL ret R G) {index k a : Nat} {f : rw_T} {x : Int32} (hk : k < 13) (hk10 : k ≠ 10) (hlink : Cond.fieldLink own index RX3 (TX3 k).2.1 (TX3 k).2.2.1 ∈ gw) (ha : a < n) (d : decode cc pc = .ok (.putfield index, 3)) (hq : pc + 3 = q) (kk : G cells slots q ls st n (va_up h a (pm_O cRow (rw_fs (upd f k x))))) : G cells slots pc ls (.int x :: .ref a :: st) n (va_up h a (pm_O cRow (rw_fs f))) :=
  rw_put K hk hk10 hlink ha (pm_same _ _ _) d hq (by rw [pm_up2]; exact kk)
theorem rw_putB (K : pm_K l bt_cl bt_tl gw bt_nw own nm cc nL ret R G) {index a : Nat} {f : rw_T} {x : Int32} (hlink : Cond.fieldLink own index RX3 (TX3 10).2.1 (TX3 10).2.2.1 ∈ gw) (ha : a < n) (hcell : h a = pm_O cRow (rw_fs f)) (hx : x = 0 ∨ x = 1) (d : decode cc pc = .ok (.putfield index, 3)) (hq : pc + 3 = q) (kk : G cells slots q ls st n (va_up h a (pm_O cRow (rw_fs (upd f 10 x))))) : G cells slots pc ls (.int x :: .ref a :: st) n h :=
  pm_put K inX3 tyX3 tyX3_ok nmX3 rfl (k := 10) (by decide) hlink rfl rfl (fun _ => rw_boo hx) ha hcell (Nat.le_of_ble_eq_true rfl) (rw_set f x (by decide)) d hq kk
theorem rw_putBU (K : pm_K l bt_cl bt_tl gw bt_nw own nm cc nL ret R G) {index a : Nat} {f : rw_T} {x : Int32} (hlink : Cond.fieldLink own index RX3 (TX3 10).2.1 (TX3 10).2.2.1 ∈ gw) (ha : a < n) (hx : x = 0 ∨ x = 1) (d : decode cc pc = .ok (.putfield index, 3)) (hq : pc + 3 = q) (kk : G cells slots q ls st n (va_up h a (pm_O cRow (rw_fs (upd f 10 x))))) : G cells slots pc ls (.int x :: .ref a :: st) n (va_up h a (pm_O cRow (rw_fs f))) :=
  rw_putB K hlink ha (pm_same _ _ _) hx d hq (by rw [pm_up2]; exact kk)
end RWP
set_option maxRecDepth 100000 in
theorem c_setColumns (l : Launch) {n : Nat} {h : pm_H} {a : Nat} {f : rw_T} (ha : a < n) (hc : h a = pm_O cRow (rw_fs f)) (x y z : Int32) : bM0 l yX3_setColumns cX3_setColumns 4 none 0 [.ref a, .int x, .int y, .int z] n h (fun r h' => r = none ∧ h' = va_up h a (pm_O cRow (rw_fs (rw_cols x y z f)))) := by
  refine pm_enter rfl (Nat.le_of_ble_eq_true rfl) (fun G K Z => ?_)
  refine pm_aload_n K dX3_setColumns_0 (q := 1) rfl rfl rfl ?_
  refine pm_iload_n K dX3_setColumns_1 (q := 2) rfl rfl rfl ?_
  refine rw_put K (k := 0) (by decide) (by decide) wlX3_7 ha hc dX3_setColumns_2 (q := 5) rfl ?_
  refine pm_aload_n K dX3_setColumns_5 (q := 6) rfl rfl rfl ?_
  refine pm_iload_n K dX3_setColumns_6 (q := 7) rfl rfl rfl ?_
  refine rw_putU K (k := 1) (by decide) (by decide) wlX3_13 ha dX3_setColumns_7 (q := 10) rfl ?_
  refine pm_aload_n K dX3_setColumns_10 (q := 11) rfl rfl rfl ?_
  refine pm_iload_n K dX3_setColumns_11 (q := 12) rfl rfl rfl ?_
  refine rw_putU K (k := 2) (by decide) (by decide) wlX3_16 ha dX3_setColumns_12 (q := 15) rfl ?_
  exact pm_vret Z dX3_setColumns_15 rfl (Nat.le_of_ble_eq_true rfl) (Nat.le_of_ble_eq_true rfl) ⟨rfl, ⟨rfl, rfl⟩⟩
set_option maxRecDepth 100000 in
theorem c_sortBy (l : Launch) {n : Nat} {h : pm_H} {a : Nat} {f : rw_T} (ha : a < n) (hc : h a = pm_O cRow (rw_fs f)) (x y z : Int32) : bM0 l yX3_sortBy cX3_sortBy 4 none 0 [.ref a, .int x, .int y, .int z] n h (fun r h' => r = none ∧ h' = va_up h a (pm_O cRow (rw_fs (rw_sort x y z f)))) := by
  refine pm_enter rfl (Nat.le_of_ble_eq_true rfl) (fun G K Z => ?_)
  refine pm_aload_n K dX3_sortBy_0 (q := 1) rfl rfl rfl ?_
  refine pm_iload_n K dX3_sortBy_1 (q := 2) rfl rfl rfl ?_
  refine rw_put K (k := 7) (by decide) (by decide) wlX3_19 ha hc dX3_sortBy_2 (q := 5) rfl ?_
  refine pm_aload_n K dX3_sortBy_5 (q := 6) rfl rfl rfl ?_
  refine pm_iload_n K dX3_sortBy_6 (q := 7) rfl rfl rfl ?_
  refine rw_putU K (k := 8) (by decide) (by decide) wlX3_22 ha dX3_sortBy_7 (q := 10) rfl ?_
  refine pm_aload_n K dX3_sortBy_10 (q := 11) rfl rfl rfl ?_
  refine pm_iload_n K dX3_sortBy_11 (q := 12) rfl rfl rfl ?_
  refine rw_putU K (k := 9) (by decide) (by decide) wlX3_25 ha dX3_sortBy_12 (q := 15) rfl ?_
  exact pm_vret Z dX3_sortBy_15 rfl (Nat.le_of_ble_eq_true rfl) (Nat.le_of_ble_eq_true rfl) ⟨rfl, ⟨rfl, rfl⟩⟩
set_option maxRecDepth 100000 in
theorem c_keep (l : Launch) {n : Nat} {h : pm_H} {a : Nat} {f : rw_T} (ha : a < n) (hc : h a = pm_O cRow (rw_fs f)) (x y : Int32) : bM0 l yX3_keep cX3_keep 3 none 0 [.ref a, .int x, .int y] n h (fun r h' => r = none ∧ h' = va_up h a (pm_O cRow (rw_fs (rw_keep x y f)))) := by
  refine pm_enter rfl (Nat.le_of_ble_eq_true rfl) (fun G K Z => ?_)
  refine pm_aload_n K dX3_keep_0 (q := 1) rfl rfl rfl ?_
  refine pm_ic1 K dX3_keep_1 (q := 2) rfl ?_
  refine rw_putB K wlX3_28 ha hc (Or.inr rfl) dX3_keep_2 (q := 5) rfl ?_
  refine pm_aload_n K dX3_keep_5 (q := 6) rfl rfl rfl ?_
  refine pm_iload_n K dX3_keep_6 (q := 7) rfl rfl rfl ?_
  refine pm_iload_n K dX3_keep_7 (q := 8) rfl rfl rfl ?_
  refine pm_isub K dX3_keep_8 (q := 9) rfl ?_
  refine rw_putU K (k := 11) (by decide) (by decide) wlX3_32 ha dX3_keep_9 (q := 12) rfl ?_
  refine pm_aload_n K dX3_keep_12 (q := 13) rfl rfl rfl ?_
  refine pm_ic0 K dX3_keep_13 (q := 14) rfl ?_
  refine rw_putU K (k := 12) (by decide) (by decide) wlX3_35 ha dX3_keep_14 (q := 17) rfl ?_
  exact pm_vret Z dX3_keep_17 rfl (Nat.le_of_ble_eq_true rfl) (Nat.le_of_ble_eq_true rfl) ⟨rfl, ⟨rfl, rfl⟩⟩
set_option maxRecDepth 100000 in
theorem c_discard (l : Launch) {n : Nat} {h : pm_H} {a : Nat} {f : rw_T} (ha : a < n) (hc : h a = pm_O cRow (rw_fs f)) : bM0 l yX3_discard cX3_discard 1 none 0 [.ref a] n h (fun r h' => r = none ∧ h' = va_up h a (pm_O cRow (rw_fs (rw_disc f)))) := by
  refine pm_enter rfl (Nat.le_of_ble_eq_true rfl) (fun G K Z => ?_)
  refine pm_aload_n K dX3_discard_0 (q := 1) rfl rfl rfl ?_
  refine pm_ic0 K dX3_discard_1 (q := 2) rfl ?_
  refine rw_putB K wlX3_28 ha hc (Or.inl rfl) dX3_discard_2 (q := 5) rfl ?_
  refine pm_aload_n K dX3_discard_5 (q := 6) rfl rfl rfl ?_
  refine pm_ic0 K dX3_discard_6 (q := 7) rfl ?_
  refine rw_putU K (k := 11) (by decide) (by decide) wlX3_32 ha dX3_discard_7 (q := 10) rfl ?_
  refine pm_aload_n K dX3_discard_10 (q := 11) rfl rfl rfl ?_
  refine pm_ic0 K dX3_discard_11 (q := 12) rfl ?_
  refine rw_putU K (k := 12) (by decide) (by decide) wlX3_35 ha dX3_discard_12 (q := 15) rfl ?_
  exact pm_vret Z dX3_discard_15 rfl (Nat.le_of_ble_eq_true rfl) (Nat.le_of_ble_eq_true rfl) ⟨rfl, ⟨rfl, rfl⟩⟩
set_option maxRecDepth 100000 in
theorem c_column (l : Launch) {n : Nat} {h : pm_H} {a : Nat} {f : rw_T} (ha : a < n) (hc : h a = pm_O cRow (rw_fs f)) (k : Int32) : bM0 l yX3_column cX3_column 2 (some (.int)) 0 [.ref a, .int k] n h (fun r h' => r = some (.int (rw_col k f)) ∧ h' = h) := by
  refine pm_enter rfl (Nat.le_of_ble_eq_true rfl) (fun G K Z => ?_)
  refine pm_iload_n K dX3_column_0 (q := 1) rfl rfl rfl ?_
  refine pm_if_ne K dX3_column_1 (tgt := 11) (q := 4) rfl rfl (fun hx => ?_) (fun hx => ?_)
  · refine pm_iload_n K dX3_column_11 (q := 12) rfl rfl rfl ?_
    refine pm_ic1 K dX3_column_12 (q := 13) rfl ?_
    refine pm_icmp_ne K dX3_column_13 (tgt := 23) (q := 16) rfl rfl (fun hy => ?_) (fun hy => ?_)
    · refine pm_aload_n K dX3_column_23 (q := 24) rfl rfl rfl ?_
      refine pm_get K inX3 rfl (k := 2) (by decide) wlX3_16 rfl ha hc rfl dX3_column_24 (q := 27) rfl ?_
      exact pm_iret Z dX3_column_27 rfl rfl (Nat.le_of_ble_eq_true rfl) (Nat.le_of_ble_eq_true rfl) ⟨rfl, ⟨by rw [rw_col, if_neg hx, if_neg hy], rfl⟩⟩
    · refine pm_aload_n K dX3_column_16 (q := 17) rfl rfl rfl ?_
      refine pm_get K inX3 rfl (k := 1) (by decide) wlX3_13 rfl ha hc rfl dX3_column_17 (q := 20) rfl ?_
      refine pm_goto K dX3_column_20 (q := 27) rfl ?_
      exact pm_iret Z dX3_column_27 rfl rfl (Nat.le_of_ble_eq_true rfl) (Nat.le_of_ble_eq_true rfl) ⟨rfl, ⟨by rw [rw_col, if_neg hx, if_pos hy], rfl⟩⟩
  · refine pm_aload_n K dX3_column_4 (q := 5) rfl rfl rfl ?_
    refine pm_get K inX3 rfl (k := 0) (by decide) wlX3_7 rfl ha hc rfl dX3_column_5 (q := 8) rfl ?_
    refine pm_goto K dX3_column_8 (q := 27) rfl ?_
    exact pm_iret Z dX3_column_27 rfl rfl (Nat.le_of_ble_eq_true rfl) (Nat.le_of_ble_eq_true rfl) ⟨rfl, ⟨by rw [rw_col, if_pos hx], rfl⟩⟩
set_option maxRecDepth 100000 in
theorem c_partners (l : Launch) {n : Nat} {h : pm_H} {a : Nat} {f : rw_T} (ha : a < n) (hc : h a = pm_O cRow (rw_fs f)) : bM0 l yX3_partners cX3_partners 1 (some (.int)) 0 [.ref a] n h (fun r h' => r = some (.int (rw_partners f)) ∧ h' = h) := by
  refine pm_enter rfl (Nat.le_of_ble_eq_true rfl) (fun G K Z => ?_)
  refine pm_aload_n K dX3_partners_0 (q := 1) rfl rfl rfl ?_
  refine pm_get K inX3 rfl (k := 4) (by decide) wlX3_38 rfl ha hc rfl dX3_partners_1 (q := 4) rfl ?_
  refine pm_if_ne K dX3_partners_4 (tgt := 14) (q := 7) rfl rfl (fun hx => ?_) (fun hx => ?_)
  · refine pm_aload_n K dX3_partners_14 (q := 15) rfl rfl rfl ?_
    refine pm_get K inX3 rfl (k := 5) (by decide) wlX3_44 rfl ha hc rfl dX3_partners_15 (q := 18) rfl ?_
    exact pm_iret Z dX3_partners_18 rfl rfl (Nat.le_of_ble_eq_true rfl) (Nat.le_of_ble_eq_true rfl) ⟨rfl, ⟨by rw [rw_partners, if_neg hx], rfl⟩⟩
  · refine pm_aload_n K dX3_partners_7 (q := 8) rfl rfl rfl ?_
    refine pm_get K inX3 rfl (k := 6) (by decide) wlX3_41 rfl ha hc rfl dX3_partners_8 (q := 11) rfl ?_
    refine pm_goto K dX3_partners_11 (q := 18) rfl ?_
    exact pm_iret Z dX3_partners_18 rfl rfl (Nat.le_of_ble_eq_true rfl) (Nat.le_of_ble_eq_true rfl) ⟨rfl, ⟨by rw [rw_partners, if_pos hx], rfl⟩⟩
set_option maxRecDepth 100000 in
theorem c_sameColumns (l : Launch) {n : Nat} {h : pm_H} {a : Nat} {f : rw_T} (ha : a < n) (hc : h a = pm_O cRow (rw_fs f)) {b : Nat} {g : rw_T} (hb : b < n) (hd : h b = pm_O cRow (rw_fs g)) : bM0 l yX3_sameColumns cX3_sameColumns 2 (some (.boolean)) 0 [.ref a, .ref b] n h (fun r h' => r = some (.int (b2i (decide (f 0 = g 0 ∧ f 1 = g 1 ∧ f 2 = g 2)))) ∧ h' = h) := by
  refine pm_enter rfl (Nat.le_of_ble_eq_true rfl) (fun G K Z => ?_)
  refine pm_aload_n K dX3_sameColumns_0 (q := 1) rfl rfl rfl ?_
  refine pm_get K inX3 rfl (k := 0) (by decide) wlX3_7 rfl ha hc rfl dX3_sameColumns_1 (q := 4) rfl ?_
  refine pm_aload_n K dX3_sameColumns_4 (q := 5) rfl rfl rfl ?_
  refine pm_get K inX3 rfl (k := 0) (by decide) wlX3_7 rfl hb hd rfl dX3_sameColumns_5 (q := 8) rfl ?_
  refine pm_icmp_ne K dX3_sameColumns_8 (tgt := 37) (q := 11) rfl rfl (fun h0 => ?_) (fun h0 => ?_)
  · refine pm_ic0 K dX3_sameColumns_37 (q := 38) rfl ?_
    exact pm_iret Z dX3_sameColumns_38 rfl rfl (Nat.le_of_ble_eq_true rfl) (Nat.le_of_ble_eq_true rfl) ⟨rfl, ⟨by rw [decide_eq_false (fun z => h0 z.1)]; rfl, rfl⟩⟩
  · refine pm_aload_n K dX3_sameColumns_11 (q := 12) rfl rfl rfl ?_
    refine pm_get K inX3 rfl (k := 1) (by decide) wlX3_13 rfl ha hc rfl dX3_sameColumns_12 (q := 15) rfl ?_
    refine pm_aload_n K dX3_sameColumns_15 (q := 16) rfl rfl rfl ?_
    refine pm_get K inX3 rfl (k := 1) (by decide) wlX3_13 rfl hb hd rfl dX3_sameColumns_16 (q := 19) rfl ?_
    refine pm_icmp_ne K dX3_sameColumns_19 (tgt := 37) (q := 22) rfl rfl (fun h1 => ?_) (fun h1 => ?_)
    · refine pm_ic0 K dX3_sameColumns_37 (q := 38) rfl ?_
      exact pm_iret Z dX3_sameColumns_38 rfl rfl (Nat.le_of_ble_eq_true rfl) (Nat.le_of_ble_eq_true rfl) ⟨rfl, ⟨by rw [decide_eq_false (fun z => h1 z.2.1)]; rfl, rfl⟩⟩
    · refine pm_aload_n K dX3_sameColumns_22 (q := 23) rfl rfl rfl ?_
      refine pm_get K inX3 rfl (k := 2) (by decide) wlX3_16 rfl ha hc rfl dX3_sameColumns_23 (q := 26) rfl ?_
      refine pm_aload_n K dX3_sameColumns_26 (q := 27) rfl rfl rfl ?_
      refine pm_get K inX3 rfl (k := 2) (by decide) wlX3_16 rfl hb hd rfl dX3_sameColumns_27 (q := 30) rfl ?_
      refine pm_icmp_ne K dX3_sameColumns_30 (tgt := 37) (q := 33) rfl rfl (fun h2 => ?_) (fun h2 => ?_)
      · refine pm_ic0 K dX3_sameColumns_37 (q := 38) rfl ?_
        exact pm_iret Z dX3_sameColumns_38 rfl rfl (Nat.le_of_ble_eq_true rfl) (Nat.le_of_ble_eq_true rfl) ⟨rfl, ⟨by rw [decide_eq_false (fun z => h2 z.2.2)]; rfl, rfl⟩⟩
      · refine pm_ic1 K dX3_sameColumns_33 (q := 34) rfl ?_
        refine pm_goto K dX3_sameColumns_34 (q := 38) rfl ?_
        exact pm_iret Z dX3_sameColumns_38 rfl rfl (Nat.le_of_ble_eq_true rfl) (Nat.le_of_ble_eq_true rfl) ⟨rfl, ⟨by rw [decide_eq_true ⟨h0, h1, h2⟩]; rfl, rfl⟩⟩
set_option maxRecDepth 100000 in
theorem c_isBehind (l : Launch) {n : Nat} {h : pm_H} {a : Nat} {f : rw_T} (ha : a < n) (hc : h a = pm_O cRow (rw_fs f)) {b : Nat} {g : rw_T} (hb : b < n) (hd : h b = pm_O cRow (rw_fs g)) : bM0 l yX3_isBehind cX3_isBehind 2 (some (.boolean)) 0 [.ref a, .ref b] n h (fun r h' => r = some (.int (b2i (rw_gt f g))) ∧ h' = h) := by
  refine pm_enter rfl (Nat.le_of_ble_eq_true rfl) (fun G K Z => ?_)
  refine pm_aload_n K dX3_isBehind_0 (q := 1) rfl rfl rfl ?_
  refine pm_get K inX3 rfl (k := 7) (by decide) wlX3_19 rfl ha hc rfl dX3_isBehind_1 (q := 4) rfl ?_
  refine pm_aload_n K dX3_isBehind_4 (q := 5) rfl rfl rfl ?_
  refine pm_get K inX3 rfl (k := 7) (by decide) wlX3_19 rfl hb hd rfl dX3_isBehind_5 (q := 8) rfl ?_
  refine pm_icmp_eq K dX3_isBehind_8 (tgt := 28) (q := 11) rfl rfl (fun h0 => ?_) (fun h0 => ?_)
  · refine pm_aload_n K dX3_isBehind_28 (q := 29) rfl rfl rfl ?_
    refine pm_get K inX3 rfl (k := 8) (by decide) wlX3_22 rfl ha hc rfl dX3_isBehind_29 (q := 32) rfl ?_
    refine pm_aload_n K dX3_isBehind_32 (q := 33) rfl rfl rfl ?_
    refine pm_get K inX3 rfl (k := 8) (by decide) wlX3_22 rfl hb hd rfl dX3_isBehind_33 (q := 36) rfl ?_
    refine pm_icmp_eq K dX3_isBehind_36 (tgt := 56) (q := 39) rfl rfl (fun h1 => ?_) (fun h1 => ?_)
    · refine pm_aload_n K dX3_isBehind_56 (q := 57) rfl rfl rfl ?_
      refine pm_get K inX3 rfl (k := 9) (by decide) wlX3_25 rfl ha hc rfl dX3_isBehind_57 (q := 60) rfl ?_
      refine pm_aload_n K dX3_isBehind_60 (q := 61) rfl rfl rfl ?_
      refine pm_get K inX3 rfl (k := 9) (by decide) wlX3_25 rfl hb hd rfl dX3_isBehind_61 (q := 64) rfl ?_
      refine pm_icmp_le K dX3_isBehind_64 (tgt := 71) (q := 67) rfl rfl (fun hl => ?_) (fun hl => ?_)
      · refine pm_ic0 K dX3_isBehind_71 (q := 72) rfl ?_
        exact pm_iret Z dX3_isBehind_72 rfl rfl (Nat.le_of_ble_eq_true rfl) (Nat.le_of_ble_eq_true rfl) ⟨rfl, ⟨by rw [rw_gt, if_pos h0, if_pos h1, decide_eq_false (Int32.not_lt.mpr hl)]; rfl, rfl⟩⟩
      · refine pm_ic1 K dX3_isBehind_67 (q := 68) rfl ?_
        refine pm_goto K dX3_isBehind_68 (q := 72) rfl ?_
        exact pm_iret Z dX3_isBehind_72 rfl rfl (Nat.le_of_ble_eq_true rfl) (Nat.le_of_ble_eq_true rfl) ⟨rfl, ⟨by rw [rw_gt, if_pos h0, if_pos h1, decide_eq_true (Int32.not_le.mp hl)]; rfl, rfl⟩⟩
    · refine pm_aload_n K dX3_isBehind_39 (q := 40) rfl rfl rfl ?_
      refine pm_get K inX3 rfl (k := 8) (by decide) wlX3_22 rfl ha hc rfl dX3_isBehind_40 (q := 43) rfl ?_
      refine pm_aload_n K dX3_isBehind_43 (q := 44) rfl rfl rfl ?_
      refine pm_get K inX3 rfl (k := 8) (by decide) wlX3_22 rfl hb hd rfl dX3_isBehind_44 (q := 47) rfl ?_
      refine pm_icmp_le K dX3_isBehind_47 (tgt := 54) (q := 50) rfl rfl (fun hl => ?_) (fun hl => ?_)
      · refine pm_ic0 K dX3_isBehind_54 (q := 55) rfl ?_
        exact pm_iret Z dX3_isBehind_55 rfl rfl (Nat.le_of_ble_eq_true rfl) (Nat.le_of_ble_eq_true rfl) ⟨rfl, ⟨by rw [rw_gt, if_pos h0, if_neg h1, decide_eq_false (Int32.not_lt.mpr hl)]; rfl, rfl⟩⟩
      · refine pm_ic1 K dX3_isBehind_50 (q := 51) rfl ?_
        refine pm_goto K dX3_isBehind_51 (q := 55) rfl ?_
        exact pm_iret Z dX3_isBehind_55 rfl rfl (Nat.le_of_ble_eq_true rfl) (Nat.le_of_ble_eq_true rfl) ⟨rfl, ⟨by rw [rw_gt, if_pos h0, if_neg h1, decide_eq_true (Int32.not_le.mp hl)]; rfl, rfl⟩⟩
  · refine pm_aload_n K dX3_isBehind_11 (q := 12) rfl rfl rfl ?_
    refine pm_get K inX3 rfl (k := 7) (by decide) wlX3_19 rfl ha hc rfl dX3_isBehind_12 (q := 15) rfl ?_
    refine pm_aload_n K dX3_isBehind_15 (q := 16) rfl rfl rfl ?_
    refine pm_get K inX3 rfl (k := 7) (by decide) wlX3_19 rfl hb hd rfl dX3_isBehind_16 (q := 19) rfl ?_
    refine pm_icmp_le K dX3_isBehind_19 (tgt := 26) (q := 22) rfl rfl (fun hl => ?_) (fun hl => ?_)
    · refine pm_ic0 K dX3_isBehind_26 (q := 27) rfl ?_
      exact pm_iret Z dX3_isBehind_27 rfl rfl (Nat.le_of_ble_eq_true rfl) (Nat.le_of_ble_eq_true rfl) ⟨rfl, ⟨by rw [rw_gt, if_neg h0, decide_eq_false (Int32.not_lt.mpr hl)]; rfl, rfl⟩⟩
    · refine pm_ic1 K dX3_isBehind_22 (q := 23) rfl ?_
      refine pm_goto K dX3_isBehind_23 (q := 27) rfl ?_
      exact pm_iret Z dX3_isBehind_27 rfl rfl (Nat.le_of_ble_eq_true rfl) (Nat.le_of_ble_eq_true rfl) ⟨rfl, ⟨by rw [rw_gt, if_neg h0, decide_eq_true (Int32.not_le.mp hl)]; rfl, rfl⟩⟩
set_option maxRecDepth 100000 in
theorem c_become (l : Launch) {n : Nat} {h : pm_H} {a : Nat} {f : rw_T} (ha : a < n) (hc : h a = pm_O cRow (rw_fs f)) {b : Nat} {g : rw_T} (hb : b < n) (hd : h b = pm_O cRow (rw_fs g)) (hab : a ≠ b) (hg : g 10 = 0 ∨ g 10 = 1) : bM0 l yX3_become cX3_become 2 none 1 [.ref a, .ref b] n h (fun r h' => r = none ∧ h' = va_up h a (pm_O cRow (rw_fs g))) := by
  refine pm_enter rfl (Nat.le_of_ble_eq_true rfl) (fun G K Z => ?_)
  refine pm_aload_n K dX3_become_0 (q := 1) rfl rfl rfl ?_
  refine pm_aload_n K dX3_become_1 (q := 2) rfl rfl rfl ?_
  refine pm_get K inX3 rfl (k := 0) (by decide) wlX3_7 rfl hb hd rfl dX3_become_2 (q := 5) rfl ?_
  refine pm_aload_n K dX3_become_5 (q := 6) rfl rfl rfl ?_
  refine pm_get K inX3 rfl (k := 1) (by decide) wlX3_13 rfl hb hd rfl dX3_become_6 (q := 9) rfl ?_
  refine pm_aload_n K dX3_become_9 (q := 10) rfl rfl rfl ?_
  refine pm_get K inX3 rfl (k := 2) (by decide) wlX3_16 rfl hb hd rfl dX3_become_10 (q := 13) rfl ?_
  refine pm_callV0 K gw_ok wcX3_47 (c_setColumns l ha hc (g 0) (g 1) (g 2)) rfl ha hc rfl rfl (Nat.le_of_ble_eq_true rfl) (by decide) dX3_become_13 (q := 16) rfl (fun r1 h1 hp => ?_)
  obtain ⟨rfl, rfl⟩ := hp
  refine pm_aload_n K dX3_become_16 (q := 17) rfl rfl rfl ?_
  refine pm_aload_n K dX3_become_17 (q := 18) rfl rfl rfl ?_
  refine pm_get K inX3 rfl (k := 3) (by decide) wlX3_51 rfl hb (pm_ne (Ne.symm hab) hd) rfl dX3_become_18 (q := 21) rfl ?_
  refine rw_putU K (k := 3) (by decide) (by decide) wlX3_51 ha dX3_become_21 (q := 24) rfl ?_
  refine pm_aload_n K dX3_become_24 (q := 25) rfl rfl rfl ?_
  refine pm_aload_n K dX3_become_25 (q := 26) rfl rfl rfl ?_
  refine pm_get K inX3 rfl (k := 4) (by decide) wlX3_38 rfl hb (pm_ne (Ne.symm hab) hd) rfl dX3_become_26 (q := 29) rfl ?_
  refine rw_putU K (k := 4) (by decide) (by decide) wlX3_38 ha dX3_become_29 (q := 32) rfl ?_
  refine pm_aload_n K dX3_become_32 (q := 33) rfl rfl rfl ?_
  refine pm_aload_n K dX3_become_33 (q := 34) rfl rfl rfl ?_
  refine pm_get K inX3 rfl (k := 5) (by decide) wlX3_44 rfl hb (pm_ne (Ne.symm hab) hd) rfl dX3_become_34 (q := 37) rfl ?_
  refine rw_putU K (k := 5) (by decide) (by decide) wlX3_44 ha dX3_become_37 (q := 40) rfl ?_
  refine pm_aload_n K dX3_become_40 (q := 41) rfl rfl rfl ?_
  refine pm_aload_n K dX3_become_41 (q := 42) rfl rfl rfl ?_
  refine pm_get K inX3 rfl (k := 6) (by decide) wlX3_41 rfl hb (pm_ne (Ne.symm hab) hd) rfl dX3_become_42 (q := 45) rfl ?_
  refine rw_putU K (k := 6) (by decide) (by decide) wlX3_41 ha dX3_become_45 (q := 48) rfl ?_
  refine pm_aload_n K dX3_become_48 (q := 49) rfl rfl rfl ?_
  refine pm_aload_n K dX3_become_49 (q := 50) rfl rfl rfl ?_
  refine pm_get K inX3 rfl (k := 7) (by decide) wlX3_19 rfl hb (pm_ne (Ne.symm hab) hd) rfl dX3_become_50 (q := 53) rfl ?_
  refine pm_aload_n K dX3_become_53 (q := 54) rfl rfl rfl ?_
  refine pm_get K inX3 rfl (k := 8) (by decide) wlX3_22 rfl hb (pm_ne (Ne.symm hab) hd) rfl dX3_become_54 (q := 57) rfl ?_
  refine pm_aload_n K dX3_become_57 (q := 58) rfl rfl rfl ?_
  refine pm_get K inX3 rfl (k := 9) (by decide) wlX3_25 rfl hb (pm_ne (Ne.symm hab) hd) rfl dX3_become_58 (q := 61) rfl ?_
  refine pm_callV0 K gw_ok wcX3_54 (c_sortBy l ha (pm_same _ _ _) (g 7) (g 8) (g 9)) rfl ha (pm_same _ _ _) rfl rfl (Nat.le_of_ble_eq_true rfl) (by decide) dX3_become_61 (q := 64) rfl (fun r1 h1 hp => ?_)
  obtain ⟨rfl, rfl⟩ := hp
  rw [pm_up2]
  refine pm_aload_n K dX3_become_64 (q := 65) rfl rfl rfl ?_
  refine pm_aload_n K dX3_become_65 (q := 66) rfl rfl rfl ?_
  refine pm_get K inX3 rfl (k := 10) (by decide) wlX3_28 rfl hb (pm_ne (Ne.symm hab) hd) rfl dX3_become_66 (q := 69) rfl ?_
  refine rw_putBU K wlX3_28 ha hg dX3_become_69 (q := 72) rfl ?_
  refine pm_aload_n K dX3_become_72 (q := 73) rfl rfl rfl ?_
  refine pm_aload_n K dX3_become_73 (q := 74) rfl rfl rfl ?_
  refine pm_get K inX3 rfl (k := 11) (by decide) wlX3_32 rfl hb (pm_ne (Ne.symm hab) hd) rfl dX3_become_74 (q := 77) rfl ?_
  refine rw_putU K (k := 11) (by decide) (by decide) wlX3_32 ha dX3_become_77 (q := 80) rfl ?_
  refine pm_aload_n K dX3_become_80 (q := 81) rfl rfl rfl ?_
  refine pm_aload_n K dX3_become_81 (q := 82) rfl rfl rfl ?_
  refine pm_get K inX3 rfl (k := 12) (by decide) wlX3_35 rfl hb (pm_ne (Ne.symm hab) hd) rfl dX3_become_82 (q := 85) rfl ?_
  refine rw_putU K (k := 12) (by decide) (by decide) wlX3_35 ha dX3_become_85 (q := 88) rfl ?_
  exact pm_vret Z dX3_become_88 rfl (Nat.le_of_ble_eq_true rfl) (Nat.le_of_ble_eq_true rfl) ⟨rfl, ⟨rfl, by congr 2⟩⟩
