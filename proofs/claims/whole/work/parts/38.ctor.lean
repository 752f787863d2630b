/-! Constructors. -/
theorem pm_nn {G : pm_Gt} {cells slots pc n n' : Nat} {ls : List (Option Value)} {st : List Value} {h : pm_H} (e : n = n') (kk : G cells slots pc ls st n' h) : G cells slots pc ls st n h := by
  rw [e]
  exact kk
theorem pm_cs {G : pm_Gt} {c c' s s' pc n : Nat} {ls : List (Option Value)} {st : List Value} {h : pm_H} (e1 : c = c') (e2 : s = s') (kk : G c' s' pc ls st n h) : G c s pc ls st n h := by
  rw [e1, e2]
  exact kk
theorem dfX0 : ∀ j, j < 4 → defaultValue (tyX0 j) = vp_V [.null, .null, .null, .int 0] j := by
  intro j hj
  rcases (show j = 0 ∨ j = 1 ∨ j = 2 ∨ j = 3 by omega) with rfl | rfl | rfl | rfl <;> rfl
theorem dfX1 : ∀ j, j < 2 → defaultValue (tyX1 j) = vp_V [.null, .null] j := by
  intro j hj
  rcases (show j = 0 ∨ j = 1 by omega) with rfl | rfl <;> rfl
theorem dfX2 : ∀ j, j < 1 → defaultValue (tyX2 j) = vp_V [.null] j := by
  intro j hj
  rcases (show j = 0 by omega) with rfl <;> rfl
theorem dfX3 : ∀ j, j < 13 → defaultValue (tyX3 j) = vp_V [.int 0, .int 0, .int 0, .int 0, .int 0, .int 0, .int 0, .int 0, .int 0, .int 0, .int 0, .int 0, .int 0] j := by
  intro j hj
  rcases (show j = 0 ∨ j = 1 ∨ j = 2 ∨ j = 3 ∨ j = 4 ∨ j = 5 ∨ j = 6 ∨ j = 7 ∨ j = 8 ∨ j = 9 ∨ j = 10 ∨ j = 11 ∨ j = 12 by omega) with rfl | rfl | rfl | rfl | rfl | rfl | rfl | rfl | rfl | rfl | rfl | rfl | rfl <;> rfl
theorem dfX4 : ∀ j, j < 4 → defaultValue (tyX4 j) = vp_V [.int 0, .int 0, .int 0, .int 0] j := by
  intro j hj
  rcases (show j = 0 ∨ j = 1 ∨ j = 2 ∨ j = 3 by omega) with rfl | rfl | rfl | rfl <;> rfl
theorem dfX5 : ∀ j, j < 3 → defaultValue (tyX5 j) = vp_V [.null, .null, .int 0] j := by
  intro j hj
  rcases (show j = 0 ∨ j = 1 ∨ j = 2 by omega) with rfl | rfl | rfl <;> rfl
theorem dfX6 : ∀ j, j < 10 → defaultValue (tyX6 j) = vp_V [.null, .null, .null, .null, .null, .null, .null, .null, .int 0, .int 0] j := by
  intro j hj
  rcases (show j = 0 ∨ j = 1 ∨ j = 2 ∨ j = 3 ∨ j = 4 ∨ j = 5 ∨ j = 6 ∨ j = 7 ∨ j = 8 ∨ j = 9 by omega) with rfl | rfl | rfl | rfl | rfl | rfl | rfl | rfl | rfl | rfl <;> rfl
theorem dfX7 : ∀ j, j < 27 → defaultValue (tyX7 j) = vp_V [.null, .null, .int 0, .int 0, .int 0, .null, .null, .null, .null, .int 0, .null, .null, .null, .int 0, .null, .int 0, .null, .int 0, .int 0, .null, .null, .null, .null, .int 0, .int 0, .int 0, .int 0] j := by
  intro j hj
  rcases (show j = 0 ∨ j = 1 ∨ j = 2 ∨ j = 3 ∨ j = 4 ∨ j = 5 ∨ j = 6 ∨ j = 7 ∨ j = 8 ∨ j = 9 ∨ j = 10 ∨ j = 11 ∨ j = 12 ∨ j = 13 ∨ j = 14 ∨ j = 15 ∨ j = 16 ∨ j = 17 ∨ j = 18 ∨ j = 19 ∨ j = 20 ∨ j = 21 ∨ j = 22 ∨ j = 23 ∨ j = 24 ∨ j = 25 ∨ j = 26 by omega) with rfl | rfl | rfl | rfl | rfl | rfl | rfl | rfl | rfl | rfl | rfl | rfl | rfl | rfl | rfl | rfl | rfl | rfl | rfl | rfl | rfl | rfl | rfl | rfl | rfl | rfl | rfl <;> rfl
set_option maxRecDepth 100000 in
theorem c_row0 (l : Launch) {n : Nat} {h : pm_H} {a : Nat} : bM0 l yX3_init cX3_init 1 none 1 [.ref a] n h (fun r h' => r = none ∧ h' = h) := by
  refine pm_enter rfl (Nat.le_of_ble_eq_true rfl) (fun G K Z => ?_)
  refine pm_aload_n K dX3_init_0 (q := 1) rfl rfl rfl ?_
  refine pm_objInit K (gw_1 (j := 58) rfl rfl) (gw_1 (j := 16) rfl rfl) (gw_1 (j := 17) rfl rfl) (Nat.le_of_ble_eq_true rfl) (by decide) (by decide) dX3_init_1 (q := 4) rfl ?_
  exact pm_vret Z dX3_init_4 rfl (Nat.le_of_ble_eq_true rfl) (Nat.le_of_ble_eq_true rfl) ⟨rfl, ⟨rfl, rfl⟩⟩
set_option maxRecDepth 100000 in
theorem c_step0 (l : Launch) {n : Nat} {h : pm_H} {a : Nat} : bM0 l yX4_init cX4_init 1 none 1 [.ref a] n h (fun r h' => r = none ∧ h' = h) := by
  refine pm_enter rfl (Nat.le_of_ble_eq_true rfl) (fun G K Z => ?_)
  refine pm_aload_n K dX4_init_0 (q := 1) rfl rfl rfl ?_
  refine pm_objInit K (gw_1 (j := 156) rfl rfl) (gw_1 (j := 16) rfl rfl) (gw_1 (j := 17) rfl rfl) (Nat.le_of_ble_eq_true rfl) (by decide) (by decide) dX4_init_1 (q := 4) rfl ?_
  exact pm_vret Z dX4_init_4 rfl (Nat.le_of_ble_eq_true rfl) (Nat.le_of_ble_eq_true rfl) ⟨rfl, ⟨rfl, rfl⟩⟩
set_option maxRecDepth 100000 in
theorem c_bag6 (l : Launch) {n : Nat} {h : pm_H} {b : Nat} (hb : n = b + 1) (hbig : b < 1000) (hc : h b = pm_O cBag [.null, .null, .null, .int 0]) : bM l yX0_init cX0_init 2 none 1 3 18 [.ref b, .int (nI 6)] n h (fun r n' h' => r = none ∧ n' = b + 4 ∧ bg_at (b + 4) h' b 6 [] ∧ ∀ q, q < b → h' q = h q) := by
  refine pm_enter rfl (Nat.le_of_ble_eq_true rfl) (fun G K Z => ?_)
  subst hb
  refine pm_aload_n K dX0_init_0 (q := 1) rfl rfl rfl ?_
  refine pm_objInit K (gw_1 (j := 26) rfl rfl) (gw_1 (j := 16) rfl rfl) (gw_1 (j := 17) rfl rfl) (Nat.le_of_ble_eq_true rfl) (by decide) (by decide) dX0_init_1 (q := 4) rfl ?_
  refine pm_aload_n K dX0_init_4 (q := 5) rfl rfl rfl ?_
  refine pm_ic0 K dX0_init_5 (q := 6) rfl ?_
  refine pm_put (fs' := [.null, .null, .null, .int 0]) K inX0 tyX0 tyX0_ok nmX0 rfl (k := 3) (by decide) wlX0_7 rfl rfl (fun _ => ⟨rfl, rfl⟩) (by omega) hc (Nat.le_of_ble_eq_true rfl) rfl dX0_init_6 (q := 9) rfl ?_
  refine pm_aload_n K dX0_init_9 (q := 10) rfl rfl rfl ?_
  refine pm_iload_n K dX0_init_10 (q := 11) rfl rfl rfl ?_
  refine pm_newa (atype := .int) (ty := .int) (t := 0) (N := 6) K rfl (gw_1 (j := 45) rfl rfl) rfl (fun _ _ z => z) rfl (by decide) (by decide) (by decide) (by unfold pm_big; omega) (by decide) (by decide) dX0_init_11 (q := 13) rfl ?_
  refine pm_nn (n' := b + 2) rfl ?_
  refine pm_putF (fs' := [.ref (b + 1), .null, .null, .int 0]) K inX0 tyX0 tyX0_ok nmX0 rfl (k := 0) (by decide) wlX0_13 rfl rfl rfl rfl (fun _ => ⟨rfl, rfl⟩) (by omega) (pm_ne (by omega) (pm_same _ _ _)) (Nat.le_of_ble_eq_true rfl) rfl dX0_init_13 (q := 16) rfl ?_
  refine pm_aload_n K dX0_init_16 (q := 17) rfl rfl rfl ?_
  refine pm_iload_n K dX0_init_17 (q := 18) rfl rfl rfl ?_
  refine pm_newa (atype := .int) (ty := .int) (t := 0) (N := 6) K rfl (gw_1 (j := 45) rfl rfl) rfl (fun _ _ z => z) rfl (by decide) (by decide) (by decide) (by unfold pm_big; omega) (by decide) (by decide) dX0_init_18 (q := 20) rfl ?_
  refine pm_nn (n' := b + 3) rfl ?_
  refine pm_putF (fs' := [.ref (b + 1), .ref (b + 2), .null, .int 0]) K inX0 tyX0 tyX0_ok nmX0 rfl (k := 1) (by decide) wlX0_17 rfl rfl rfl rfl (fun _ => ⟨rfl, rfl⟩) (by omega) (pm_ne (by omega) (pm_same _ _ _)) (Nat.le_of_ble_eq_true rfl) rfl dX0_init_20 (q := 23) rfl ?_
  refine pm_aload_n K dX0_init_23 (q := 24) rfl rfl rfl ?_
  refine pm_iload_n K dX0_init_24 (q := 25) rfl rfl rfl ?_
  refine pm_newa (atype := .int) (ty := .int) (t := 0) (N := 6) K rfl (gw_1 (j := 45) rfl rfl) rfl (fun _ _ z => z) rfl (by decide) (by decide) (by decide) (by unfold pm_big; omega) (by decide) (by decide) dX0_init_25 (q := 27) rfl ?_
  refine pm_nn (n' := b + 4) rfl ?_
  refine pm_putF (fs' := [.ref (b + 1), .ref (b + 2), .ref (b + 3), .int 0]) K inX0 tyX0 tyX0_ok nmX0 rfl (k := 2) (by decide) wlX0_20 rfl rfl rfl rfl (fun _ => ⟨rfl, rfl⟩) (by omega) (pm_ne (by omega) (pm_same _ _ _)) (Nat.le_of_ble_eq_true rfl) rfl dX0_init_27 (q := 30) rfl ?_
  exact pm_vret Z dX0_init_30 rfl (Nat.le_of_ble_eq_true rfl) (Nat.le_of_ble_eq_true rfl) ⟨rfl, rfl, ⟨by omega, Nat.zero_le _, by decide, pm_same _ _ _, fun _ => 0, fun _ => 0, fun _ => 0, (pm_ne (by omega) (pm_ne (by omega) (pm_ne (by omega) (pm_ne (by omega) (pm_ne (by omega) (pm_same _ _ _)))))), (pm_ne (by omega) (pm_ne (by omega) (pm_ne (by omega) (pm_same _ _ _)))), (pm_ne (by omega) (pm_same _ _ _)), fun r hr => absurd hr (Nat.not_lt_zero _)⟩, fun q hq => by rw [pm_ne (by omega) rfl, pm_ne (by omega) rfl, pm_ne (by omega) rfl, pm_ne (by omega) rfl, pm_ne (by omega) rfl, pm_ne (by omega) rfl, pm_ne (by omega) rfl]⟩
set_option maxRecDepth 100000 in
theorem c_bag12 (l : Launch) {n : Nat} {h : pm_H} {b : Nat} (hb : n = b + 1) (hbig : b < 1000) (hc : h b = pm_O cBag [.null, .null, .null, .int 0]) : bM l yX0_init cX0_init 2 none 1 3 36 [.ref b, .int (nI 12)] n h (fun r n' h' => r = none ∧ n' = b + 4 ∧ bg_at (b + 4) h' b 12 [] ∧ ∀ q, q < b → h' q = h q) := by
  refine pm_enter rfl (Nat.le_of_ble_eq_true rfl) (fun G K Z => ?_)
  subst hb
  refine pm_aload_n K dX0_init_0 (q := 1) rfl rfl rfl ?_
  refine pm_objInit K (gw_1 (j := 26) rfl rfl) (gw_1 (j := 16) rfl rfl) (gw_1 (j := 17) rfl rfl) (Nat.le_of_ble_eq_true rfl) (by decide) (by decide) dX0_init_1 (q := 4) rfl ?_
  refine pm_aload_n K dX0_init_4 (q := 5) rfl rfl rfl ?_
  refine pm_ic0 K dX0_init_5 (q := 6) rfl ?_
  refine pm_put (fs' := [.null, .null, .null, .int 0]) K inX0 tyX0 tyX0_ok nmX0 rfl (k := 3) (by decide) wlX0_7 rfl rfl (fun _ => ⟨rfl, rfl⟩) (by omega) hc (Nat.le_of_ble_eq_true rfl) rfl dX0_init_6 (q := 9) rfl ?_
  refine pm_aload_n K dX0_init_9 (q := 10) rfl rfl rfl ?_
  refine pm_iload_n K dX0_init_10 (q := 11) rfl rfl rfl ?_
  refine pm_newa (atype := .int) (ty := .int) (t := 0) (N := 12) K rfl (gw_1 (j := 45) rfl rfl) rfl (fun _ _ z => z) rfl (by decide) (by decide) (by decide) (by unfold pm_big; omega) (by decide) (by decide) dX0_init_11 (q := 13) rfl ?_
  refine pm_nn (n' := b + 2) rfl ?_
  refine pm_putF (fs' := [.ref (b + 1), .null, .null, .int 0]) K inX0 tyX0 tyX0_ok nmX0 rfl (k := 0) (by decide) wlX0_13 rfl rfl rfl rfl (fun _ => ⟨rfl, rfl⟩) (by omega) (pm_ne (by omega) (pm_same _ _ _)) (Nat.le_of_ble_eq_true rfl) rfl dX0_init_13 (q := 16) rfl ?_
  refine pm_aload_n K dX0_init_16 (q := 17) rfl rfl rfl ?_
  refine pm_iload_n K dX0_init_17 (q := 18) rfl rfl rfl ?_
  refine pm_newa (atype := .int) (ty := .int) (t := 0) (N := 12) K rfl (gw_1 (j := 45) rfl rfl) rfl (fun _ _ z => z) rfl (by decide) (by decide) (by decide) (by unfold pm_big; omega) (by decide) (by decide) dX0_init_18 (q := 20) rfl ?_
  refine pm_nn (n' := b + 3) rfl ?_
  refine pm_putF (fs' := [.ref (b + 1), .ref (b + 2), .null, .int 0]) K inX0 tyX0 tyX0_ok nmX0 rfl (k := 1) (by decide) wlX0_17 rfl rfl rfl rfl (fun _ => ⟨rfl, rfl⟩) (by omega) (pm_ne (by omega) (pm_same _ _ _)) (Nat.le_of_ble_eq_true rfl) rfl dX0_init_20 (q := 23) rfl ?_
  refine pm_aload_n K dX0_init_23 (q := 24) rfl rfl rfl ?_
  refine pm_iload_n K dX0_init_24 (q := 25) rfl rfl rfl ?_
  refine pm_newa (atype := .int) (ty := .int) (t := 0) (N := 12) K rfl (gw_1 (j := 45) rfl rfl) rfl (fun _ _ z => z) rfl (by decide) (by decide) (by decide) (by unfold pm_big; omega) (by decide) (by decide) dX0_init_25 (q := 27) rfl ?_
  refine pm_nn (n' := b + 4) rfl ?_
  refine pm_putF (fs' := [.ref (b + 1), .ref (b + 2), .ref (b + 3), .int 0]) K inX0 tyX0 tyX0_ok nmX0 rfl (k := 2) (by decide) wlX0_20 rfl rfl rfl rfl (fun _ => ⟨rfl, rfl⟩) (by omega) (pm_ne (by omega) (pm_same _ _ _)) (Nat.le_of_ble_eq_true rfl) rfl dX0_init_27 (q := 30) rfl ?_
  exact pm_vret Z dX0_init_30 rfl (Nat.le_of_ble_eq_true rfl) (Nat.le_of_ble_eq_true rfl) ⟨rfl, rfl, ⟨by omega, Nat.zero_le _, by decide, pm_same _ _ _, fun _ => 0, fun _ => 0, fun _ => 0, (pm_ne (by omega) (pm_ne (by omega) (pm_ne (by omega) (pm_ne (by omega) (pm_ne (by omega) (pm_same _ _ _)))))), (pm_ne (by omega) (pm_ne (by omega) (pm_ne (by omega) (pm_same _ _ _)))), (pm_ne (by omega) (pm_same _ _ _)), fun r hr => absurd hr (Nat.not_lt_zero _)⟩, fun q hq => by rw [pm_ne (by omega) rfl, pm_ne (by omega) rfl, pm_ne (by omega) rfl, pm_ne (by omega) rfl, pm_ne (by omega) rfl, pm_ne (by omega) rfl, pm_ne (by omega) rfl]⟩
set_option maxRecDepth 100000 in
theorem c_bag24 (l : Launch) {n : Nat} {h : pm_H} {b : Nat} (hb : n = b + 1) (hbig : b < 1000) (hc : h b = pm_O cBag [.null, .null, .null, .int 0]) : bM l yX0_init cX0_init 2 none 1 3 72 [.ref b, .int (nI 24)] n h (fun r n' h' => r = none ∧ n' = b + 4 ∧ bg_at (b + 4) h' b 24 [] ∧ ∀ q, q < b → h' q = h q) := by
  refine pm_enter rfl (Nat.le_of_ble_eq_true rfl) (fun G K Z => ?_)
  subst hb
  refine pm_aload_n K dX0_init_0 (q := 1) rfl rfl rfl ?_
  refine pm_objInit K (gw_1 (j := 26) rfl rfl) (gw_1 (j := 16) rfl rfl) (gw_1 (j := 17) rfl rfl) (Nat.le_of_ble_eq_true rfl) (by decide) (by decide) dX0_init_1 (q := 4) rfl ?_
  refine pm_aload_n K dX0_init_4 (q := 5) rfl rfl rfl ?_
  refine pm_ic0 K dX0_init_5 (q := 6) rfl ?_
  refine pm_put (fs' := [.null, .null, .null, .int 0]) K inX0 tyX0 tyX0_ok nmX0 rfl (k := 3) (by decide) wlX0_7 rfl rfl (fun _ => ⟨rfl, rfl⟩) (by omega) hc (Nat.le_of_ble_eq_true rfl) rfl dX0_init_6 (q := 9) rfl ?_
  refine pm_aload_n K dX0_init_9 (q := 10) rfl rfl rfl ?_
  refine pm_iload_n K dX0_init_10 (q := 11) rfl rfl rfl ?_
  refine pm_newa (atype := .int) (ty := .int) (t := 0) (N := 24) K rfl (gw_1 (j := 45) rfl rfl) rfl (fun _ _ z => z) rfl (by decide) (by decide) (by decide) (by unfold pm_big; omega) (by decide) (by decide) dX0_init_11 (q := 13) rfl ?_
  refine pm_nn (n' := b + 2) rfl ?_
  refine pm_putF (fs' := [.ref (b + 1), .null, .null, .int 0]) K inX0 tyX0 tyX0_ok nmX0 rfl (k := 0) (by decide) wlX0_13 rfl rfl rfl rfl (fun _ => ⟨rfl, rfl⟩) (by omega) (pm_ne (by omega) (pm_same _ _ _)) (Nat.le_of_ble_eq_true rfl) rfl dX0_init_13 (q := 16) rfl ?_
  refine pm_aload_n K dX0_init_16 (q := 17) rfl rfl rfl ?_
  refine pm_iload_n K dX0_init_17 (q := 18) rfl rfl rfl ?_
  refine pm_newa (atype := .int) (ty := .int) (t := 0) (N := 24) K rfl (gw_1 (j := 45) rfl rfl) rfl (fun _ _ z => z) rfl (by decide) (by decide) (by decide) (by unfold pm_big; omega) (by decide) (by decide) dX0_init_18 (q := 20) rfl ?_
  refine pm_nn (n' := b + 3) rfl ?_
  refine pm_putF (fs' := [.ref (b + 1), .ref (b + 2), .null, .int 0]) K inX0 tyX0 tyX0_ok nmX0 rfl (k := 1) (by decide) wlX0_17 rfl rfl rfl rfl (fun _ => ⟨rfl, rfl⟩) (by omega) (pm_ne (by omega) (pm_same _ _ _)) (Nat.le_of_ble_eq_true rfl) rfl dX0_init_20 (q := 23) rfl ?_
  refine pm_aload_n K dX0_init_23 (q := 24) rfl rfl rfl ?_
  refine pm_iload_n K dX0_init_24 (q := 25) rfl rfl rfl ?_
  refine pm_newa (atype := .int) (ty := .int) (t := 0) (N := 24) K rfl (gw_1 (j := 45) rfl rfl) rfl (fun _ _ z => z) rfl (by decide) (by decide) (by decide) (by unfold pm_big; omega) (by decide) (by decide) dX0_init_25 (q := 27) rfl ?_
  refine pm_nn (n' := b + 4) rfl ?_
  refine pm_putF (fs' := [.ref (b + 1), .ref (b + 2), .ref (b + 3), .int 0]) K inX0 tyX0 tyX0_ok nmX0 rfl (k := 2) (by decide) wlX0_20 rfl rfl rfl rfl (fun _ => ⟨rfl, rfl⟩) (by omega) (pm_ne (by omega) (pm_same _ _ _)) (Nat.le_of_ble_eq_true rfl) rfl dX0_init_27 (q := 30) rfl ?_
  exact pm_vret Z dX0_init_30 rfl (Nat.le_of_ble_eq_true rfl) (Nat.le_of_ble_eq_true rfl) ⟨rfl, rfl, ⟨by omega, Nat.zero_le _, by decide, pm_same _ _ _, fun _ => 0, fun _ => 0, fun _ => 0, (pm_ne (by omega) (pm_ne (by omega) (pm_ne (by omega) (pm_ne (by omega) (pm_ne (by omega) (pm_same _ _ _)))))), (pm_ne (by omega) (pm_ne (by omega) (pm_ne (by omega) (pm_same _ _ _)))), (pm_ne (by omega) (pm_same _ _ _)), fun r hr => absurd hr (Nat.not_lt_zero _)⟩, fun q hq => by rw [pm_ne (by omega) rfl, pm_ne (by omega) rfl, pm_ne (by omega) rfl, pm_ne (by omega) rfl, pm_ne (by omega) rfl, pm_ne (by omega) rfl, pm_ne (by omega) rfl]⟩
set_option maxRecDepth 100000 in
theorem c_store0 (l : Launch) {n : Nat} {h : pm_H} (hn : n = 16) (hc : h 15 = pm_O cStore [.null, .null, .int 0]) : bM l yX5_init cX5_init 2 none 2 78 15752 [.ref 15] n h (fun r n' h' => r = none ∧ n' = 94 ∧ so_L 94 h' (fun _ _ => 0) [] ∧ ∀ q, q < 15 → h' q = h q) := by
  refine pm_enter rfl (Nat.le_of_ble_eq_true rfl) (fun G K Z => ?_)
  subst hn
  refine pm_aload_n K dX5_init_0 (q := 1) rfl rfl rfl ?_
  refine pm_objInit K (gw_1 (j := 51) rfl rfl) (gw_1 (j := 16) rfl rfl) (gw_1 (j := 17) rfl rfl) (Nat.le_of_ble_eq_true rfl) (by decide) (by decide) dX5_init_1 (q := 4) rfl ?_
  refine pm_aload_n K dX5_init_4 (q := 5) rfl rfl rfl ?_
  refine pm_bipush (v := nI 76) K dX5_init_5 (q := 7) rfl (by decide) ?_
  refine pm_anewa (t := 1) (N := 76) K (gw_1 (j := 52) rfl rfl) (List.mem_of_getElem? (i := 3) rfl) rfl (by decide) (by decide) (by decide) (by decide) (by decide) (by decide) dX5_init_7 (q := 10) rfl ?_
  refine pm_nn (n' := 17) rfl ?_
  refine pm_putF (fs' := [.ref 16, .null, .int 0]) K inX5 tyX5 tyX5_ok nmX5 rfl (k := 0) (by decide) wlX5_13 rfl rfl rfl rfl (fun _ => ⟨rfl, rfl⟩) (by decide) (pm_ne (by decide) hc) (Nat.le_of_ble_eq_true rfl) rfl dX5_init_10 (q := 13) rfl ?_
  refine pm_aload_n K dX5_init_13 (q := 14) rfl rfl rfl ?_
  refine pm_sipush (v := nI 14688) K dX5_init_14 (q := 17) rfl (by decide) ?_
  refine pm_newa (atype := .int) (ty := .int) (t := 0) (N := 14688) K rfl (gw_1 (j := 45) rfl rfl) rfl (fun _ _ z => z) rfl (by decide) (by decide) (by decide) (by decide) (by decide) (by decide) dX5_init_17 (q := 19) rfl ?_
  refine pm_nn (n' := 18) rfl ?_
  refine pm_putF (fs' := [.ref 16, .ref 17, .int 0]) K inX5 tyX5 tyX5_ok nmX5 rfl (k := 1) (by decide) wlX5_17 rfl rfl rfl rfl (fun _ => ⟨rfl, rfl⟩) (by decide) (pm_ne (by decide) (pm_same _ _ _)) (Nat.le_of_ble_eq_true rfl) rfl dX5_init_19 (q := 22) rfl ?_
  refine pm_aload_n K dX5_init_22 (q := 23) rfl rfl rfl ?_
  refine pm_ic0 K dX5_init_23 (q := 24) rfl ?_
  refine pm_put (fs' := [.ref 16, .ref 17, .int 0]) K inX5 tyX5 tyX5_ok nmX5 rfl (k := 2) (by decide) wlX5_21 rfl rfl (fun _ => ⟨rfl, rfl⟩) (by decide) (pm_same _ _ _) (Nat.le_of_ble_eq_true rfl) rfl dX5_init_24 (q := 27) rfl ?_
  refine pm_ic0 K dX5_init_27 (q := 28) rfl ?_
  refine pm_istore_n K dX5_init_28 (q := 29) rfl rfl (by decide) rfl ?_
  have loop : ∀ (k p : Nat) (h2 : pm_H) (pf : Nat → Option Nat), p + k = 76 → h2 15 = pm_O cStore [.ref 16, .ref 17, .int 0] → h2 16 = pm_R tRow 76 pf → (∀ i, i < p → pf i = some (18 + i)) → h2 17 = pm_I tInt 14688 (fun _ => 0) → (∀ j, j < p → h2 (18 + j) = pm_O cRow (rw_fs (fun _ => 0))) → (∀ q, q < 15 → h2 q = h q) → G (2 + p) (76 + 14688 + 13 * p) 29 [some (.ref 15), some (.int (nI p))] [] (18 + p) h2 := by
    intro k
    induction k with
    | zero =>
      intro p h2 pf hk a1 a2 a3 a4 a5 a6
      refine pm_iload_n K dX5_init_29 (q := 30) rfl rfl rfl ?_
      refine pm_bipush (v := nI 76) K dX5_init_30 (q := 32) rfl (by decide) ?_
      refine pm_icmp_ge K dX5_init_32 (tgt := 54) (q := 35) rfl rfl (fun _ => ?_) (fun z => absurd z (fun z => z (nI_le (by omega) (by omega))))
      have ep : p = 76 := by omega
      subst ep
      exact pm_vret Z dX5_init_54 rfl (Nat.le_of_ble_eq_true rfl) (Nat.le_of_ble_eq_true rfl) ⟨rfl, rfl, ⟨fun i => i, fun _ _ => 0, ⟨by decide, a1, ⟨pf, a2, a3⟩, ⟨_, a4, fun i hi => absurd hi (Nat.not_lt_zero _)⟩, fun i hi => hi, fun j hj => ⟨a5 j hj, Or.inl rfl⟩, Nat.zero_le _⟩, fun i j _ _ e => e, fun i hi => rfl⟩, a6⟩
    | succ k ih =>
      intro p h2 pf hk a1 a2 a3 a4 a5 a6
      refine pm_iload_n K dX5_init_29 (q := 30) rfl rfl rfl ?_
      refine pm_bipush (v := nI 76) K dX5_init_30 (q := 32) rfl (by decide) ?_
      refine pm_icmp_ge K dX5_init_32 (tgt := 54) (q := 35) rfl rfl (fun z => absurd z (nI_ge (by omega) (by decide))) (fun _ => ?_)
      refine pm_aload_n K dX5_init_35 (q := 36) rfl rfl rfl ?_
      refine pm_get K inX5 rfl (k := 0) (by decide) wlX5_13 rfl (by omega) a1 rfl dX5_init_36 (q := 39) rfl ?_
      refine pm_iload_n K dX5_init_39 (q := 40) rfl rfl rfl ?_
      refine pm_new (ci := 3) K inX3 tyX3 tyX3_ok (gw_1 (j := 52) rfl rfl) (gw_1 (j := 54) rfl rfl) (gw_1 (j := 4) rfl rfl) rfl dfX3 (fun _ => rfl) (by unfold pm_big; omega) (by show 2 + p + 1 ≤ 78; omega) (by show 76 + 14688 + 13 * p + 13 ≤ 15752; omega) dX5_init_40 (q := 43) rfl ?_
      refine pm_nn (n' := 18 + (p + 1)) (by omega) ?_
      refine pm_dup K dX5_init_43 (q := 44) rfl ?_
      refine pm_callIN K gw_ok wcX5_25 (c_row0 l (a := 18 + p)) rfl rfl (Nat.le_of_ble_eq_true rfl) (by decide) ⟨by show 2 + p + 1 + 0 ≤ 78; omega, by show 76 + 14688 + 13 * p + 13 + 0 ≤ 15752; omega⟩ dX5_init_44 (q := 47) rfl (fun r1 n1 h1 hp => ?_)
      obtain ⟨rfl, rfl, rfl⟩ := hp
      refine pm_aastN K (by omega) (pm_ne (by omega) a2) (by omega) (pm_same _ _ _) rfl rfl (show p < 76 by omega) (by decide) dX5_init_47 (q := 48) rfl ?_
      refine pm_inc K dX5_init_48 (q := 51) rfl rfl (by decide) rfl ?_
      refine pm_goto K dX5_init_51 (q := 29) rfl ?_
      refine pm_cs (by omega) (by omega) (ih (p + 1) _ (va_up pf p (some (18 + p))) (by omega) (pm_ne (by decide) (pm_ne (by omega) a1)) (pm_same _ _ _) (fun i hi => ?_) (pm_ne (by decide) (pm_ne (by omega) a4)) (fun j hj => ?_) (fun q hq => by rw [pm_ne (by omega) rfl, pm_ne (by omega) rfl]; exact a6 q hq))
      · by_cases e : i = p
        · subst e; simp [va_up]
        · simp [va_up, e, a3 i (by omega)]
      · by_cases e : j = p
        · subst e; exact pm_ne (by omega) (pm_same _ _ _)
        · exact pm_ne (by omega) (pm_ne (by omega) (a5 j (by omega)))
  exact loop 76 0 _ (fun _ => none) (by decide) (pm_same _ _ _) (pm_ne (by decide) (pm_ne (by decide) (pm_ne (by decide) (pm_ne (by decide) (pm_same _ _ _))))) (fun i hi => absurd hi (Nat.not_lt_zero _)) (pm_ne (by decide) (pm_ne (by decide) (pm_same _ _ _))) (fun j hj => absurd hj (Nat.not_lt_zero _)) (fun q hq => by rw [pm_ne (by omega) rfl, pm_ne (by omega) rfl, pm_ne (by omega) rfl, pm_ne (by omega) rfl, pm_ne (by omega) rfl])
set_option maxRecDepth 100000 in
theorem c_ops0 (l : Launch) {n : Nat} {h : pm_H} {a : Nat} (ha : a < n) (hc : h a = pm_O cOps [.null]) : bM0 l yX2_init cX2_init 2 none 1 [.ref a, .ref 15] n h (fun r h' => r = none ∧ h' = va_up h a (pm_O cOps [.ref 15])) := by
  refine pm_enter rfl (Nat.le_of_ble_eq_true rfl) (fun G K Z => ?_)
  refine pm_aload_n K dX2_init_0 (q := 1) rfl rfl rfl ?_
  refine pm_objInit K (gw_1 (j := 132) rfl rfl) (gw_1 (j := 16) rfl rfl) (gw_1 (j := 17) rfl rfl) (Nat.le_of_ble_eq_true rfl) (by decide) (by decide) dX2_init_1 (q := 4) rfl ?_
  refine pm_aload_n K dX2_init_4 (q := 5) rfl rfl rfl ?_
  refine pm_aload_n K dX2_init_5 (q := 6) rfl rfl rfl ?_
  refine pm_putF (fs' := [.ref 15]) K inX2 tyX2 tyX2_ok nmX2 rfl (k := 0) (by decide) wlX2_9 rfl rfl rfl rfl (fun _ => ⟨rfl, rfl⟩) ha hc (Nat.le_of_ble_eq_true rfl) rfl dX2_init_6 (q := 9) rfl ?_
  exact pm_vret Z dX2_init_9 rfl (Nat.le_of_ble_eq_true rfl) (Nat.le_of_ble_eq_true rfl) ⟨rfl, ⟨rfl, rfl⟩⟩
set_option maxRecDepth 100000 in
theorem c_join0 (l : Launch) {n : Nat} {h : pm_H} (hn : n = 96) (hc : h 95 = pm_O cJoin [.null, .null]) : bM l yX1_init cX1_init 2 none 2 1 13 [.ref 95, .ref 15] n h (fun r n' h' => r = none ∧ n' = 97 ∧ h' 95 = pm_O cJoin [.ref 15, .ref 96] ∧ h' 96 = pm_O cRow (rw_fs (fun _ => 0)) ∧ ∀ q, q < 95 → h' q = h q) := by
  refine pm_enter rfl (Nat.le_of_ble_eq_true rfl) (fun G K Z => ?_)
  subst hn
  refine pm_aload_n K dX1_init_0 (q := 1) rfl rfl rfl ?_
  refine pm_objInit K (gw_1 (j := 142) rfl rfl) (gw_1 (j := 16) rfl rfl) (gw_1 (j := 17) rfl rfl) (Nat.le_of_ble_eq_true rfl) (by decide) (by decide) dX1_init_1 (q := 4) rfl ?_
  refine pm_aload_n K dX1_init_4 (q := 5) rfl rfl rfl ?_
  refine pm_new (ci := 3) K inX3 tyX3 tyX3_ok (gw_1 (j := 143) rfl rfl) (gw_1 (j := 54) rfl rfl) (gw_1 (j := 4) rfl rfl) rfl dfX3 (fun _ => rfl) (by decide) (by decide) (by decide) dX1_init_5 (q := 8) rfl ?_
  refine pm_nn (n' := 97) rfl ?_
  refine pm_dup K dX1_init_8 (q := 9) rfl ?_
  refine pm_callIN K gw_ok wcX1_11 (c_row0 l (a := 96)) rfl rfl (Nat.le_of_ble_eq_true rfl) (by decide) (by decide) dX1_init_9 (q := 12) rfl (fun r1 n1 h1 hp => ?_)
  obtain ⟨rfl, rfl, rfl⟩ := hp
  refine pm_putF (fs' := [.null, .ref 96]) K inX1 tyX1 tyX1_ok nmX1 rfl (k := 1) (by decide) wlX1_12 rfl rfl rfl rfl (fun _ => ⟨rfl, rfl⟩) (by decide) (pm_ne (by decide) hc) (Nat.le_of_ble_eq_true rfl) rfl dX1_init_12 (q := 15) rfl ?_
  refine pm_aload_n K dX1_init_15 (q := 16) rfl rfl rfl ?_
  refine pm_aload_n K dX1_init_16 (q := 17) rfl rfl rfl ?_
  refine pm_putF (fs' := [.ref 15, .ref 96]) K inX1 tyX1 tyX1_ok nmX1 rfl (k := 0) (by decide) wlX1_18 rfl rfl rfl rfl (fun _ => ⟨rfl, rfl⟩) (by decide) (pm_same _ _ _) (Nat.le_of_ble_eq_true rfl) rfl dX1_init_17 (q := 20) rfl ?_
  exact pm_vret Z dX1_init_20 rfl (Nat.le_of_ble_eq_true rfl) (Nat.le_of_ble_eq_true rfl) ⟨rfl, rfl, pm_same _ _ _, (pm_ne (by decide) (pm_ne (by decide) (pm_same _ _ _))), fun q hq => by rw [pm_ne (by omega) rfl, pm_ne (by omega) rfl, pm_ne (by omega) rfl]⟩
