/-! Bags: contracts. -/
theorem bg_push {n : Nat} {h : pm_H} {b len : Nat} {l : List bg_T} {f1 f2 f3 : Nat → Int32} (h1 : b + 3 < n) (h3 : len ≤ 24) (h5 : h (b + 1) = pm_I tInt len f1) (h6 : h (b + 2) = pm_I tInt len f2) (h7 : h (b + 3) = pm_I tInt len f3) (h8 : ∀ r, r < l.length → l[r]? = some (f1 r, f2 r, f3 r)) (hlt : l.length < len) (x y z : Int32) : bg_at n (va_up (va_up (va_up (va_up h (b + 1) (pm_I tInt len (upd f1 l.length x))) (b + 2) (pm_I tInt len (upd f2 l.length y))) (b + 3) (pm_I tInt len (upd f3 l.length z))) b (pm_O cBag [.ref (b + 1), .ref (b + 2), .ref (b + 3), .int (nI l.length + 1)])) b len (l ++ [(x, y, z)]) := by
  refine ⟨h1, by rw [List.length_append]; exact hlt, h3, ?_, upd f1 l.length x, upd f2 l.length y, upd f3 l.length z, ?_, ?_, ?_, fun r hr => ?_⟩
  · rw [pm_same, List.length_append]; rw [← nI_succ]; rfl
  · rw [pm_ne (by omega) (pm_ne (by omega) (pm_ne (by omega) (pm_same _ _ _)))]
  · rw [pm_ne (by omega) (pm_ne (by omega) (pm_same _ _ _))]
  · rw [pm_ne (by omega) (pm_same _ _ _)]
  · rw [List.length_append, List.length_singleton] at hr
    by_cases e : r = l.length
    · subst e
      rw [List.getElem?_append_right (Nat.le_refl _), Nat.sub_self]
      simp [upd]
    · rw [List.getElem?_append_left (by omega), h8 r (by omega)]
      simp [upd, e]
theorem bg_take2 (l : List bg_T) (t : bg_T) (len : Nat) : ((l.take len) ++ [t]).take len = (l ++ [t]).take len := by
  rw [List.take_append, List.take_append, List.take_take, Nat.min_self, List.length_take]
  congr 2
  omega
def bg_cell (l : List bg_T) (r c : Int32) : Int32 := if r < 0 ∨ nI l.length ≤ r then 0 else match l[r.toNatClampNeg]? with
  | some t => if c = 0 then t.1 else if c = 1 then t.2.1 else t.2.2
  | none => 0
theorem bg_cell_at {l : List bg_T} {j : Nat} {c : Int32} {t : bg_T} (hg : l[j]? = some t) (hj : j < l.length) (hl : l.length < 2 ^ 31) : bg_cell l (nI j) c = if c = 0 then t.1 else if c = 1 then t.2.1 else t.2.2 := by
  unfold bg_cell
  rw [if_neg, nI_clamp (by omega), hg]
  rintro (z | z)
  · exact nI_pos (by omega) z
  · exact nI_ge hj hl z
theorem pk_j {x : Int32} {L : Nat} (h0 : ¬ x < 0) (h : x < nI L) (hL : L < 2 ^ 31) : ∃ j : Nat, j < L ∧ x = nI j := by
  obtain ⟨j, h1, h2, -⟩ := pk_mu h0 (Int32.not_le.mpr h) hL
  exact ⟨j, h1, h2⟩
def bg_mix (t : bg_T) : Int32 := 31 * (31 * t.1 + t.2.1) + t.2.2
def bg_sum (l : List bg_T) : Int32 := l.foldl (fun s t => s + bg_mix t) 0
theorem bg_sum_push (l : List bg_T) (t : bg_T) : bg_sum (l ++ [t]) = bg_sum l + bg_mix t := by
  unfold bg_sum
  rw [List.foldl_append]
  rfl
set_option maxRecDepth 100000 in
theorem c_hold (l : Launch) {n : Nat} {h : pm_H} {b len : Nat} {l0 : List bg_T} (H : bg_at n h b len l0) (x y z : Int32) : bM0 l yX0_hold cX0_hold 4 (some (.boolean)) 0 [.ref b, .int x, .int y, .int z] n h (fun r h' => r = some (.int (b2i (decide (l0.length < len)))) ∧ bg_at n h' b len ((l0 ++ [(x, y, z)]).take len) ∧ (∀ q, q < b ∨ b + 3 < q → h' q = h q)) := by
  refine pm_enter rfl (Nat.le_of_ble_eq_true rfl) (fun G K Z => ?_)
  have H0 := H
  obtain ⟨h1, h2, h3, h4, f1, f2, f3, h5, h6, h7, h8⟩ := H
  refine pm_aload_n K dX0_hold_0 (q := 1) rfl rfl rfl ?_
  refine pm_get K inX0 rfl (k := 3) (by decide) wlX0_7 rfl (by omega) h4 rfl dX0_hold_1 (q := 4) rfl ?_
  refine pm_aload_n K dX0_hold_4 (q := 5) rfl rfl rfl ?_
  refine pm_get K inX0 rfl (k := 0) (by decide) wlX0_13 rfl (by omega) h4 rfl dX0_hold_5 (q := 8) rfl ?_
  refine pm_alenI (v := nI len) K (by omega) h5 rfl rfl dX0_hold_8 (q := 9) rfl ?_
  refine pm_icmp_lt K dX0_hold_9 (tgt := 14) (q := 12) rfl rfl (fun hx => ?_) (fun hx => ?_)
  · have hlt : l0.length < len := (nI_ltI (by omega) (by omega)).mp hx
    refine pm_aload_n K dX0_hold_14 (q := 15) rfl rfl rfl ?_
    refine pm_get K inX0 rfl (k := 0) (by decide) wlX0_13 rfl (by omega) h4 rfl dX0_hold_15 (q := 18) rfl ?_
    refine pm_aload_n K dX0_hold_18 (q := 19) rfl rfl rfl ?_
    refine pm_get K inX0 rfl (k := 3) (by decide) wlX0_7 rfl (by omega) h4 rfl dX0_hold_19 (q := 22) rfl ?_
    refine pm_iload_n K dX0_hold_22 (q := 23) rfl rfl rfl ?_
    refine pm_iastN K (by omega) h5 rfl hlt (by omega) dX0_hold_23 (q := 24) rfl ?_
    refine pm_aload_n K dX0_hold_24 (q := 25) rfl rfl rfl ?_
    refine pm_get K inX0 rfl (k := 1) (by decide) wlX0_17 rfl (by omega) (pm_ne (by omega) h4) rfl dX0_hold_25 (q := 28) rfl ?_
    refine pm_aload_n K dX0_hold_28 (q := 29) rfl rfl rfl ?_
    refine pm_get K inX0 rfl (k := 3) (by decide) wlX0_7 rfl (by omega) (pm_ne (by omega) h4) rfl dX0_hold_29 (q := 32) rfl ?_
    refine pm_iload_n K dX0_hold_32 (q := 33) rfl rfl rfl ?_
    refine pm_iastN K (by omega) (pm_ne (by omega) h6) rfl hlt (by omega) dX0_hold_33 (q := 34) rfl ?_
    refine pm_aload_n K dX0_hold_34 (q := 35) rfl rfl rfl ?_
    refine pm_get K inX0 rfl (k := 2) (by decide) wlX0_20 rfl (by omega) (pm_ne (by omega) (pm_ne (by omega) h4)) rfl dX0_hold_35 (q := 38) rfl ?_
    refine pm_aload_n K dX0_hold_38 (q := 39) rfl rfl rfl ?_
    refine pm_get K inX0 rfl (k := 3) (by decide) wlX0_7 rfl (by omega) (pm_ne (by omega) (pm_ne (by omega) h4)) rfl dX0_hold_39 (q := 42) rfl ?_
    refine pm_iload_n K dX0_hold_42 (q := 43) rfl rfl rfl ?_
    refine pm_iastN K (by omega) (pm_ne (by omega) (pm_ne (by omega) h7)) rfl hlt (by omega) dX0_hold_43 (q := 44) rfl ?_
    refine pm_aload_n K dX0_hold_44 (q := 45) rfl rfl rfl ?_
    refine pm_dup K dX0_hold_45 (q := 46) rfl ?_
    refine pm_get K inX0 rfl (k := 3) (by decide) wlX0_7 rfl (by omega) (pm_ne (by omega) (pm_ne (by omega) (pm_ne (by omega) h4))) rfl dX0_hold_46 (q := 49) rfl ?_
    refine pm_ic1 K dX0_hold_49 (q := 50) rfl ?_
    refine pm_iadd K dX0_hold_50 (q := 51) rfl ?_
    refine pm_put (fs' := [.ref (b + 1), .ref (b + 2), .ref (b + 3), .int (nI l0.length + 1)]) K inX0 tyX0 tyX0_ok nmX0 rfl (k := 3) (by decide) wlX0_7 rfl rfl (fun _ => ⟨rfl, rfl⟩) (by omega) (pm_ne (by omega) (pm_ne (by omega) (pm_ne (by omega) h4))) (Nat.le_of_ble_eq_true rfl) rfl dX0_hold_51 (q := 54) rfl ?_
    refine pm_ic1 K dX0_hold_54 (q := 55) rfl ?_
    exact pm_iret Z dX0_hold_55 rfl rfl (Nat.le_of_ble_eq_true rfl) (Nat.le_of_ble_eq_true rfl) ⟨rfl, ⟨by rw [decide_eq_true hlt]; rfl, by rw [List.take_of_length_le (by rw [List.length_append]; exact hlt)]; exact bg_push h1 h3 h5 h6 h7 h8 hlt x y z, fun q hq => by rw [pm_ne (by omega) rfl, pm_ne (by omega) rfl, pm_ne (by omega) rfl, pm_ne (by omega) rfl]⟩⟩
  · have hge : ¬ l0.length < len := fun z => hx ((nI_ltI (by omega) (by omega)).mpr z)
    refine pm_ic0 K dX0_hold_12 (q := 13) rfl ?_
    exact pm_iret Z dX0_hold_13 rfl rfl (Nat.le_of_ble_eq_true rfl) (Nat.le_of_ble_eq_true rfl) ⟨rfl, ⟨by rw [decide_eq_false hge]; rfl, by rw [List.take_append_of_le_length (by omega), List.take_of_length_le (by omega)]; exact H0, fun _ _ => rfl⟩⟩
set_option maxRecDepth 100000 in
theorem c_bclear (l : Launch) {n : Nat} {h : pm_H} {b len : Nat} {l0 : List bg_T} (H : bg_at n h b len l0) : bM0 l yX0_clear cX0_clear 1 none 0 [.ref b] n h (fun r h' => r = none ∧ bg_at n h' b len [] ∧ (∀ q, q < b ∨ b + 3 < q → h' q = h q)) := by
  refine pm_enter rfl (Nat.le_of_ble_eq_true rfl) (fun G K Z => ?_)
  obtain ⟨h1, h2, h3, h4, f1, f2, f3, h5, h6, h7, h8⟩ := H
  refine pm_aload_n K dX0_clear_0 (q := 1) rfl rfl rfl ?_
  refine pm_ic0 K dX0_clear_1 (q := 2) rfl ?_
  refine pm_put (fs' := [.ref (b + 1), .ref (b + 2), .ref (b + 3), .int 0]) K inX0 tyX0 tyX0_ok nmX0 rfl (k := 3) (by decide) wlX0_7 rfl rfl (fun _ => ⟨rfl, rfl⟩) (by omega) h4 (Nat.le_of_ble_eq_true rfl) rfl dX0_clear_2 (q := 5) rfl ?_
  exact pm_vret Z dX0_clear_5 rfl (Nat.le_of_ble_eq_true rfl) (Nat.le_of_ble_eq_true rfl) ⟨rfl, ⟨rfl, ⟨h1, Nat.zero_le _, h3, pm_same _ _ _, f1, f2, f3, pm_ne (by omega) h5, pm_ne (by omega) h6, pm_ne (by omega) h7, fun r hr => absurd hr (Nat.not_lt_zero _)⟩, fun q hq => pm_ne (by omega) rfl⟩⟩
set_option maxRecDepth 100000 in
theorem c_bcolumn (l : Launch) {n : Nat} {h : pm_H} {b len : Nat} {l0 : List bg_T} (H : bg_at n h b len l0) (r0 c0 : Int32) : bM0 l yX0_column cX0_column 3 (some (.int)) 0 [.ref b, .int r0, .int c0] n h (fun r h' => r = some (.int (bg_cell l0 r0 c0)) ∧ h' = h) := by
  refine pm_enter rfl (Nat.le_of_ble_eq_true rfl) (fun G K Z => ?_)
  obtain ⟨h1, h2, h3, h4, f1, f2, f3, h5, h6, h7, h8⟩ := H
  refine pm_iload_n K dX0_column_0 (q := 1) rfl rfl rfl ?_
  refine pm_if_lt K dX0_column_1 (tgt := 12) (q := 4) rfl rfl (fun ha => ?_) (fun ha => ?_)
  · refine pm_ic0 K dX0_column_12 (q := 13) rfl ?_
    exact pm_iret Z dX0_column_13 rfl rfl (Nat.le_of_ble_eq_true rfl) (Nat.le_of_ble_eq_true rfl) ⟨rfl, ⟨by rw [bg_cell, if_pos (Or.inl ha)], rfl⟩⟩
  · refine pm_iload_n K dX0_column_4 (q := 5) rfl rfl rfl ?_
    refine pm_aload_n K dX0_column_5 (q := 6) rfl rfl rfl ?_
    refine pm_get K inX0 rfl (k := 3) (by decide) wlX0_7 rfl (by omega) h4 rfl dX0_column_6 (q := 9) rfl ?_
    refine pm_icmp_lt K dX0_column_9 (tgt := 14) (q := 12) rfl rfl (fun hb => ?_) (fun hb => ?_)
    · obtain ⟨j, hj, rfl⟩ := pk_j ha hb (by omega)
      have hg := h8 j hj
      refine pm_iload_n K dX0_column_14 (q := 15) rfl rfl rfl ?_
      refine pm_if_ne K dX0_column_15 (tgt := 27) (q := 18) rfl rfl (fun hc => ?_) (fun hc => ?_)
      · refine pm_iload_n K dX0_column_27 (q := 28) rfl rfl rfl ?_
        refine pm_ic1 K dX0_column_28 (q := 29) rfl ?_
        refine pm_icmp_ne K dX0_column_29 (tgt := 41) (q := 32) rfl rfl (fun hd => ?_) (fun hd => ?_)
        · refine pm_aload_n K dX0_column_41 (q := 42) rfl rfl rfl ?_
          refine pm_get K inX0 rfl (k := 2) (by decide) wlX0_20 rfl (by omega) h4 rfl dX0_column_42 (q := 45) rfl ?_
          refine pm_iload_n K dX0_column_45 (q := 46) rfl rfl rfl ?_
          refine pm_ialdN K (by omega) h7 rfl (by omega) (by omega) dX0_column_46 (q := 47) rfl ?_
          exact pm_iret Z dX0_column_47 rfl rfl (Nat.le_of_ble_eq_true rfl) (Nat.le_of_ble_eq_true rfl) ⟨rfl, ⟨by have e := bg_cell_at (c := c0) hg hj (by omega); rw [if_neg hc, if_neg hd] at e; exact congrArg (fun z => some (Value.int z)) e.symm, rfl⟩⟩
        · refine pm_aload_n K dX0_column_32 (q := 33) rfl rfl rfl ?_
          refine pm_get K inX0 rfl (k := 1) (by decide) wlX0_17 rfl (by omega) h4 rfl dX0_column_33 (q := 36) rfl ?_
          refine pm_iload_n K dX0_column_36 (q := 37) rfl rfl rfl ?_
          refine pm_ialdN K (by omega) h6 rfl (by omega) (by omega) dX0_column_37 (q := 38) rfl ?_
          refine pm_goto K dX0_column_38 (q := 47) rfl ?_
          exact pm_iret Z dX0_column_47 rfl rfl (Nat.le_of_ble_eq_true rfl) (Nat.le_of_ble_eq_true rfl) ⟨rfl, ⟨by have e := bg_cell_at (c := c0) hg hj (by omega); rw [if_neg hc, if_pos hd] at e; exact congrArg (fun z => some (Value.int z)) e.symm, rfl⟩⟩
      · refine pm_aload_n K dX0_column_18 (q := 19) rfl rfl rfl ?_
        refine pm_get K inX0 rfl (k := 0) (by decide) wlX0_13 rfl (by omega) h4 rfl dX0_column_19 (q := 22) rfl ?_
        refine pm_iload_n K dX0_column_22 (q := 23) rfl rfl rfl ?_
        refine pm_ialdN K (by omega) h5 rfl (by omega) (by omega) dX0_column_23 (q := 24) rfl ?_
        refine pm_goto K dX0_column_24 (q := 47) rfl ?_
        exact pm_iret Z dX0_column_47 rfl rfl (Nat.le_of_ble_eq_true rfl) (Nat.le_of_ble_eq_true rfl) ⟨rfl, ⟨by have e := bg_cell_at (c := c0) hg hj (by omega); rw [if_pos hc] at e; exact congrArg (fun z => some (Value.int z)) e.symm, rfl⟩⟩
    · refine pm_ic0 K dX0_column_12 (q := 13) rfl ?_
      exact pm_iret Z dX0_column_13 rfl rfl (Nat.le_of_ble_eq_true rfl) (Nat.le_of_ble_eq_true rfl) ⟨rfl, ⟨by rw [bg_cell, if_pos (Or.inr (Int32.not_lt.mp hb))], rfl⟩⟩
set_option maxRecDepth 100000 in
theorem c_bbecome (l : Launch) {n : Nat} {h : pm_H} {b len b2 len2 : Nat} {l0 l2 : List bg_T} (H : bg_at n h b len l0) (J : bg_at n h b2 len2 l2) (hbb : b + 3 < b2 ∨ b2 + 3 < b) : bM0 l yX0_become cX0_become 3 none 1 [.ref b, .ref b2] n h (fun r h' => r = none ∧ bg_at n h' b len (l2.take len) ∧ (∀ q, q < b ∨ b + 3 < q → h' q = h q)) := by
  refine pm_enter rfl (Nat.le_of_ble_eq_true rfl) (fun G K Z => ?_)
  refine pm_aload_n K dX0_become_0 (q := 1) rfl rfl rfl ?_
  refine pm_callV0 K gw_ok wcX0_23 (c_bclear l H) rfl (by have := H.1; omega) H.2.2.2.1 rfl rfl (Nat.le_of_ble_eq_true rfl) (by decide) dX0_become_1 (q := 4) rfl (fun r1 h1 hp => ?_)
  obtain ⟨rfl, H1, F1⟩ := hp
  refine pm_ic0 K dX0_become_4 (q := 5) rfl ?_
  refine pm_istore_n K dX0_become_5 (q := 6) rfl rfl (by decide) rfl ?_
  have loop : ∀ (k r : Nat) (h2 : pm_H), r + k = l2.length → bg_at n h2 b len ((l2.take r).take len) → (∀ q, q < b ∨ b + 3 < q → h2 q = h q) → G 0 0 6 [some (.ref b), some (.ref b2), some (.int (nI r))] [] n h2 := by
    intro k
    induction k with
    | zero =>
      intro r h2 hk Hb hF
      have J2 : bg_at n h2 b2 len2 l2 := J.fr (Nat.le_refl _) (fun q a c => hF q (by omega))
      obtain ⟨h1, h2x, h3, h4, f1, f2, f3, h5, h6, h7, h8⟩ := J2
      refine pm_iload_n K dX0_become_6 (q := 7) rfl rfl rfl ?_
      refine pm_aload_n K dX0_become_7 (q := 8) rfl rfl rfl ?_
      refine pm_get K inX0 rfl (k := 3) (by decide) wlX0_7 rfl (by omega) h4 rfl dX0_become_8 (q := 11) rfl ?_
      refine pm_icmp_ge K dX0_become_11 (tgt := 43) (q := 14) rfl rfl (fun _ => ?_) (fun z => absurd z (fun z => z (nI_le (by omega) (by omega))))
      have er : l2.take r = l2 := List.take_of_length_le (by omega)
      rw [er] at Hb
      exact pm_vret Z dX0_become_43 rfl (Nat.le_of_ble_eq_true rfl) (Nat.le_of_ble_eq_true rfl) ⟨rfl, ⟨rfl, Hb, hF⟩⟩
    | succ k ih =>
      intro r h2 hk Hb hF
      have J2 : bg_at n h2 b2 len2 l2 := J.fr (Nat.le_refl _) (fun q a c => hF q (by omega))
      obtain ⟨h1, h2x, h3, h4, f1, f2, f3, h5, h6, h7, h8⟩ := J2
      refine pm_iload_n K dX0_become_6 (q := 7) rfl rfl rfl ?_
      refine pm_aload_n K dX0_become_7 (q := 8) rfl rfl rfl ?_
      refine pm_get K inX0 rfl (k := 3) (by decide) wlX0_7 rfl (by omega) h4 rfl dX0_become_8 (q := 11) rfl ?_
      refine pm_icmp_ge K dX0_become_11 (tgt := 43) (q := 14) rfl rfl (fun z => absurd z (nI_ge (by omega) (by omega))) (fun _ => ?_)
      have hg := h8 r (by omega)
      refine pm_aload_n K dX0_become_14 (q := 15) rfl rfl rfl ?_
      refine pm_aload_n K dX0_become_15 (q := 16) rfl rfl rfl ?_
      refine pm_get K inX0 rfl (k := 0) (by decide) wlX0_13 rfl (by omega) h4 rfl dX0_become_16 (q := 19) rfl ?_
      refine pm_iload_n K dX0_become_19 (q := 20) rfl rfl rfl ?_
      refine pm_ialdN K (by omega) h5 rfl (by omega) (by omega) dX0_become_20 (q := 21) rfl ?_
      refine pm_aload_n K dX0_become_21 (q := 22) rfl rfl rfl ?_
      refine pm_get K inX0 rfl (k := 1) (by decide) wlX0_17 rfl (by omega) h4 rfl dX0_become_22 (q := 25) rfl ?_
      refine pm_iload_n K dX0_become_25 (q := 26) rfl rfl rfl ?_
      refine pm_ialdN K (by omega) h6 rfl (by omega) (by omega) dX0_become_26 (q := 27) rfl ?_
      refine pm_aload_n K dX0_become_27 (q := 28) rfl rfl rfl ?_
      refine pm_get K inX0 rfl (k := 2) (by decide) wlX0_20 rfl (by omega) h4 rfl dX0_become_28 (q := 31) rfl ?_
      refine pm_iload_n K dX0_become_31 (q := 32) rfl rfl rfl ?_
      refine pm_ialdN K (by omega) h7 rfl (by omega) (by omega) dX0_become_32 (q := 33) rfl ?_
      refine pm_callV0 K gw_ok wcX0_26 (c_hold l Hb (f1 r) (f2 r) (f3 r)) rfl (by have := Hb.1; omega) Hb.2.2.2.1 rfl rfl (Nat.le_of_ble_eq_true rfl) (by decide) dX0_become_33 (q := 36) rfl (fun r3 h3x hp => ?_)
      obtain ⟨rfl, H3, F3⟩ := hp
      refine pm_pop K dX0_become_36 (q := 37) rfl ?_
      refine pm_inc K dX0_become_37 (q := 40) rfl rfl (by decide) rfl ?_
      refine pm_goto K dX0_become_40 (q := 6) rfl ?_
      refine ih (r + 1) h3x (by omega) ?_ (fun q hq => (F3 q hq).trans (hF q hq))
      have e1 : l2.take (r + 1) = l2.take r ++ [(f1 r, f2 r, f3 r)] := by rw [List.take_succ, hg]; rfl
      rw [e1, ← bg_take2]; exact H3
  have := loop l2.length 0 h1 (by omega) (by simpa using H1) F1
  rw [nI_0] at this
  exact this
set_option maxRecDepth 100000 in
theorem c_btotal (l : Launch) {n : Nat} {h : pm_H} {b len : Nat} {l0 : List bg_T} (H : bg_at n h b len l0) : bM0 l yX0_total cX0_total 3 (some (.int)) 0 [.ref b] n h (fun r h' => r = some (.int (bg_sum l0)) ∧ h' = h) := by
  refine pm_enter rfl (Nat.le_of_ble_eq_true rfl) (fun G K Z => ?_)
  obtain ⟨h1, h2, h3, h4, f1, f2, f3, h5, h6, h7, h8⟩ := H
  refine pm_ic0 K dX0_total_0 (q := 1) rfl ?_
  refine pm_istore_n K dX0_total_1 (q := 2) rfl rfl (by decide) rfl ?_
  refine pm_ic0 K dX0_total_2 (q := 3) rfl ?_
  refine pm_istore_n K dX0_total_3 (q := 4) rfl rfl (by decide) rfl ?_
  have loop : ∀ (k r : Nat), r + k = l0.length → G 0 0 4 [some (.ref b), some (.int (bg_sum (l0.take r))), some (.int (nI r))] [] n h := by
    intro k
    induction k with
    | zero =>
      intro r hk
      refine pm_iload_n K dX0_total_4 (q := 5) rfl rfl rfl ?_
      refine pm_aload_n K dX0_total_5 (q := 6) rfl rfl rfl ?_
      refine pm_get K inX0 rfl (k := 3) (by decide) wlX0_7 rfl (by omega) h4 rfl dX0_total_6 (q := 9) rfl ?_
      refine pm_icmp_ge K dX0_total_9 (tgt := 47) (q := 12) rfl rfl (fun _ => ?_) (fun z => absurd z (fun z => z (nI_le (by omega) (by omega))))
      refine pm_iload_n K dX0_total_47 (q := 48) rfl rfl rfl ?_
      exact pm_iret Z dX0_total_48 rfl rfl (Nat.le_of_ble_eq_true rfl) (Nat.le_of_ble_eq_true rfl) ⟨rfl, ⟨by rw [List.take_of_length_le (by omega)], rfl⟩⟩
    | succ k ih =>
      intro r hk
      refine pm_iload_n K dX0_total_4 (q := 5) rfl rfl rfl ?_
      refine pm_aload_n K dX0_total_5 (q := 6) rfl rfl rfl ?_
      refine pm_get K inX0 rfl (k := 3) (by decide) wlX0_7 rfl (by omega) h4 rfl dX0_total_6 (q := 9) rfl ?_
      refine pm_icmp_ge K dX0_total_9 (tgt := 47) (q := 12) rfl rfl (fun z => absurd z (nI_ge (by omega) (by omega))) (fun _ => ?_)
      have hg := h8 r (by omega)
      refine pm_iload_n K dX0_total_12 (q := 13) rfl rfl rfl ?_
      refine pm_bipush (v := 31) K dX0_total_13 (q := 15) rfl (by decide) ?_
      refine pm_bipush (v := 31) K dX0_total_15 (q := 17) rfl (by decide) ?_
      refine pm_aload_n K dX0_total_17 (q := 18) rfl rfl rfl ?_
      refine pm_get K inX0 rfl (k := 0) (by decide) wlX0_13 rfl (by omega) h4 rfl dX0_total_18 (q := 21) rfl ?_
      refine pm_iload_n K dX0_total_21 (q := 22) rfl rfl rfl ?_
      refine pm_ialdN K (by omega) h5 rfl (by omega) (by omega) dX0_total_22 (q := 23) rfl ?_
      refine pm_imul K dX0_total_23 (q := 24) rfl ?_
      refine pm_aload_n K dX0_total_24 (q := 25) rfl rfl rfl ?_
      refine pm_get K inX0 rfl (k := 1) (by decide) wlX0_17 rfl (by omega) h4 rfl dX0_total_25 (q := 28) rfl ?_
      refine pm_iload_n K dX0_total_28 (q := 29) rfl rfl rfl ?_
      refine pm_ialdN K (by omega) h6 rfl (by omega) (by omega) dX0_total_29 (q := 30) rfl ?_
      refine pm_iadd K dX0_total_30 (q := 31) rfl ?_
      refine pm_imul K dX0_total_31 (q := 32) rfl ?_
      refine pm_aload_n K dX0_total_32 (q := 33) rfl rfl rfl ?_
      refine pm_get K inX0 rfl (k := 2) (by decide) wlX0_20 rfl (by omega) h4 rfl dX0_total_33 (q := 36) rfl ?_
      refine pm_iload_n K dX0_total_36 (q := 37) rfl rfl rfl ?_
      refine pm_ialdN K (by omega) h7 rfl (by omega) (by omega) dX0_total_37 (q := 38) rfl ?_
      refine pm_iadd K dX0_total_38 (q := 39) rfl ?_
      refine pm_iadd K dX0_total_39 (q := 40) rfl ?_
      refine pm_istore_n K dX0_total_40 (q := 41) rfl rfl (by decide) rfl ?_
      refine pm_inc K dX0_total_41 (q := 44) rfl rfl (by decide) rfl ?_
      refine pm_goto K dX0_total_44 (q := 4) rfl ?_
      have := ih (r + 1) (by omega)
      rw [List.take_succ, hg, Option.toList_some, bg_sum_push] at this
      exact this
  have := loop l0.length 0 (by omega)
  rw [nI_0] at this
  exact this
