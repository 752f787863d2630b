/-! The store: laying rows in, taking them away. -/
def so_map (b m : Nat) (F : Nat → rw_T → rw_T) (L : Nat → rw_T) : Nat → rw_T := fun i => if b ≤ i ∧ i < b + m then F (i - b) (L i) else L i
theorem so_map_at {b m : Nat} {F : Nat → rw_T → rw_T} {L : Nat → rw_T} : so_map b m F L (b + m) = L (b + m) := by
  unfold so_map
  rw [if_neg (by omega)]
theorem so_map_at0 {m : Nat} {F : Nat → rw_T → rw_T} {L : Nat → rw_T} : so_map 0 m F L m = L m := by
  unfold so_map
  rw [if_neg (by omega)]
theorem so_map_0 (b : Nat) (F : Nat → rw_T → rw_T) (L : Nat → rw_T) : so_map b 0 F L = L := by
  funext i
  unfold so_map
  rw [if_neg (by omega)]
theorem so_map_succ (b m : Nat) (F : Nat → rw_T → rw_T) (L : Nat → rw_T) : so_map b (m + 1) F L = va_up (so_map b m F L) (b + m) (F m (L (b + m))) := by
  funext i
  unfold so_map va_up
  by_cases h : i = b + m
  · subst h
    rw [if_pos (by omega), if_pos rfl, show b + m - b = m by omega]
  · rw [if_neg h]
    dsimp only
    by_cases h2 : b ≤ i ∧ i < b + m
    · rw [if_pos h2, if_pos (by omega)]
    · rw [if_neg h2, if_neg (by omega)]
theorem so_map_succ0 (m : Nat) (F : Nat → rw_T → rw_T) (L : Nat → rw_T) : so_map 0 (m + 1) F L = va_up (so_map 0 m F L) m (F m (L m)) := by
  have := so_map_succ 0 m F L
  rw [Nat.zero_add] at this
  exact this
def so_lay1 (t : bg_T) (f : rw_T) : rw_T := rw_sort t.1 t.2.1 t.2.2 (rw_cols t.1 t.2.1 t.2.2 f)
def so_key (c sd : Int32) (t : bg_T) (f : rw_T) : rw_T := rw_sort (rw_col c (rw_cols t.1 t.2.1 t.2.2 f)) sd 0 (upd (upd (rw_cols t.1 t.2.1 t.2.2 f) 3 (rw_col c (rw_cols t.1 t.2.1 t.2.2 f))) 4 sd)
def rw_c3 (f : rw_T) : bg_T := (f 0, f 1, f 2)
theorem so_at.mv {n : Nat} {h h' : pm_H} {ix : Nat → Nat} {R : Nat → rw_T} {ts : List Int32} (H : so_at n h ix R ts) (hf : ∀ q, 15 ≤ q ∧ q ≤ 93 → h' q = h q) : so_at n h' ix R ts := by
  obtain ⟨g0, g15, ⟨pf, g16, gpf⟩, ⟨tf, g17, gtf⟩, gix, gR, gts⟩ := H
  exact ⟨g0, by rw [hf 15 (by omega)]; exact g15, ⟨pf, by rw [hf 16 (by omega)]; exact g16, gpf⟩, ⟨tf, by rw [hf 17 (by omega)]; exact g17, gtf⟩, gix, fun j hj => ⟨by rw [hf (18 + j) (by omega)]; exact (gR j hj).1, (gR j hj).2⟩, gts⟩
theorem so_L.mv {n : Nat} {h h' : pm_H} {L : Nat → rw_T} {ts : List Int32} (H : so_L n h L ts) (hf : ∀ q, 15 ≤ q ∧ q ≤ 93 → h' q = h q) : so_L n h' L ts := by
  obtain ⟨ix, R, HA, hi, hL⟩ := H
  exact ⟨ix, R, HA.mv hf, hi, hL⟩
set_option maxRecDepth 100000 in
theorem c_lay (l : Launch) {n : Nat} {h : pm_H} {L : Nat → rw_T} {ts : List Int32} (H : so_L n h L ts) {b len : Nat} {l0 : List bg_T} (B : bg_at n h b len l0) (hb : b + 3 < 15 ∨ 93 < b) : bM0 l yX5_lay cX5_lay 4 (some (.int)) 2 [.ref 15, .ref b] n h (fun r h' => r = some (.int (nI l0.length)) ∧ so_L n h' (so_map 0 l0.length (fun r f => so_lay1 (l0.getD r (0, 0, 0)) f) L) ts ∧ so_fr h h') := by
  refine pm_enter rfl (Nat.le_of_ble_eq_true rfl) (fun G K Z => ?_)
  refine pm_ic0 K dX5_lay_0 (q := 1) rfl ?_
  refine pm_istore_n K dX5_lay_1 (q := 2) rfl rfl (by decide) rfl ?_
  have loop : ∀ (k r : Nat) (h2 : pm_H) (x3 : Option Value), r + k = l0.length → so_L n h2 (so_map 0 r (fun r f => so_lay1 (l0.getD r (0, 0, 0)) f) L) ts → so_fr h h2 → G 0 0 2 [some (.ref 15), some (.ref b), some (.int (nI r)), x3] [] n h2 := by
    intro k
    induction k with
    | zero =>
      intro r h2 x3 hk HL hF
      have J2 : bg_at n h2 b len l0 := B.fr (Nat.le_refl _) (fun q a c => hF q (by omega))
      obtain ⟨h1, h2x, h3, h4, f1, f2, f3, h5, h6, h7, h8⟩ := J2
      refine pm_iload_n K dX5_lay_2 (q := 3) rfl rfl rfl ?_
      refine pm_aload_n K dX5_lay_3 (q := 4) rfl rfl rfl ?_
      refine pm_get K inX0 rfl (k := 3) (by decide) wlX5_45 rfl (by omega) h4 rfl dX5_lay_4 (q := 7) rfl ?_
      refine pm_icmp_ge K dX5_lay_7 (tgt := 60) (q := 10) rfl rfl (fun _ => ?_) (fun z => absurd z (fun z => z (nI_le (by omega) (by omega))))
      refine pm_aload_n K dX5_lay_60 (q := 61) rfl rfl rfl ?_
      refine pm_get K inX0 rfl (k := 3) (by decide) wlX5_45 rfl (by omega) h4 rfl dX5_lay_61 (q := 64) rfl ?_
      have er : r = l0.length := by omega
      subst er
      exact pm_iret Z dX5_lay_64 rfl rfl (Nat.le_of_ble_eq_true rfl) (Nat.le_of_ble_eq_true rfl) ⟨rfl, ⟨rfl, HL, hF⟩⟩
    | succ k ih =>
      intro r h2 x3 hk HL hF
      have J2 : bg_at n h2 b len l0 := B.fr (Nat.le_refl _) (fun q a c => hF q (by omega))
      obtain ⟨h1, h2x, h3, h4, f1, f2, f3, h5, h6, h7, h8⟩ := J2
      refine pm_iload_n K dX5_lay_2 (q := 3) rfl rfl rfl ?_
      refine pm_aload_n K dX5_lay_3 (q := 4) rfl rfl rfl ?_
      refine pm_get K inX0 rfl (k := 3) (by decide) wlX5_45 rfl (by omega) h4 rfl dX5_lay_4 (q := 7) rfl ?_
      refine pm_icmp_ge K dX5_lay_7 (tgt := 60) (q := 10) rfl rfl (fun z => absurd z (nI_ge (by omega) (by omega))) (fun _ => ?_)
      have hg := h8 r (by omega)
      obtain ⟨ix, R, HA, hi, hL⟩ := HL
      have g0 := HA.1
      have gx := HA.2.2.2.2.1 r (by omega)
      refine pm_aload_n K dX5_lay_10 (q := 11) rfl rfl rfl ?_
      refine pm_iload_n K dX5_lay_11 (q := 12) rfl rfl rfl ?_
      refine pm_callV0 K gw_ok wcX5_30 (c_at l HA (p := r) (by omega)) rfl (by have := HA.1; omega) HA.2.1 rfl rfl (Nat.le_of_ble_eq_true rfl) (by decide) dX5_lay_12 (q := 15) rfl (fun r1 h1 hp => ?_)
      obtain ⟨rfl, rfl⟩ := hp
      refine pm_astore_n K dX5_lay_15 (q := 16) rfl rfl (by decide) rfl ?_
      refine pm_aload_n K dX5_lay_16 (q := 17) rfl rfl rfl ?_
      refine pm_aload_n K dX5_lay_17 (q := 18) rfl rfl rfl ?_
      refine pm_get K inX0 rfl (k := 0) (by decide) wlX5_50 rfl (by omega) h4 rfl dX5_lay_18 (q := 21) rfl ?_
      refine pm_iload_n K dX5_lay_21 (q := 22) rfl rfl rfl ?_
      refine pm_ialdN K (by omega) h5 rfl (by omega) (by omega) dX5_lay_22 (q := 23) rfl ?_
      refine pm_aload_n K dX5_lay_23 (q := 24) rfl rfl rfl ?_
      refine pm_get K inX0 rfl (k := 1) (by decide) wlX5_53 rfl (by omega) h4 rfl dX5_lay_24 (q := 27) rfl ?_
      refine pm_iload_n K dX5_lay_27 (q := 28) rfl rfl rfl ?_
      refine pm_ialdN K (by omega) h6 rfl (by omega) (by omega) dX5_lay_28 (q := 29) rfl ?_
      refine pm_aload_n K dX5_lay_29 (q := 30) rfl rfl rfl ?_
      refine pm_get K inX0 rfl (k := 2) (by decide) wlX5_56 rfl (by omega) h4 rfl dX5_lay_30 (q := 33) rfl ?_
      refine pm_iload_n K dX5_lay_33 (q := 34) rfl rfl rfl ?_
      refine pm_ialdN K (by omega) h7 rfl (by omega) (by omega) dX5_lay_34 (q := 35) rfl ?_
      refine pm_callV0 K gw_ok wcX5_59 (c_setColumns l (by omega) (HA.row gx) (f1 r) (f2 r) (f3 r)) rfl (by omega) (HA.row gx) rfl rfl (Nat.le_of_ble_eq_true rfl) (by decide) dX5_lay_35 (q := 38) rfl (fun r4 h4x hp => ?_)
      obtain ⟨rfl, rfl⟩ := hp
      refine pm_aload_n K dX5_lay_38 (q := 39) rfl rfl rfl ?_
      refine pm_aload_n K dX5_lay_39 (q := 40) rfl rfl rfl ?_
      refine pm_get K inX3 rfl (k := 0) (by decide) wlX5_63 rfl (by omega) (pm_same _ _ _) rfl dX5_lay_40 (q := 43) rfl ?_
      refine pm_aload_n K dX5_lay_43 (q := 44) rfl rfl rfl ?_
      refine pm_get K inX3 rfl (k := 1) (by decide) wlX5_66 rfl (by omega) (pm_same _ _ _) rfl dX5_lay_44 (q := 47) rfl ?_
      refine pm_aload_n K dX5_lay_47 (q := 48) rfl rfl rfl ?_
      refine pm_get K inX3 rfl (k := 2) (by decide) wlX5_69 rfl (by omega) (pm_same _ _ _) rfl dX5_lay_48 (q := 51) rfl ?_
      refine pm_callV0 K gw_ok wcX5_72 (c_sortBy l (by omega) (pm_same _ _ _) (f1 r) (f2 r) (f3 r)) rfl (by omega) (pm_same _ _ _) rfl rfl (Nat.le_of_ble_eq_true rfl) (by decide) dX5_lay_51 (q := 54) rfl (fun r5 h5x hp => ?_)
      obtain ⟨rfl, rfl⟩ := hp
      rw [pm_up2]
      refine pm_inc K dX5_lay_54 (q := 57) rfl rfl (by decide) rfl ?_
      refine pm_goto K dX5_lay_57 (q := 2) rfl ?_
      refine ih (r + 1) _ _ (by omega) ?_ (hF.tr (so_fr.row gx _))
      have HM := HA.mod gx (f := so_lay1 (f1 r, f2 r, f3 r) (R (ix r))) ((HA.2.2.2.2.2.1 _ gx).2)
      have HC := so_L.cl HM hi hL (by omega)
      rw [so_map_succ0, List.getD_eq_getElem?_getD, hg, ← so_map_at0 (m := r) (F := _) (L := L), hL r (by omega)]
      exact HC
  have := loop l0.length 0 h none (by omega) (by rw [so_map_0]; exact H) so_fr.rf
  rw [nI_0] at this
  exact this
set_option maxRecDepth 100000 in
theorem c_layByKey (l : Launch) {n : Nat} {h : pm_H} {L : Nat → rw_T} {ts : List Int32} (H : so_L n h L ts) {b len : Nat} {l0 : List bg_T} (B : bg_at n h b len l0) (hb : b + 3 < 15 ∨ 93 < b) {p0 : Nat} (hp0 : p0 + l0.length ≤ 76) (c0 sd : Int32) : bM0 l yX5_layByKey cX5_layByKey 7 (some (.int)) 2 [.ref 15, .ref b, .int (nI p0), .int c0, .int sd] n h (fun r h' => r = some (.int (nI (p0 + l0.length))) ∧ so_L n h' (so_map p0 l0.length (fun r f => so_key c0 sd (l0.getD r (0, 0, 0)) f) L) ts ∧ so_fr h h') := by
  refine pm_enter rfl (Nat.le_of_ble_eq_true rfl) (fun G K Z => ?_)
  refine pm_ic0 K dX5_layByKey_0 (q := 1) rfl ?_
  refine pm_istore K dX5_layByKey_1 (q := 3) rfl (by decide) rfl ?_
  have loop : ∀ (k r : Nat) (h2 : pm_H) (x3 : Option Value), r + k = l0.length → so_L n h2 (so_map p0 r (fun r f => so_key c0 sd (l0.getD r (0, 0, 0)) f) L) ts → so_fr h h2 → G 0 0 3 [some (.ref 15), some (.ref b), some (.int (nI p0)), some (.int c0), some (.int sd), some (.int (nI r)), x3] [] n h2 := by
    intro k
    induction k with
    | zero =>
      intro r h2 x3 hk HL hF
      have J2 : bg_at n h2 b len l0 := B.fr (Nat.le_refl _) (fun q a c => hF q (by omega))
      obtain ⟨h1, h2x, h3, h4, f1, f2, f3, h5, h6, h7, h8⟩ := J2
      refine pm_iload K dX5_layByKey_3 (q := 5) rfl rfl ?_
      refine pm_aload_n K dX5_layByKey_5 (q := 6) rfl rfl rfl ?_
      refine pm_get K inX0 rfl (k := 3) (by decide) wlX5_45 rfl (by omega) h4 rfl dX5_layByKey_6 (q := 9) rfl ?_
      refine pm_icmp_ge K dX5_layByKey_9 (tgt := 85) (q := 12) rfl rfl (fun _ => ?_) (fun z => absurd z (fun z => z (nI_le (by omega) (by omega))))
      refine pm_iload_n K dX5_layByKey_85 (q := 86) rfl rfl rfl ?_
      refine pm_aload_n K dX5_layByKey_86 (q := 87) rfl rfl rfl ?_
      refine pm_get K inX0 rfl (k := 3) (by decide) wlX5_45 rfl (by omega) h4 rfl dX5_layByKey_87 (q := 90) rfl ?_
      refine pm_iadd K dX5_layByKey_90 (q := 91) rfl ?_
      have er : r = l0.length := by omega
      subst er
      exact pm_iret Z dX5_layByKey_91 rfl rfl (Nat.le_of_ble_eq_true rfl) (Nat.le_of_ble_eq_true rfl) ⟨rfl, ⟨by rw [nI_add], HL, hF⟩⟩
    | succ k ih =>
      intro r h2 x3 hk HL hF
      have J2 : bg_at n h2 b len l0 := B.fr (Nat.le_refl _) (fun q a c => hF q (by omega))
      obtain ⟨h1, h2x, h3, h4, f1, f2, f3, h5, h6, h7, h8⟩ := J2
      refine pm_iload K dX5_layByKey_3 (q := 5) rfl rfl ?_
      refine pm_aload_n K dX5_layByKey_5 (q := 6) rfl rfl rfl ?_
      refine pm_get K inX0 rfl (k := 3) (by decide) wlX5_45 rfl (by omega) h4 rfl dX5_layByKey_6 (q := 9) rfl ?_
      refine pm_icmp_ge K dX5_layByKey_9 (tgt := 85) (q := 12) rfl rfl (fun z => absurd z (nI_ge (by omega) (by omega))) (fun _ => ?_)
      have hg := h8 r (by omega)
      obtain ⟨ix, R, HA, hi, hL⟩ := HL
      have g0 := HA.1
      have gx := HA.2.2.2.2.1 (p0 + r) (by omega)
      refine pm_aload_n K dX5_layByKey_12 (q := 13) rfl rfl rfl ?_
      refine pm_iload_n K dX5_layByKey_13 (q := 14) rfl rfl rfl ?_
      refine pm_iload K dX5_layByKey_14 (q := 16) rfl rfl ?_
      refine pm_iadd K dX5_layByKey_16 (q := 17) rfl ?_
      rw [nI_add]
      refine pm_callV0 K gw_ok wcX5_30 (c_at l HA (p := p0 + r) (by omega)) rfl (by have := HA.1; omega) HA.2.1 rfl rfl (Nat.le_of_ble_eq_true rfl) (by decide) dX5_layByKey_17 (q := 20) rfl (fun r1 h1 hp => ?_)
      obtain ⟨rfl, rfl⟩ := hp
      refine pm_astore K dX5_layByKey_20 (q := 22) rfl (by decide) rfl ?_
      refine pm_aload K dX5_layByKey_22 (q := 24) rfl rfl ?_
      refine pm_aload_n K dX5_layByKey_24 (q := 25) rfl rfl rfl ?_
      refine pm_get K inX0 rfl (k := 0) (by decide) wlX5_50 rfl (by omega) h4 rfl dX5_layByKey_25 (q := 28) rfl ?_
      refine pm_iload K dX5_layByKey_28 (q := 30) rfl rfl ?_
      refine pm_ialdN K (by omega) h5 rfl (by omega) (by omega) dX5_layByKey_30 (q := 31) rfl ?_
      refine pm_aload_n K dX5_layByKey_31 (q := 32) rfl rfl rfl ?_
      refine pm_get K inX0 rfl (k := 1) (by decide) wlX5_53 rfl (by omega) h4 rfl dX5_layByKey_32 (q := 35) rfl ?_
      refine pm_iload K dX5_layByKey_35 (q := 37) rfl rfl ?_
      refine pm_ialdN K (by omega) h6 rfl (by omega) (by omega) dX5_layByKey_37 (q := 38) rfl ?_
      refine pm_aload_n K dX5_layByKey_38 (q := 39) rfl rfl rfl ?_
      refine pm_get K inX0 rfl (k := 2) (by decide) wlX5_56 rfl (by omega) h4 rfl dX5_layByKey_39 (q := 42) rfl ?_
      refine pm_iload K dX5_layByKey_42 (q := 44) rfl rfl ?_
      refine pm_ialdN K (by omega) h7 rfl (by omega) (by omega) dX5_layByKey_44 (q := 45) rfl ?_
      refine pm_callV0 K gw_ok wcX5_59 (c_setColumns l (by omega) (HA.row gx) (f1 r) (f2 r) (f3 r)) rfl (by omega) (HA.row gx) rfl rfl (Nat.le_of_ble_eq_true rfl) (by decide) dX5_layByKey_45 (q := 48) rfl (fun r4 h4x hp => ?_)
      obtain ⟨rfl, rfl⟩ := hp
      refine pm_aload K dX5_layByKey_48 (q := 50) rfl rfl ?_
      refine pm_aload K dX5_layByKey_50 (q := 52) rfl rfl ?_
      refine pm_iload_n K dX5_layByKey_52 (q := 53) rfl rfl rfl ?_
      refine pm_callV0 K gw_ok wcX5_75 (c_column l (by omega) (pm_same _ _ _) c0) rfl (by omega) (pm_same _ _ _) rfl rfl (Nat.le_of_ble_eq_true rfl) (by decide) dX5_layByKey_53 (q := 56) rfl (fun r5 h5x hp => ?_)
      obtain ⟨rfl, rfl⟩ := hp
      refine rw_putU K (k := 3) (by decide) (by decide) wlX5_79 (by omega) dX5_layByKey_56 (q := 59) rfl ?_
      refine pm_aload K dX5_layByKey_59 (q := 61) rfl rfl ?_
      refine pm_iload K dX5_layByKey_61 (q := 63) rfl rfl ?_
      refine rw_putU K (k := 4) (by decide) (by decide) wlX5_82 (by omega) dX5_layByKey_63 (q := 66) rfl ?_
      refine pm_aload K dX5_layByKey_66 (q := 68) rfl rfl ?_
      refine pm_aload K dX5_layByKey_68 (q := 70) rfl rfl ?_
      refine pm_get K inX3 rfl (k := 3) (by decide) wlX5_79 rfl (by omega) (pm_same _ _ _) rfl dX5_layByKey_70 (q := 73) rfl ?_
      refine pm_iload K dX5_layByKey_73 (q := 75) rfl rfl ?_
      refine pm_ic0 K dX5_layByKey_75 (q := 76) rfl ?_
      refine pm_callV0 K gw_ok wcX5_72 (c_sortBy l (by omega) (pm_same _ _ _) (rw_col c0 (rw_cols (f1 r) (f2 r) (f3 r) (R (ix (p0 + r))))) sd 0) rfl (by omega) (pm_same _ _ _) rfl rfl (Nat.le_of_ble_eq_true rfl) (by decide) dX5_layByKey_76 (q := 79) rfl (fun r6 h6x hp => ?_)
      obtain ⟨rfl, rfl⟩ := hp
      rw [pm_up2]
      refine pm_inc K dX5_layByKey_79 (q := 82) rfl rfl (by decide) rfl ?_
      refine pm_goto K dX5_layByKey_82 (q := 3) rfl ?_
      refine ih (r + 1) _ _ (by omega) ?_ (hF.tr (so_fr.row gx _))
      have HM := HA.mod gx (f := so_key c0 sd (f1 r, f2 r, f3 r) (R (ix (p0 + r)))) ((HA.2.2.2.2.2.1 _ gx).2)
      have HC := so_L.cl HM hi hL (by omega)
      rw [so_map_succ, List.getD_eq_getElem?_getD, hg, ← so_map_at (b := p0) (m := r) (F := _) (L := L), hL (p0 + r) (by omega)]
      exact HC
  have := loop l0.length 0 h none (by omega) (by rw [so_map_0]; exact H) so_fr.rf
  rw [nI_0] at this
  exact this
set_option maxRecDepth 100000 in
theorem c_takeAway (l : Launch) {n : Nat} {h : pm_H} {L : Nat → rw_T} {ts : List Int32} (H : so_L n h L ts) {b len : Nat} {l0 : List bg_T} (B : bg_at n h b len l0) (hb : b + 3 < 15 ∨ 93 < b) {m : Nat} (hm : m ≤ 76) : bM0 l yX5_takeAway cX5_takeAway 5 none 2 [.ref 15, .ref b, .int (nI m)] n h (fun r h' => r = none ∧ bg_at n h' b len (((nw_ls 0 m L).map rw_c3).take len) ∧ ∀ q, q < b ∨ b + 3 < q → h' q = h q) := by
  refine pm_enter rfl (Nat.le_of_ble_eq_true rfl) (fun G K Z => ?_)
  refine pm_aload_n K dX5_takeAway_0 (q := 1) rfl rfl rfl ?_
  refine pm_callV0 K gw_ok wcX5_88 (c_bclear l B) rfl (by have := B.1; omega) B.2.2.2.1 rfl rfl (Nat.le_of_ble_eq_true rfl) (by decide) dX5_takeAway_1 (q := 4) rfl (fun r1 h1 hp => ?_)
  obtain ⟨rfl, B1, F1⟩ := hp
  refine pm_ic0 K dX5_takeAway_4 (q := 5) rfl ?_
  refine pm_istore_n K dX5_takeAway_5 (q := 6) rfl rfl (by decide) rfl ?_
  have loop : ∀ (k r : Nat) (h2 : pm_H) (x3 : Option Value), r + k = m → bg_at n h2 b len (((nw_ls 0 r L).map rw_c3).take len) → (∀ q, q < b ∨ b + 3 < q → h2 q = h q) → G 0 0 6 [some (.ref 15), some (.ref b), some (.int (nI m)), some (.int (nI r)), x3] [] n h2 := by
    intro k
    induction k with
    | zero =>
      intro r h2 x3 hk HB hF
      refine pm_iload_n K dX5_takeAway_6 (q := 7) rfl rfl rfl ?_
      refine pm_iload_n K dX5_takeAway_7 (q := 8) rfl rfl rfl ?_
      refine pm_icmp_ge K dX5_takeAway_8 (tgt := 44) (q := 11) rfl rfl (fun _ => ?_) (fun z => absurd z (fun z => z (nI_le (by omega) (by omega))))
      have er : r = m := by omega
      subst er
      exact pm_vret Z dX5_takeAway_44 rfl (Nat.le_of_ble_eq_true rfl) (Nat.le_of_ble_eq_true rfl) ⟨rfl, ⟨rfl, HB, hF⟩⟩
    | succ k ih =>
      intro r h2 x3 hk HB hF
      refine pm_iload_n K dX5_takeAway_6 (q := 7) rfl rfl rfl ?_
      refine pm_iload_n K dX5_takeAway_7 (q := 8) rfl rfl rfl ?_
      refine pm_icmp_ge K dX5_takeAway_8 (tgt := 44) (q := 11) rfl rfl (fun z => absurd z (nI_ge (by omega) (by omega))) (fun _ => ?_)
      obtain ⟨ix, R, HA0, hi, hL⟩ := H
      have HA := so_at.mv HA0 (fun q hq => hF q (by omega))
      have g0 := HA.1
      have gx := HA.2.2.2.2.1 r (by omega)
      refine pm_aload_n K dX5_takeAway_11 (q := 12) rfl rfl rfl ?_
      refine pm_iload_n K dX5_takeAway_12 (q := 13) rfl rfl rfl ?_
      refine pm_callV0 K gw_ok wcX5_30 (c_at l HA (p := r) (by omega)) rfl (by have := HA.1; omega) HA.2.1 rfl rfl (Nat.le_of_ble_eq_true rfl) (by decide) dX5_takeAway_13 (q := 16) rfl (fun r1 h1 hp => ?_)
      obtain ⟨rfl, rfl⟩ := hp
      refine pm_astore K dX5_takeAway_16 (q := 18) rfl (by decide) rfl ?_
      refine pm_aload_n K dX5_takeAway_18 (q := 19) rfl rfl rfl ?_
      refine pm_aload K dX5_takeAway_19 (q := 21) rfl rfl ?_
      refine pm_get K inX3 rfl (k := 0) (by decide) wlX5_63 rfl (by omega) (HA.row gx) rfl dX5_takeAway_21 (q := 24) rfl ?_
      refine pm_aload K dX5_takeAway_24 (q := 26) rfl rfl ?_
      refine pm_get K inX3 rfl (k := 1) (by decide) wlX5_66 rfl (by omega) (HA.row gx) rfl dX5_takeAway_26 (q := 29) rfl ?_
      refine pm_aload K dX5_takeAway_29 (q := 31) rfl rfl ?_
      refine pm_get K inX3 rfl (k := 2) (by decide) wlX5_69 rfl (by omega) (HA.row gx) rfl dX5_takeAway_31 (q := 34) rfl ?_
      refine pm_callV0 K gw_ok wcX5_91 (c_hold l HB (R (ix r) 0) (R (ix r) 1) (R (ix r) 2)) rfl (by have := HB.1; omega) HB.2.2.2.1 rfl rfl (Nat.le_of_ble_eq_true rfl) (by decide) dX5_takeAway_34 (q := 37) rfl (fun r3 h3 hp => ?_)
      obtain ⟨rfl, HB2, F2⟩ := hp
      refine pm_pop K dX5_takeAway_37 (q := 38) rfl ?_
      refine pm_inc K dX5_takeAway_38 (q := 41) rfl rfl (by decide) rfl ?_
      refine pm_goto K dX5_takeAway_41 (q := 6) rfl ?_
      refine ih (r + 1) h3 _ (by omega) ?_ (fun q hq => (F2 q hq).trans (hF q hq))
      rw [nw_ls_succ, List.map_append, List.map_cons, List.map_nil, ← bg_take2, Nat.zero_add, hL r (by omega)]
      exact HB2
  have := loop m 0 h1 none (by omega) (by simpa [nw_ls] using B1) F1
  rw [nI_0] at this
  exact this
set_option maxRecDepth 100000 in
theorem c_sclear (l : Launch) {n : Nat} {h : pm_H} {L : Nat → rw_T} {ts : List Int32} (H : so_L n h L ts) : bM0 l yX5_clear cX5_clear 2 none 2 [.ref 15] n h (fun r h' => r = none ∧ so_L n h' (so_map 0 76 (fun _ f => rw_disc f) L) ts ∧ so_fr h h') := by
  refine pm_enter rfl (Nat.le_of_ble_eq_true rfl) (fun G K Z => ?_)
  refine pm_ic0 K dX5_clear_0 (q := 1) rfl ?_
  refine pm_istore_n K dX5_clear_1 (q := 2) rfl rfl (by decide) rfl ?_
  have loop : ∀ (k r : Nat) (h2 : pm_H), r + k = 76 → so_L n h2 (so_map 0 r (fun _ f => rw_disc f) L) ts → so_fr h h2 → G 0 0 2 [some (.ref 15), some (.int (nI r))] [] n h2 := by
    intro k
    induction k with
    | zero =>
      intro r h2 hk HL hF
      refine pm_iload_n K dX5_clear_2 (q := 3) rfl rfl rfl ?_
      refine pm_bipush (v := nI 76) K dX5_clear_3 (q := 5) rfl (by decide) ?_
      refine pm_icmp_ge K dX5_clear_5 (tgt := 23) (q := 8) rfl rfl (fun _ => ?_) (fun z => absurd z (fun z => z (nI_le (by omega) (by omega))))
      have er : r = 76 := by omega
      subst er
      exact pm_vret Z dX5_clear_23 rfl (Nat.le_of_ble_eq_true rfl) (Nat.le_of_ble_eq_true rfl) ⟨rfl, ⟨rfl, HL, hF⟩⟩
    | succ k ih =>
      intro r h2 hk HL hF
      refine pm_iload_n K dX5_clear_2 (q := 3) rfl rfl rfl ?_
      refine pm_bipush (v := nI 76) K dX5_clear_3 (q := 5) rfl (by decide) ?_
      refine pm_icmp_ge K dX5_clear_5 (tgt := 23) (q := 8) rfl rfl (fun z => absurd z (nI_ge (by omega) (by decide))) (fun _ => ?_)
      obtain ⟨ix, R, HA, hi, hL⟩ := HL
      have H := HA
      obtain ⟨g0, g15, ⟨pf, g16, gpf⟩, ⟨tf, g17, gtf⟩, gix, gR, gts⟩ := H
      have gx := gix r (by omega)
      refine pm_aload_n K dX5_clear_8 (q := 9) rfl rfl rfl ?_
      refine pm_get K inX5 rfl (k := 0) (by decide) wlX5_13 rfl (by omega) g15 rfl dX5_clear_9 (q := 12) rfl ?_
      refine pm_iload_n K dX5_clear_12 (q := 13) rfl rfl rfl ?_
      refine pm_aaldN K (by omega) g16 rfl (by omega) (by decide) (gpf r (by omega)) dX5_clear_13 (q := 14) rfl ?_
      refine pm_callV0 K gw_ok wcX5_85 (c_discard l (by omega) (HA.row gx)) rfl (by omega) (HA.row gx) rfl rfl (Nat.le_of_ble_eq_true rfl) (by decide) dX5_clear_14 (q := 17) rfl (fun r1 h1 hp => ?_)
      obtain ⟨rfl, rfl⟩ := hp
      refine pm_inc K dX5_clear_17 (q := 20) rfl rfl (by decide) rfl ?_
      refine pm_goto K dX5_clear_20 (q := 2) rfl ?_
      refine ih (r + 1) _ (by omega) ?_ (hF.tr (so_fr.row gx _))
      have HM := HA.mod gx (f := rw_disc (R (ix r))) (Or.inl rfl)
      have HC := so_L.cl HM hi hL (by omega)
      rw [so_map_succ0, ← so_map_at0 (m := r) (F := _) (L := L), hL r (by omega)]
      exact HC
  have := loop 76 0 h (by omega) (by rw [so_map_0]; exact H) so_fr.rf
  rw [nI_0] at this
  exact this
