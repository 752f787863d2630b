/-! The operators: filter and pick. -/
def bg_col (k : Int32) (t : bg_T) : Int32 := if k = 0 then t.1 else if k = 1 then t.2.1 else t.2.2
theorem rw_col_c3 (k : Int32) (f : rw_T) : rw_col k f = bg_col k (rw_c3 f) := rfl
/-- kept with its rank, or discarded -/
def op_mark (live : Nat → Bool) (p : Nat) (f : rw_T) : rw_T := if live p = true then rw_keep (nI p) (nI (nw_mk live p).length) f else rw_disc f
theorem op_mark_t {live : Nat → Bool} {p : Nat} {f : rw_T} (h : live p = true) : op_mark live p f = rw_keep (nI p) (nI (nw_mk live p).length) f := if_pos h
theorem op_mark_f {live : Nat → Bool} {p : Nat} {f : rw_T} (h : live p = false) : op_mark live p f = rw_disc f := if_neg (by rw [h]; decide)
theorem nw_mk_t {live : Nat → Bool} {p : Nat} (h : live p = true) : (nw_mk live (p + 1)).length = (nw_mk live p).length + 1 := by
  rw [nw_mk_succ, if_pos h, List.length_append]
  rfl
theorem nw_mk_f {live : Nat → Bool} {p : Nat} (h : live p = false) : (nw_mk live (p + 1)).length = (nw_mk live p).length := by
  rw [nw_mk_succ, if_neg (by rw [h]; decide), List.append_nil]
theorem op_mark_c3 (live : Nat → Bool) (p : Nat) (f : rw_T) : rw_c3 (op_mark live p f) = rw_c3 f := by
  unfold op_mark
  split <;> rfl
theorem so_map_in {m p : Nat} {F : Nat → rw_T → rw_T} {M : Nat → rw_T} (h : p < m) : so_map 0 m F M p = F p (M p) := by
  unfold so_map
  rw [if_pos (by omega), Nat.sub_zero]
theorem op_marked {live : Nat → Bool} {M : Nat → rw_T} {m : Nat} (hm : m ≤ 76) : (nw_ls 0 (nw_mk live m).length (nw_sqs rw_wb 0 m (so_k m) (so_map 0 m (op_mark live) M))).map rw_c3 = (nw_mk live m).map (fun p => rw_c3 (M p)) := by
  rw [so_squeezed (live := live) (fun p hp hl => ?_) (fun p hp hl => ?_), List.map_map]
  · apply List.map_congr_left
    intro p hp
    have := (nw_mk_mem.mp hp).1
    show rw_c3 (so_map 0 m (op_mark live) M p) = _
    rw [so_map_in this, op_mark_c3]
  · rw [so_map_in hp, op_mark_t hl]
    exact rw_keep_wb (nw_mk_le live p) (by omega) _
  · rw [so_map_in hp, op_mark_f hl]
    exact rw_dead_disc _
theorem so_lays_c {l : List bg_T} {L : Nat → rw_T} {p : Nat} (h : p < l.length) : rw_c3 (so_lays l L p) = l.getD p (0, 0, 0) := by
  rw [so_lays_at h]
  rfl
theorem mk_congr {α : Type} {live live' : Nat → Bool} {g g' : Nat → α} {n : Nat} (h1 : ∀ p, p < n → live p = live' p) (h2 : ∀ p, p < n → g p = g' p) : (nw_mk live n).map g = (nw_mk live' n).map g' := by
  have e : nw_mk live n = nw_mk live' n := List.filter_congr (fun p hp => h1 p (List.mem_range.mp hp))
  rw [e]
  apply List.map_congr_left
  intro p hp
  exact h2 p (nw_mk_mem.mp hp).1
theorem op_fil {l : List bg_T} {L : Nat → rw_T} {c op x : Int32} {live : Nat → Bool} (h : ∀ p, live p = op_m (rw_col c (so_lays l L p)) op x) : (nw_mk live l.length).map (fun p => rw_c3 (so_lays l L p)) = l.filter (fun t => op_m (bg_col c t) op x) := by
  rw [mk_congr (live' := fun p => (fun t => op_m (bg_col c t) op x) (l.getD p (0, 0, 0))) (g' := fun p => l.getD p (0, 0, 0)) (fun p hp => by rw [h, rw_col_c3, so_lays_c hp]) (fun p hp => so_lays_c hp)]
  refine (mk_filter (fun t => op_m (bg_col c t) op x) (fun p => l.getD p (0, 0, 0)) l.length).trans ?_
  rw [mk_getD]
theorem op_picked {l : List bg_T} {L : Nat → rw_T} {a b c : Int32} : (nw_ls 0 l.length (so_map 0 l.length (fun _ f => rw_cols (rw_col a f) (rw_col b f) (rw_col c f) f) (so_lays l L))).map rw_c3 = l.map (fun t => (bg_col a t, bg_col b t, bg_col c t)) := by
  apply List.ext_getElem?
  intro i
  rw [List.getElem?_map, List.getElem?_map]
  by_cases h : i < l.length
  · have e := so_lays_c (L := L) h
    rw [nw_ls_get _ h, Nat.zero_add, so_map_in h, List.getElem?_eq_getElem h]
    rw [List.getD_eq_getElem?_getD, List.getElem?_eq_getElem h] at e
    have e : rw_c3 (so_lays l L i) = l[i] := e
    rw [Option.map_some, Option.map_some, ← e]
    rfl
  · rw [List.getElem?_eq_none (by rw [nw_ls_len]; omega), List.getElem?_eq_none (by omega)]
    rfl
set_option maxRecDepth 100000 in
theorem c_keepMatching (l : Launch) {n : Nat} {h : pm_H} {L : Nat → rw_T} {ts : List Int32} (H : so_L n h L ts) (hn : 111 < n) (O : h 94 = pm_O cOps [.ref 15]) {b len : Nat} {l0 : List bg_T} (B : bg_at n h b len l0) (hb : b + 3 < 15 ∨ 96 < b) (c0 op x : Int32) : bM0 l yX2_keepMatching cX2_keepMatching 9 none 3 [.ref 94, .ref b, .int c0, .int op, .int x] n h (fun r h' => r = none ∧ op_P n h b len ts h' (l0.filter (fun t => op_m (bg_col c0 t) op x)) (tr_sc 0 l0.length ++ tr_sqs 0 l0.length (so_k l0.length))) := by
  refine pm_enter rfl (Nat.le_of_ble_eq_true rfl) (fun G K Z => ?_)
  have hlen : l0.length ≤ 24 := Nat.le_trans B.2.1 B.2.2.1
  obtain ⟨ix0, R0, HA0, hi0, hL0⟩ := id H
  refine pm_aload_n K dX2_keepMatching_0 (q := 1) rfl rfl rfl ?_
  refine pm_get K inX2 rfl (k := 0) (by decide) wlX2_9 rfl (by omega) O rfl dX2_keepMatching_1 (q := 4) rfl ?_
  refine pm_aload_n K dX2_keepMatching_4 (q := 5) rfl rfl rfl ?_
  refine pm_callV0 K gw_ok wcX2_15 (c_lay l H B (by omega)) rfl (by omega) HA0.2.1 rfl rfl (Nat.le_of_ble_eq_true rfl) (by decide) dX2_keepMatching_5 (q := 8) rfl (fun r1 h1 hp => ?_)
  obtain ⟨rfl, HL1, F1⟩ := hp
  refine pm_istore K dX2_keepMatching_8 (q := 10) rfl (by decide) rfl ?_
  refine pm_ic0 K dX2_keepMatching_10 (q := 11) rfl ?_
  refine pm_istore K dX2_keepMatching_11 (q := 13) rfl (by decide) rfl ?_
  refine pm_ic0 K dX2_keepMatching_13 (q := 14) rfl ?_
  refine pm_istore K dX2_keepMatching_14 (q := 16) rfl (by decide) rfl ?_
  obtain ⟨M, hM⟩ : ∃ z, z = so_lays l0 L := ⟨_, rfl⟩
  obtain ⟨live, hlv⟩ : ∃ z : Nat → Bool, ∀ p, z p = op_m (rw_col c0 (M p)) op x := ⟨_, fun _ => rfl⟩
  have HL1 : so_L n h1 M ts := by rw [hM]; exact HL1
  have loop : ∀ (k p : Nat) (h2 : pm_H) (x8 : Option Value), p + k = l0.length → so_L n h2 (so_map 0 p (op_mark live) M) (tk (ts ++ tr_sc 0 p)) → so_fr h h2 → G 0 0 16 [some (.ref 94), some (.ref b), some (.int c0), some (.int op), some (.int x), some (.int (nI l0.length)), some (.int (nI (nw_mk live p).length)), some (.int (nI p)), x8] [] n h2 := by
    intro k
    induction k with
    | zero =>
      intro p h2 x8 hk HL hF
      refine pm_iload K dX2_keepMatching_16 (q := 18) rfl rfl ?_
      refine pm_iload K dX2_keepMatching_18 (q := 20) rfl rfl ?_
      refine pm_icmp_ge K dX2_keepMatching_20 (tgt := 86) (q := 23) rfl rfl (fun _ => ?_) (fun z => absurd z (fun z => z (nI_le (by omega) (by omega))))
      have ep : p = l0.length := by omega
      subst ep
      obtain ⟨ix2, R2, HA2, hi2, hL2⟩ := id HL
      have hml := nw_mk_le live l0.length
      refine pm_aload_n K dX2_keepMatching_86 (q := 87) rfl rfl rfl ?_
      refine pm_get K inX2 rfl (k := 0) (by decide) wlX2_9 rfl (by omega) ((hF 94 (by omega)).trans O) rfl dX2_keepMatching_87 (q := 90) rfl ?_
      refine pm_ic0 K dX2_keepMatching_90 (q := 91) rfl ?_
      refine pm_iload K dX2_keepMatching_91 (q := 93) rfl rfl ?_
      refine pm_callV0 K gw_ok wcX2_53 (c_squeeze l HL (b0 := 0) (m0 := l0.length) (by omega)) rfl (by omega) HA2.2.1 rfl rfl (Nat.le_of_ble_eq_true rfl) (by decide) dX2_keepMatching_93 (q := 96) rfl (fun r3 h3 hp => ?_)
      obtain ⟨rfl, HL3, F3⟩ := hp
      have hF3 := hF.tr F3
      obtain ⟨ix3, R3, HA3, hi3, hL3⟩ := id HL3
      have B3 : bg_at n h3 b len l0 := B.fr (Nat.le_refl _) (fun q a c => hF3 q (by omega))
      refine pm_aload_n K dX2_keepMatching_96 (q := 97) rfl rfl rfl ?_
      refine pm_get K inX2 rfl (k := 0) (by decide) wlX2_9 rfl (by omega) ((hF3 94 (by omega)).trans O) rfl dX2_keepMatching_97 (q := 100) rfl ?_
      refine pm_aload_n K dX2_keepMatching_100 (q := 101) rfl rfl rfl ?_
      refine pm_iload K dX2_keepMatching_101 (q := 103) rfl rfl ?_
      refine pm_callV0 K gw_ok wcX2_25 (c_takeAway l HL3 B3 (by omega) (m := (nw_mk live l0.length).length) (by omega)) rfl (by omega) HA3.2.1 rfl rfl (Nat.le_of_ble_eq_true rfl) (by decide) dX2_keepMatching_103 (q := 106) rfl (fun r4 h4 hp => ?_)
      obtain ⟨rfl, B4, F4⟩ := hp
      have e0 : (nw_mk live l0.length).map (fun p => rw_c3 (M p)) = l0.filter (fun t => op_m (bg_col c0 t) op x) := by
        rw [hM] at hlv ⊢
        exact op_fil hlv
      rw [op_marked (by omega), e0, List.take_of_length_le (Nat.le_trans (List.length_filter_le _ _) B.2.1)] at B4
      rw [tk_app, List.append_assoc] at HL3
      exact pm_vret Z dX2_keepMatching_106 rfl (Nat.le_of_ble_eq_true rfl) (Nat.le_of_ble_eq_true rfl) ⟨rfl, ⟨rfl, ⟨_, HL3.mv (fun q hq => F4 q (by omega))⟩, B4, fun q a c => by rw [F4 q c, hF3 q a]⟩⟩
    | succ k ih =>
      intro p h2 x8 hk HL hF
      refine pm_iload K dX2_keepMatching_16 (q := 18) rfl rfl ?_
      refine pm_iload K dX2_keepMatching_18 (q := 20) rfl rfl ?_
      refine pm_icmp_ge K dX2_keepMatching_20 (tgt := 86) (q := 23) rfl rfl (fun z => absurd z (nI_ge (by omega) (by omega))) (fun _ => ?_)
      obtain ⟨ix, R, HA, hi, hL⟩ := HL
      have gx := HA.2.2.2.2.1 (p) (by omega)
      refine pm_aload_n K dX2_keepMatching_23 (q := 24) rfl rfl rfl ?_
      refine pm_get K inX2 rfl (k := 0) (by decide) wlX2_9 rfl (by omega) ((hF 94 (by omega)).trans O) rfl dX2_keepMatching_24 (q := 27) rfl ?_
      refine pm_iload K dX2_keepMatching_27 (q := 29) rfl rfl ?_
      refine pm_callV0 K gw_ok wcX2_29 (c_read l HA (p := p) (by omega)) rfl (by omega) HA.2.1 rfl rfl (Nat.le_of_ble_eq_true rfl) (by decide) dX2_keepMatching_29 (q := 32) rfl (fun r1 h1 hp => ?_)
      obtain ⟨rfl, H1, F1⟩ := hp
      have eM : R (ix p) = M p := by rw [← hL p (by omega), so_map_at0]
      refine pm_astore K dX2_keepMatching_32 (q := 34) rfl (by decide) rfl ?_
      refine pm_aload K dX2_keepMatching_34 (q := 36) rfl rfl ?_
      refine pm_iload_n K dX2_keepMatching_36 (q := 37) rfl rfl rfl ?_
      refine pm_callV0 K gw_ok wcX2_33 (c_column l (by omega) (H1.row gx) c0) rfl (by omega) (H1.row gx) rfl rfl (Nat.le_of_ble_eq_true rfl) (by decide) dX2_keepMatching_37 (q := 40) rfl (fun r5 h5 hp => ?_)
      obtain ⟨rfl, e1⟩ := hp
      rw [e1]
      refine pm_iload_n K dX2_keepMatching_40 (q := 41) rfl rfl rfl ?_
      refine pm_iload K dX2_keepMatching_41 (q := 43) rfl rfl ?_
      refine pm_callS0 K gw_ok wcX2_39 (c_matches l (rw_col c0 (R (ix p))) op x) rfl rfl (Nat.le_of_ble_eq_true rfl) (by decide) dX2_keepMatching_43 (q := 46) rfl (fun r6 h6 hp => ?_)
      obtain ⟨rfl, e2⟩ := hp
      rw [e2, eM, ← hlv p]
      cases hv : live p
      · refine pm_if_eq K dX2_keepMatching_46 (tgt := 64) (q := 49) rfl rfl (fun _ => ?_) (fun z => absurd z (fun z => z rfl))
        refine pm_aload K dX2_keepMatching_64 (q := 66) rfl rfl ?_
        refine pm_callV0 K gw_ok wcX2_46 (c_discard l (by omega) (H1.row gx)) rfl (by omega) (H1.row gx) rfl rfl (Nat.le_of_ble_eq_true rfl) (by decide) dX2_keepMatching_66 (q := 69) rfl (fun r7 h7 hp => ?_)
        obtain ⟨rfl, rfl⟩ := hp
        have H2 := H1.mod gx (f := rw_disc (R (ix p))) (Or.inl rfl)
        refine pm_aload_n K dX2_keepMatching_69 (q := 70) rfl rfl rfl ?_
        refine pm_get K inX2 rfl (k := 0) (by decide) wlX2_9 rfl (by omega) (pm_ne (by omega) ((F1 94 (by omega) (by omega)).trans ((hF 94 (by omega)).trans O))) rfl dX2_keepMatching_70 (q := 73) rfl ?_
        refine pm_iload K dX2_keepMatching_73 (q := 75) rfl rfl ?_
        refine pm_aload K dX2_keepMatching_75 (q := 77) rfl rfl ?_
        refine pm_callV0 K gw_ok wcX2_49 (c_write l H2 (p := p) (by omega) gx) rfl (by omega) (pm_ne (by omega) H1.2.1) rfl rfl (Nat.le_of_ble_eq_true rfl) (by decide) dX2_keepMatching_77 (q := 80) rfl (fun r9 h9 hp => ?_)
        obtain ⟨rfl, H3, F3⟩ := hp
        rw [so_id] at H3
        simp only [tk_app, List.append_assoc, List.cons_append, List.nil_append] at H3
        have hF9 : so_fr h h9 := fun q hq => by rw [F3 q (by omega), pm_ne (by omega) rfl, F1 q (by omega) (by omega), hF q hq]
        refine pm_inc K dX2_keepMatching_80 (q := 83) rfl rfl (by decide) rfl ?_
        refine pm_goto K dX2_keepMatching_83 (q := 16) rfl ?_
        have HC := so_L.cl H3 hi hL (by omega)
        have := ih (p + 1) h9 (some (.ref (18 + ix p))) (by omega) (by rw [so_map_succ0, op_mark_f hv, tr_sc_s, Nat.zero_add, ← eM]; exact HC) hF9
        rw [nw_mk_f hv] at this
        exact this
      · refine pm_if_eq K dX2_keepMatching_46 (tgt := 64) (q := 49) rfl rfl (fun z => absurd z (by decide)) (fun _ => ?_)
        refine pm_aload K dX2_keepMatching_49 (q := 51) rfl rfl ?_
        refine pm_iload K dX2_keepMatching_51 (q := 53) rfl rfl ?_
        refine pm_iload K dX2_keepMatching_53 (q := 55) rfl rfl ?_
        refine pm_callV0 K gw_ok wcX2_43 (c_keep l (by omega) (H1.row gx) (nI p) (nI (nw_mk live p).length)) rfl (by omega) (H1.row gx) rfl rfl (Nat.le_of_ble_eq_true rfl) (by decide) dX2_keepMatching_55 (q := 58) rfl (fun r7 h7 hp => ?_)
        obtain ⟨rfl, rfl⟩ := hp
        refine pm_inc K dX2_keepMatching_58 (q := 61) rfl rfl (by decide) rfl ?_
        refine pm_goto K dX2_keepMatching_61 (q := 69) rfl ?_
        have H2 := H1.mod gx (f := rw_keep (nI p) (nI (nw_mk live p).length) (R (ix p))) (Or.inr rfl)
        refine pm_aload_n K dX2_keepMatching_69 (q := 70) rfl rfl rfl ?_
        refine pm_get K inX2 rfl (k := 0) (by decide) wlX2_9 rfl (by omega) (pm_ne (by omega) ((F1 94 (by omega) (by omega)).trans ((hF 94 (by omega)).trans O))) rfl dX2_keepMatching_70 (q := 73) rfl ?_
        refine pm_iload K dX2_keepMatching_73 (q := 75) rfl rfl ?_
        refine pm_aload K dX2_keepMatching_75 (q := 77) rfl rfl ?_
        refine pm_callV0 K gw_ok wcX2_49 (c_write l H2 (p := p) (by omega) gx) rfl (by omega) (pm_ne (by omega) H1.2.1) rfl rfl (Nat.le_of_ble_eq_true rfl) (by decide) dX2_keepMatching_77 (q := 80) rfl (fun r9 h9 hp => ?_)
        obtain ⟨rfl, H3, F3⟩ := hp
        rw [so_id] at H3
        simp only [tk_app, List.append_assoc, List.cons_append, List.nil_append] at H3
        have hF9 : so_fr h h9 := fun q hq => by rw [F3 q (by omega), pm_ne (by omega) rfl, F1 q (by omega) (by omega), hF q hq]
        refine pm_inc K dX2_keepMatching_80 (q := 83) rfl rfl (by decide) rfl ?_
        refine pm_goto K dX2_keepMatching_83 (q := 16) rfl ?_
        have HC := so_L.cl H3 hi hL (by omega)
        have := ih (p + 1) h9 (some (.ref (18 + ix p))) (by omega) (by rw [so_map_succ0, op_mark_t hv, tr_sc_s, Nat.zero_add, ← eM]; exact HC) hF9
        rw [nw_mk_t hv] at this
        exact this
  have := loop l0.length 0 h1 none (by omega) (by rw [so_map_0, tr_sc, List.append_nil]; exact HL1.tke) F1
  exact this
set_option maxRecDepth 100000 in
theorem c_rearrange (l : Launch) {n : Nat} {h : pm_H} {L : Nat → rw_T} {ts : List Int32} (H : so_L n h L ts) (hn : 111 < n) (O : h 94 = pm_O cOps [.ref 15]) {b len : Nat} {l0 : List bg_T} (B : bg_at n h b len l0) (hb : b + 3 < 15 ∨ 96 < b) (a0 b0 c0 : Int32) : bM0 l yX2_rearrange cX2_rearrange 8 none 3 [.ref 94, .ref b, .int a0, .int b0, .int c0] n h (fun r h' => r = none ∧ op_P n h b len ts h' (l0.map (fun t => (bg_col a0 t, bg_col b0 t, bg_col c0 t))) (tr_sc 0 l0.length)) := by
  refine pm_enter rfl (Nat.le_of_ble_eq_true rfl) (fun G K Z => ?_)
  have hlen : l0.length ≤ 24 := Nat.le_trans B.2.1 B.2.2.1
  obtain ⟨ix0, R0, HA0, hi0, hL0⟩ := id H
  refine pm_aload_n K dX2_rearrange_0 (q := 1) rfl rfl rfl ?_
  refine pm_get K inX2 rfl (k := 0) (by decide) wlX2_9 rfl (by omega) O rfl dX2_rearrange_1 (q := 4) rfl ?_
  refine pm_aload_n K dX2_rearrange_4 (q := 5) rfl rfl rfl ?_
  refine pm_callV0 K gw_ok wcX2_15 (c_lay l H B (by omega)) rfl (by omega) HA0.2.1 rfl rfl (Nat.le_of_ble_eq_true rfl) (by decide) dX2_rearrange_5 (q := 8) rfl (fun r1 h1 hp => ?_)
  obtain ⟨rfl, HL1, F1⟩ := hp
  refine pm_istore K dX2_rearrange_8 (q := 10) rfl (by decide) rfl ?_
  refine pm_ic0 K dX2_rearrange_10 (q := 11) rfl ?_
  refine pm_istore K dX2_rearrange_11 (q := 13) rfl (by decide) rfl ?_
  obtain ⟨M, hM⟩ : ∃ z, z = so_lays l0 L := ⟨_, rfl⟩
  have HL1 : so_L n h1 M ts := by rw [hM]; exact HL1
  have loop : ∀ (k p : Nat) (h2 : pm_H) (x8 : Option Value), p + k = l0.length → so_L n h2 (so_map 0 p (fun _ f => rw_cols (rw_col a0 f) (rw_col b0 f) (rw_col c0 f) f) M) (tk (ts ++ tr_sc 0 p)) → so_fr h h2 → G 0 0 13 [some (.ref 94), some (.ref b), some (.int a0), some (.int b0), some (.int c0), some (.int (nI l0.length)), some (.int (nI p)), x8] [] n h2 := by
    intro k
    induction k with
    | zero =>
      intro p h2 x8 hk HL hF
      refine pm_iload K dX2_rearrange_13 (q := 15) rfl rfl ?_
      refine pm_iload K dX2_rearrange_15 (q := 17) rfl rfl ?_
      refine pm_icmp_ge K dX2_rearrange_17 (tgt := 72) (q := 20) rfl rfl (fun _ => ?_) (fun z => absurd z (fun z => z (nI_le (by omega) (by omega))))
      have ep : p = l0.length := by omega
      subst ep
      obtain ⟨ix2, R2, HA2, hi2, hL2⟩ := id HL
      have B3 : bg_at n h2 b len l0 := B.fr (Nat.le_refl _) (fun q a c => hF q (by omega))
      refine pm_aload_n K dX2_rearrange_72 (q := 73) rfl rfl rfl ?_
      refine pm_get K inX2 rfl (k := 0) (by decide) wlX2_9 rfl (by omega) ((hF 94 (by omega)).trans O) rfl dX2_rearrange_73 (q := 76) rfl ?_
      refine pm_aload_n K dX2_rearrange_76 (q := 77) rfl rfl rfl ?_
      refine pm_iload K dX2_rearrange_77 (q := 79) rfl rfl ?_
      refine pm_callV0 K gw_ok wcX2_25 (c_takeAway l HL B3 (by omega) (m := l0.length) (by omega)) rfl (by omega) HA2.2.1 rfl rfl (Nat.le_of_ble_eq_true rfl) (by decide) dX2_rearrange_79 (q := 82) rfl (fun r4 h4 hp => ?_)
      obtain ⟨rfl, B4, F4⟩ := hp
      rw [hM, op_picked, List.take_of_length_le (by rw [List.length_map]; exact B.2.1)] at B4
      exact pm_vret Z dX2_rearrange_82 rfl (Nat.le_of_ble_eq_true rfl) (Nat.le_of_ble_eq_true rfl) ⟨rfl, ⟨rfl, ⟨_, HL.mv (fun q hq => F4 q (by omega))⟩, B4, fun q a c => by rw [F4 q c, hF q a]⟩⟩
    | succ k ih =>
      intro p h2 x8 hk HL hF
      refine pm_iload K dX2_rearrange_13 (q := 15) rfl rfl ?_
      refine pm_iload K dX2_rearrange_15 (q := 17) rfl rfl ?_
      refine pm_icmp_ge K dX2_rearrange_17 (tgt := 72) (q := 20) rfl rfl (fun z => absurd z (nI_ge (by omega) (by omega))) (fun _ => ?_)
      obtain ⟨ix, R, HA, hi, hL⟩ := HL
      have gx := HA.2.2.2.2.1 (p) (by omega)
      refine pm_aload_n K dX2_rearrange_20 (q := 21) rfl rfl rfl ?_
      refine pm_get K inX2 rfl (k := 0) (by decide) wlX2_9 rfl (by omega) ((hF 94 (by omega)).trans O) rfl dX2_rearrange_21 (q := 24) rfl ?_
      refine pm_iload K dX2_rearrange_24 (q := 26) rfl rfl ?_
      refine pm_callV0 K gw_ok wcX2_29 (c_read l HA (p := p) (by omega)) rfl (by omega) HA.2.1 rfl rfl (Nat.le_of_ble_eq_true rfl) (by decide) dX2_rearrange_26 (q := 29) rfl (fun r1 h1 hp => ?_)
      obtain ⟨rfl, H1, F1⟩ := hp
      have eM : R (ix p) = M p := by rw [← hL p (by omega), so_map_at0]
      refine pm_astore K dX2_rearrange_29 (q := 31) rfl (by decide) rfl ?_
      refine pm_aload K dX2_rearrange_31 (q := 33) rfl rfl ?_
      refine pm_aload K dX2_rearrange_33 (q := 35) rfl rfl ?_
      refine pm_iload_n K dX2_rearrange_35 (q := 36) rfl rfl rfl ?_
      refine pm_callV0 K gw_ok wcX2_33 (c_column l (by omega) (H1.row gx) a0) rfl (by omega) (H1.row gx) rfl rfl (Nat.le_of_ble_eq_true rfl) (by decide) dX2_rearrange_36 (q := 39) rfl (fun r5 h5 hp => ?_)
      obtain ⟨rfl, e1⟩ := hp
      rw [e1]
      refine pm_aload K dX2_rearrange_39 (q := 41) rfl rfl ?_
      refine pm_iload_n K dX2_rearrange_41 (q := 42) rfl rfl rfl ?_
      refine pm_callV0 K gw_ok wcX2_33 (c_column l (by omega) (H1.row gx) b0) rfl (by omega) (H1.row gx) rfl rfl (Nat.le_of_ble_eq_true rfl) (by decide) dX2_rearrange_42 (q := 45) rfl (fun r5 h6 hp => ?_)
      obtain ⟨rfl, e1⟩ := hp
      rw [e1]
      refine pm_aload K dX2_rearrange_45 (q := 47) rfl rfl ?_
      refine pm_iload K dX2_rearrange_47 (q := 49) rfl rfl ?_
      refine pm_callV0 K gw_ok wcX2_33 (c_column l (by omega) (H1.row gx) c0) rfl (by omega) (H1.row gx) rfl rfl (Nat.le_of_ble_eq_true rfl) (by decide) dX2_rearrange_49 (q := 52) rfl (fun r5 h7 hp => ?_)
      obtain ⟨rfl, e1⟩ := hp
      rw [e1]
      refine pm_callV0 K gw_ok wcX2_56 (c_setColumns l (by omega) (H1.row gx) (rw_col a0 (R (ix p))) (rw_col b0 (R (ix p))) (rw_col c0 (R (ix p)))) rfl (by omega) (H1.row gx) rfl rfl (Nat.le_of_ble_eq_true rfl) (by decide) dX2_rearrange_52 (q := 55) rfl (fun r8 h8 hp => ?_)
      obtain ⟨rfl, rfl⟩ := hp
      have H2 := H1.mod gx (f := rw_cols (rw_col a0 (R (ix p))) (rw_col b0 (R (ix p))) (rw_col c0 (R (ix p))) (R (ix p))) ((H1.2.2.2.2.2.1 _ gx).2)
      refine pm_aload_n K dX2_rearrange_55 (q := 56) rfl rfl rfl ?_
      refine pm_get K inX2 rfl (k := 0) (by decide) wlX2_9 rfl (by omega) (pm_ne (by omega) ((F1 94 (by omega) (by omega)).trans ((hF 94 (by omega)).trans O))) rfl dX2_rearrange_56 (q := 59) rfl ?_
      refine pm_iload K dX2_rearrange_59 (q := 61) rfl rfl ?_
      refine pm_aload K dX2_rearrange_61 (q := 63) rfl rfl ?_
      refine pm_callV0 K gw_ok wcX2_49 (c_write l H2 (p := p) (by omega) gx) rfl (by omega) (pm_ne (by omega) H1.2.1) rfl rfl (Nat.le_of_ble_eq_true rfl) (by decide) dX2_rearrange_63 (q := 66) rfl (fun r9 h9 hp => ?_)
      obtain ⟨rfl, H3, F3⟩ := hp
      rw [so_id] at H3
      simp only [tk_app, List.append_assoc, List.cons_append, List.nil_append] at H3
      have hF9 : so_fr h h9 := fun q hq => by rw [F3 q (by omega), pm_ne (by omega) rfl, F1 q (by omega) (by omega), hF q hq]
      refine pm_inc K dX2_rearrange_66 (q := 69) rfl rfl (by decide) rfl ?_
      refine pm_goto K dX2_rearrange_69 (q := 13) rfl ?_
      have HC := so_L.cl H3 hi hL (by omega)
      exact ih (p + 1) h9 _ (by omega) (by rw [so_map_succ0, tr_sc_s, Nat.zero_add, ← eM]; exact HC) hF9
  have := loop l0.length 0 h1 none (by omega) (by rw [so_map_0, tr_sc, List.append_nil]; exact HL1.tke) F1
  exact this
