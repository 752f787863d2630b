/-! The join: copies. -/
def jf_fr (h h' : pm_H) : Prop := ∀ q, (q < 15 ∨ 93 < q) → q ≠ 96 → h' q = h q
/-- the row that is copied, and the number of the copy, behind p places -/
def fc_a (M : Nat → rw_T) (b0 : Nat) (sr : rw_T) : Nat → rw_T × Nat
  | 0 => (sr, 0)
  | p + 1 => if M (b0 + p) 10 = 0 then ((fc_a M b0 sr p).1, (fc_a M b0 sr p).2 + 1) else (M (b0 + p), 0)
def fc_F (M : Nat → rw_T) (b0 : Nat) (sr : rw_T) (p : Nat) (_ : rw_T) : rw_T := rw_sort ((fc_a M b0 sr (p + 1)).1 3) (nI (fc_a M b0 sr (p + 1)).2) 0 (fc_a M b0 sr (p + 1)).1
def tr_side (b m P : Nat) : List Int32 := tr_sc b m ++ (tr_sqs b m (so_k m) ++ (tr_sds b (max m P) (so_t (max m P) + 1) ++ tr_sc b P))
theorem jn_max {m P : Nat} (h1 : m < 2 ^ 31) (h2 : P < 2 ^ 31) : (if nI m < nI P then nI P else nI m) = nI (max m P) := by
  by_cases h : m < P
  · rw [if_pos (nI_lt h h2), Nat.max_eq_right (Nat.le_of_lt h)]
  · rw [if_neg (nI_nlt (by omega) h1), Nat.max_eq_left (by omega)]
set_option maxRecDepth 100000 in
theorem c_fillCopies (l : Launch) {n : Nat} {h : pm_H} {M : Nat → rw_T} {ts : List Int32} (H : so_L n h M ts) (hn : 111 < n) (J : h 95 = pm_O cJoin [.ref 15, .ref 96]) {sr : rw_T} (hS : h 96 = pm_O cRow (rw_fs sr)) (hsr : sr 10 = 0 ∨ sr 10 = 1) {b0 m : Nat} (hm : b0 + m ≤ 76) : bM0 l yX1_fillCopies cX1_fillCopies 6 none 2 [.ref 95, .int (nI b0), .int (nI m)] n h (fun r h' => r = none ∧ so_L n h' (so_map b0 m (fc_F M b0 sr) M) (tk (ts ++ tr_sc b0 m)) ∧ (∃ sr', h' 96 = pm_O cRow (rw_fs sr') ∧ (sr' 10 = 0 ∨ sr' 10 = 1)) ∧ jf_fr h h') := by
  refine pm_enter rfl (Nat.le_of_ble_eq_true rfl) (fun G K Z => ?_)
  obtain ⟨ix, R0, HA0, hi, hL0⟩ := id H
  refine pm_ic0 K dX1_fillCopies_0 (q := 1) rfl ?_
  refine pm_istore_n K dX1_fillCopies_1 (q := 2) rfl rfl (by decide) rfl ?_
  refine pm_ic0 K dX1_fillCopies_2 (q := 3) rfl ?_
  refine pm_istore K dX1_fillCopies_3 (q := 5) rfl (by decide) rfl ?_
  have loop : ∀ (k p : Nat) (h2 : pm_H) (R : Nat → rw_T) (x5 : Option Value), p + k = m → so_at n h2 ix R (tk (ts ++ tr_sc b0 p)) → (∀ i, i < 76 → so_map b0 p (fc_F M b0 sr) M i = R (ix i)) → jf_fr h h2 → h2 96 = pm_O cRow (rw_fs (fc_a M b0 sr p).1) → ((fc_a M b0 sr p).1 10 = 0 ∨ (fc_a M b0 sr p).1 10 = 1) → G 0 0 5 [some (.ref 95), some (.int (nI b0)), some (.int (nI m)), some (.int (nI (fc_a M b0 sr p).2)), some (.int (nI p)), x5] [] n h2 := by
    intro k
    induction k with
    | zero =>
      intro p h2 R x5 hk HA hL hF hs hb
      refine pm_iload K dX1_fillCopies_5 (q := 7) rfl rfl ?_
      refine pm_iload_n K dX1_fillCopies_7 (q := 8) rfl rfl rfl ?_
      refine pm_icmp_ge K dX1_fillCopies_8 (tgt := 89) (q := 11) rfl rfl (fun _ => ?_) (fun z => absurd z (fun z => z (nI_le (by omega) (by omega))))
      have ep : p = m := by omega
      subst ep
      exact pm_vret Z dX1_fillCopies_89 rfl (Nat.le_of_ble_eq_true rfl) (Nat.le_of_ble_eq_true rfl) ⟨rfl, ⟨rfl, ⟨ix, R, HA, hi, hL⟩, ⟨_, hs, hb⟩, hF⟩⟩
    | succ k ih =>
      intro p h2 R x5 hk HA hL hF hs hb
      refine pm_iload K dX1_fillCopies_5 (q := 7) rfl rfl ?_
      refine pm_iload_n K dX1_fillCopies_7 (q := 8) rfl rfl rfl ?_
      refine pm_icmp_ge K dX1_fillCopies_8 (tgt := 89) (q := 11) rfl rfl (fun z => absurd z (nI_ge (by omega) (by omega))) (fun _ => ?_)
      have gx := HA.2.2.2.2.1 (b0 + p) (by omega)
      refine pm_aload_n K dX1_fillCopies_11 (q := 12) rfl rfl rfl ?_
      refine pm_get K inX1 rfl (k := 0) (by decide) wlX1_18 rfl (by omega) ((hF 95 (by omega) (by omega)).trans J) rfl dX1_fillCopies_12 (q := 15) rfl ?_
      refine pm_iload_n K dX1_fillCopies_15 (q := 16) rfl rfl rfl ?_
      refine pm_iload K dX1_fillCopies_16 (q := 18) rfl rfl ?_
      refine pm_iadd K dX1_fillCopies_18 (q := 19) rfl ?_
      rw [nI_add]
      refine pm_callV0 K gw_ok wcX1_57 (c_read l HA (p := b0 + p) (by omega)) rfl (by omega) HA.2.1 rfl rfl (Nat.le_of_ble_eq_true rfl) (by decide) dX1_fillCopies_19 (q := 22) rfl (fun r1 h1 hp => ?_)
      obtain ⟨rfl, H1, F1⟩ := hp
      have j1 : h1 95 = pm_O cJoin [.ref 15, .ref 96] := (F1 95 (by omega) (by omega)).trans ((hF 95 (by omega) (by omega)).trans J)
      have s1 : h1 96 = pm_O cRow (rw_fs (fc_a M b0 sr p).1) := (F1 96 (by omega) (by omega)).trans hs
      have eM : R (ix (b0 + p)) = M (b0 + p) := by rw [← hL (b0 + p) (by omega), so_map_at]
      have hcl := fun f => so_cl2 (f := f) hi hL (show b0 + p < 76 by omega)
      have hbt := (H1.2.2.2.2.2.1 _ gx).2
      refine pm_astore K dX1_fillCopies_22 (q := 24) rfl (by decide) rfl ?_
      refine pm_aload K dX1_fillCopies_24 (q := 26) rfl rfl ?_
      refine pm_get K inX3 rfl (k := 10) (by decide) wlX1_125 rfl (by omega) (H1.row gx) rfl dX1_fillCopies_26 (q := 29) rfl ?_
      refine pm_if_eq K dX1_fillCopies_29 (tgt := 46) (q := 32) rfl rfl (fun hx => ?_) (fun hx => ?_)
      · have ea : fc_a M b0 sr (p + 1) = ((fc_a M b0 sr p).1, (fc_a M b0 sr p).2 + 1) := by rw [fc_a, if_pos (by rw [← eM]; exact hx)]
        refine pm_aload K dX1_fillCopies_46 (q := 48) rfl rfl ?_
        refine pm_aload_n K dX1_fillCopies_48 (q := 49) rfl rfl rfl ?_
        refine pm_get K inX1 rfl (k := 1) (by decide) wlX1_12 rfl (by omega) j1 rfl dX1_fillCopies_49 (q := 52) rfl ?_
        refine pm_callV0 K gw_ok wcX1_129 (c_become l (by omega) (H1.row gx) (by omega) s1 (by omega) hb) rfl (by omega) (H1.row gx) rfl rfl (Nat.le_of_ble_eq_true rfl) (by decide) dX1_fillCopies_52 (q := 55) rfl (fun r7 h7 hp => ?_)
        obtain ⟨rfl, rfl⟩ := hp
        refine pm_inc K dX1_fillCopies_55 (q := 58) rfl rfl (by decide) rfl ?_
        refine pm_aload K dX1_fillCopies_58 (q := 60) rfl rfl ?_
        refine pm_aload K dX1_fillCopies_60 (q := 62) rfl rfl ?_
        refine pm_get K inX3 rfl (k := 3) (by decide) wlX1_61 rfl (by omega) (pm_same _ _ _) rfl dX1_fillCopies_62 (q := 65) rfl ?_
        refine pm_iload_n K dX1_fillCopies_65 (q := 66) rfl rfl rfl ?_
        refine pm_ic0 K dX1_fillCopies_66 (q := 67) rfl ?_
        refine pm_callV0 K gw_ok wcX1_78 (c_sortBy l (by omega) (pm_same _ _ _) ((fc_a M b0 sr p).1 3) (nI ((fc_a M b0 sr p).2 + 1)) 0) rfl (by omega) (pm_same _ _ _) rfl rfl (Nat.le_of_ble_eq_true rfl) (by decide) dX1_fillCopies_67 (q := 70) rfl (fun r8 h8 hp => ?_)
        obtain ⟨rfl, rfl⟩ := hp
        rw [pm_up2]
        have H2 := H1.mod gx (f := rw_sort ((fc_a M b0 sr p).1 3) (nI ((fc_a M b0 sr p).2 + 1)) 0 (fc_a M b0 sr p).1) hb
        refine pm_aload_n K dX1_fillCopies_70 (q := 71) rfl rfl rfl ?_
        refine pm_get K inX1 rfl (k := 0) (by decide) wlX1_18 rfl (by omega) (pm_ne (by omega) j1) rfl dX1_fillCopies_71 (q := 74) rfl ?_
        refine pm_iload_n K dX1_fillCopies_74 (q := 75) rfl rfl rfl ?_
        refine pm_iload K dX1_fillCopies_75 (q := 77) rfl rfl ?_
        refine pm_iadd K dX1_fillCopies_77 (q := 78) rfl ?_
        refine pm_aload K dX1_fillCopies_78 (q := 80) rfl rfl ?_
        rw [nI_add]
        refine pm_callV0 K gw_ok wcX1_74 (c_write l H2 (p := b0 + p) (by omega) gx) rfl (by omega) (pm_ne (by omega) H1.2.1) rfl rfl (Nat.le_of_ble_eq_true rfl) (by decide) dX1_fillCopies_80 (q := 83) rfl (fun r9 h9 hp => ?_)
        obtain ⟨rfl, H3, F3⟩ := hp
        rw [so_id] at H3
        simp only [tk_app, List.append_assoc, List.cons_append, List.nil_append] at H3
        refine pm_inc K dX1_fillCopies_83 (q := 86) rfl rfl (by decide) rfl ?_
        refine pm_goto K dX1_fillCopies_86 (q := 5) rfl ?_
        have := ih (p + 1) h9 _ (some (.ref (18 + ix (b0 + p)))) (by omega) (by rw [tr_sc_s]; exact H3) (by rw [so_map_succ, fc_F, ea]; exact hcl _) (fun q a c => by rw [F3 q (by omega), pm_ne (by omega) rfl, F1 q (by omega) (by omega), hF q a c]) (by rw [F3 96 (by omega), pm_ne (by omega) rfl, s1, ea]) (by rw [ea]; exact hb)
        rw [ea] at this
        exact this
      · have ea : fc_a M b0 sr (p + 1) = (R (ix (b0 + p)), 0) := by rw [fc_a, if_neg (by rw [← eM]; exact hx), eM]
        refine pm_aload_n K dX1_fillCopies_32 (q := 33) rfl rfl rfl ?_
        refine pm_get K inX1 rfl (k := 1) (by decide) wlX1_12 rfl (by omega) j1 rfl dX1_fillCopies_33 (q := 36) rfl ?_
        refine pm_aload K dX1_fillCopies_36 (q := 38) rfl rfl ?_
        refine pm_callV0 K gw_ok wcX1_129 (c_become l (by omega) s1 (by omega) (H1.row gx) (by omega) hbt) rfl (by omega) s1 rfl rfl (Nat.le_of_ble_eq_true rfl) (by decide) dX1_fillCopies_38 (q := 41) rfl (fun r7 h7 hp => ?_)
        obtain ⟨rfl, rfl⟩ := hp
        have G1 := H1.mv (h' := va_up h1 96 (pm_O cRow (rw_fs (R (ix (b0 + p)))))) (fun q hq => pm_ne (by omega) rfl)
        refine pm_ic0 K dX1_fillCopies_41 (q := 42) rfl ?_
        refine pm_istore_n K dX1_fillCopies_42 (q := 43) rfl rfl (by decide) rfl ?_
        refine pm_goto K dX1_fillCopies_43 (q := 58) rfl ?_
        refine pm_aload K dX1_fillCopies_58 (q := 60) rfl rfl ?_
        refine pm_aload K dX1_fillCopies_60 (q := 62) rfl rfl ?_
        refine pm_get K inX3 rfl (k := 3) (by decide) wlX1_61 rfl (by omega) (G1.row gx) rfl dX1_fillCopies_62 (q := 65) rfl ?_
        refine pm_iload_n K dX1_fillCopies_65 (q := 66) rfl rfl rfl ?_
        refine pm_ic0 K dX1_fillCopies_66 (q := 67) rfl ?_
        refine pm_callV0 K gw_ok wcX1_78 (c_sortBy l (by omega) (G1.row gx) (R (ix (b0 + p)) 3) 0 0) rfl (by omega) (G1.row gx) rfl rfl (Nat.le_of_ble_eq_true rfl) (by decide) dX1_fillCopies_67 (q := 70) rfl (fun r8 h8 hp => ?_)
        obtain ⟨rfl, rfl⟩ := hp
        have H2 := G1.mod gx (f := rw_sort (R (ix (b0 + p)) 3) 0 0 (R (ix (b0 + p)))) hbt
        refine pm_aload_n K dX1_fillCopies_70 (q := 71) rfl rfl rfl ?_
        refine pm_get K inX1 rfl (k := 0) (by decide) wlX1_18 rfl (by omega) (pm_ne (by omega) (pm_ne (by decide) j1)) rfl dX1_fillCopies_71 (q := 74) rfl ?_
        refine pm_iload_n K dX1_fillCopies_74 (q := 75) rfl rfl rfl ?_
        refine pm_iload K dX1_fillCopies_75 (q := 77) rfl rfl ?_
        refine pm_iadd K dX1_fillCopies_77 (q := 78) rfl ?_
        refine pm_aload K dX1_fillCopies_78 (q := 80) rfl rfl ?_
        rw [nI_add]
        refine pm_callV0 K gw_ok wcX1_74 (c_write l H2 (p := b0 + p) (by omega) gx) rfl (by omega) (pm_ne (by omega) G1.2.1) rfl rfl (Nat.le_of_ble_eq_true rfl) (by decide) dX1_fillCopies_80 (q := 83) rfl (fun r9 h9 hp => ?_)
        obtain ⟨rfl, H3, F3⟩ := hp
        rw [so_id] at H3
        simp only [tk_app, List.append_assoc, List.cons_append, List.nil_append] at H3
        refine pm_inc K dX1_fillCopies_83 (q := 86) rfl rfl (by decide) rfl ?_
        refine pm_goto K dX1_fillCopies_86 (q := 5) rfl ?_
        have := ih (p + 1) h9 _ (some (.ref (18 + ix (b0 + p)))) (by omega) (by rw [tr_sc_s]; exact H3) (by rw [so_map_succ, fc_F, ea]; exact hcl _) (fun q a c => by rw [F3 q (by omega), pm_ne (by omega) rfl, pm_ne c rfl, F1 q (by omega) (by omega), hF q a c]) (by rw [F3 96 (by omega), pm_ne (by omega) rfl, pm_same, ea]) (by rw [ea]; exact hbt)
        rw [ea] at this
        exact this
  have := loop m 0 h R0 none (by omega) (by rw [tr_sc, List.append_nil, so_at.tke HA0]; exact HA0) (by rw [so_map_0]; exact hL0) (fun _ _ _ => rfl) hS hsr
  exact this
set_option maxRecDepth 100000 in
theorem c_expand (l : Launch) {n : Nat} {h : pm_H} {M : Nat → rw_T} {ts : List Int32} (H : so_L n h M ts) (hn : 111 < n) (J : h 95 = pm_O cJoin [.ref 15, .ref 96]) {sr : rw_T} (hS : h 96 = pm_O cRow (rw_fs sr)) (hsr : sr 10 = 0 ∨ sr 10 = 1) {b0 m P : Nat} {sd : Int32} {c : Nat → Nat} (hm : b0 + max m P ≤ 76) (hP : 1 ≤ P) (hc : ∀ p, p < m → ms_c sd (M (b0 + p)) = nI (c p) ∧ c p < 1000) : bM0 l yX1_expand cX1_expand 5 none 3 [.ref 95, .int (nI b0), .int (nI m), .int (nI P), .int sd] n h (fun r h' => r = none ∧ so_L n h' (so_map b0 P (fc_F (nw_sds rw_wf b0 (max m P) (so_t (max m P) + 1) (nw_sqs rw_wb b0 m (so_k m) (so_map b0 m (ms_F c) M))) b0 sr) (nw_sds rw_wf b0 (max m P) (so_t (max m P) + 1) (nw_sqs rw_wb b0 m (so_k m) (so_map b0 m (ms_F c) M)))) (tk (ts ++ tr_side b0 m P)) ∧ (∃ sr', h' 96 = pm_O cRow (rw_fs sr') ∧ (sr' 10 = 0 ∨ sr' 10 = 1)) ∧ jf_fr h h') := by
  refine pm_enter rfl (Nat.le_of_ble_eq_true rfl) (fun G K Z => ?_)
  have hm1 : m ≤ max m P := Nat.le_max_left _ _
  have hm2 : P ≤ max m P := Nat.le_max_right _ _
  refine pm_aload_n K dX1_expand_0 (q := 1) rfl rfl rfl ?_
  refine pm_iload_n K dX1_expand_1 (q := 2) rfl rfl rfl ?_
  refine pm_iload_n K dX1_expand_2 (q := 3) rfl rfl rfl ?_
  refine pm_iload K dX1_expand_3 (q := 5) rfl rfl ?_
  refine pm_callV0 K gw_ok wcX1_94 (c_markStarts l H hn J (c := c) (by omega) hc) rfl (by omega) J rfl rfl (Nat.le_of_ble_eq_true rfl) (by decide) dX1_expand_5 (q := 8) rfl (fun r1 h1 hp => ?_)
  obtain ⟨rfl, HL1, F1⟩ := hp
  obtain ⟨ix1, R1, HA1, hi1, hL1⟩ := id HL1
  refine pm_aload_n K dX1_expand_8 (q := 9) rfl rfl rfl ?_
  refine pm_get K inX1 rfl (k := 0) (by decide) wlX1_18 rfl (by omega) ((F1 95 (by omega)).trans J) rfl dX1_expand_9 (q := 12) rfl ?_
  refine pm_iload_n K dX1_expand_12 (q := 13) rfl rfl rfl ?_
  refine pm_iload_n K dX1_expand_13 (q := 14) rfl rfl rfl ?_
  refine pm_callV0 K gw_ok wcX1_97 (c_squeeze l HL1 (b0 := b0) (m0 := m) (by omega)) rfl (by omega) HA1.2.1 rfl rfl (Nat.le_of_ble_eq_true rfl) (by decide) dX1_expand_14 (q := 17) rfl (fun r2 h2 hp => ?_)
  obtain ⟨rfl, HL2, F2⟩ := hp
  have F12 := F1.tr F2
  obtain ⟨ix2, R2, HA2, hi2, hL2⟩ := id HL2
  refine pm_aload_n K dX1_expand_17 (q := 18) rfl rfl rfl ?_
  refine pm_get K inX1 rfl (k := 0) (by decide) wlX1_18 rfl (by omega) ((F12 95 (by omega)).trans J) rfl dX1_expand_18 (q := 21) rfl ?_
  refine pm_iload_n K dX1_expand_21 (q := 22) rfl rfl rfl ?_
  refine pm_iload_n K dX1_expand_22 (q := 23) rfl rfl rfl ?_
  refine pm_iload_n K dX1_expand_23 (q := 24) rfl rfl rfl ?_
  refine pm_mmax K (gw_2 (j := 195) rfl rfl) (gw_2 (j := 196) rfl rfl) (gw_1 (j := 9) rfl rfl) (gw_2 (j := 197) rfl rfl) (Nat.le_of_ble_eq_true rfl) (by decide) (by decide) (by decide) dX1_expand_24 (q := 27) rfl ?_
  rw [jn_max (by omega) (by omega)]
  refine pm_callV0 K gw_ok wcX1_106 (c_spread l HL2 (b0 := b0) (m0 := max m P) hm (by omega)) rfl (by omega) HA2.2.1 rfl rfl (Nat.le_of_ble_eq_true rfl) (by decide) dX1_expand_27 (q := 30) rfl (fun r3 h3 hp => ?_)
  obtain ⟨rfl, HL3, F3⟩ := hp
  have F13 := F12.tr F3
  refine pm_aload_n K dX1_expand_30 (q := 31) rfl rfl rfl ?_
  refine pm_iload_n K dX1_expand_31 (q := 32) rfl rfl rfl ?_
  refine pm_iload_n K dX1_expand_32 (q := 33) rfl rfl rfl ?_
  refine pm_callV0 K gw_ok wcX1_109 (c_fillCopies l HL3 hn ((F13 95 (by omega)).trans J) ((F13 96 (by omega)).trans hS) hsr (b0 := b0) (m := P) (by omega)) rfl (by omega) ((F13 95 (by omega)).trans J) rfl rfl (Nat.le_of_ble_eq_true rfl) (by decide) dX1_expand_33 (q := 36) rfl (fun r4 h4 hp => ?_)
  obtain ⟨rfl, HL4, S4, F4⟩ := hp
  simp only [tk_app, List.append_assoc] at HL4
  exact pm_vret Z dX1_expand_36 rfl (Nat.le_of_ble_eq_true rfl) (Nat.le_of_ble_eq_true rfl) ⟨rfl, ⟨rfl, HL4, S4, fun q a c => by rw [F4 q a c, F13 q a]⟩⟩
