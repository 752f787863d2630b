/-! The join. -/
def tr_join (k P : Nat) : List Int32 := tr_sort 0 k ++ (tr_sc 0 k ++ (tr_bk k k ++ (tr_sort 0 k ++ (if 1 ≤ P ∧ P ≤ 24 then tr_cp k ++ (tr_side 0 k P ++ (tr_side 40 k P ++ (tr_sort 40 P ++ tr_ap P))) else []))))
theorem jn_sumle (g : jn_T → Nat) (c : Nat) : ∀ l : List jn_T, (∀ a ∈ l, g a ≤ c) → (l.map g).sum ≤ l.length * c
  | [], _ => by simp
  | a :: l, h => by
    rw [List.map_cons, List.sum_cons, List.length_cons, Nat.succ_mul]
    have h1 := h a List.mem_cons_self
    have h2 := jn_sumle g c l (fun b hb => h b (List.mem_cons_of_mem _ hb))
    omega
theorem jn_few {x y : Int32} {l lt : List bg_T} (h1 : l.length ≤ 24) (h2 : lt.length ≤ 12) : (jn_naive (l.map (kx x)) (lt.map (kx y))).length ≤ 288 := by
  rw [jn_naive_len]
  refine Nat.le_trans (jn_sumle _ 12 _ (fun a _ => Nat.le_trans (List.length_filter_le _ _) (by rw [List.length_map]; exact h2))) ?_
  rw [List.length_map]
  omega
theorem jn_last {x y : Int32} {l lt : List bg_T} {L : Nat → rw_T} {sr sr2 : rw_T} {P : Nat} (h24 : l.length ≤ 24) (h12 : lt.length ≤ 12) (hP : P = (jn_naive (l.map (kx x)) (lt.map (kx y))).length) (h1 : 1 ≤ P) (h2 : P ≤ 24) : ((nw_ls 0 P (so_map 0 P (fun p f => rw_cols (f 3) (f 1 + so_sort 40 P (ex_4 40 (l.length + lt.length) P (jn_cR (jn_2 x y l lt L) (l.map (kx x))) sr2 (ex_4 0 (l.length + lt.length) P (jn_cL (jn_2 x y l lt L) (lt.map (kx y))) sr (so_map 40 (l.length + lt.length) (fun p _ => jn_2 x y l lt L p) (jn_2 x y l lt L)))) (p + 40) 1) (f 2 + so_sort 40 P (ex_4 40 (l.length + lt.length) P (jn_cR (jn_2 x y l lt L) (l.map (kx x))) sr2 (ex_4 0 (l.length + lt.length) P (jn_cL (jn_2 x y l lt L) (lt.map (kx y))) sr (so_map 40 (l.length + lt.length) (fun p _ => jn_2 x y l lt L p) (jn_2 x y l lt L)))) (p + 40) 2) f) (so_sort 40 P (ex_4 40 (l.length + lt.length) P (jn_cR (jn_2 x y l lt L) (l.map (kx x))) sr2 (ex_4 0 (l.length + lt.length) P (jn_cL (jn_2 x y l lt L) (lt.map (kx y))) sr (so_map 40 (l.length + lt.length) (fun p _ => jn_2 x y l lt L p) (jn_2 x y l lt L))))))).map rw_c3).Perm (jn_naive (l.map (kx x)) (lt.map (kx y))) := by
  have hmx : max (l.length + lt.length) P ≤ 36 := by omega
  have hstL : ms_st (jn_cL (jn_2 x y l lt L) (lt.map (kx y))) (l.length + lt.length) = P := by rw [hP]; exact jn_stL jn_2Q
  have hstR : ms_st (jn_cR (jn_2 x y l lt L) (l.map (kx x))) (l.length + lt.length) = P := by rw [hP]; exact jn_stR jn_2Q
  have hM3 : ∀ p, p < 40 → so_map 40 (l.length + lt.length) (fun p _ => jn_2 x y l lt L p) (jn_2 x y l lt L) p = jn_2 x y l lt L p := fun p hp => so_map_no (by omega)
  have hpj : ∀ (c : Nat → Nat) (p i : Nat) (z : Int32) (f : rw_T), pj (rw_sort z (nI i) 0 (ms_F c p f)) = pj f := fun c p i z f => by
    unfold ms_F
    split <;> rfl
  generalize hEL : ex_4 0 (l.length + lt.length) P (jn_cL (jn_2 x y l lt L) (lt.map (kx y))) sr (so_map 40 (l.length + lt.length) (fun p _ => jn_2 x y l lt L p) (jn_2 x y l lt L)) = EL
  have hL1 : ∀ p, p < l.length + lt.length → ∀ i, i < jn_cL (jn_2 x y l lt L) (lt.map (kx y)) p → pj (EL (ms_st (jn_cL (jn_2 x y l lt L) (lt.map (kx y))) p + i)) = pj (jn_2 x y l lt L p) := fun p hp i hi => by
    have := ex_copy (b := 0) (m := l.length + lt.length) (P := P) (c := jn_cL (jn_2 x y l lt L) (lt.map (kx y))) (sr := sr) (M := so_map 40 (l.length + lt.length) (fun p _ => jn_2 x y l lt L p) (jn_2 x y l lt L)) (by omega) h1 (by omega) hstL (fun i a c => by rw [Nat.zero_add, hM3 i (by omega)]; exact jn_2o a (by omega)) hp i hi
    rw [Nat.zero_add, hEL, Nat.zero_add, hM3 p (by omega)] at this
    rw [this, hpj]
  have hE40 : ∀ p, p < l.length + lt.length → EL (40 + p) = jn_2 x y l lt L p := fun p hp => by
    rw [← hEL, ex_out h1 (by omega), so_map_off hp]
  generalize hER : ex_4 40 (l.length + lt.length) P (jn_cR (jn_2 x y l lt L) (l.map (kx x))) sr2 EL = ER
  have hR1 : ∀ p, p < l.length + lt.length → ∀ i, i < jn_cR (jn_2 x y l lt L) (l.map (kx x)) p → pj (ER (40 + (ms_st (jn_cR (jn_2 x y l lt L) (l.map (kx x))) p + i))) = pj (jn_2 x y l lt L p) ∧ ER (40 + (ms_st (jn_cR (jn_2 x y l lt L) (l.map (kx x))) p + i)) 7 = jn_2 x y l lt L p 3 ∧ ER (40 + (ms_st (jn_cR (jn_2 x y l lt L) (l.map (kx x))) p + i)) 8 = nI i ∧ ER (40 + (ms_st (jn_cR (jn_2 x y l lt L) (l.map (kx x))) p + i)) 9 = 0 := fun p hp i hi => by
    have := ex_copy (b := 40) (m := l.length + lt.length) (P := P) (c := jn_cR (jn_2 x y l lt L) (l.map (kx x))) (sr := sr2) (M := EL) (by omega) h1 (by omega) hstR (fun i a c => by rw [← hEL, ex_out h1 (by omega), so_map_no (by omega)]; exact jn_2o (by omega) (by omega)) hp i hi
    rw [hER, hE40 p hp] at this
    rw [this]
    exact ⟨hpj _ _ _ _ _, rfl, rfl, rfl⟩
  have hf := jn_fin (M := jn_2 x y l lt L) (EL := EL) (ER := ER) jn_2Q hP (by rw [List.length_map]; omega) jn_2s hL1 hR1
  have hS : ∀ p, p < P → so_sort 40 P ER p = EL p := fun p hp => by
    rw [(so_sort_sp 40 P ER).1.2 p (by omega), ← hER, ex_out h1 (by omega)]
  rw [nw_ls0]
  have e : (List.range P).map (fun p => rw_c3 (so_map 0 P (fun p f => rw_cols (f 3) (f 1 + so_sort 40 P ER (p + 40) 1) (f 2 + so_sort 40 P ER (p + 40) 2) f) (so_sort 40 P ER) p)) = (List.range P).map (fun p => jn_f (pj (EL p)) (pj (so_sort 40 P ER (40 + p)))) := by
    apply List.map_congr_left
    intro p hp
    have hp := List.mem_range.mp hp
    rw [so_map_in hp, hS p hp, Nat.add_comm 40 p]
    rfl
  rw [e]
  exact hf
set_option maxRecDepth 100000 in
theorem c_match (l : Launch) {n : Nat} {h : pm_H} {L : Nat → rw_T} {ts : List Int32} (H : so_L n h L ts) (hn : 111 < n) (J : h 95 = pm_O cJoin [.ref 15, .ref 96]) {sr : rw_T} (hS : h 96 = pm_O cRow (rw_fs sr)) (hsr : sr 10 = 0 ∨ sr 10 = 1) {b b2 : Nat} {l0 lt : List bg_T} (B : bg_at n h b 24 l0) (B2 : bg_at n h b2 12 lt) (hb : b + 3 < 15 ∨ 96 < b) (hb2 : b2 + 3 < 15 ∨ 96 < b2) (x y : Int32) : bM0 l yX1_match cX1_match 8 (some (.boolean)) 4 [.ref 95, .ref b, .ref b2, .int x, .int y] n h (fun r h' => ∃ l1, l1.Perm (jn_naive (l0.map (kx x)) (lt.map (kx y))) ∧ r = some (.int (b2i (decide (l1.length ≤ 24)))) ∧ (∃ L', so_L n h' L' (tk (ts ++ tr_join (l0.length + lt.length) l1.length))) ∧ bg_at n h' b 24 (if l1.length ≤ 24 then l1 else l0) ∧ (∃ sr', h' 96 = pm_O cRow (rw_fs sr') ∧ (sr' 10 = 0 ∨ sr' 10 = 1)) ∧ ∀ q, (q < 15 ∨ 93 < q) → q ≠ 96 → (q < b ∨ b + 3 < q) → h' q = h q) := by
  refine pm_enter rfl (Nat.le_of_ble_eq_true rfl) (fun G K Z => ?_)
  have hl1 := B.2.1
  have hl2 := B2.2.1
  obtain ⟨ix0, R0, HA0, hi0, hL0⟩ := id H
  refine pm_aload_n K dX1_match_0 (q := 1) rfl rfl rfl ?_
  refine pm_get K inX1 rfl (k := 0) (by decide) wlX1_18 rfl (by omega) J rfl dX1_match_1 (q := 4) rfl ?_
  refine pm_callV0 K gw_ok wcX1_22 (c_sclear l H) rfl (by omega) HA0.2.1 rfl rfl (Nat.le_of_ble_eq_true rfl) (by decide) dX1_match_4 (q := 7) rfl (fun r1 h1 hp => ?_)
  obtain ⟨rfl, HL1, F1⟩ := hp
  obtain ⟨ix1, R1, HA1, hi1, hL1⟩ := id HL1
  have B1 : bg_at n h1 b 24 l0 := B.fr (Nat.le_refl _) (fun q a c => F1 q (by omega))
  refine pm_aload_n K dX1_match_7 (q := 8) rfl rfl rfl ?_
  refine pm_get K inX1 rfl (k := 0) (by decide) wlX1_18 rfl (by omega) ((F1 95 (by omega)).trans J) rfl dX1_match_8 (q := 11) rfl ?_
  refine pm_aload_n K dX1_match_11 (q := 12) rfl rfl rfl ?_
  refine pm_ic0 K dX1_match_12 (q := 13) rfl ?_
  refine pm_iload_n K dX1_match_13 (q := 14) rfl rfl rfl ?_
  refine pm_ic0 K dX1_match_14 (q := 15) rfl ?_
  refine pm_callV0 K gw_ok wcX1_27 (c_layByKey l HL1 B1 (by omega) (p0 := 0) (by omega) x 0) rfl (by omega) HA1.2.1 rfl rfl (Nat.le_of_ble_eq_true rfl) (by decide) dX1_match_15 (q := 18) rfl (fun r2 h2 hp => ?_)
  obtain ⟨rfl, HL2, F2⟩ := hp
  rw [Nat.zero_add]
  have F12 := F1.tr F2
  obtain ⟨ix2, R2, HA2, hi2, hL2⟩ := id HL2
  have B22 : bg_at n h2 b2 12 lt := B2.fr (Nat.le_refl _) (fun q a c => F12 q (by omega))
  refine pm_istore K dX1_match_18 (q := 20) rfl (by decide) rfl ?_
  refine pm_aload_n K dX1_match_20 (q := 21) rfl rfl rfl ?_
  refine pm_get K inX1 rfl (k := 0) (by decide) wlX1_18 rfl (by omega) ((F12 95 (by omega)).trans J) rfl dX1_match_21 (q := 24) rfl ?_
  refine pm_aload_n K dX1_match_24 (q := 25) rfl rfl rfl ?_
  refine pm_iload K dX1_match_25 (q := 27) rfl rfl ?_
  refine pm_iload K dX1_match_27 (q := 29) rfl rfl ?_
  refine pm_ic1 K dX1_match_29 (q := 30) rfl ?_
  refine pm_callV0 K gw_ok wcX1_27 (c_layByKey l HL2 B22 (by omega) (p0 := l0.length) (by omega) y 1) rfl (by omega) HA2.2.1 rfl rfl (Nat.le_of_ble_eq_true rfl) (by decide) dX1_match_30 (q := 33) rfl (fun r3 h3 hp => ?_)
  obtain ⟨rfl, HL3, F3⟩ := hp
  have F13 := F12.tr F3
  obtain ⟨ix3, R3, HA3, hi3, hL3⟩ := id HL3
  refine pm_istore K dX1_match_33 (q := 35) rfl (by decide) rfl ?_
  refine pm_aload_n K dX1_match_35 (q := 36) rfl rfl rfl ?_
  refine pm_get K inX1 rfl (k := 0) (by decide) wlX1_18 rfl (by omega) ((F13 95 (by omega)).trans J) rfl dX1_match_36 (q := 39) rfl ?_
  refine pm_ic0 K dX1_match_39 (q := 40) rfl ?_
  refine pm_iload K dX1_match_40 (q := 42) rfl rfl ?_
  refine pm_callV0 K gw_ok wcX1_31 (c_sort l HL3 (b0 := 0) (m0 := l0.length + lt.length) (by omega)) rfl (by omega) HA3.2.1 rfl rfl (Nat.le_of_ble_eq_true rfl) (by decide) dX1_match_42 (q := 45) rfl (fun r4 h4 hp => ?_)
  obtain ⟨rfl, HL4, F4⟩ := hp
  have F14 := F13.tr F4
  have HL4 : so_L n h4 (jn_1 x y l0 lt L) (tk (ts ++ tr_sort 0 (l0.length + lt.length))) := HL4
  refine pm_aload_n K dX1_match_45 (q := 46) rfl rfl rfl ?_
  refine pm_iload K dX1_match_46 (q := 48) rfl rfl ?_
  refine pm_callV0 K gw_ok wcX1_35 (c_countForth l HL4 hn ((F14 95 (by omega)).trans J) (m := l0.length + lt.length) (by omega)) rfl (by omega) ((F14 95 (by omega)).trans J) rfl rfl (Nat.le_of_ble_eq_true rfl) (by decide) dX1_match_48 (q := 51) rfl (fun r5 h5 hp => ?_)
  obtain ⟨rfl, HL5, F5⟩ := hp
  have F15 := F14.tr F5
  refine pm_aload_n K dX1_match_51 (q := 52) rfl rfl rfl ?_
  refine pm_iload K dX1_match_52 (q := 54) rfl rfl ?_
  refine pm_callV0 K gw_ok wcX1_39 (c_countBack l HL5 hn ((F15 95 (by omega)).trans J) (m := l0.length + lt.length) (by omega)) rfl (by omega) ((F15 95 (by omega)).trans J) rfl rfl (Nat.le_of_ble_eq_true rfl) (by decide) dX1_match_54 (q := 57) rfl (fun r6 h6 hp => ?_)
  obtain ⟨rfl, HL6, F6⟩ := hp
  have F16 := F15.tr F6
  obtain ⟨ix6, R6, HA6, hi6, hL6⟩ := id HL6
  rw [show (cb_a (so_map 0 (l0.length + lt.length) (cf_F (jn_1 x y l0 lt L)) (jn_1 x y l0 lt L)) (l0.length + lt.length) (l0.length + lt.length)).2.2.2 = nI (jn_naive (l0.map (kx x)) (lt.map (kx y))).length from jn_num]
  refine pm_istore K dX1_match_57 (q := 59) rfl (by decide) rfl ?_
  refine pm_aload_n K dX1_match_59 (q := 60) rfl rfl rfl ?_
  refine pm_get K inX1 rfl (k := 0) (by decide) wlX1_18 rfl (by omega) ((F16 95 (by omega)).trans J) rfl dX1_match_60 (q := 63) rfl ?_
  refine pm_ic0 K dX1_match_63 (q := 64) rfl ?_
  refine pm_iload K dX1_match_64 (q := 66) rfl rfl ?_
  refine pm_callV0 K gw_ok wcX1_31 (c_sort l HL6 (b0 := 0) (m0 := l0.length + lt.length) (by omega)) rfl (by omega) HA6.2.1 rfl rfl (Nat.le_of_ble_eq_true rfl) (by decide) dX1_match_66 (q := 69) rfl (fun r7 h7 hp => ?_)
  obtain ⟨rfl, HL7, F7⟩ := hp
  have F17 := F16.tr F7
  simp only [tk_app, List.append_assoc] at HL7
  have HL7 : so_L n h7 (jn_2 x y l0 lt L) (tk (ts ++ (tr_sort 0 (l0.length + lt.length) ++ (tr_sc 0 (l0.length + lt.length) ++ (tr_bk (l0.length + lt.length) (l0.length + lt.length) ++ tr_sort 0 (l0.length + lt.length)))))) := HL7
  obtain ⟨P, hP⟩ : ∃ z, z = (jn_naive (l0.map (kx x)) (lt.map (kx y))).length := ⟨_, rfl⟩
  rw [← hP]
  have hPle : P ≤ 288 := by rw [hP]; exact jn_few hl1 hl2
  have B7 : bg_at n h7 b 24 l0 := B.fr (Nat.le_refl _) (fun q a c => F17 q (by omega))
  refine pm_iload K dX1_match_69 (q := 71) rfl rfl ?_
  refine pm_bipush (v := nI 24) K dX1_match_71 (q := 73) rfl (by decide) ?_
  refine pm_icmp_le K dX1_match_73 (tgt := 78) (q := 76) rfl rfl (fun hx => ?_) (fun hx => ?_)
  · have hle : P ≤ 24 := (nI_leI (by omega) (by decide)).mp hx
    refine pm_iload K dX1_match_78 (q := 80) rfl rfl ?_
    refine pm_if_le K dX1_match_80 (tgt := 127) (q := 83) rfl rfl (fun hz => ?_) (fun hz => ?_)
    · have h0 : P = 0 := by rcases Nat.eq_zero_or_pos P with z | z; exact z; exact absurd hz (nI_nle z (by omega))
      obtain ⟨ix7, R7, HA7, hi7, hL7⟩ := id HL7
      subst h0
      refine pm_aload_n K dX1_match_127 (q := 128) rfl rfl rfl ?_
      refine pm_get K inX1 rfl (k := 0) (by decide) wlX1_18 rfl (by omega) ((F17 95 (by omega)).trans J) rfl dX1_match_128 (q := 131) rfl ?_
      refine pm_aload_n K dX1_match_131 (q := 132) rfl rfl rfl ?_
      refine pm_iload K dX1_match_132 (q := 134) rfl rfl ?_
      refine pm_callV0 K gw_ok wcX1_53 (c_takeAway l HL7 B7 (by omega) (m := 0) (by omega)) rfl (by omega) HA7.2.1 rfl rfl (Nat.le_of_ble_eq_true rfl) (by decide) dX1_match_134 (q := 137) rfl (fun r8 h8 hp => ?_)
      obtain ⟨rfl, B8, F8⟩ := hp
      have en : jn_naive (l0.map (kx x)) (lt.map (kx y)) = [] := List.length_eq_zero_iff.mp hP.symm
      refine pm_ic1 K dX1_match_137 (q := 138) rfl ?_
      exact pm_iret Z dX1_match_138 rfl rfl (Nat.le_of_ble_eq_true rfl) (Nat.le_of_ble_eq_true rfl) ⟨rfl, ⟨[], by rw [en], rfl, ⟨_, by rw [tr_join, if_neg (by decide), List.append_nil]; exact HL7.mv (fun q hq => F8 q (by omega))⟩, by simpa [nw_ls] using B8, ⟨sr, ((F8 96 (by omega)).trans (F17 96 (by omega))).trans hS, hsr⟩, fun q a c d => by rw [F8 q d, F17 q a]⟩⟩
    · have h1P : 1 ≤ P := by rcases Nat.eq_zero_or_pos P with z | z; exact absurd (by rw [z]; decide) hz; exact z
      have hmx : max (l0.length + lt.length) P ≤ 36 := by omega
      refine pm_aload_n K dX1_match_83 (q := 84) rfl rfl rfl ?_
      refine pm_iload K dX1_match_84 (q := 86) rfl rfl ?_
      refine pm_callV0 K gw_ok wcX1_43 (c_copyAll l HL7 hn ((F17 95 (by omega)).trans J) (m := l0.length + lt.length) (by omega)) rfl (by omega) ((F17 95 (by omega)).trans J) rfl rfl (Nat.le_of_ble_eq_true rfl) (by decide) dX1_match_86 (q := 89) rfl (fun r8 h8 hp => ?_)
      obtain ⟨rfl, HL8, F8⟩ := hp
      have F18 := F17.tr F8
      refine pm_aload_n K dX1_match_89 (q := 90) rfl rfl rfl ?_
      refine pm_ic0 K dX1_match_90 (q := 91) rfl ?_
      refine pm_iload K dX1_match_91 (q := 93) rfl rfl ?_
      refine pm_iload K dX1_match_93 (q := 95) rfl rfl ?_
      refine pm_ic0 K dX1_match_95 (q := 96) rfl ?_
      refine pm_callV0 K gw_ok wcX1_46 (c_expand l HL8 hn ((F18 95 (by omega)).trans J) ((F18 96 (by omega)).trans hS) hsr (b0 := 0) (m := l0.length + lt.length) (P := P) (sd := 0) (c := jn_cL (jn_2 x y l0 lt L) (lt.map (kx y))) (by omega) h1P (fun p hp => by rw [Nat.zero_add, so_map_no (by omega)]; exact (jn_2c hl1 hl2 hp).1)) rfl (by omega) ((F18 95 (by omega)).trans J) rfl rfl (Nat.le_of_ble_eq_true rfl) (by decide) dX1_match_96 (q := 99) rfl (fun r9 h9 hp => ?_)
      obtain ⟨rfl, HL9, ⟨s9, S9, b9⟩, F9⟩ := hp
      have HL9 : so_L n h9 (ex_4 0 (l0.length + lt.length) P (jn_cL (jn_2 x y l0 lt L) (lt.map (kx y))) sr (so_map 40 (l0.length + lt.length) (fun p _ => jn_2 x y l0 lt L p) (jn_2 x y l0 lt L))) _ := HL9
      have F19 : jf_fr h h9 := fun q a c => by rw [F9 q a c, F18 q a]
      refine pm_aload_n K dX1_match_99 (q := 100) rfl rfl rfl ?_
      refine pm_bipush (v := nI 40) K dX1_match_100 (q := 102) rfl (by decide) ?_
      refine pm_iload K dX1_match_102 (q := 104) rfl rfl ?_
      refine pm_iload K dX1_match_104 (q := 106) rfl rfl ?_
      refine pm_ic1 K dX1_match_106 (q := 107) rfl ?_
      refine pm_callV0 K gw_ok wcX1_46 (c_expand l HL9 hn ((F19 95 (by omega) (by omega)).trans J) S9 b9 (b0 := 40) (m := l0.length + lt.length) (P := P) (sd := 1) (c := jn_cR (jn_2 x y l0 lt L) (l0.map (kx x))) (by omega) h1P (fun p hp => by rw [ex_out h1P (by omega), so_map_off hp]; exact (jn_2c hl1 hl2 hp).2)) rfl (by omega) ((F19 95 (by omega) (by omega)).trans J) rfl rfl (Nat.le_of_ble_eq_true rfl) (by decide) dX1_match_107 (q := 110) rfl (fun ra ha hp => ?_)
      obtain ⟨rfl, HLa, ⟨sa, Sa, ba⟩, Fa⟩ := hp
      have HLa : so_L n ha (ex_4 40 (l0.length + lt.length) P (jn_cR (jn_2 x y l0 lt L) (l0.map (kx x))) s9 (ex_4 0 (l0.length + lt.length) P (jn_cL (jn_2 x y l0 lt L) (lt.map (kx y))) sr (so_map 40 (l0.length + lt.length) (fun p _ => jn_2 x y l0 lt L p) (jn_2 x y l0 lt L)))) _ := HLa
      have F1a : jf_fr h ha := fun q a c => by rw [Fa q a c, F19 q a c]
      obtain ⟨ixa, Ra, HAa, hia, hLa⟩ := id HLa
      refine pm_aload_n K dX1_match_110 (q := 111) rfl rfl rfl ?_
      refine pm_get K inX1 rfl (k := 0) (by decide) wlX1_18 rfl (by omega) ((F1a 95 (by omega) (by omega)).trans J) rfl dX1_match_111 (q := 114) rfl ?_
      refine pm_bipush (v := nI 40) K dX1_match_114 (q := 116) rfl (by decide) ?_
      refine pm_iload K dX1_match_116 (q := 118) rfl rfl ?_
      refine pm_callV0 K gw_ok wcX1_31 (c_sort l HLa (b0 := 40) (m0 := P) (by omega)) rfl (by omega) HAa.2.1 rfl rfl (Nat.le_of_ble_eq_true rfl) (by decide) dX1_match_118 (q := 121) rfl (fun rb hb9 hp => ?_)
      obtain ⟨rfl, HLb, Fb⟩ := hp
      have F1b : jf_fr h hb9 := fun q a c => by rw [Fb q a, F1a q a c]
      refine pm_aload_n K dX1_match_121 (q := 122) rfl rfl rfl ?_
      refine pm_iload K dX1_match_122 (q := 124) rfl rfl ?_
      refine pm_callV0 K gw_ok wcX1_50 (c_addPairs l HLb hn ((F1b 95 (by omega) (by omega)).trans J) (m := P) (by omega)) rfl (by omega) ((F1b 95 (by omega) (by omega)).trans J) rfl rfl (Nat.le_of_ble_eq_true rfl) (by decide) dX1_match_124 (q := 127) rfl (fun rc hc9 hp => ?_)
      obtain ⟨rfl, HLc, Fc⟩ := hp
      have F1c : jf_fr h hc9 := fun q a c => by rw [Fc q a, F1b q a c]
      obtain ⟨ixc, Rc, HAc, hic, hLc⟩ := id HLc
      have Bc : bg_at n hc9 b 24 l0 := B.fr (Nat.le_refl _) (fun q a c => F1c q (by omega) (by omega))
      refine pm_aload_n K dX1_match_127 (q := 128) rfl rfl rfl ?_
      refine pm_get K inX1 rfl (k := 0) (by decide) wlX1_18 rfl (by omega) ((F1c 95 (by omega) (by omega)).trans J) rfl dX1_match_128 (q := 131) rfl ?_
      refine pm_aload_n K dX1_match_131 (q := 132) rfl rfl rfl ?_
      refine pm_iload K dX1_match_132 (q := 134) rfl rfl ?_
      refine pm_callV0 K gw_ok wcX1_53 (c_takeAway l HLc Bc (by omega) (m := P) (by omega)) rfl (by omega) HAc.2.1 rfl rfl (Nat.le_of_ble_eq_true rfl) (by decide) dX1_match_134 (q := 137) rfl (fun rd hd9 hp => ?_)
      obtain ⟨rfl, Bd, Fd⟩ := hp
      simp only [tk_app, List.append_assoc] at HLc
      have hperm := jn_last (x := x) (y := y) (L := L) (sr := sr) (sr2 := s9) hl1 hl2 hP h1P hle
      have hlen := hperm.length_eq
      rw [← hP] at hlen
      rw [List.take_of_length_le (by rw [hlen]; exact hle)] at Bd
      refine pm_ic1 K dX1_match_137 (q := 138) rfl ?_
      exact pm_iret Z dX1_match_138 rfl rfl (Nat.le_of_ble_eq_true rfl) (Nat.le_of_ble_eq_true rfl) ⟨rfl, ⟨_, hperm, by rw [hlen, decide_eq_true hle]; rfl, ⟨_, by rw [tr_join, hlen, if_pos ⟨h1P, hle⟩]; exact HLc.mv (fun q hq => Fd q (by omega))⟩, by rw [hlen, if_pos hle]; exact Bd, ⟨sa, by rw [Fd 96 (by omega), Fc 96 (by omega), Fb 96 (by omega)]; exact Sa, ba⟩, fun q a c d => by rw [Fd q d, F1c q a c]⟩⟩
  · have hgt : ¬ P ≤ 24 := fun z => hx (nI_le z (by decide))
    refine pm_ic0 K dX1_match_76 (q := 77) rfl ?_
    exact pm_iret Z dX1_match_77 rfl rfl (Nat.le_of_ble_eq_true rfl) (Nat.le_of_ble_eq_true rfl) ⟨rfl, ⟨_, List.Perm.refl _, by rw [← hP, decide_eq_false hgt]; rfl, ⟨_, by rw [tr_join, ← hP, if_neg (by omega), List.append_nil]; exact HL7⟩, by rw [← hP, if_neg hgt]; exact B7, ⟨sr, (F17 96 (by omega)).trans hS, hsr⟩, fun q a c d => F17 q a⟩⟩
