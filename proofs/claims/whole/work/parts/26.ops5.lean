/-! The operators: groups, rows not dropped. -/
def ky_ok (f : rw_T) : Prop := f 7 = f 3 ∧ f 8 = f 4 ∧ f 9 = 0
theorem so_sort_mem {X : Nat → rw_T} {m p : Nat} (h : p < m) : ∃ q, q < m ∧ so_sort 0 m X p = X q := by
  have h1 : so_sort 0 m X p ∈ nw_ls 0 m (so_sort 0 m X) := nw_ls_mem.mpr ⟨p, h, by rw [Nat.zero_add]⟩
  obtain ⟨q, hq, e⟩ := nw_ls_mem.mp ((so_sort_sp 0 m X).1.1.mem_iff.mp h1)
  exact ⟨q, hq, by rw [← e, Nat.zero_add]⟩
theorem ky_sorted {X : Nat → rw_T} {m : Nat} (h : ∀ p, p < m → ky_ok (X p)) : ∀ i j, i ≤ j → j < m → (so_sort 0 m X i 3).toInt < (so_sort 0 m X j 3).toInt ∨ (so_sort 0 m X i 3).toInt = (so_sort 0 m X j 3).toInt ∧ (so_sort 0 m X i 4).toInt ≤ (so_sort 0 m X j 4).toInt := by
  have hk : ∀ p, p < m → ky_ok (so_sort 0 m X p) := fun p hp => by
    obtain ⟨q, hq, e⟩ := so_sort_mem (X := X) hp
    rw [e]
    exact h q hq
  intro i j hij hj
  have hl := so_sort_le 0 m X (j - i) i (by omega)
  rw [show i + (j - i) = j by omega, Nat.zero_add, Nat.zero_add, rw_lt_no] at hl
  obtain ⟨a1, a2, a3⟩ := hk i (by omega)
  obtain ⟨b1, b2, b3⟩ := hk j hj
  rw [a1, a2, a3, b1, b2, b3] at hl
  omega
theorem ky_c3 (c sd : Int32) (l : List bg_T) (L : Nat → rw_T) : (nw_ls 0 l.length (so_map 0 l.length (fun r f => so_key c sd (l.getD r (0, 0, 0)) f) L)).map rw_c3 = l := by
  apply List.ext_getElem?
  intro i
  rw [List.getElem?_map]
  by_cases h : i < l.length
  · rw [nw_ls_get _ h, Nat.zero_add, so_map_in h, Option.map_some, List.getD_eq_getElem?_getD, List.getElem?_eq_getElem h]
    rfl
  · rw [List.getElem?_eq_none (by rw [nw_ls_len]; omega), List.getElem?_eq_none (by omega)]
    rfl
theorem nw_ls0 {α β : Type} (m : Nat) (M : Nat → α) (g : α → β) : (nw_ls 0 m M).map g = (List.range m).map (fun p => g (M p)) := by
  unfold nw_ls
  rw [List.map_map]
  apply List.map_congr_left
  intro p _
  show g (M (0 + p)) = g (M p)
  rw [Nat.zero_add]
/-- one lot of rows, laid by a column and sorted -/
theorem ky_one (g : Int32) (l0 : List bg_T) (L : Nat → rw_T) : (∀ p, p < l0.length → so_sort 0 l0.length (so_map 0 l0.length (fun r f => so_key g 1 (l0.getD r (0, 0, 0)) f) L) p 3 = bg_col g (rw_c3 (so_sort 0 l0.length (so_map 0 l0.length (fun r f => so_key g 1 (l0.getD r (0, 0, 0)) f) L) p))) ∧ (∀ i j, i ≤ j → j < l0.length → (so_sort 0 l0.length (so_map 0 l0.length (fun r f => so_key g 1 (l0.getD r (0, 0, 0)) f) L) i 3).toInt < (so_sort 0 l0.length (so_map 0 l0.length (fun r f => so_key g 1 (l0.getD r (0, 0, 0)) f) L) j 3).toInt ∨ (so_sort 0 l0.length (so_map 0 l0.length (fun r f => so_key g 1 (l0.getD r (0, 0, 0)) f) L) i 3).toInt = (so_sort 0 l0.length (so_map 0 l0.length (fun r f => so_key g 1 (l0.getD r (0, 0, 0)) f) L) j 3).toInt ∧ (so_sort 0 l0.length (so_map 0 l0.length (fun r f => so_key g 1 (l0.getD r (0, 0, 0)) f) L) i 4).toInt ≤ (so_sort 0 l0.length (so_map 0 l0.length (fun r f => so_key g 1 (l0.getD r (0, 0, 0)) f) L) j 4).toInt) ∧ ((List.range l0.length).map (fun p => rw_c3 (so_sort 0 l0.length (so_map 0 l0.length (fun r f => so_key g 1 (l0.getD r (0, 0, 0)) f) L) p))).Perm l0 := by
  refine ⟨fun p hp => ?_, ky_sorted (fun p hp => ?_), ?_⟩
  · obtain ⟨q, hq, e⟩ := so_sort_mem (X := so_map 0 l0.length (fun r f => so_key g 1 (l0.getD r (0, 0, 0)) f) L) hp
    rw [e, so_map_in hq]
    rfl
  · rw [so_map_in hp]
    exact ⟨rfl, rfl, rfl⟩
  · have := (so_sort_sp 0 l0.length (so_map 0 l0.length (fun r f => so_key g 1 (l0.getD r (0, 0, 0)) f) L)).1.1.map rw_c3
    rw [ky_c3, nw_ls0] at this
    exact this
theorem kl_congr {M N : Nat → rw_T} {m : Nat} (h : ∀ p, p < m → N p 3 = M p 3) {p : Nat} (hp : p < m) : kl_last N m p = kl_last M m p := by
  unfold kl_last
  by_cases e : p + 1 = m
  · rw [decide_eq_true (Or.inl e), decide_eq_true (Or.inl e)]
  · rw [h p hp, h (p + 1) (by omega)]
theorem ga_rows {M : Nat → rw_T} {a : Int32} {m : Nat} (hm : m ≤ 76) (hs : ∀ i j, i ≤ j → j < m → (M i 3).toInt ≤ (M j 3).toInt) : (nw_ls 0 (nw_mk (kl_last M m) m).length (nw_sqs rw_wb 0 m (so_k m) (so_bk 0 m (kl_F (so_map 0 m (ga_F M a) M) m) (so_map 0 m (ga_F M a) M)))).map rw_c3 = (nw_mk (kl_last M m) m).map (fun p => ((ga_a M a (p + 1)).2.1, (ga_a M a (p + 1)).2.2.1, nI (ga_a M a (p + 1)).2.2.2)) := by
  have hN : ∀ p, p < m → so_map 0 m (ga_F M a) M p 3 = M p 3 := fun p hp => by
    rw [so_map_in hp]
    rfl
  have hin : ∀ p, p < m → kl_last M m p = true → so_bk 0 m (kl_F (so_map 0 m (ga_F M a) M) m) (so_map 0 m (ga_F M a) M) p = ga_F M a p (M p) := fun p hp hl => by
    rw [so_bk_in (Nat.zero_le _) hp, kl_F, if_pos (by rw [kl_congr hN hp]; exact hl), so_map_in hp]
  rw [so_squeezed (live := kl_last M m) (fun p hp hl => ?_) (fun p hp hl => ?_), List.map_map]
  · apply List.map_congr_left
    intro p hp
    obtain ⟨h1, h2⟩ := nw_mk_mem.mp hp
    show rw_c3 (so_bk 0 m _ _ p) = _
    rw [hin p h1 h2]
    rfl
  · rw [hin p hp hl, ga_F, ga_rank hs p hp]
    exact rw_keep_wb (nw_mk_le _ p) (by omega) _
  · rw [so_bk_in (Nat.zero_le _) hp, kl_F, if_neg (by rw [kl_congr hN hp, hl]; decide)]
    exact rw_dead_disc _
set_option maxRecDepth 100000 in
theorem c_totalUp (l : Launch) {n : Nat} {h : pm_H} {L : Nat → rw_T} {ts : List Int32} (H : so_L n h L ts) (hn : 111 < n) (O : h 94 = pm_O cOps [.ref 15]) {b len : Nat} {l0 : List bg_T} (B : bg_at n h b len l0) (hb : b + 3 < 15 ∨ 96 < b) (g a : Int32) : bM0 l yX2_totalUp cX2_totalUp 6 none 4 [.ref 94, .ref b, .int g, .int a] n h (fun r h' => r = none ∧ ∃ l1, gp_ok g a l0 l1 ∧ l1.length ≤ l0.length ∧ op_P n h b len ts h' l1 (tr_sort 0 l0.length ++ (tr_sc 0 l0.length ++ (tr_bk l0.length l0.length ++ tr_sqs 0 l0.length (so_k l0.length))))) := by
  refine pm_enter rfl (Nat.le_of_ble_eq_true rfl) (fun G K Z => ?_)
  have hlen : l0.length ≤ 24 := Nat.le_trans B.2.1 B.2.2.1
  obtain ⟨ix0, R0, HA0, hi0, hL0⟩ := id H
  refine pm_aload_n K dX2_totalUp_0 (q := 1) rfl rfl rfl ?_
  refine pm_get K inX2 rfl (k := 0) (by decide) wlX2_9 rfl (by omega) O rfl dX2_totalUp_1 (q := 4) rfl ?_
  refine pm_aload_n K dX2_totalUp_4 (q := 5) rfl rfl rfl ?_
  refine pm_ic0 K dX2_totalUp_5 (q := 6) rfl ?_
  refine pm_iload_n K dX2_totalUp_6 (q := 7) rfl rfl rfl ?_
  refine pm_ic1 K dX2_totalUp_7 (q := 8) rfl ?_
  refine pm_callV0 K gw_ok wcX2_67 (c_layByKey l H B (by omega) (p0 := 0) (by omega) g 1) rfl (by omega) HA0.2.1 rfl rfl (Nat.le_of_ble_eq_true rfl) (by decide) dX2_totalUp_8 (q := 11) rfl (fun r1 h1 hp => ?_)
  obtain ⟨rfl, HL1, F1⟩ := hp
  rw [Nat.zero_add]
  obtain ⟨ix1, R1, HA1, hi1, hL1⟩ := id HL1
  refine pm_istore K dX2_totalUp_11 (q := 13) rfl (by decide) rfl ?_
  refine pm_aload_n K dX2_totalUp_13 (q := 14) rfl rfl rfl ?_
  refine pm_get K inX2 rfl (k := 0) (by decide) wlX2_9 rfl (by omega) ((F1 94 (by omega)).trans O) rfl dX2_totalUp_14 (q := 17) rfl ?_
  refine pm_ic0 K dX2_totalUp_17 (q := 18) rfl ?_
  refine pm_iload K dX2_totalUp_18 (q := 20) rfl rfl ?_
  refine pm_callV0 K gw_ok wcX2_21 (c_sort l HL1 (b0 := 0) (m0 := l0.length) (by omega)) rfl (by omega) HA1.2.1 rfl rfl (Nat.le_of_ble_eq_true rfl) (by decide) dX2_totalUp_20 (q := 23) rfl (fun r2 h2 hp => ?_)
  obtain ⟨rfl, HL2, F2⟩ := hp
  have F12 := F1.tr F2
  obtain ⟨hk, hs, hpm⟩ := ky_one g l0 L
  have hs3 := fun i j a1 a2 => (hs i j a1 a2).elim Int.le_of_lt (fun z => Int.le_of_eq z.1)
  generalize so_sort 0 l0.length (so_map 0 l0.length (fun r f => so_key g 1 (l0.getD r (0, 0, 0)) f) L) = M at HL2 hk hs hs3 hpm
  refine pm_aload_n K dX2_totalUp_23 (q := 24) rfl rfl rfl ?_
  refine pm_iload K dX2_totalUp_24 (q := 26) rfl rfl ?_
  refine pm_iload_n K dX2_totalUp_26 (q := 27) rfl rfl rfl ?_
  refine pm_callV0 K gw_ok wcX2_71 (c_addUp l HL2 hn ((F12 94 (by omega)).trans O) (m := l0.length) (by omega) a) rfl (by omega) ((F12 94 (by omega)).trans O) rfl rfl (Nat.le_of_ble_eq_true rfl) (by decide) dX2_totalUp_27 (q := 30) rfl (fun r3 h3 hp => ?_)
  obtain ⟨rfl, HL3, F3⟩ := hp
  have F13 := F12.tr F3
  refine pm_istore K dX2_totalUp_30 (q := 32) rfl (by decide) rfl ?_
  refine pm_aload_n K dX2_totalUp_32 (q := 33) rfl rfl rfl ?_
  refine pm_iload K dX2_totalUp_33 (q := 35) rfl rfl ?_
  refine pm_callV0 K gw_ok wcX2_75 (c_keepLast l HL3 hn ((F13 94 (by omega)).trans O) (m := l0.length) (by omega)) rfl (by omega) ((F13 94 (by omega)).trans O) rfl rfl (Nat.le_of_ble_eq_true rfl) (by decide) dX2_totalUp_35 (q := 38) rfl (fun r4 h4 hp => ?_)
  obtain ⟨rfl, HL4, F4⟩ := hp
  have F14 := F13.tr F4
  obtain ⟨ix4, R4, HA4, hi4, hL4⟩ := id HL4
  refine pm_aload_n K dX2_totalUp_38 (q := 39) rfl rfl rfl ?_
  refine pm_get K inX2 rfl (k := 0) (by decide) wlX2_9 rfl (by omega) ((F14 94 (by omega)).trans O) rfl dX2_totalUp_39 (q := 42) rfl ?_
  refine pm_ic0 K dX2_totalUp_42 (q := 43) rfl ?_
  refine pm_iload K dX2_totalUp_43 (q := 45) rfl rfl ?_
  refine pm_callV0 K gw_ok wcX2_53 (c_squeeze l HL4 (b0 := 0) (m0 := l0.length) (by omega)) rfl (by omega) HA4.2.1 rfl rfl (Nat.le_of_ble_eq_true rfl) (by decide) dX2_totalUp_45 (q := 48) rfl (fun r5 h5 hp => ?_)
  obtain ⟨rfl, HL5, F5⟩ := hp
  have F15 := F14.tr F5
  have hml := nw_mk_le (kl_last M l0.length) l0.length
  rw [ga_all hs3]
  obtain ⟨ix5, R5, HA5, hi5, hL5⟩ := id HL5
  have B5 : bg_at n h5 b len l0 := B.fr (Nat.le_refl _) (fun q a c => F15 q (by omega))
  refine pm_aload_n K dX2_totalUp_48 (q := 49) rfl rfl rfl ?_
  refine pm_get K inX2 rfl (k := 0) (by decide) wlX2_9 rfl (by omega) ((F15 94 (by omega)).trans O) rfl dX2_totalUp_49 (q := 52) rfl ?_
  refine pm_aload_n K dX2_totalUp_52 (q := 53) rfl rfl rfl ?_
  refine pm_iload K dX2_totalUp_53 (q := 55) rfl rfl ?_
  refine pm_callV0 K gw_ok wcX2_25 (c_takeAway l HL5 B5 (by omega) (m := (nw_mk (kl_last M l0.length) l0.length).length) (by omega)) rfl (by omega) HA5.2.1 rfl rfl (Nat.le_of_ble_eq_true rfl) (by decide) dX2_totalUp_55 (q := 58) rfl (fun r6 h6 hp => ?_)
  obtain ⟨rfl, B6, F6⟩ := hp
  rw [ga_rows (by omega) hs3, List.take_of_length_le (by rw [List.length_map]; exact Nat.le_trans hml B.2.1)] at B6
  simp only [tk_app, List.append_assoc] at HL5
  exact pm_vret Z dX2_totalUp_58 rfl (Nat.le_of_ble_eq_true rfl) (Nat.le_of_ble_eq_true rfl) ⟨rfl, ⟨rfl, _, gp_rows hs3 hk hpm, by rw [List.length_map]; exact hml, ⟨_, HL5.mv (fun q hq => F6 q (by omega))⟩, B6, fun q a c => by rw [F6 q c, F15 q a]⟩⟩
set_option maxRecDepth 100000 in
theorem c_undropped (l : Launch) {n : Nat} {h : pm_H} {M : Nat → rw_T} {ts : List Int32} (H : so_L n h M ts) (hn : 111 < n) (O : h 94 = pm_O cOps [.ref 15]) {m : Nat} (hm : m ≤ 76) : bM0 l yX2_keepUndropped cX2_keepUndropped 8 (some (.int)) 2 [.ref 94, .int (nI m)] n h (fun r h' => r = some (.int (nI (nw_mk (ud_live M) m).length)) ∧ so_L n h' (so_map 0 m (op_mark (ud_live M)) M) (tk (ts ++ tr_sc 0 m)) ∧ so_fr h h') := by
  refine pm_enter rfl (Nat.le_of_ble_eq_true rfl) (fun G K Z => ?_)
  obtain ⟨ix, R0, HA0, hi, hL0⟩ := id H
  refine pm_ic0 K dX2_keepUndropped_0 (q := 1) rfl ?_
  refine pm_istore_n K dX2_keepUndropped_1 (q := 2) rfl rfl (by decide) rfl ?_
  refine pm_ic0 K dX2_keepUndropped_2 (q := 3) rfl ?_
  refine pm_istore_n K dX2_keepUndropped_3 (q := 4) rfl rfl (by decide) rfl ?_
  refine pm_ic0 K dX2_keepUndropped_4 (q := 5) rfl ?_
  refine pm_istore K dX2_keepUndropped_5 (q := 7) rfl (by decide) rfl ?_
  refine pm_ic0 K dX2_keepUndropped_7 (q := 8) rfl ?_
  refine pm_istore K dX2_keepUndropped_8 (q := 10) rfl (by decide) rfl ?_
  have loop : ∀ (k p : Nat) (h2 : pm_H) (R : Nat → rw_T) (x6 x7 : Option Value), p + k = m → so_at n h2 ix R (tk (ts ++ tr_sc 0 p)) → (∀ i, i < 76 → so_map 0 p (op_mark (ud_live M)) M i = R (ix i)) → so_fr h h2 → G 0 0 10 [some (.ref 94), some (.int (nI m)), some (.int (nI (nw_mk (ud_live M) p).length)), some (.int (b2i (ud_a M p).1)), some (.int (ud_a M p).2), some (.int (nI p)), x6, x7] [] n h2 := by
    intro k
    induction k with
    | zero =>
      intro p h2 R x6 x7 hk HA hL hF
      refine pm_iload K dX2_keepUndropped_10 (q := 12) rfl rfl ?_
      refine pm_iload_n K dX2_keepUndropped_12 (q := 13) rfl rfl rfl ?_
      refine pm_icmp_ge K dX2_keepUndropped_13 (tgt := 115) (q := 16) rfl rfl (fun _ => ?_) (fun z => absurd z (fun z => z (nI_le (by omega) (by omega))))
      have ep : p = m := by omega
      subst ep
      refine pm_iload_n K dX2_keepUndropped_115 (q := 116) rfl rfl rfl ?_
      exact pm_iret Z dX2_keepUndropped_116 rfl rfl (Nat.le_of_ble_eq_true rfl) (Nat.le_of_ble_eq_true rfl) ⟨rfl, ⟨rfl, ⟨ix, R, HA, hi, hL⟩, hF⟩⟩
    | succ k ih =>
      intro p h2 R x6 x7 hk HA hL hF
      refine pm_iload K dX2_keepUndropped_10 (q := 12) rfl rfl ?_
      refine pm_iload_n K dX2_keepUndropped_12 (q := 13) rfl rfl rfl ?_
      refine pm_icmp_ge K dX2_keepUndropped_13 (tgt := 115) (q := 16) rfl rfl (fun z => absurd z (nI_ge (by omega) (by omega))) (fun _ => ?_)
      have gx := HA.2.2.2.2.1 (p) (by omega)
      refine pm_aload_n K dX2_keepUndropped_16 (q := 17) rfl rfl rfl ?_
      refine pm_get K inX2 rfl (k := 0) (by decide) wlX2_9 rfl (by omega) ((hF 94 (by omega)).trans O) rfl dX2_keepUndropped_17 (q := 20) rfl ?_
      refine pm_iload K dX2_keepUndropped_20 (q := 22) rfl rfl ?_
      refine pm_callV0 K gw_ok wcX2_29 (c_read l HA (p := p) (by omega)) rfl (by omega) HA.2.1 rfl rfl (Nat.le_of_ble_eq_true rfl) (by decide) dX2_keepUndropped_22 (q := 25) rfl (fun r1 h1 hp => ?_)
      obtain ⟨rfl, H1, F1⟩ := hp
      have eM : R (ix p) = M p := by rw [← hL p (by omega), so_map_at0]
      refine pm_astore K dX2_keepUndropped_25 (q := 27) rfl (by decide) rfl ?_
      have hcl := fun f => so_cl2 (f := f) hi hL (show p < 76 by omega)
      refine pm_aload K dX2_keepUndropped_27 (q := 29) rfl rfl ?_
      refine pm_get K inX3 rfl (k := 4) (by decide) wlX2_86 rfl (by omega) (H1.row gx) rfl dX2_keepUndropped_29 (q := 32) rfl ?_
      refine pm_if_ne K dX2_keepUndropped_32 (tgt := 44) (q := 35) rfl rfl (fun hsd => ?_) (fun hsd => ?_)
      · have hsd2 : ¬ M p 4 = 0 := by rw [← eM]; exact hsd
        have ea : ud_a M (p + 1) = ud_a M p := by rw [ud_a, if_neg hsd2]
        cases hb : (ud_a M p).1
        · refine pm_iload_n K dX2_keepUndropped_44 (q := 45) rfl rfl rfl ?_
          refine pm_if_eq K dX2_keepUndropped_45 (tgt := 62) (q := 48) rfl rfl (fun _ => ?_) (fun z => absurd z (fun z => z rfl))
          refine pm_ic0 K dX2_keepUndropped_62 (q := 63) rfl ?_
          refine pm_istore K dX2_keepUndropped_63 (q := 65) rfl (by decide) rfl ?_
          refine pm_aload K dX2_keepUndropped_65 (q := 67) rfl rfl ?_
          refine pm_get K inX3 rfl (k := 4) (by decide) wlX2_86 rfl (by omega) (H1.row gx) rfl dX2_keepUndropped_67 (q := 70) rfl ?_
          refine pm_ic2 K dX2_keepUndropped_70 (q := 71) rfl ?_
          refine pm_icmp_eq K dX2_keepUndropped_71 (tgt := 79) (q := 74) rfl rfl (fun h2 => ?_) (fun h2 => ?_)
          · have hv : ud_live M p = true := by unfold ud_live; rw [← eM, h2]; simp
            refine pm_aload K dX2_keepUndropped_79 (q := 81) rfl rfl ?_
            refine pm_iload K dX2_keepUndropped_81 (q := 83) rfl rfl ?_
            refine pm_iload_n K dX2_keepUndropped_83 (q := 84) rfl rfl rfl ?_
            refine pm_callV0 K gw_ok wcX2_43 (c_keep l (by omega) (H1.row gx) (nI p) (nI (nw_mk (ud_live M) p).length)) rfl (by omega) (H1.row gx) rfl rfl (Nat.le_of_ble_eq_true rfl) (by decide) dX2_keepUndropped_84 (q := 87) rfl (fun r7 h7 hp => ?_)
            obtain ⟨rfl, rfl⟩ := hp
            refine pm_inc K dX2_keepUndropped_87 (q := 90) rfl rfl (by decide) rfl ?_
            refine pm_goto K dX2_keepUndropped_90 (q := 98) rfl ?_
            have H2 := H1.mod gx (f := rw_keep (nI p) (nI (nw_mk (ud_live M) p).length) (R (ix p))) (Or.inr rfl)
            refine pm_aload_n K dX2_keepUndropped_98 (q := 99) rfl rfl rfl ?_
            refine pm_get K inX2 rfl (k := 0) (by decide) wlX2_9 rfl (by omega) (pm_ne (by omega) ((F1 94 (by omega) (by omega)).trans ((hF 94 (by omega)).trans O))) rfl dX2_keepUndropped_99 (q := 102) rfl ?_
            refine pm_iload K dX2_keepUndropped_102 (q := 104) rfl rfl ?_
            refine pm_aload K dX2_keepUndropped_104 (q := 106) rfl rfl ?_
            refine pm_callV0 K gw_ok wcX2_49 (c_write l H2 (p := p) (by omega) gx) rfl (by omega) (pm_ne (by omega) H1.2.1) rfl rfl (Nat.le_of_ble_eq_true rfl) (by decide) dX2_keepUndropped_106 (q := 109) rfl (fun r9 h9 hp => ?_)
            obtain ⟨rfl, H3, F3⟩ := hp
            rw [so_id] at H3
            simp only [tk_app, List.append_assoc, List.cons_append, List.nil_append] at H3
            have hF9 : so_fr h h9 := fun q hq => by rw [F3 q (by omega), pm_ne (by omega) rfl, F1 q (by omega) (by omega), hF q hq]
            refine pm_inc K dX2_keepUndropped_109 (q := 112) rfl rfl (by decide) rfl ?_
            refine pm_goto K dX2_keepUndropped_112 (q := 10) rfl ?_
            have := ih (p + 1) h9 _ (some (.ref (18 + ix p))) (some (.int 0)) (by omega) (by rw [tr_sc_s, Nat.zero_add]; exact H3) (by rw [so_map_succ0, op_mark_t hv, ← eM]; exact hcl _) hF9
            rw [nw_mk_t hv, ea, hb] at this
            exact this
          · have h22 : ¬ M p 4 = 2 := by rw [← eM]; exact h2
            have hv : ud_live M p = true := by unfold ud_live; rw [ea, hb]; simp [h22]
            refine pm_iload K dX2_keepUndropped_74 (q := 76) rfl rfl ?_
            refine pm_if_ne K dX2_keepUndropped_76 (tgt := 93) (q := 79) rfl rfl (fun z => absurd z (fun z => z rfl)) (fun _ => ?_)
            refine pm_aload K dX2_keepUndropped_79 (q := 81) rfl rfl ?_
            refine pm_iload K dX2_keepUndropped_81 (q := 83) rfl rfl ?_
            refine pm_iload_n K dX2_keepUndropped_83 (q := 84) rfl rfl rfl ?_
            refine pm_callV0 K gw_ok wcX2_43 (c_keep l (by omega) (H1.row gx) (nI p) (nI (nw_mk (ud_live M) p).length)) rfl (by omega) (H1.row gx) rfl rfl (Nat.le_of_ble_eq_true rfl) (by decide) dX2_keepUndropped_84 (q := 87) rfl (fun r7 h7 hp => ?_)
            obtain ⟨rfl, rfl⟩ := hp
            refine pm_inc K dX2_keepUndropped_87 (q := 90) rfl rfl (by decide) rfl ?_
            refine pm_goto K dX2_keepUndropped_90 (q := 98) rfl ?_
            have H2 := H1.mod gx (f := rw_keep (nI p) (nI (nw_mk (ud_live M) p).length) (R (ix p))) (Or.inr rfl)
            refine pm_aload_n K dX2_keepUndropped_98 (q := 99) rfl rfl rfl ?_
            refine pm_get K inX2 rfl (k := 0) (by decide) wlX2_9 rfl (by omega) (pm_ne (by omega) ((F1 94 (by omega) (by omega)).trans ((hF 94 (by omega)).trans O))) rfl dX2_keepUndropped_99 (q := 102) rfl ?_
            refine pm_iload K dX2_keepUndropped_102 (q := 104) rfl rfl ?_
            refine pm_aload K dX2_keepUndropped_104 (q := 106) rfl rfl ?_
            refine pm_callV0 K gw_ok wcX2_49 (c_write l H2 (p := p) (by omega) gx) rfl (by omega) (pm_ne (by omega) H1.2.1) rfl rfl (Nat.le_of_ble_eq_true rfl) (by decide) dX2_keepUndropped_106 (q := 109) rfl (fun r9 h9 hp => ?_)
            obtain ⟨rfl, H3, F3⟩ := hp
            rw [so_id] at H3
            simp only [tk_app, List.append_assoc, List.cons_append, List.nil_append] at H3
            have hF9 : so_fr h h9 := fun q hq => by rw [F3 q (by omega), pm_ne (by omega) rfl, F1 q (by omega) (by omega), hF q hq]
            refine pm_inc K dX2_keepUndropped_109 (q := 112) rfl rfl (by decide) rfl ?_
            refine pm_goto K dX2_keepUndropped_112 (q := 10) rfl ?_
            have := ih (p + 1) h9 _ (some (.ref (18 + ix p))) (some (.int 0)) (by omega) (by rw [tr_sc_s, Nat.zero_add]; exact H3) (by rw [so_map_succ0, op_mark_t hv, ← eM]; exact hcl _) hF9
            rw [nw_mk_t hv, ea, hb] at this
            exact this
        · refine pm_iload_n K dX2_keepUndropped_44 (q := 45) rfl rfl rfl ?_
          refine pm_if_eq K dX2_keepUndropped_45 (tgt := 62) (q := 48) rfl rfl (fun z => absurd z (by decide)) (fun _ => ?_)
          refine pm_aload K dX2_keepUndropped_48 (q := 50) rfl rfl ?_
          refine pm_get K inX3 rfl (k := 3) (by decide) wlX2_79 rfl (by omega) (H1.row gx) rfl dX2_keepUndropped_50 (q := 53) rfl ?_
          refine pm_iload K dX2_keepUndropped_53 (q := 55) rfl rfl ?_
          refine pm_icmp_ne K dX2_keepUndropped_55 (tgt := 62) (q := 58) rfl rfl (fun hky => ?_) (fun hky => ?_)
          · refine pm_ic0 K dX2_keepUndropped_62 (q := 63) rfl ?_
            refine pm_istore K dX2_keepUndropped_63 (q := 65) rfl (by decide) rfl ?_
            have hky2 : ¬ M p 3 = (ud_a M p).2 := by rw [← eM]; exact hky
            refine pm_aload K dX2_keepUndropped_65 (q := 67) rfl rfl ?_
            refine pm_get K inX3 rfl (k := 4) (by decide) wlX2_86 rfl (by omega) (H1.row gx) rfl dX2_keepUndropped_67 (q := 70) rfl ?_
            refine pm_ic2 K dX2_keepUndropped_70 (q := 71) rfl ?_
            refine pm_icmp_eq K dX2_keepUndropped_71 (tgt := 79) (q := 74) rfl rfl (fun h2 => ?_) (fun h2 => ?_)
            · have hv : ud_live M p = true := by unfold ud_live; rw [← eM, h2]; simp
              refine pm_aload K dX2_keepUndropped_79 (q := 81) rfl rfl ?_
              refine pm_iload K dX2_keepUndropped_81 (q := 83) rfl rfl ?_
              refine pm_iload_n K dX2_keepUndropped_83 (q := 84) rfl rfl rfl ?_
              refine pm_callV0 K gw_ok wcX2_43 (c_keep l (by omega) (H1.row gx) (nI p) (nI (nw_mk (ud_live M) p).length)) rfl (by omega) (H1.row gx) rfl rfl (Nat.le_of_ble_eq_true rfl) (by decide) dX2_keepUndropped_84 (q := 87) rfl (fun r7 h7 hp => ?_)
              obtain ⟨rfl, rfl⟩ := hp
              refine pm_inc K dX2_keepUndropped_87 (q := 90) rfl rfl (by decide) rfl ?_
              refine pm_goto K dX2_keepUndropped_90 (q := 98) rfl ?_
              have H2 := H1.mod gx (f := rw_keep (nI p) (nI (nw_mk (ud_live M) p).length) (R (ix p))) (Or.inr rfl)
              refine pm_aload_n K dX2_keepUndropped_98 (q := 99) rfl rfl rfl ?_
              refine pm_get K inX2 rfl (k := 0) (by decide) wlX2_9 rfl (by omega) (pm_ne (by omega) ((F1 94 (by omega) (by omega)).trans ((hF 94 (by omega)).trans O))) rfl dX2_keepUndropped_99 (q := 102) rfl ?_
              refine pm_iload K dX2_keepUndropped_102 (q := 104) rfl rfl ?_
              refine pm_aload K dX2_keepUndropped_104 (q := 106) rfl rfl ?_
              refine pm_callV0 K gw_ok wcX2_49 (c_write l H2 (p := p) (by omega) gx) rfl (by omega) (pm_ne (by omega) H1.2.1) rfl rfl (Nat.le_of_ble_eq_true rfl) (by decide) dX2_keepUndropped_106 (q := 109) rfl (fun r9 h9 hp => ?_)
              obtain ⟨rfl, H3, F3⟩ := hp
              rw [so_id] at H3
              simp only [tk_app, List.append_assoc, List.cons_append, List.nil_append] at H3
              have hF9 : so_fr h h9 := fun q hq => by rw [F3 q (by omega), pm_ne (by omega) rfl, F1 q (by omega) (by omega), hF q hq]
              refine pm_inc K dX2_keepUndropped_109 (q := 112) rfl rfl (by decide) rfl ?_
              refine pm_goto K dX2_keepUndropped_112 (q := 10) rfl ?_
              have := ih (p + 1) h9 _ (some (.ref (18 + ix p))) (some (.int 0)) (by omega) (by rw [tr_sc_s, Nat.zero_add]; exact H3) (by rw [so_map_succ0, op_mark_t hv, ← eM]; exact hcl _) hF9
              rw [nw_mk_t hv, ea, hb] at this
              exact this
            · have h22 : ¬ M p 4 = 2 := by rw [← eM]; exact h2
              have hv : ud_live M p = true := by unfold ud_live; rw [ea, hb]; simp [h22, hky2]
              refine pm_iload K dX2_keepUndropped_74 (q := 76) rfl rfl ?_
              refine pm_if_ne K dX2_keepUndropped_76 (tgt := 93) (q := 79) rfl rfl (fun z => absurd z (fun z => z rfl)) (fun _ => ?_)
              refine pm_aload K dX2_keepUndropped_79 (q := 81) rfl rfl ?_
              refine pm_iload K dX2_keepUndropped_81 (q := 83) rfl rfl ?_
              refine pm_iload_n K dX2_keepUndropped_83 (q := 84) rfl rfl rfl ?_
              refine pm_callV0 K gw_ok wcX2_43 (c_keep l (by omega) (H1.row gx) (nI p) (nI (nw_mk (ud_live M) p).length)) rfl (by omega) (H1.row gx) rfl rfl (Nat.le_of_ble_eq_true rfl) (by decide) dX2_keepUndropped_84 (q := 87) rfl (fun r7 h7 hp => ?_)
              obtain ⟨rfl, rfl⟩ := hp
              refine pm_inc K dX2_keepUndropped_87 (q := 90) rfl rfl (by decide) rfl ?_
              refine pm_goto K dX2_keepUndropped_90 (q := 98) rfl ?_
              have H2 := H1.mod gx (f := rw_keep (nI p) (nI (nw_mk (ud_live M) p).length) (R (ix p))) (Or.inr rfl)
              refine pm_aload_n K dX2_keepUndropped_98 (q := 99) rfl rfl rfl ?_
              refine pm_get K inX2 rfl (k := 0) (by decide) wlX2_9 rfl (by omega) (pm_ne (by omega) ((F1 94 (by omega) (by omega)).trans ((hF 94 (by omega)).trans O))) rfl dX2_keepUndropped_99 (q := 102) rfl ?_
              refine pm_iload K dX2_keepUndropped_102 (q := 104) rfl rfl ?_
              refine pm_aload K dX2_keepUndropped_104 (q := 106) rfl rfl ?_
              refine pm_callV0 K gw_ok wcX2_49 (c_write l H2 (p := p) (by omega) gx) rfl (by omega) (pm_ne (by omega) H1.2.1) rfl rfl (Nat.le_of_ble_eq_true rfl) (by decide) dX2_keepUndropped_106 (q := 109) rfl (fun r9 h9 hp => ?_)
              obtain ⟨rfl, H3, F3⟩ := hp
              rw [so_id] at H3
              simp only [tk_app, List.append_assoc, List.cons_append, List.nil_append] at H3
              have hF9 : so_fr h h9 := fun q hq => by rw [F3 q (by omega), pm_ne (by omega) rfl, F1 q (by omega) (by omega), hF q hq]
              refine pm_inc K dX2_keepUndropped_109 (q := 112) rfl rfl (by decide) rfl ?_
              refine pm_goto K dX2_keepUndropped_112 (q := 10) rfl ?_
              have := ih (p + 1) h9 _ (some (.ref (18 + ix p))) (some (.int 0)) (by omega) (by rw [tr_sc_s, Nat.zero_add]; exact H3) (by rw [so_map_succ0, op_mark_t hv, ← eM]; exact hcl _) hF9
              rw [nw_mk_t hv, ea, hb] at this
              exact this
          · refine pm_ic1 K dX2_keepUndropped_58 (q := 59) rfl ?_
            refine pm_goto K dX2_keepUndropped_59 (q := 63) rfl ?_
            refine pm_istore K dX2_keepUndropped_63 (q := 65) rfl (by decide) rfl ?_
            have hky2 : M p 3 = (ud_a M p).2 := by rw [← eM]; exact hky
            refine pm_aload K dX2_keepUndropped_65 (q := 67) rfl rfl ?_
            refine pm_get K inX3 rfl (k := 4) (by decide) wlX2_86 rfl (by omega) (H1.row gx) rfl dX2_keepUndropped_67 (q := 70) rfl ?_
            refine pm_ic2 K dX2_keepUndropped_70 (q := 71) rfl ?_
            refine pm_icmp_eq K dX2_keepUndropped_71 (tgt := 79) (q := 74) rfl rfl (fun h2 => ?_) (fun h2 => ?_)
            · have hv : ud_live M p = true := by unfold ud_live; rw [← eM, h2]; simp
              refine pm_aload K dX2_keepUndropped_79 (q := 81) rfl rfl ?_
              refine pm_iload K dX2_keepUndropped_81 (q := 83) rfl rfl ?_
              refine pm_iload_n K dX2_keepUndropped_83 (q := 84) rfl rfl rfl ?_
              refine pm_callV0 K gw_ok wcX2_43 (c_keep l (by omega) (H1.row gx) (nI p) (nI (nw_mk (ud_live M) p).length)) rfl (by omega) (H1.row gx) rfl rfl (Nat.le_of_ble_eq_true rfl) (by decide) dX2_keepUndropped_84 (q := 87) rfl (fun r7 h7 hp => ?_)
              obtain ⟨rfl, rfl⟩ := hp
              refine pm_inc K dX2_keepUndropped_87 (q := 90) rfl rfl (by decide) rfl ?_
              refine pm_goto K dX2_keepUndropped_90 (q := 98) rfl ?_
              have H2 := H1.mod gx (f := rw_keep (nI p) (nI (nw_mk (ud_live M) p).length) (R (ix p))) (Or.inr rfl)
              refine pm_aload_n K dX2_keepUndropped_98 (q := 99) rfl rfl rfl ?_
              refine pm_get K inX2 rfl (k := 0) (by decide) wlX2_9 rfl (by omega) (pm_ne (by omega) ((F1 94 (by omega) (by omega)).trans ((hF 94 (by omega)).trans O))) rfl dX2_keepUndropped_99 (q := 102) rfl ?_
              refine pm_iload K dX2_keepUndropped_102 (q := 104) rfl rfl ?_
              refine pm_aload K dX2_keepUndropped_104 (q := 106) rfl rfl ?_
              refine pm_callV0 K gw_ok wcX2_49 (c_write l H2 (p := p) (by omega) gx) rfl (by omega) (pm_ne (by omega) H1.2.1) rfl rfl (Nat.le_of_ble_eq_true rfl) (by decide) dX2_keepUndropped_106 (q := 109) rfl (fun r9 h9 hp => ?_)
              obtain ⟨rfl, H3, F3⟩ := hp
              rw [so_id] at H3
              simp only [tk_app, List.append_assoc, List.cons_append, List.nil_append] at H3
              have hF9 : so_fr h h9 := fun q hq => by rw [F3 q (by omega), pm_ne (by omega) rfl, F1 q (by omega) (by omega), hF q hq]
              refine pm_inc K dX2_keepUndropped_109 (q := 112) rfl rfl (by decide) rfl ?_
              refine pm_goto K dX2_keepUndropped_112 (q := 10) rfl ?_
              have := ih (p + 1) h9 _ (some (.ref (18 + ix p))) (some (.int 1)) (by omega) (by rw [tr_sc_s, Nat.zero_add]; exact H3) (by rw [so_map_succ0, op_mark_t hv, ← eM]; exact hcl _) hF9
              rw [nw_mk_t hv, ea, hb] at this
              exact this
            · have h22 : ¬ M p 4 = 2 := by rw [← eM]; exact h2
              have hv : ud_live M p = false := by unfold ud_live; rw [ea, hb]; simp [h22, hky2]
              refine pm_iload K dX2_keepUndropped_74 (q := 76) rfl rfl ?_
              refine pm_if_ne K dX2_keepUndropped_76 (tgt := 93) (q := 79) rfl rfl (fun _ => ?_) (fun z => absurd z (fun z => absurd z (by decide)))
              refine pm_aload K dX2_keepUndropped_93 (q := 95) rfl rfl ?_
              refine pm_callV0 K gw_ok wcX2_46 (c_discard l (by omega) (H1.row gx)) rfl (by omega) (H1.row gx) rfl rfl (Nat.le_of_ble_eq_true rfl) (by decide) dX2_keepUndropped_95 (q := 98) rfl (fun r7 h7 hp => ?_)
              obtain ⟨rfl, rfl⟩ := hp
              have H2 := H1.mod gx (f := rw_disc (R (ix p))) (Or.inl rfl)
              refine pm_aload_n K dX2_keepUndropped_98 (q := 99) rfl rfl rfl ?_
              refine pm_get K inX2 rfl (k := 0) (by decide) wlX2_9 rfl (by omega) (pm_ne (by omega) ((F1 94 (by omega) (by omega)).trans ((hF 94 (by omega)).trans O))) rfl dX2_keepUndropped_99 (q := 102) rfl ?_
              refine pm_iload K dX2_keepUndropped_102 (q := 104) rfl rfl ?_
              refine pm_aload K dX2_keepUndropped_104 (q := 106) rfl rfl ?_
              refine pm_callV0 K gw_ok wcX2_49 (c_write l H2 (p := p) (by omega) gx) rfl (by omega) (pm_ne (by omega) H1.2.1) rfl rfl (Nat.le_of_ble_eq_true rfl) (by decide) dX2_keepUndropped_106 (q := 109) rfl (fun r9 h9 hp => ?_)
              obtain ⟨rfl, H3, F3⟩ := hp
              rw [so_id] at H3
              simp only [tk_app, List.append_assoc, List.cons_append, List.nil_append] at H3
              have hF9 : so_fr h h9 := fun q hq => by rw [F3 q (by omega), pm_ne (by omega) rfl, F1 q (by omega) (by omega), hF q hq]
              refine pm_inc K dX2_keepUndropped_109 (q := 112) rfl rfl (by decide) rfl ?_
              refine pm_goto K dX2_keepUndropped_112 (q := 10) rfl ?_
              have := ih (p + 1) h9 _ (some (.ref (18 + ix p))) (some (.int 1)) (by omega) (by rw [tr_sc_s, Nat.zero_add]; exact H3) (by rw [so_map_succ0, op_mark_f hv, ← eM]; exact hcl _) hF9
              rw [nw_mk_f hv, ea, hb] at this
              exact this
      · have hsd2 : M p 4 = 0 := by rw [← eM]; exact hsd
        have ea : ud_a M (p + 1) = (true, R (ix p) 3) := by rw [ud_a, if_pos hsd2, eM]
        have hv : ud_live M p = false := by unfold ud_live; rw [ea, hsd2, ← eM]; simp
        refine pm_ic1 K dX2_keepUndropped_35 (q := 36) rfl ?_
        refine pm_istore_n K dX2_keepUndropped_36 (q := 37) rfl rfl (by decide) rfl ?_
        refine pm_aload K dX2_keepUndropped_37 (q := 39) rfl rfl ?_
        refine pm_get K inX3 rfl (k := 3) (by decide) wlX2_79 rfl (by omega) (H1.row gx) rfl dX2_keepUndropped_39 (q := 42) rfl ?_
        refine pm_istore K dX2_keepUndropped_42 (q := 44) rfl (by decide) rfl ?_
        refine pm_iload_n K dX2_keepUndropped_44 (q := 45) rfl rfl rfl ?_
        refine pm_if_eq K dX2_keepUndropped_45 (tgt := 62) (q := 48) rfl rfl (fun z => absurd z (by decide)) (fun _ => ?_)
        refine pm_aload K dX2_keepUndropped_48 (q := 50) rfl rfl ?_
        refine pm_get K inX3 rfl (k := 3) (by decide) wlX2_79 rfl (by omega) (H1.row gx) rfl dX2_keepUndropped_50 (q := 53) rfl ?_
        refine pm_iload K dX2_keepUndropped_53 (q := 55) rfl rfl ?_
        refine pm_icmp_ne K dX2_keepUndropped_55 (tgt := 62) (q := 58) rfl rfl (fun z => absurd z (fun z => z rfl)) (fun _ => ?_)
        refine pm_ic1 K dX2_keepUndropped_58 (q := 59) rfl ?_
        refine pm_goto K dX2_keepUndropped_59 (q := 63) rfl ?_
        refine pm_istore K dX2_keepUndropped_63 (q := 65) rfl (by decide) rfl ?_
        refine pm_aload K dX2_keepUndropped_65 (q := 67) rfl rfl ?_
        refine pm_get K inX3 rfl (k := 4) (by decide) wlX2_86 rfl (by omega) (H1.row gx) rfl dX2_keepUndropped_67 (q := 70) rfl ?_
        refine pm_ic2 K dX2_keepUndropped_70 (q := 71) rfl ?_
        refine pm_icmp_eq K dX2_keepUndropped_71 (tgt := 79) (q := 74) rfl rfl (fun z => absurd z (by rw [hsd]; decide)) (fun _ => ?_)
        refine pm_iload K dX2_keepUndropped_74 (q := 76) rfl rfl ?_
        refine pm_if_ne K dX2_keepUndropped_76 (tgt := 93) (q := 79) rfl rfl (fun _ => ?_) (fun z => absurd z (fun z => absurd z (by decide)))
        refine pm_aload K dX2_keepUndropped_93 (q := 95) rfl rfl ?_
        refine pm_callV0 K gw_ok wcX2_46 (c_discard l (by omega) (H1.row gx)) rfl (by omega) (H1.row gx) rfl rfl (Nat.le_of_ble_eq_true rfl) (by decide) dX2_keepUndropped_95 (q := 98) rfl (fun r7 h7 hp => ?_)
        obtain ⟨rfl, rfl⟩ := hp
        have H2 := H1.mod gx (f := rw_disc (R (ix p))) (Or.inl rfl)
        refine pm_aload_n K dX2_keepUndropped_98 (q := 99) rfl rfl rfl ?_
        refine pm_get K inX2 rfl (k := 0) (by decide) wlX2_9 rfl (by omega) (pm_ne (by omega) ((F1 94 (by omega) (by omega)).trans ((hF 94 (by omega)).trans O))) rfl dX2_keepUndropped_99 (q := 102) rfl ?_
        refine pm_iload K dX2_keepUndropped_102 (q := 104) rfl rfl ?_
        refine pm_aload K dX2_keepUndropped_104 (q := 106) rfl rfl ?_
        refine pm_callV0 K gw_ok wcX2_49 (c_write l H2 (p := p) (by omega) gx) rfl (by omega) (pm_ne (by omega) H1.2.1) rfl rfl (Nat.le_of_ble_eq_true rfl) (by decide) dX2_keepUndropped_106 (q := 109) rfl (fun r9 h9 hp => ?_)
        obtain ⟨rfl, H3, F3⟩ := hp
        rw [so_id] at H3
        simp only [tk_app, List.append_assoc, List.cons_append, List.nil_append] at H3
        have hF9 : so_fr h h9 := fun q hq => by rw [F3 q (by omega), pm_ne (by omega) rfl, F1 q (by omega) (by omega), hF q hq]
        refine pm_inc K dX2_keepUndropped_109 (q := 112) rfl rfl (by decide) rfl ?_
        refine pm_goto K dX2_keepUndropped_112 (q := 10) rfl ?_
        have := ih (p + 1) h9 _ (some (.ref (18 + ix p))) (some (.int 1)) (by omega) (by rw [tr_sc_s, Nat.zero_add]; exact H3) (by rw [so_map_succ0, op_mark_f hv, ← eM]; exact hcl _) hF9
        rw [nw_mk_f hv, ea] at this
        exact this
  have := loop m 0 h R0 none none (by omega) (by rw [tr_sc, List.append_nil, so_at.tke HA0]; exact HA0) (by rw [so_map_0]; exact hL0) so_fr.rf
  exact this
