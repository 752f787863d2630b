/-! The join: its scans. -/
def cf_s (x : Int32 × Nat × Nat) (p : Nat) (f : rw_T) : Int32 × Nat × Nat := if p = 0 ∨ ¬ f 3 = x.1 then (f 3, 0, 0) else x
def cf_t (x : Int32 × Nat × Nat) (f : rw_T) : Int32 × Nat × Nat := if f 4 = 0 then (x.1, x.2.1 + 1, x.2.2) else (x.1, x.2.1, x.2.2 + 1)
/-- key, lefts, rights of it behind p rows -/
def cf_a (M : Nat → rw_T) : Nat → Int32 × Nat × Nat
  | 0 => (0, 0, 0)
  | p + 1 => cf_t (cf_s (cf_a M p) p (M p)) (M p)
theorem cf_a_s (M : Nat → rw_T) (p : Nat) : cf_a M (p + 1) = cf_t (cf_s (cf_a M p) p (M p)) (M p) := rfl
def cf_F (M : Nat → rw_T) (p : Nat) (f : rw_T) : rw_T := upd (upd f 5 (nI (cf_a M (p + 1)).2.1)) 6 (nI (cf_a M (p + 1)).2.2)
/-- key, lefts, rights, pairs behind the last j of m rows -/
def cb_a (N : Nat → rw_T) (m : Nat) : Nat → Int32 × Int32 × Int32 × Int32
  | 0 => (0, 0, 0, 0)
  | j + 1 => if j = 0 ∨ ¬ N (m - 1 - j) 3 = (cb_a N m j).1 then (N (m - 1 - j) 3, N (m - 1 - j) 5, N (m - 1 - j) 6, (cb_a N m j).2.2.2 + N (m - 1 - j) 5 * N (m - 1 - j) 6) else cb_a N m j
theorem cb_new {N : Nat → rw_T} {m k : Nat} (hk : k < m) (h : k + 1 = m ∨ ¬ N k 3 = (cb_a N m (m - (k + 1))).1) : cb_a N m (m - k) = (N k 3, N k 5, N k 6, (cb_a N m (m - (k + 1))).2.2.2 + N k 5 * N k 6) := by
  have e : m - k = m - (k + 1) + 1 := by omega
  have e2 : m - 1 - (m - (k + 1)) = k := by omega
  rw [e, cb_a, e2, if_pos]
  exact h.elim (fun z => Or.inl (by omega)) Or.inr
theorem cb_old {N : Nat → rw_T} {m k : Nat} (hk : k < m) (h : ¬ (k + 1 = m ∨ ¬ N k 3 = (cb_a N m (m - (k + 1))).1)) : cb_a N m (m - k) = cb_a N m (m - (k + 1)) := by
  have e : m - k = m - (k + 1) + 1 := by omega
  have e2 : m - 1 - (m - (k + 1)) = k := by omega
  rw [e, cb_a, e2, if_neg]
  exact fun z => h (z.elim (fun z => Or.inl (by omega)) Or.inr)
def cb_F (N : Nat → rw_T) (m p : Nat) (f : rw_T) : rw_T := rw_sort (f 4) (f 3) 0 (upd (upd f 5 (cb_a N m (m - p)).2.1) 6 (cb_a N m (m - p)).2.2.1)
def tr_cp : Nat → List Int32
  | 0 => []
  | m + 1 => tr_cp m ++ [so_rd m, so_wr (m + 40)]
theorem tr_cp_s (m : Nat) : tr_cp (m + 1) = tr_cp m ++ [so_rd m, so_wr (m + 40)] := rfl
def tr_ap : Nat → List Int32
  | 0 => []
  | m + 1 => tr_ap m ++ [so_rd m, so_rd (m + 40), so_wr m]
theorem tr_ap_s (m : Nat) : tr_ap (m + 1) = tr_ap m ++ [so_rd m, so_rd (m + 40), so_wr m] := rfl
def ms_c (sd : Int32) (f : rw_T) : Int32 := if f 4 = sd then rw_partners f else 0
def ms_v (c : Nat → Nat) (p : Nat) : Bool := decide (0 < c p)
def ms_st (c : Nat → Nat) : Nat → Nat
  | 0 => 0
  | p + 1 => ms_st c p + c p
def ms_F (c : Nat → Nat) (p : Nat) (f : rw_T) : rw_T := if ms_v c p = true then upd (rw_keep (nI p) (nI (nw_mk (ms_v c) p).length) f) 12 (nI (ms_st c p) - nI (nw_mk (ms_v c) p).length) else rw_disc f
set_option maxRecDepth 100000 in
theorem c_countForth (l : Launch) {n : Nat} {h : pm_H} {M : Nat → rw_T} {ts : List Int32} (H : so_L n h M ts) (hn : 111 < n) (J : h 95 = pm_O cJoin [.ref 15, .ref 96]) {m : Nat} (hm : m ≤ 76) : bM0 l yX1_countForth cX1_countForth 7 none 2 [.ref 95, .int (nI m)] n h (fun r h' => r = none ∧ so_L n h' (so_map 0 m (cf_F M) M) (tk (ts ++ tr_sc 0 m)) ∧ so_fr h h') := by
  refine pm_enter rfl (Nat.le_of_ble_eq_true rfl) (fun G K Z => ?_)
  obtain ⟨ix, R0, HA0, hi, hL0⟩ := id H
  refine pm_ic0 K dX1_countForth_0 (q := 1) rfl ?_
  refine pm_istore_n K dX1_countForth_1 (q := 2) rfl rfl (by decide) rfl ?_
  refine pm_ic0 K dX1_countForth_2 (q := 3) rfl ?_
  refine pm_istore_n K dX1_countForth_3 (q := 4) rfl rfl (by decide) rfl ?_
  refine pm_ic0 K dX1_countForth_4 (q := 5) rfl ?_
  refine pm_istore K dX1_countForth_5 (q := 7) rfl (by decide) rfl ?_
  refine pm_ic0 K dX1_countForth_7 (q := 8) rfl ?_
  refine pm_istore K dX1_countForth_8 (q := 10) rfl (by decide) rfl ?_
  have loop : ∀ (k p : Nat) (h2 : pm_H) (R : Nat → rw_T) (x6 : Option Value), p + k = m → so_at n h2 ix R (tk (ts ++ tr_sc 0 p)) → (∀ i, i < 76 → so_map 0 p (cf_F M) M i = R (ix i)) → so_fr h h2 → G 0 0 10 [some (.ref 95), some (.int (nI m)), some (.int (cf_a M p).1), some (.int (nI (cf_a M p).2.1)), some (.int (nI (cf_a M p).2.2)), some (.int (nI p)), x6] [] n h2 := by
    intro k
    induction k with
    | zero =>
      intro p h2 R x6 hk HA hL hF
      refine pm_iload K dX1_countForth_10 (q := 12) rfl rfl ?_
      refine pm_iload_n K dX1_countForth_12 (q := 13) rfl rfl rfl ?_
      refine pm_icmp_ge K dX1_countForth_13 (tgt := 99) (q := 16) rfl rfl (fun _ => ?_) (fun z => absurd z (fun z => z (nI_le (by omega) (by omega))))
      have ep : p = m := by omega
      subst ep
      exact pm_vret Z dX1_countForth_99 rfl (Nat.le_of_ble_eq_true rfl) (Nat.le_of_ble_eq_true rfl) ⟨rfl, ⟨rfl, ⟨ix, R, HA, hi, hL⟩, hF⟩⟩
    | succ k ih =>
      intro p h2 R x6 hk HA hL hF
      refine pm_iload K dX1_countForth_10 (q := 12) rfl rfl ?_
      refine pm_iload_n K dX1_countForth_12 (q := 13) rfl rfl rfl ?_
      refine pm_icmp_ge K dX1_countForth_13 (tgt := 99) (q := 16) rfl rfl (fun z => absurd z (nI_ge (by omega) (by omega))) (fun _ => ?_)
      have gx := HA.2.2.2.2.1 (p) (by omega)
      refine pm_aload_n K dX1_countForth_16 (q := 17) rfl rfl rfl ?_
      refine pm_get K inX1 rfl (k := 0) (by decide) wlX1_18 rfl (by omega) ((hF 95 (by omega)).trans J) rfl dX1_countForth_17 (q := 20) rfl ?_
      refine pm_iload K dX1_countForth_20 (q := 22) rfl rfl ?_
      refine pm_callV0 K gw_ok wcX1_57 (c_read l HA (p := p) (by omega)) rfl (by omega) HA.2.1 rfl rfl (Nat.le_of_ble_eq_true rfl) (by decide) dX1_countForth_22 (q := 25) rfl (fun r1 h1 hp => ?_)
      obtain ⟨rfl, H1, F1⟩ := hp
      have eM : R (ix p) = M p := by rw [← hL p (by omega), so_map_at0]
      refine pm_astore K dX1_countForth_25 (q := 27) rfl (by decide) rfl ?_
      have hcl := fun f => so_cl2 (f := f) hi hL (show p < 76 by omega)
      have j52 : ∀ b : Int32 × Nat × Nat, b = cf_s (cf_a M p) p (R (ix p)) → G 0 0 52 [some (.ref 95), some (.int (nI m)), some (.int b.1), some (.int (nI b.2.1)), some (.int (nI b.2.2)), some (.int (nI p)), some (.ref (18 + ix p))] [] n h1 := by
        intro b eb
        refine pm_aload K dX1_countForth_52 (q := 54) rfl rfl ?_
        refine pm_get K inX3 rfl (k := 4) (by decide) wlX1_65 rfl (by omega) (H1.row gx) rfl dX1_countForth_54 (q := 57) rfl ?_
        refine pm_if_ne K dX1_countForth_57 (tgt := 66) (q := 60) rfl rfl (fun hsd => ?_) (fun hsd => ?_)
        · refine pm_inc K dX1_countForth_66 (q := 69) rfl rfl (by decide) rfl ?_
          refine pm_aload K dX1_countForth_69 (q := 71) rfl rfl ?_
          refine pm_iload_n K dX1_countForth_71 (q := 72) rfl rfl rfl ?_
          refine rw_put K (k := 5) (by decide) (by decide) wlX1_68 (by omega) (H1.row gx) dX1_countForth_72 (q := 75) rfl ?_
          refine pm_aload K dX1_countForth_75 (q := 77) rfl rfl ?_
          refine pm_iload K dX1_countForth_77 (q := 79) rfl rfl ?_
          refine rw_putU K (k := 6) (by decide) (by decide) wlX1_71 (by omega) dX1_countForth_79 (q := 82) rfl ?_
          have H2 := H1.mod gx (f := upd (upd (R (ix p)) 5 (nI (b.2.1))) 6 (nI (b.2.2 + 1))) ((H1.2.2.2.2.2.1 _ gx).2)
          refine pm_aload_n K dX1_countForth_82 (q := 83) rfl rfl rfl ?_
          refine pm_get K inX1 rfl (k := 0) (by decide) wlX1_18 rfl (by omega) (pm_ne (by omega) ((F1 95 (by omega) (by omega)).trans ((hF 95 (by omega)).trans J))) rfl dX1_countForth_83 (q := 86) rfl ?_
          refine pm_iload K dX1_countForth_86 (q := 88) rfl rfl ?_
          refine pm_aload K dX1_countForth_88 (q := 90) rfl rfl ?_
          refine pm_callV0 K gw_ok wcX1_74 (c_write l H2 (p := p) (by omega) gx) rfl (by omega) (pm_ne (by omega) H1.2.1) rfl rfl (Nat.le_of_ble_eq_true rfl) (by decide) dX1_countForth_90 (q := 93) rfl (fun r9 h9 hp => ?_)
          obtain ⟨rfl, H3, F3⟩ := hp
          rw [so_id] at H3
          simp only [tk_app, List.append_assoc, List.cons_append, List.nil_append] at H3
          have hF9 : so_fr h h9 := fun q hq => by rw [F3 q (by omega), pm_ne (by omega) rfl, F1 q (by omega) (by omega), hF q hq]
          refine pm_inc K dX1_countForth_93 (q := 96) rfl rfl (by decide) rfl ?_
          refine pm_goto K dX1_countForth_96 (q := 10) rfl ?_
          have ea : cf_a M (p + 1) = (b.1, b.2.1, b.2.2 + 1) := by rw [cf_a_s, ← eM, ← eb, cf_t, if_neg hsd]
          have := ih (p + 1) h9 _ (some (.ref (18 + ix p))) (by omega) (by rw [tr_sc_s, Nat.zero_add]; exact H3) (by rw [so_map_succ0, cf_F, ea, ← eM]; exact hcl _) hF9
          rw [ea] at this
          exact this
        · refine pm_inc K dX1_countForth_60 (q := 63) rfl rfl (by decide) rfl ?_
          refine pm_goto K dX1_countForth_63 (q := 69) rfl ?_
          refine pm_aload K dX1_countForth_69 (q := 71) rfl rfl ?_
          refine pm_iload_n K dX1_countForth_71 (q := 72) rfl rfl rfl ?_
          refine rw_put K (k := 5) (by decide) (by decide) wlX1_68 (by omega) (H1.row gx) dX1_countForth_72 (q := 75) rfl ?_
          refine pm_aload K dX1_countForth_75 (q := 77) rfl rfl ?_
          refine pm_iload K dX1_countForth_77 (q := 79) rfl rfl ?_
          refine rw_putU K (k := 6) (by decide) (by decide) wlX1_71 (by omega) dX1_countForth_79 (q := 82) rfl ?_
          have H2 := H1.mod gx (f := upd (upd (R (ix p)) 5 (nI (b.2.1 + 1))) 6 (nI (b.2.2))) ((H1.2.2.2.2.2.1 _ gx).2)
          refine pm_aload_n K dX1_countForth_82 (q := 83) rfl rfl rfl ?_
          refine pm_get K inX1 rfl (k := 0) (by decide) wlX1_18 rfl (by omega) (pm_ne (by omega) ((F1 95 (by omega) (by omega)).trans ((hF 95 (by omega)).trans J))) rfl dX1_countForth_83 (q := 86) rfl ?_
          refine pm_iload K dX1_countForth_86 (q := 88) rfl rfl ?_
          refine pm_aload K dX1_countForth_88 (q := 90) rfl rfl ?_
          refine pm_callV0 K gw_ok wcX1_74 (c_write l H2 (p := p) (by omega) gx) rfl (by omega) (pm_ne (by omega) H1.2.1) rfl rfl (Nat.le_of_ble_eq_true rfl) (by decide) dX1_countForth_90 (q := 93) rfl (fun r9 h9 hp => ?_)
          obtain ⟨rfl, H3, F3⟩ := hp
          rw [so_id] at H3
          simp only [tk_app, List.append_assoc, List.cons_append, List.nil_append] at H3
          have hF9 : so_fr h h9 := fun q hq => by rw [F3 q (by omega), pm_ne (by omega) rfl, F1 q (by omega) (by omega), hF q hq]
          refine pm_inc K dX1_countForth_93 (q := 96) rfl rfl (by decide) rfl ?_
          refine pm_goto K dX1_countForth_96 (q := 10) rfl ?_
          have ea : cf_a M (p + 1) = (b.1, b.2.1 + 1, b.2.2) := by rw [cf_a_s, ← eM, ← eb, cf_t, if_pos hsd]
          have := ih (p + 1) h9 _ (some (.ref (18 + ix p))) (by omega) (by rw [tr_sc_s, Nat.zero_add]; exact H3) (by rw [so_map_succ0, cf_F, ea, ← eM]; exact hcl _) hF9
          rw [ea] at this
          exact this
      by_cases hp0 : p = 0
      · refine pm_iload K dX1_countForth_27 (q := 29) rfl rfl ?_
        refine pm_if_eq K dX1_countForth_29 (tgt := 41) (q := 32) rfl rfl (fun _ => ?_) (fun z => absurd z (fun z => z (by rw [hp0]; rfl)))
        refine pm_aload K dX1_countForth_41 (q := 43) rfl rfl ?_
        refine pm_get K inX3 rfl (k := 3) (by decide) wlX1_61 rfl (by omega) (H1.row gx) rfl dX1_countForth_43 (q := 46) rfl ?_
        refine pm_istore_n K dX1_countForth_46 (q := 47) rfl rfl (by decide) rfl ?_
        refine pm_ic0 K dX1_countForth_47 (q := 48) rfl ?_
        refine pm_istore_n K dX1_countForth_48 (q := 49) rfl rfl (by decide) rfl ?_
        refine pm_ic0 K dX1_countForth_49 (q := 50) rfl ?_
        refine pm_istore K dX1_countForth_50 (q := 52) rfl (by decide) rfl ?_
        exact j52 (R (ix p) 3, 0, 0) (by rw [cf_s, if_pos (Or.inl hp0)])
      · refine pm_iload K dX1_countForth_27 (q := 29) rfl rfl ?_
        refine pm_if_eq K dX1_countForth_29 (tgt := 41) (q := 32) rfl rfl (fun z => absurd z (nI_ne0 (by omega) (by omega))) (fun _ => ?_)
        refine pm_aload K dX1_countForth_32 (q := 34) rfl rfl ?_
        refine pm_get K inX3 rfl (k := 3) (by decide) wlX1_61 rfl (by omega) (H1.row gx) rfl dX1_countForth_34 (q := 37) rfl ?_
        refine pm_iload_n K dX1_countForth_37 (q := 38) rfl rfl rfl ?_
        refine pm_icmp_eq K dX1_countForth_38 (tgt := 52) (q := 41) rfl rfl (fun hky => ?_) (fun hky => ?_)
        · exact j52 (cf_a M p) (by rw [cf_s, if_neg (fun z => z.elim hp0 (fun z => z hky))])
        · refine pm_aload K dX1_countForth_41 (q := 43) rfl rfl ?_
          refine pm_get K inX3 rfl (k := 3) (by decide) wlX1_61 rfl (by omega) (H1.row gx) rfl dX1_countForth_43 (q := 46) rfl ?_
          refine pm_istore_n K dX1_countForth_46 (q := 47) rfl rfl (by decide) rfl ?_
          refine pm_ic0 K dX1_countForth_47 (q := 48) rfl ?_
          refine pm_istore_n K dX1_countForth_48 (q := 49) rfl rfl (by decide) rfl ?_
          refine pm_ic0 K dX1_countForth_49 (q := 50) rfl ?_
          refine pm_istore K dX1_countForth_50 (q := 52) rfl (by decide) rfl ?_
          exact j52 (R (ix p) 3, 0, 0) (by rw [cf_s, if_pos (Or.inr hky)])
  have := loop m 0 h R0 none (by omega) (by rw [tr_sc, List.append_nil, so_at.tke HA0]; exact HA0) (by rw [so_map_0]; exact hL0) so_fr.rf
  exact this
set_option maxRecDepth 100000 in
theorem c_countBack (l : Launch) {n : Nat} {h : pm_H} {M : Nat → rw_T} {ts : List Int32} (H : so_L n h M ts) (hn : 111 < n) (J : h 95 = pm_O cJoin [.ref 15, .ref 96]) {m : Nat} (hm : m ≤ 76) : bM0 l yX1_countBack cX1_countBack 8 (some (.int)) 2 [.ref 95, .int (nI m)] n h (fun r h' => r = some (.int (cb_a M m m).2.2.2) ∧ so_L n h' (so_bk 0 m (cb_F M m) M) (tk (ts ++ tr_bk m m)) ∧ so_fr h h') := by
  refine pm_enter rfl (Nat.le_of_ble_eq_true rfl) (fun G K Z => ?_)
  obtain ⟨ix, R0, HA0, hi, hL0⟩ := id H
  refine pm_ic0 K dX1_countBack_0 (q := 1) rfl ?_
  refine pm_istore_n K dX1_countBack_1 (q := 2) rfl rfl (by decide) rfl ?_
  refine pm_ic0 K dX1_countBack_2 (q := 3) rfl ?_
  refine pm_istore_n K dX1_countBack_3 (q := 4) rfl rfl (by decide) rfl ?_
  refine pm_ic0 K dX1_countBack_4 (q := 5) rfl ?_
  refine pm_istore K dX1_countBack_5 (q := 7) rfl (by decide) rfl ?_
  refine pm_ic0 K dX1_countBack_7 (q := 8) rfl ?_
  refine pm_istore K dX1_countBack_8 (q := 10) rfl (by decide) rfl ?_
  refine pm_iload_n K dX1_countBack_10 (q := 11) rfl rfl rfl ?_
  refine pm_ic1 K dX1_countBack_11 (q := 12) rfl ?_
  refine pm_isub K dX1_countBack_12 (q := 13) rfl ?_
  refine pm_istore K dX1_countBack_13 (q := 15) rfl (by decide) rfl ?_
  have loop : ∀ (k : Nat) (h2 : pm_H) (R : Nat → rw_T) (x7 : Option Value), k ≤ m → so_at n h2 ix R (tk (ts ++ tr_bk m (m - k))) → (∀ i, i < 76 → so_bk k m (cb_F M m) M i = R (ix i)) → so_fr h h2 → G 0 0 15 [some (.ref 95), some (.int (nI m)), some (.int (cb_a M m (m - k)).1), some (.int (cb_a M m (m - k)).2.1), some (.int (cb_a M m (m - k)).2.2.1), some (.int (cb_a M m (m - k)).2.2.2), some (.int (nI k - 1)), x7] [] n h2 := by
    intro k
    induction k with
    | zero =>
      intro h2 R x7 hk HA hL hF
      refine pm_iload K dX1_countBack_15 (q := 17) rfl rfl ?_
      refine pm_if_lt K dX1_countBack_17 (tgt := 122) (q := 20) rfl rfl (fun _ => ?_) (fun z => absurd z (fun z => z (by decide)))
      refine pm_iload K dX1_countBack_122 (q := 124) rfl rfl ?_
      exact pm_iret Z dX1_countBack_124 rfl rfl (Nat.le_of_ble_eq_true rfl) (Nat.le_of_ble_eq_true rfl) ⟨rfl, ⟨rfl, ⟨ix, R, HA, hi, hL⟩, hF⟩⟩
    | succ k ih =>
      intro h2 R x7 hk HA hL hF
      rw [nI_pred]
      refine pm_iload K dX1_countBack_15 (q := 17) rfl rfl ?_
      refine pm_if_lt K dX1_countBack_17 (tgt := 122) (q := 20) rfl rfl (fun z => absurd z (nI_pos (by omega))) (fun _ => ?_)
      have gx := HA.2.2.2.2.1 (k) (by omega)
      refine pm_aload_n K dX1_countBack_20 (q := 21) rfl rfl rfl ?_
      refine pm_get K inX1 rfl (k := 0) (by decide) wlX1_18 rfl (by omega) ((hF 95 (by omega)).trans J) rfl dX1_countBack_21 (q := 24) rfl ?_
      refine pm_iload K dX1_countBack_24 (q := 26) rfl rfl ?_
      refine pm_callV0 K gw_ok wcX1_57 (c_read l HA (p := k) (by omega)) rfl (by omega) HA.2.1 rfl rfl (Nat.le_of_ble_eq_true rfl) (by decide) dX1_countBack_26 (q := 29) rfl (fun r1 h1 hp => ?_)
      obtain ⟨rfl, H1, F1⟩ := hp
      have eM : R (ix k) = M k := by rw [← hL k (by omega), so_bk_out (by omega)]
      refine pm_astore K dX1_countBack_29 (q := 31) rfl (by decide) rfl ?_
      have hcl := fun f => so_cl2 (f := f) hi hL (show k < 76 by omega)
      have etr : tr_bk m (m - k) = tr_bk m (m - (k + 1)) ++ [so_rd k, so_wr k] := tr_bk_s (by omega)
      have j76 : ∀ b : Int32 × Int32 × Int32 × Int32, b = cb_a M m (m - k) → G 0 0 76 [some (.ref 95), some (.int (nI m)), some (.int b.1), some (.int b.2.1), some (.int b.2.2.1), some (.int b.2.2.2), some (.int (nI k)), some (.ref (18 + ix k))] [] n h1 := by
        intro b eb
        refine pm_aload K dX1_countBack_76 (q := 78) rfl rfl ?_
        refine pm_iload_n K dX1_countBack_78 (q := 79) rfl rfl rfl ?_
        refine rw_put K (k := 5) (by decide) (by decide) wlX1_68 (by omega) (H1.row gx) dX1_countBack_79 (q := 82) rfl ?_
        refine pm_aload K dX1_countBack_82 (q := 84) rfl rfl ?_
        refine pm_iload K dX1_countBack_84 (q := 86) rfl rfl ?_
        refine rw_putU K (k := 6) (by decide) (by decide) wlX1_71 (by omega) dX1_countBack_86 (q := 89) rfl ?_
        refine pm_aload K dX1_countBack_89 (q := 91) rfl rfl ?_
        refine pm_aload K dX1_countBack_91 (q := 93) rfl rfl ?_
        refine pm_get K inX3 rfl (k := 4) (by decide) wlX1_65 rfl (by omega) (pm_same _ _ _) rfl dX1_countBack_93 (q := 96) rfl ?_
        refine pm_aload K dX1_countBack_96 (q := 98) rfl rfl ?_
        refine pm_get K inX3 rfl (k := 3) (by decide) wlX1_61 rfl (by omega) (pm_same _ _ _) rfl dX1_countBack_98 (q := 101) rfl ?_
        refine pm_ic0 K dX1_countBack_101 (q := 102) rfl ?_
        refine pm_callV0 K gw_ok wcX1_78 (c_sortBy l (by omega) (pm_same _ _ _) (R (ix k) 4) (R (ix k) 3) 0) rfl (by omega) (pm_same _ _ _) rfl rfl (Nat.le_of_ble_eq_true rfl) (by decide) dX1_countBack_102 (q := 105) rfl (fun r7 h7 hp => ?_)
        obtain ⟨rfl, rfl⟩ := hp
        rw [pm_up2]
        have H2 := H1.mod gx (f := rw_sort (R (ix k) 4) (R (ix k) 3) 0 (upd (upd (R (ix k)) 5 b.2.1) 6 b.2.2.1)) ((H1.2.2.2.2.2.1 _ gx).2)
        refine pm_aload_n K dX1_countBack_105 (q := 106) rfl rfl rfl ?_
        refine pm_get K inX1 rfl (k := 0) (by decide) wlX1_18 rfl (by omega) (pm_ne (by omega) ((F1 95 (by omega) (by omega)).trans ((hF 95 (by omega)).trans J))) rfl dX1_countBack_106 (q := 109) rfl ?_
        refine pm_iload K dX1_countBack_109 (q := 111) rfl rfl ?_
        refine pm_aload K dX1_countBack_111 (q := 113) rfl rfl ?_
        refine pm_callV0 K gw_ok wcX1_74 (c_write l H2 (p := k) (by omega) gx) rfl (by omega) (pm_ne (by omega) H1.2.1) rfl rfl (Nat.le_of_ble_eq_true rfl) (by decide) dX1_countBack_113 (q := 116) rfl (fun r9 h9 hp => ?_)
        obtain ⟨rfl, H3, F3⟩ := hp
        rw [so_id] at H3
        simp only [tk_app, List.append_assoc, List.cons_append, List.nil_append] at H3
        have hF9 : so_fr h h9 := fun q hq => by rw [F3 q (by omega), pm_ne (by omega) rfl, F1 q (by omega) (by omega), hF q hq]
        refine pm_iinc (v := nI k - 1) K dX1_countBack_116 (q := 119) rfl rfl (by rw [Int32.sub_eq_add_neg]; rfl) (by decide) rfl ?_
        refine pm_goto K dX1_countBack_119 (q := 15) rfl ?_
        have := ih h9 _ (some (.ref (18 + ix k))) (by omega) (by rw [etr]; exact H3) (by rw [so_bk_s (by omega), cb_F, ← eb, ← eM]; exact hcl _) hF9
        rw [← eb] at this
        exact this
      refine pm_iload K dX1_countBack_31 (q := 33) rfl rfl ?_
      refine pm_iload_n K dX1_countBack_33 (q := 34) rfl rfl rfl ?_
      refine pm_ic1 K dX1_countBack_34 (q := 35) rfl ?_
      refine pm_isub K dX1_countBack_35 (q := 36) rfl ?_
      rw [show nI m - 1 = nI (m - 1) from pk_sub (b := 1) (by omega)]
      refine pm_icmp_eq K dX1_countBack_36 (tgt := 48) (q := 39) rfl rfl (fun hx => ?_) (fun hx => ?_)
      · have hk1 : k + 1 = m := by have := (nI_eq (by omega) (by omega)).mp hx; omega
        refine pm_aload K dX1_countBack_48 (q := 50) rfl rfl ?_
        refine pm_get K inX3 rfl (k := 3) (by decide) wlX1_61 rfl (by omega) (H1.row gx) rfl dX1_countBack_50 (q := 53) rfl ?_
        refine pm_istore_n K dX1_countBack_53 (q := 54) rfl rfl (by decide) rfl ?_
        refine pm_aload K dX1_countBack_54 (q := 56) rfl rfl ?_
        refine pm_get K inX3 rfl (k := 5) (by decide) wlX1_68 rfl (by omega) (H1.row gx) rfl dX1_countBack_56 (q := 59) rfl ?_
        refine pm_istore_n K dX1_countBack_59 (q := 60) rfl rfl (by decide) rfl ?_
        refine pm_aload K dX1_countBack_60 (q := 62) rfl rfl ?_
        refine pm_get K inX3 rfl (k := 6) (by decide) wlX1_71 rfl (by omega) (H1.row gx) rfl dX1_countBack_62 (q := 65) rfl ?_
        refine pm_istore K dX1_countBack_65 (q := 67) rfl (by decide) rfl ?_
        refine pm_iload K dX1_countBack_67 (q := 69) rfl rfl ?_
        refine pm_iload_n K dX1_countBack_69 (q := 70) rfl rfl rfl ?_
        refine pm_iload K dX1_countBack_70 (q := 72) rfl rfl ?_
        refine pm_imul K dX1_countBack_72 (q := 73) rfl ?_
        refine pm_iadd K dX1_countBack_73 (q := 74) rfl ?_
        refine pm_istore K dX1_countBack_74 (q := 76) rfl (by decide) rfl ?_
        exact j76 _ (by rw [cb_new (by omega) (Or.inl hk1), ← eM])
      · have hk1 : k + 1 < m := by have : ¬ k = m - 1 := fun z => hx (by rw [z]); omega
        refine pm_aload K dX1_countBack_39 (q := 41) rfl rfl ?_
        refine pm_get K inX3 rfl (k := 3) (by decide) wlX1_61 rfl (by omega) (H1.row gx) rfl dX1_countBack_41 (q := 44) rfl ?_
        refine pm_iload_n K dX1_countBack_44 (q := 45) rfl rfl rfl ?_
        refine pm_icmp_eq K dX1_countBack_45 (tgt := 76) (q := 48) rfl rfl (fun hy => ?_) (fun hy => ?_)
        · exact j76 (cb_a M m (m - (k + 1))) (cb_old (k := k) (by omega) (fun z => z.elim (by omega) (fun z => z (by rw [← eM]; exact hy)))).symm
        · refine pm_aload K dX1_countBack_48 (q := 50) rfl rfl ?_
          refine pm_get K inX3 rfl (k := 3) (by decide) wlX1_61 rfl (by omega) (H1.row gx) rfl dX1_countBack_50 (q := 53) rfl ?_
          refine pm_istore_n K dX1_countBack_53 (q := 54) rfl rfl (by decide) rfl ?_
          refine pm_aload K dX1_countBack_54 (q := 56) rfl rfl ?_
          refine pm_get K inX3 rfl (k := 5) (by decide) wlX1_68 rfl (by omega) (H1.row gx) rfl dX1_countBack_56 (q := 59) rfl ?_
          refine pm_istore_n K dX1_countBack_59 (q := 60) rfl rfl (by decide) rfl ?_
          refine pm_aload K dX1_countBack_60 (q := 62) rfl rfl ?_
          refine pm_get K inX3 rfl (k := 6) (by decide) wlX1_71 rfl (by omega) (H1.row gx) rfl dX1_countBack_62 (q := 65) rfl ?_
          refine pm_istore K dX1_countBack_65 (q := 67) rfl (by decide) rfl ?_
          refine pm_iload K dX1_countBack_67 (q := 69) rfl rfl ?_
          refine pm_iload_n K dX1_countBack_69 (q := 70) rfl rfl rfl ?_
          refine pm_iload K dX1_countBack_70 (q := 72) rfl rfl ?_
          refine pm_imul K dX1_countBack_72 (q := 73) rfl ?_
          refine pm_iadd K dX1_countBack_73 (q := 74) rfl ?_
          refine pm_istore K dX1_countBack_74 (q := 76) rfl (by decide) rfl ?_
          exact j76 _ (by rw [cb_new (by omega) (Or.inr (by rw [← eM]; exact hy)), ← eM])
  have := loop m h R0 none (Nat.le_refl _) (by rw [Nat.sub_self, tr_bk, List.append_nil, so_at.tke HA0]; exact HA0) (by rw [so_bk_0]; exact hL0) so_fr.rf
  rw [Nat.sub_self] at this
  exact this
set_option maxRecDepth 100000 in
theorem c_copyAll (l : Launch) {n : Nat} {h : pm_H} {M : Nat → rw_T} {ts : List Int32} (H : so_L n h M ts) (hn : 111 < n) (J : h 95 = pm_O cJoin [.ref 15, .ref 96]) {m : Nat} (hm : m ≤ 36) : bM0 l yX1_copyAll cX1_copyAll 3 none 3 [.ref 95, .int (nI m)] n h (fun r h' => r = none ∧ so_L n h' (so_map 40 m (fun p _ => M p) M) (tk (ts ++ tr_cp m)) ∧ so_fr h h') := by
  refine pm_enter rfl (Nat.le_of_ble_eq_true rfl) (fun G K Z => ?_)
  refine pm_ic0 K dX1_copyAll_0 (q := 1) rfl ?_
  refine pm_istore_n K dX1_copyAll_1 (q := 2) rfl rfl (by decide) rfl ?_
  have loop : ∀ (k p : Nat) (h2 : pm_H), p + k = m → so_L n h2 (so_map 40 p (fun p _ => M p) M) (tk (ts ++ tr_cp p)) → so_fr h h2 → G 0 0 2 [some (.ref 95), some (.int (nI m)), some (.int (nI p))] [] n h2 := by
    intro k
    induction k with
    | zero =>
      intro p h2 hk HL hF
      refine pm_iload_n K dX1_copyAll_2 (q := 3) rfl rfl rfl ?_
      refine pm_iload_n K dX1_copyAll_3 (q := 4) rfl rfl rfl ?_
      refine pm_icmp_ge K dX1_copyAll_4 (tgt := 25) (q := 7) rfl rfl (fun _ => ?_) (fun z => absurd z (fun z => z (nI_le (by omega) (by omega))))
      have ep : p = m := by omega
      subst ep
      exact pm_vret Z dX1_copyAll_25 rfl (Nat.le_of_ble_eq_true rfl) (Nat.le_of_ble_eq_true rfl) ⟨rfl, ⟨rfl, HL, hF⟩⟩
    | succ k ih =>
      intro p h2 hk HL hF
      refine pm_iload_n K dX1_copyAll_2 (q := 3) rfl rfl rfl ?_
      refine pm_iload_n K dX1_copyAll_3 (q := 4) rfl rfl rfl ?_
      refine pm_icmp_ge K dX1_copyAll_4 (tgt := 25) (q := 7) rfl rfl (fun z => absurd z (nI_ge (by omega) (by omega))) (fun _ => ?_)
      obtain ⟨ix, R, HA, hi, hL⟩ := HL
      refine pm_aload_n K dX1_copyAll_7 (q := 8) rfl rfl rfl ?_
      refine pm_get K inX1 rfl (k := 0) (by decide) wlX1_18 rfl (by omega) ((hF 95 (by omega)).trans J) rfl dX1_copyAll_8 (q := 11) rfl ?_
      refine pm_iload_n K dX1_copyAll_11 (q := 12) rfl rfl rfl ?_
      refine pm_iload_n K dX1_copyAll_12 (q := 13) rfl rfl rfl ?_
      refine pm_bipush (v := nI 40) K dX1_copyAll_13 (q := 15) rfl (by decide) ?_
      refine pm_iadd K dX1_copyAll_15 (q := 16) rfl ?_
      rw [nI_add]
      refine pm_callV0 K gw_ok wcX1_82 (c_copy l HA (p := p) (q0 := p + 40) (by omega) (by omega) (fun z => by have := hi _ _ (by omega) (by omega) z; omega)) rfl (by omega) HA.2.1 rfl rfl (Nat.le_of_ble_eq_true rfl) (by decide) dX1_copyAll_16 (q := 19) rfl (fun r1 h1 hp => ?_)
      obtain ⟨rfl, H3, F3⟩ := hp
      simp only [tk_app, List.append_assoc] at H3
      refine pm_inc K dX1_copyAll_19 (q := 22) rfl rfl (by decide) rfl ?_
      refine pm_goto K dX1_copyAll_22 (q := 2) rfl ?_
      have HC := so_L.cl H3 hi hL (by omega)
      refine ih (p + 1) _ (by omega) ?_ (hF.tr F3)
      rw [so_map_succ, Nat.add_comm 40 p, tr_cp_s]
      have eM : R (ix p) = M p := by rw [← hL p (by omega)]; unfold so_map; rw [if_neg (by omega)]
      rw [eM] at HC
      exact HC
  have := loop m 0 h (by omega) (by rw [so_map_0, tr_cp, List.append_nil]; exact H.tke) so_fr.rf
  exact this
set_option maxRecDepth 100000 in
theorem c_addPairs (l : Launch) {n : Nat} {h : pm_H} {M : Nat → rw_T} {ts : List Int32} (H : so_L n h M ts) (hn : 111 < n) (J : h 95 = pm_O cJoin [.ref 15, .ref 96]) {m : Nat} (hm : m ≤ 36) : bM0 l yX1_addPairs cX1_addPairs 5 none 3 [.ref 95, .int (nI m)] n h (fun r h' => r = none ∧ so_L n h' (so_map 0 m (fun p f => rw_cols (f 3) (f 1 + M (p + 40) 1) (f 2 + M (p + 40) 2) f) M) (tk (ts ++ tr_ap m)) ∧ so_fr h h') := by
  refine pm_enter rfl (Nat.le_of_ble_eq_true rfl) (fun G K Z => ?_)
  obtain ⟨ix, R0, HA0, hi, hL0⟩ := id H
  refine pm_ic0 K dX1_addPairs_0 (q := 1) rfl ?_
  refine pm_istore_n K dX1_addPairs_1 (q := 2) rfl rfl (by decide) rfl ?_
  have loop : ∀ (k p : Nat) (h2 : pm_H) (R : Nat → rw_T) (x3 x4 : Option Value), p + k = m → so_at n h2 ix R (tk (ts ++ tr_ap p)) → (∀ i, i < 76 → so_map 0 p (fun p f => rw_cols (f 3) (f 1 + M (p + 40) 1) (f 2 + M (p + 40) 2) f) M i = R (ix i)) → so_fr h h2 → G 0 0 2 [some (.ref 95), some (.int (nI m)), some (.int (nI p)), x3, x4] [] n h2 := by
    intro k
    induction k with
    | zero =>
      intro p h2 R x3 x4 hk HA hL hF
      refine pm_iload_n K dX1_addPairs_2 (q := 3) rfl rfl rfl ?_
      refine pm_iload_n K dX1_addPairs_3 (q := 4) rfl rfl rfl ?_
      refine pm_icmp_ge K dX1_addPairs_4 (tgt := 72) (q := 7) rfl rfl (fun _ => ?_) (fun z => absurd z (fun z => z (nI_le (by omega) (by omega))))
      have ep : p = m := by omega
      subst ep
      exact pm_vret Z dX1_addPairs_72 rfl (Nat.le_of_ble_eq_true rfl) (Nat.le_of_ble_eq_true rfl) ⟨rfl, ⟨rfl, ⟨ix, R, HA, hi, hL⟩, hF⟩⟩
    | succ k ih =>
      intro p h2 R x3 x4 hk HA hL hF
      refine pm_iload_n K dX1_addPairs_2 (q := 3) rfl rfl rfl ?_
      refine pm_iload_n K dX1_addPairs_3 (q := 4) rfl rfl rfl ?_
      refine pm_icmp_ge K dX1_addPairs_4 (tgt := 72) (q := 7) rfl rfl (fun z => absurd z (nI_ge (by omega) (by omega))) (fun _ => ?_)
      have eM : R (ix p) = M p := by rw [← hL p (by omega), so_map_at0]
      have eN : R (ix (p + 40)) = M (p + 40) := by rw [← hL (p + 40) (by omega)]; unfold so_map; rw [if_neg (by omega)]
      have gy := HA.2.2.2.2.1 (p + 40) (by omega)
      have hcl := fun f => so_cl2 (f := f) hi hL (show p < 76 by omega)
      have hxy : ix (p + 40) ≠ ix p := fun z => by have := hi _ _ (by omega) (by omega) z; omega
      have gx := HA.2.2.2.2.1 p (by omega)
      refine pm_aload_n K dX1_addPairs_7 (q := 8) rfl rfl rfl ?_
      refine pm_get K inX1 rfl (k := 0) (by decide) wlX1_18 rfl (by omega) ((hF 95 (by omega)).trans J) rfl dX1_addPairs_8 (q := 11) rfl ?_
      refine pm_iload_n K dX1_addPairs_11 (q := 12) rfl rfl rfl ?_
      refine pm_callV0 K gw_ok wcX1_57 (c_read l HA (p := p) (by omega)) rfl (by omega) HA.2.1 rfl rfl (Nat.le_of_ble_eq_true rfl) (by decide) dX1_addPairs_12 (q := 15) rfl (fun r1 h0 hp => ?_)
      obtain ⟨rfl, H0, F0⟩ := hp
      refine pm_astore_n K dX1_addPairs_15 (q := 16) rfl rfl (by decide) rfl ?_
      refine pm_aload_n K dX1_addPairs_16 (q := 17) rfl rfl rfl ?_
      refine pm_get K inX1 rfl (k := 0) (by decide) wlX1_18 rfl (by omega) ((F0 95 (by omega) (by omega)).trans ((hF 95 (by omega)).trans J)) rfl dX1_addPairs_17 (q := 20) rfl ?_
      refine pm_iload_n K dX1_addPairs_20 (q := 21) rfl rfl rfl ?_
      refine pm_bipush (v := nI 40) K dX1_addPairs_21 (q := 23) rfl (by decide) ?_
      refine pm_iadd K dX1_addPairs_23 (q := 24) rfl ?_
      rw [nI_add]
      refine pm_callV0 K gw_ok wcX1_57 (c_read l H0 (p := p + 40) (by omega)) rfl (by omega) H0.2.1 rfl rfl (Nat.le_of_ble_eq_true rfl) (by decide) dX1_addPairs_24 (q := 27) rfl (fun r1 h1 hp => ?_)
      obtain ⟨rfl, H1, F1⟩ := hp
      refine pm_astore K dX1_addPairs_27 (q := 29) rfl (by decide) rfl ?_
      refine pm_aload_n K dX1_addPairs_29 (q := 30) rfl rfl rfl ?_
      refine pm_aload_n K dX1_addPairs_30 (q := 31) rfl rfl rfl ?_
      refine pm_get K inX3 rfl (k := 3) (by decide) wlX1_61 rfl (by omega) (H1.row gx) rfl dX1_addPairs_31 (q := 34) rfl ?_
      refine pm_aload_n K dX1_addPairs_34 (q := 35) rfl rfl rfl ?_
      refine pm_get K inX3 rfl (k := 1) (by decide) wlX1_85 rfl (by omega) (H1.row gx) rfl dX1_addPairs_35 (q := 38) rfl ?_
      refine pm_aload K dX1_addPairs_38 (q := 40) rfl rfl ?_
      refine pm_get K inX3 rfl (k := 1) (by decide) wlX1_85 rfl (by omega) (H1.row gy) rfl dX1_addPairs_40 (q := 43) rfl ?_
      refine pm_iadd K dX1_addPairs_43 (q := 44) rfl ?_
      refine pm_aload_n K dX1_addPairs_44 (q := 45) rfl rfl rfl ?_
      refine pm_get K inX3 rfl (k := 2) (by decide) wlX1_88 rfl (by omega) (H1.row gx) rfl dX1_addPairs_45 (q := 48) rfl ?_
      refine pm_aload K dX1_addPairs_48 (q := 50) rfl rfl ?_
      refine pm_get K inX3 rfl (k := 2) (by decide) wlX1_88 rfl (by omega) (H1.row gy) rfl dX1_addPairs_50 (q := 53) rfl ?_
      refine pm_iadd K dX1_addPairs_53 (q := 54) rfl ?_
      refine pm_callV0 K gw_ok wcX1_91 (c_setColumns l (by omega) (H1.row gx) (R (ix p) 3) (R (ix p) 1 + R (ix (p + 40)) 1) (R (ix p) 2 + R (ix (p + 40)) 2)) rfl (by omega) (H1.row gx) rfl rfl (Nat.le_of_ble_eq_true rfl) (by decide) dX1_addPairs_54 (q := 57) rfl (fun r7 h7 hp => ?_)
      obtain ⟨rfl, rfl⟩ := hp
      have hF2 : so_fr h h0 := fun q hq => by rw [F0 q (by omega) (by omega), hF q hq]
      have H2 := H1.mod gx (f := rw_cols (R (ix p) 3) (R (ix p) 1 + R (ix (p + 40)) 1) (R (ix p) 2 + R (ix (p + 40)) 2) (R (ix p))) ((H1.2.2.2.2.2.1 _ gx).2)
      refine pm_aload_n K dX1_addPairs_57 (q := 58) rfl rfl rfl ?_
      refine pm_get K inX1 rfl (k := 0) (by decide) wlX1_18 rfl (by omega) (pm_ne (by omega) ((F1 95 (by omega) (by omega)).trans ((F0 95 (by omega) (by omega)).trans ((hF 95 (by omega)).trans J)))) rfl dX1_addPairs_58 (q := 61) rfl ?_
      refine pm_iload_n K dX1_addPairs_61 (q := 62) rfl rfl rfl ?_
      refine pm_aload_n K dX1_addPairs_62 (q := 63) rfl rfl rfl ?_
      refine pm_callV0 K gw_ok wcX1_74 (c_write l H2 (p := p) (by omega) gx) rfl (by omega) (pm_ne (by omega) H1.2.1) rfl rfl (Nat.le_of_ble_eq_true rfl) (by decide) dX1_addPairs_63 (q := 66) rfl (fun r9 h9 hp => ?_)
      obtain ⟨rfl, H3, F3⟩ := hp
      rw [so_id] at H3
      simp only [tk_app, List.append_assoc, List.cons_append, List.nil_append] at H3
      have hF9 : so_fr h h9 := fun q hq => by rw [F3 q (by omega), pm_ne (by omega) rfl, F1 q (by omega) (by omega), hF2 q hq]
      refine pm_inc K dX1_addPairs_66 (q := 69) rfl rfl (by decide) rfl ?_
      refine pm_goto K dX1_addPairs_69 (q := 2) rfl ?_
      exact ih (p + 1) h9 _ _ _ (by omega) (by rw [tr_ap_s]; exact H3) (by rw [so_map_succ0, ← eM, ← eN]; exact hcl _) hF9
  have := loop m 0 h R0 none none (by omega) (by rw [tr_ap, List.append_nil, so_at.tke HA0]; exact HA0) (by rw [so_map_0]; exact hL0) so_fr.rf
  exact this
set_option maxRecDepth 100000 in
theorem c_markStarts (l : Launch) {n : Nat} {h : pm_H} {M : Nat → rw_T} {ts : List Int32} (H : so_L n h M ts) (hn : 111 < n) (J : h 95 = pm_O cJoin [.ref 15, .ref 96]) {b0 m : Nat} {sd : Int32} {c : Nat → Nat} (hm : b0 + m ≤ 76) (hc : ∀ p, p < m → ms_c sd (M (b0 + p)) = nI (c p) ∧ c p < 1000) : bM0 l yX1_markStarts cX1_markStarts 9 none 2 [.ref 95, .int (nI b0), .int (nI m), .int sd] n h (fun r h' => r = none ∧ so_L n h' (so_map b0 m (ms_F c) M) (tk (ts ++ tr_sc b0 m)) ∧ so_fr h h') := by
  refine pm_enter rfl (Nat.le_of_ble_eq_true rfl) (fun G K Z => ?_)
  obtain ⟨ix, R0, HA0, hi, hL0⟩ := id H
  refine pm_ic0 K dX1_markStarts_0 (q := 1) rfl ?_
  refine pm_istore K dX1_markStarts_1 (q := 3) rfl (by decide) rfl ?_
  refine pm_ic0 K dX1_markStarts_3 (q := 4) rfl ?_
  refine pm_istore K dX1_markStarts_4 (q := 6) rfl (by decide) rfl ?_
  refine pm_ic0 K dX1_markStarts_6 (q := 7) rfl ?_
  refine pm_istore K dX1_markStarts_7 (q := 9) rfl (by decide) rfl ?_
  have loop : ∀ (k p : Nat) (h2 : pm_H) (R : Nat → rw_T) (x7 x8 : Option Value), p + k = m → so_at n h2 ix R (tk (ts ++ tr_sc b0 p)) → (∀ i, i < 76 → so_map b0 p (ms_F c) M i = R (ix i)) → so_fr h h2 → G 0 0 9 [some (.ref 95), some (.int (nI b0)), some (.int (nI m)), some (.int sd), some (.int (nI (nw_mk (ms_v c) p).length)), some (.int (nI (ms_st c p))), some (.int (nI p)), x7, x8] [] n h2 := by
    intro k
    induction k with
    | zero =>
      intro p h2 R x7 x8 hk HA hL hF
      refine pm_iload K dX1_markStarts_9 (q := 11) rfl rfl ?_
      refine pm_iload_n K dX1_markStarts_11 (q := 12) rfl rfl rfl ?_
      refine pm_icmp_ge K dX1_markStarts_12 (tgt := 109) (q := 15) rfl rfl (fun _ => ?_) (fun z => absurd z (fun z => z (nI_le (by omega) (by omega))))
      have ep : p = m := by omega
      subst ep
      exact pm_vret Z dX1_markStarts_109 rfl (Nat.le_of_ble_eq_true rfl) (Nat.le_of_ble_eq_true rfl) ⟨rfl, ⟨rfl, ⟨ix, R, HA, hi, hL⟩, hF⟩⟩
    | succ k ih =>
      intro p h2 R x7 x8 hk HA hL hF
      refine pm_iload K dX1_markStarts_9 (q := 11) rfl rfl ?_
      refine pm_iload_n K dX1_markStarts_11 (q := 12) rfl rfl rfl ?_
      refine pm_icmp_ge K dX1_markStarts_12 (tgt := 109) (q := 15) rfl rfl (fun z => absurd z (nI_ge (by omega) (by omega))) (fun _ => ?_)
      have gx := HA.2.2.2.2.1 (b0 + p) (by omega)
      refine pm_aload_n K dX1_markStarts_15 (q := 16) rfl rfl rfl ?_
      refine pm_get K inX1 rfl (k := 0) (by decide) wlX1_18 rfl (by omega) ((hF 95 (by omega)).trans J) rfl dX1_markStarts_16 (q := 19) rfl ?_
      refine pm_iload_n K dX1_markStarts_19 (q := 20) rfl rfl rfl ?_
      refine pm_iload K dX1_markStarts_20 (q := 22) rfl rfl ?_
      refine pm_iadd K dX1_markStarts_22 (q := 23) rfl ?_
      rw [nI_add]
      refine pm_callV0 K gw_ok wcX1_57 (c_read l HA (p := b0 + p) (by omega)) rfl (by omega) HA.2.1 rfl rfl (Nat.le_of_ble_eq_true rfl) (by decide) dX1_markStarts_23 (q := 26) rfl (fun r1 h1 hp => ?_)
      obtain ⟨rfl, H1, F1⟩ := hp
      have eM : R (ix (b0 + p)) = M (b0 + p) := by rw [← hL (b0 + p) (by omega), so_map_at]
      refine pm_astore K dX1_markStarts_26 (q := 28) rfl (by decide) rfl ?_
      have hcl := fun f => so_cl2 (f := f) hi hL (show b0 + p < 76 by omega)
      obtain ⟨hc1, hc2⟩ := hc p (by omega)
      rw [← eM] at hc1
      have hml := nw_mk_le (ms_v c) p
      have j48 : G 0 0 48 [some (.ref 95), some (.int (nI b0)), some (.int (nI m)), some (.int sd), some (.int (nI (nw_mk (ms_v c) p).length)), some (.int (nI (ms_st c p))), some (.int (nI p)), some (.ref (18 + ix (b0 + p))), some (.int (nI (c p)))] [] n h1 := by
        refine pm_iload K dX1_markStarts_48 (q := 50) rfl rfl ?_
        refine pm_if_le K dX1_markStarts_50 (tgt := 85) (q := 53) rfl rfl (fun hx => ?_) (fun hx => ?_)
        · have hz : c p = 0 := by rcases Nat.eq_zero_or_pos (c p) with z | z; exact z; exact absurd hx (nI_nle z (by omega))
          have hv : ms_v c p = false := decide_eq_false (by omega)
          refine pm_aload K dX1_markStarts_85 (q := 87) rfl rfl ?_
          refine pm_callV0 K gw_ok wcX1_122 (c_discard l (by omega) (H1.row gx)) rfl (by omega) (H1.row gx) rfl rfl (Nat.le_of_ble_eq_true rfl) (by decide) dX1_markStarts_87 (q := 90) rfl (fun r7 h7 hp => ?_)
          obtain ⟨rfl, rfl⟩ := hp
          have H2 := H1.mod gx (f := rw_disc (R (ix (b0 + p)))) (Or.inl rfl)
          refine pm_aload_n K dX1_markStarts_90 (q := 91) rfl rfl rfl ?_
          refine pm_get K inX1 rfl (k := 0) (by decide) wlX1_18 rfl (by omega) (pm_ne (by omega) ((F1 95 (by omega) (by omega)).trans ((hF 95 (by omega)).trans J))) rfl dX1_markStarts_91 (q := 94) rfl ?_
          refine pm_iload_n K dX1_markStarts_94 (q := 95) rfl rfl rfl ?_
          refine pm_iload K dX1_markStarts_95 (q := 97) rfl rfl ?_
          refine pm_iadd K dX1_markStarts_97 (q := 98) rfl ?_
          refine pm_aload K dX1_markStarts_98 (q := 100) rfl rfl ?_
          rw [nI_add]
          refine pm_callV0 K gw_ok wcX1_74 (c_write l H2 (p := b0 + p) (by omega) gx) rfl (by omega) (pm_ne (by omega) H1.2.1) rfl rfl (Nat.le_of_ble_eq_true rfl) (by decide) dX1_markStarts_100 (q := 103) rfl (fun r9 h9 hp => ?_)
          obtain ⟨rfl, H3, F3⟩ := hp
          rw [so_id] at H3
          simp only [tk_app, List.append_assoc, List.cons_append, List.nil_append] at H3
          have hF9 : so_fr h h9 := fun q hq => by rw [F3 q (by omega), pm_ne (by omega) rfl, F1 q (by omega) (by omega), hF q hq]
          refine pm_inc K dX1_markStarts_103 (q := 106) rfl rfl (by decide) rfl ?_
          refine pm_goto K dX1_markStarts_106 (q := 9) rfl ?_
          have := ih (p + 1) h9 _ (some (.ref (18 + ix (b0 + p)))) (some (.int (nI (c p)))) (by omega) (by rw [tr_sc_s]; exact H3) (by rw [so_map_succ, ms_F, if_neg (by rw [hv]; decide), ← eM]; exact hcl _) hF9
          rw [nw_mk_f hv, ms_st, hz, Nat.add_zero] at this
          rw [hz]
          exact this
        · have hz : 0 < c p := by rcases Nat.eq_zero_or_pos (c p) with z | z; exact absurd (by rw [z]; decide) hx; exact z
          have hv : ms_v c p = true := decide_eq_true hz
          refine pm_aload K dX1_markStarts_53 (q := 55) rfl rfl ?_
          refine pm_iload K dX1_markStarts_55 (q := 57) rfl rfl ?_
          refine pm_iload K dX1_markStarts_57 (q := 59) rfl rfl ?_
          refine pm_callV0 K gw_ok wcX1_116 (c_keep l (by omega) (H1.row gx) (nI p) (nI (nw_mk (ms_v c) p).length)) rfl (by omega) (H1.row gx) rfl rfl (Nat.le_of_ble_eq_true rfl) (by decide) dX1_markStarts_59 (q := 62) rfl (fun r7 h7 hp => ?_)
          obtain ⟨rfl, rfl⟩ := hp
          refine pm_aload K dX1_markStarts_62 (q := 64) rfl rfl ?_
          refine pm_iload K dX1_markStarts_64 (q := 66) rfl rfl ?_
          refine pm_iload K dX1_markStarts_66 (q := 68) rfl rfl ?_
          refine pm_isub K dX1_markStarts_68 (q := 69) rfl ?_
          refine rw_putU K (k := 12) (by decide) (by decide) wlX1_119 (by omega) dX1_markStarts_69 (q := 72) rfl ?_
          refine pm_inc K dX1_markStarts_72 (q := 75) rfl rfl (by decide) rfl ?_
          refine pm_iload K dX1_markStarts_75 (q := 77) rfl rfl ?_
          refine pm_iload K dX1_markStarts_77 (q := 79) rfl rfl ?_
          refine pm_iadd K dX1_markStarts_79 (q := 80) rfl ?_
          rw [nI_add]
          refine pm_istore K dX1_markStarts_80 (q := 82) rfl (by decide) rfl ?_
          refine pm_goto K dX1_markStarts_82 (q := 90) rfl ?_
          have H2 := H1.mod gx (f := upd (rw_keep (nI p) (nI (nw_mk (ms_v c) p).length) (R (ix (b0 + p)))) 12 (nI (ms_st c p) - nI (nw_mk (ms_v c) p).length)) (Or.inr rfl)
          refine pm_aload_n K dX1_markStarts_90 (q := 91) rfl rfl rfl ?_
          refine pm_get K inX1 rfl (k := 0) (by decide) wlX1_18 rfl (by omega) (pm_ne (by omega) ((F1 95 (by omega) (by omega)).trans ((hF 95 (by omega)).trans J))) rfl dX1_markStarts_91 (q := 94) rfl ?_
          refine pm_iload_n K dX1_markStarts_94 (q := 95) rfl rfl rfl ?_
          refine pm_iload K dX1_markStarts_95 (q := 97) rfl rfl ?_
          refine pm_iadd K dX1_markStarts_97 (q := 98) rfl ?_
          refine pm_aload K dX1_markStarts_98 (q := 100) rfl rfl ?_
          rw [nI_add]
          refine pm_callV0 K gw_ok wcX1_74 (c_write l H2 (p := b0 + p) (by omega) gx) rfl (by omega) (pm_ne (by omega) H1.2.1) rfl rfl (Nat.le_of_ble_eq_true rfl) (by decide) dX1_markStarts_100 (q := 103) rfl (fun r9 h9 hp => ?_)
          obtain ⟨rfl, H3, F3⟩ := hp
          rw [so_id] at H3
          simp only [tk_app, List.append_assoc, List.cons_append, List.nil_append] at H3
          have hF9 : so_fr h h9 := fun q hq => by rw [F3 q (by omega), pm_ne (by omega) rfl, F1 q (by omega) (by omega), hF q hq]
          refine pm_inc K dX1_markStarts_103 (q := 106) rfl rfl (by decide) rfl ?_
          refine pm_goto K dX1_markStarts_106 (q := 9) rfl ?_
          have := ih (p + 1) h9 _ (some (.ref (18 + ix (b0 + p)))) (some (.int (nI (c p)))) (by omega) (by rw [tr_sc_s]; exact H3) (by rw [so_map_succ, ms_F, if_pos hv, ← eM]; exact hcl _) hF9
          rw [nw_mk_t hv, ms_st] at this
          exact this
      refine pm_aload K dX1_markStarts_28 (q := 30) rfl rfl ?_
      refine pm_get K inX3 rfl (k := 4) (by decide) wlX1_65 rfl (by omega) (H1.row gx) rfl dX1_markStarts_30 (q := 33) rfl ?_
      refine pm_iload_n K dX1_markStarts_33 (q := 34) rfl rfl rfl ?_
      refine pm_icmp_ne K dX1_markStarts_34 (tgt := 45) (q := 37) rfl rfl (fun hs => ?_) (fun hs => ?_)
      · refine pm_ic0 K dX1_markStarts_45 (q := 46) rfl ?_
        refine pm_istore K dX1_markStarts_46 (q := 48) rfl (by decide) rfl ?_
        rw [ms_c, if_neg hs] at hc1
        rw [hc1]
        exact j48
      · refine pm_aload K dX1_markStarts_37 (q := 39) rfl rfl ?_
        refine pm_callV0 K gw_ok wcX1_112 (c_partners l (by omega) (H1.row gx)) rfl (by omega) (H1.row gx) rfl rfl (Nat.le_of_ble_eq_true rfl) (by decide) dX1_markStarts_39 (q := 42) rfl (fun r5 h5 hp => ?_)
        obtain ⟨rfl, e1⟩ := hp
        rw [e1]
        rw [ms_c, if_pos hs] at hc1
        rw [hc1]
        refine pm_goto K dX1_markStarts_42 (q := 46) rfl ?_
        refine pm_istore K dX1_markStarts_46 (q := 48) rfl (by decide) rfl ?_
        exact j48
  have := loop m 0 h R0 none none (by omega) (by rw [tr_sc, List.append_nil, so_at.tke HA0]; exact HA0) (by rw [so_map_0]; exact hL0) so_fr.rf
  exact this
