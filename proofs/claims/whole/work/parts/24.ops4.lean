/-! The operators: groups. -/
/-- groups, key, sum, number behind p rows -/
def ga_a (M : Nat → rw_T) (sc : Int32) : Nat → Nat × Int32 × Int32 × Nat
  | 0 => (0, 0, 0, 0)
  | p + 1 => if p = 0 ∨ ¬ M p 3 = (ga_a M sc p).2.1 then ((ga_a M sc p).1 + 1, M p 3, 0 + rw_col sc (M p), 1) else ((ga_a M sc p).1, (ga_a M sc p).2.1, (ga_a M sc p).2.2.1 + rw_col sc (M p), (ga_a M sc p).2.2.2 + 1)
def ga_F (M : Nat → rw_T) (sc : Int32) (p : Nat) (f : rw_T) : rw_T := rw_keep (nI p) (nI ((ga_a M sc (p + 1)).1 - 1)) (rw_cols (ga_a M sc (p + 1)).2.1 (ga_a M sc (p + 1)).2.2.1 (nI (ga_a M sc (p + 1)).2.2.2) f)
theorem ga_new {M : Nat → rw_T} {sc : Int32} {p : Nat} (h : p = 0 ∨ ¬ M p 3 = (ga_a M sc p).2.1) : ga_a M sc (p + 1) = ((ga_a M sc p).1 + 1, M p 3, 0 + rw_col sc (M p), 1) := by
  rw [ga_a, if_pos h]
theorem ga_old {M : Nat → rw_T} {sc : Int32} {p : Nat} (h : ¬ (p = 0 ∨ ¬ M p 3 = (ga_a M sc p).2.1)) : ga_a M sc (p + 1) = ((ga_a M sc p).1, (ga_a M sc p).2.1, (ga_a M sc p).2.2.1 + rw_col sc (M p), (ga_a M sc p).2.2.2 + 1) := by
  rw [ga_a, if_neg h]
theorem ga_F_new {M : Nat → rw_T} {sc : Int32} {p : Nat} {f : rw_T} (h : p = 0 ∨ ¬ M p 3 = (ga_a M sc p).2.1) : ga_F M sc p f = rw_keep (nI p) (nI (ga_a M sc p).1) (rw_cols (M p 3) (0 + rw_col sc (M p)) (nI 1) f) := by
  rw [ga_F, ga_new h]
  rfl
theorem ga_F_old {M : Nat → rw_T} {sc : Int32} {p : Nat} {f : rw_T} (h : ¬ (p = 0 ∨ ¬ M p 3 = (ga_a M sc p).2.1)) : ga_F M sc p f = rw_keep (nI p) (nI ((ga_a M sc p).1 - 1)) (rw_cols (ga_a M sc p).2.1 ((ga_a M sc p).2.2.1 + rw_col sc (M p)) (nI ((ga_a M sc p).2.2.2 + 1)) f) := by
  rw [ga_F, ga_old h]
theorem ga_pos (M : Nat → rw_T) (sc : Int32) : ∀ {p : Nat}, ¬ p = 0 → 1 ≤ (ga_a M sc p).1
  | 0, h => absurd rfl h
  | p + 1, _ => by
    rw [ga_a]
    split
    · exact Nat.le_add_left _ _
    · rename_i h
      exact ga_pos M sc (fun z => h (Or.inl z))
def so_bk (k m : Nat) (F : Nat → rw_T → rw_T) (N : Nat → rw_T) : Nat → rw_T := fun i => if k ≤ i ∧ i < m then F i (N i) else N i
theorem so_bk_out {k m : Nat} {F : Nat → rw_T → rw_T} {N : Nat → rw_T} {i : Nat} (h : i < k ∨ m ≤ i) : so_bk k m F N i = N i := by
  unfold so_bk
  rw [if_neg (by omega)]
theorem so_bk_in {k m : Nat} {F : Nat → rw_T → rw_T} {N : Nat → rw_T} {i : Nat} (h : k ≤ i) (h2 : i < m) : so_bk k m F N i = F i (N i) := by
  unfold so_bk
  rw [if_pos ⟨h, h2⟩]
theorem so_bk_0 (m : Nat) (F : Nat → rw_T → rw_T) (N : Nat → rw_T) : so_bk m m F N = N := by
  funext i
  exact so_bk_out (by omega)
theorem so_bk_s {k m : Nat} {F : Nat → rw_T → rw_T} {N : Nat → rw_T} (h : k < m) : so_bk k m F N = va_up (so_bk (k + 1) m F N) k (F k (N k)) := by
  funext i
  by_cases e : i = k
  · subst e
    rw [so_bk_in (Nat.le_refl _) h]
    simp [va_up]
  · simp only [va_up, e, if_false]
    unfold so_bk
    by_cases h2 : k + 1 ≤ i ∧ i < m
    · rw [if_pos h2, if_pos (by omega)]
    · rw [if_neg h2, if_neg (by omega)]
theorem so_bk_same {k m : Nat} {F : Nat → rw_T → rw_T} {N : Nat → rw_T} (h : k < m) : va_up (so_bk (k + 1) m F N) k (N k) = so_bk (k + 1) m F N := by
  funext i
  by_cases e : i = k
  · subst e
    rw [so_bk_out (by omega)]
    simp [va_up]
  · simp [va_up, e]
def kl_last (M : Nat → rw_T) (m p : Nat) : Bool := decide (p + 1 = m ∨ ¬ M p 3 = M (p + 1) 3)
def kl_F (M : Nat → rw_T) (m p : Nat) (f : rw_T) : rw_T := if kl_last M m p = true then f else rw_disc f
theorem kl_F_t {M : Nat → rw_T} {m p : Nat} {f : rw_T} (h : p + 1 = m ∨ ¬ M p 3 = M (p + 1) 3) : kl_F M m p f = f := if_pos (decide_eq_true h)
theorem kl_F_f {M : Nat → rw_T} {m p : Nat} {f : rw_T} (h : ¬ (p + 1 = m ∨ ¬ M p 3 = M (p + 1) 3)) : kl_F M m p f = rw_disc f := if_neg (by rw [kl_last, decide_eq_false h]; decide)
theorem tr_bk_s {m k : Nat} (h : k + 1 ≤ m) : tr_bk m (m - k) = tr_bk m (m - (k + 1)) ++ [so_rd k, so_wr k] := by
  have e : m - k = m - (k + 1) + 1 := by omega
  rw [e, tr_bk]
  have e2 : m - 1 - (m - (k + 1)) = k := by omega
  rw [e2]
set_option maxRecDepth 100000 in
theorem c_addUp (l : Launch) {n : Nat} {h : pm_H} {M : Nat → rw_T} {ts : List Int32} (H : so_L n h M ts) (hn : 111 < n) (O : h 94 = pm_O cOps [.ref 15]) {m : Nat} (hm : m ≤ 76) (sc : Int32) : bM0 l yX2_addUpForth cX2_addUpForth 9 (some (.int)) 2 [.ref 94, .int (nI m), .int sc] n h (fun r h' => r = some (.int (nI (ga_a M sc m).1)) ∧ so_L n h' (so_map 0 m (ga_F M sc) M) (tk (ts ++ tr_sc 0 m)) ∧ so_fr h h') := by
  refine pm_enter rfl (Nat.le_of_ble_eq_true rfl) (fun G K Z => ?_)
  obtain ⟨ix, R0, HA0, hi, hL0⟩ := id H
  refine pm_ic0 K dX2_addUpForth_0 (q := 1) rfl ?_
  refine pm_istore_n K dX2_addUpForth_1 (q := 2) rfl rfl (by decide) rfl ?_
  refine pm_ic0 K dX2_addUpForth_2 (q := 3) rfl ?_
  refine pm_istore K dX2_addUpForth_3 (q := 5) rfl (by decide) rfl ?_
  refine pm_ic0 K dX2_addUpForth_5 (q := 6) rfl ?_
  refine pm_istore K dX2_addUpForth_6 (q := 8) rfl (by decide) rfl ?_
  refine pm_ic0 K dX2_addUpForth_8 (q := 9) rfl ?_
  refine pm_istore K dX2_addUpForth_9 (q := 11) rfl (by decide) rfl ?_
  refine pm_ic0 K dX2_addUpForth_11 (q := 12) rfl ?_
  refine pm_istore K dX2_addUpForth_12 (q := 14) rfl (by decide) rfl ?_
  have loop : ∀ (k p : Nat) (h2 : pm_H) (R : Nat → rw_T) (x8 : Option Value), p + k = m → so_at n h2 ix R (tk (ts ++ tr_sc 0 p)) → (∀ i, i < 76 → so_map 0 p (ga_F M sc) M i = R (ix i)) → so_fr h h2 → G 0 0 14 [some (.ref 94), some (.int (nI m)), some (.int sc), some (.int (nI (ga_a M sc p).1)), some (.int (ga_a M sc p).2.1), some (.int (ga_a M sc p).2.2.1), some (.int (nI (ga_a M sc p).2.2.2)), some (.int (nI p)), x8] [] n h2 := by
    intro k
    induction k with
    | zero =>
      intro p h2 R x8 hk HA hL hF
      refine pm_iload K dX2_addUpForth_14 (q := 16) rfl rfl ?_
      refine pm_iload_n K dX2_addUpForth_16 (q := 17) rfl rfl rfl ?_
      refine pm_icmp_ge K dX2_addUpForth_17 (tgt := 114) (q := 20) rfl rfl (fun _ => ?_) (fun z => absurd z (fun z => z (nI_le (by omega) (by omega))))
      have ep : p = m := by omega
      subst ep
      refine pm_iload_n K dX2_addUpForth_114 (q := 115) rfl rfl rfl ?_
      exact pm_iret Z dX2_addUpForth_115 rfl rfl (Nat.le_of_ble_eq_true rfl) (Nat.le_of_ble_eq_true rfl) ⟨rfl, ⟨rfl, ⟨ix, R, HA, hi, hL⟩, hF⟩⟩
    | succ k ih =>
      intro p h2 R x8 hk HA hL hF
      refine pm_iload K dX2_addUpForth_14 (q := 16) rfl rfl ?_
      refine pm_iload_n K dX2_addUpForth_16 (q := 17) rfl rfl rfl ?_
      refine pm_icmp_ge K dX2_addUpForth_17 (tgt := 114) (q := 20) rfl rfl (fun z => absurd z (nI_ge (by omega) (by omega))) (fun _ => ?_)
      have gx := HA.2.2.2.2.1 (p) (by omega)
      refine pm_aload_n K dX2_addUpForth_20 (q := 21) rfl rfl rfl ?_
      refine pm_get K inX2 rfl (k := 0) (by decide) wlX2_9 rfl (by omega) ((hF 94 (by omega)).trans O) rfl dX2_addUpForth_21 (q := 24) rfl ?_
      refine pm_iload K dX2_addUpForth_24 (q := 26) rfl rfl ?_
      refine pm_callV0 K gw_ok wcX2_29 (c_read l HA (p := p) (by omega)) rfl (by omega) HA.2.1 rfl rfl (Nat.le_of_ble_eq_true rfl) (by decide) dX2_addUpForth_26 (q := 29) rfl (fun r1 h1 hp => ?_)
      obtain ⟨rfl, H1, F1⟩ := hp
      have eM : R (ix p) = M p := by rw [← hL p (by omega), so_map_at0]
      refine pm_astore K dX2_addUpForth_29 (q := 31) rfl (by decide) rfl ?_
      have hcl := fun f => so_cl2 (f := f) hi hL (show p < 76 by omega)
      by_cases hp0 : p = 0
      · have hnw : p = 0 ∨ ¬ M p 3 = (ga_a M sc p).2.1 := Or.inl hp0
        refine pm_iload K dX2_addUpForth_31 (q := 33) rfl rfl ?_
        refine pm_if_eq K dX2_addUpForth_33 (tgt := 46) (q := 36) rfl rfl (fun _ => ?_) (fun z => absurd z (fun z => z (by rw [hp0]; rfl)))
        refine pm_inc K dX2_addUpForth_46 (q := 49) rfl rfl (by decide) rfl ?_
        refine pm_aload K dX2_addUpForth_49 (q := 51) rfl rfl ?_
        refine pm_get K inX3 rfl (k := 3) (by decide) wlX2_79 rfl (by omega) (H1.row gx) rfl dX2_addUpForth_51 (q := 54) rfl ?_
        refine pm_istore K dX2_addUpForth_54 (q := 56) rfl (by decide) rfl ?_
        refine pm_ic0 K dX2_addUpForth_56 (q := 57) rfl ?_
        refine pm_istore K dX2_addUpForth_57 (q := 59) rfl (by decide) rfl ?_
        refine pm_ic0 K dX2_addUpForth_59 (q := 60) rfl ?_
        refine pm_istore K dX2_addUpForth_60 (q := 62) rfl (by decide) rfl ?_
        refine pm_iload K dX2_addUpForth_62 (q := 64) rfl rfl ?_
        refine pm_aload K dX2_addUpForth_64 (q := 66) rfl rfl ?_
        refine pm_iload_n K dX2_addUpForth_66 (q := 67) rfl rfl rfl ?_
        refine pm_callV0 K gw_ok wcX2_33 (c_column l (by omega) (H1.row gx) sc) rfl (by omega) (H1.row gx) rfl rfl (Nat.le_of_ble_eq_true rfl) (by decide) dX2_addUpForth_67 (q := 70) rfl (fun r5 h5 hp => ?_)
        obtain ⟨rfl, e1⟩ := hp
        rw [e1]
        refine pm_iadd K dX2_addUpForth_70 (q := 71) rfl ?_
        refine pm_istore K dX2_addUpForth_71 (q := 73) rfl (by decide) rfl ?_
        refine pm_inc K dX2_addUpForth_73 (q := 76) rfl rfl (by decide) rfl ?_
        refine pm_aload K dX2_addUpForth_76 (q := 78) rfl rfl ?_
        refine pm_iload K dX2_addUpForth_78 (q := 80) rfl rfl ?_
        refine pm_iload K dX2_addUpForth_80 (q := 82) rfl rfl ?_
        refine pm_iload K dX2_addUpForth_82 (q := 84) rfl rfl ?_
        refine pm_callV0 K gw_ok wcX2_56 (c_setColumns l (by omega) (H1.row gx) (R (ix p) 3) (0 + rw_col sc (R (ix p))) (nI 1)) rfl (by omega) (H1.row gx) rfl rfl (Nat.le_of_ble_eq_true rfl) (by decide) dX2_addUpForth_84 (q := 87) rfl (fun r6 h6 hp => ?_)
        obtain ⟨rfl, rfl⟩ := hp
        refine pm_aload K dX2_addUpForth_87 (q := 89) rfl rfl ?_
        refine pm_iload K dX2_addUpForth_89 (q := 91) rfl rfl ?_
        refine pm_iload_n K dX2_addUpForth_91 (q := 92) rfl rfl rfl ?_
        refine pm_ic1 K dX2_addUpForth_92 (q := 93) rfl ?_
        refine pm_isub K dX2_addUpForth_93 (q := 94) rfl ?_
        rw [nI_pred]
        refine pm_callV0 K gw_ok wcX2_43 (c_keep l (by omega) (pm_same _ _ _) (nI p) (nI (ga_a M sc p).1)) rfl (by omega) (pm_same _ _ _) rfl rfl (Nat.le_of_ble_eq_true rfl) (by decide) dX2_addUpForth_94 (q := 97) rfl (fun r7 h7 hp => ?_)
        obtain ⟨rfl, rfl⟩ := hp
        rw [pm_up2]
        have H2 := H1.mod gx (f := rw_keep (nI p) (nI (ga_a M sc p).1) (rw_cols (R (ix p) 3) (0 + rw_col sc (R (ix p))) (nI 1) (R (ix p)))) (Or.inr rfl)
        refine pm_aload_n K dX2_addUpForth_97 (q := 98) rfl rfl rfl ?_
        refine pm_get K inX2 rfl (k := 0) (by decide) wlX2_9 rfl (by omega) (pm_ne (by omega) ((F1 94 (by omega) (by omega)).trans ((hF 94 (by omega)).trans O))) rfl dX2_addUpForth_98 (q := 101) rfl ?_
        refine pm_iload K dX2_addUpForth_101 (q := 103) rfl rfl ?_
        refine pm_aload K dX2_addUpForth_103 (q := 105) rfl rfl ?_
        refine pm_callV0 K gw_ok wcX2_49 (c_write l H2 (p := p) (by omega) gx) rfl (by omega) (pm_ne (by omega) H1.2.1) rfl rfl (Nat.le_of_ble_eq_true rfl) (by decide) dX2_addUpForth_105 (q := 108) rfl (fun r9 h9 hp => ?_)
        obtain ⟨rfl, H3, F3⟩ := hp
        rw [so_id] at H3
        simp only [tk_app, List.append_assoc, List.cons_append, List.nil_append] at H3
        have hF9 : so_fr h h9 := fun q hq => by rw [F3 q (by omega), pm_ne (by omega) rfl, F1 q (by omega) (by omega), hF q hq]
        refine pm_inc K dX2_addUpForth_108 (q := 111) rfl rfl (by decide) rfl ?_
        refine pm_goto K dX2_addUpForth_111 (q := 14) rfl ?_
        have := ih (p + 1) h9 _ (some (.ref (18 + ix p))) (by omega) (by rw [tr_sc_s, Nat.zero_add]; exact H3) (by rw [so_map_succ0, ga_F_new hnw, ← eM]; exact hcl _) hF9
        rw [ga_new hnw, ← eM] at this
        exact this
      · refine pm_iload K dX2_addUpForth_31 (q := 33) rfl rfl ?_
        refine pm_if_eq K dX2_addUpForth_33 (tgt := 46) (q := 36) rfl rfl (fun z => absurd z (nI_ne0 (by omega) (by omega))) (fun _ => ?_)
        refine pm_aload K dX2_addUpForth_36 (q := 38) rfl rfl ?_
        refine pm_get K inX3 rfl (k := 3) (by decide) wlX2_79 rfl (by omega) (H1.row gx) rfl dX2_addUpForth_38 (q := 41) rfl ?_
        refine pm_iload K dX2_addUpForth_41 (q := 43) rfl rfl ?_
        refine pm_icmp_eq K dX2_addUpForth_43 (tgt := 62) (q := 46) rfl rfl (fun hky => ?_) (fun hky => ?_)
        · have hnw : ¬ (p = 0 ∨ ¬ M p 3 = (ga_a M sc p).2.1) := fun z => z.elim hp0 (fun z => z (by rw [← eM]; exact hky))
          refine pm_iload K dX2_addUpForth_62 (q := 64) rfl rfl ?_
          refine pm_aload K dX2_addUpForth_64 (q := 66) rfl rfl ?_
          refine pm_iload_n K dX2_addUpForth_66 (q := 67) rfl rfl rfl ?_
          refine pm_callV0 K gw_ok wcX2_33 (c_column l (by omega) (H1.row gx) sc) rfl (by omega) (H1.row gx) rfl rfl (Nat.le_of_ble_eq_true rfl) (by decide) dX2_addUpForth_67 (q := 70) rfl (fun r5 h5 hp => ?_)
          obtain ⟨rfl, e1⟩ := hp
          rw [e1]
          refine pm_iadd K dX2_addUpForth_70 (q := 71) rfl ?_
          refine pm_istore K dX2_addUpForth_71 (q := 73) rfl (by decide) rfl ?_
          refine pm_inc K dX2_addUpForth_73 (q := 76) rfl rfl (by decide) rfl ?_
          refine pm_aload K dX2_addUpForth_76 (q := 78) rfl rfl ?_
          refine pm_iload K dX2_addUpForth_78 (q := 80) rfl rfl ?_
          refine pm_iload K dX2_addUpForth_80 (q := 82) rfl rfl ?_
          refine pm_iload K dX2_addUpForth_82 (q := 84) rfl rfl ?_
          refine pm_callV0 K gw_ok wcX2_56 (c_setColumns l (by omega) (H1.row gx) (ga_a M sc p).2.1 ((ga_a M sc p).2.2.1 + rw_col sc (R (ix p))) (nI ((ga_a M sc p).2.2.2 + 1))) rfl (by omega) (H1.row gx) rfl rfl (Nat.le_of_ble_eq_true rfl) (by decide) dX2_addUpForth_84 (q := 87) rfl (fun r6 h6 hp => ?_)
          obtain ⟨rfl, rfl⟩ := hp
          refine pm_aload K dX2_addUpForth_87 (q := 89) rfl rfl ?_
          refine pm_iload K dX2_addUpForth_89 (q := 91) rfl rfl ?_
          refine pm_iload_n K dX2_addUpForth_91 (q := 92) rfl rfl rfl ?_
          refine pm_ic1 K dX2_addUpForth_92 (q := 93) rfl ?_
          refine pm_isub K dX2_addUpForth_93 (q := 94) rfl ?_
          rw [show nI (ga_a M sc p).1 - 1 = nI ((ga_a M sc p).1 - 1) from pk_sub (b := 1) (ga_pos M sc hp0)]
          refine pm_callV0 K gw_ok wcX2_43 (c_keep l (by omega) (pm_same _ _ _) (nI p) (nI ((ga_a M sc p).1 - 1))) rfl (by omega) (pm_same _ _ _) rfl rfl (Nat.le_of_ble_eq_true rfl) (by decide) dX2_addUpForth_94 (q := 97) rfl (fun r7 h7 hp => ?_)
          obtain ⟨rfl, rfl⟩ := hp
          rw [pm_up2]
          have H2 := H1.mod gx (f := rw_keep (nI p) (nI ((ga_a M sc p).1 - 1)) (rw_cols (ga_a M sc p).2.1 ((ga_a M sc p).2.2.1 + rw_col sc (R (ix p))) (nI ((ga_a M sc p).2.2.2 + 1)) (R (ix p)))) (Or.inr rfl)
          refine pm_aload_n K dX2_addUpForth_97 (q := 98) rfl rfl rfl ?_
          refine pm_get K inX2 rfl (k := 0) (by decide) wlX2_9 rfl (by omega) (pm_ne (by omega) ((F1 94 (by omega) (by omega)).trans ((hF 94 (by omega)).trans O))) rfl dX2_addUpForth_98 (q := 101) rfl ?_
          refine pm_iload K dX2_addUpForth_101 (q := 103) rfl rfl ?_
          refine pm_aload K dX2_addUpForth_103 (q := 105) rfl rfl ?_
          refine pm_callV0 K gw_ok wcX2_49 (c_write l H2 (p := p) (by omega) gx) rfl (by omega) (pm_ne (by omega) H1.2.1) rfl rfl (Nat.le_of_ble_eq_true rfl) (by decide) dX2_addUpForth_105 (q := 108) rfl (fun r9 h9 hp => ?_)
          obtain ⟨rfl, H3, F3⟩ := hp
          rw [so_id] at H3
          simp only [tk_app, List.append_assoc, List.cons_append, List.nil_append] at H3
          have hF9 : so_fr h h9 := fun q hq => by rw [F3 q (by omega), pm_ne (by omega) rfl, F1 q (by omega) (by omega), hF q hq]
          refine pm_inc K dX2_addUpForth_108 (q := 111) rfl rfl (by decide) rfl ?_
          refine pm_goto K dX2_addUpForth_111 (q := 14) rfl ?_
          have := ih (p + 1) h9 _ (some (.ref (18 + ix p))) (by omega) (by rw [tr_sc_s, Nat.zero_add]; exact H3) (by rw [so_map_succ0, ga_F_old hnw, ← eM]; exact hcl _) hF9
          rw [ga_old hnw, ← eM] at this
          exact this
        · have hnw : p = 0 ∨ ¬ M p 3 = (ga_a M sc p).2.1 := Or.inr (by rw [← eM]; exact hky)
          refine pm_inc K dX2_addUpForth_46 (q := 49) rfl rfl (by decide) rfl ?_
          refine pm_aload K dX2_addUpForth_49 (q := 51) rfl rfl ?_
          refine pm_get K inX3 rfl (k := 3) (by decide) wlX2_79 rfl (by omega) (H1.row gx) rfl dX2_addUpForth_51 (q := 54) rfl ?_
          refine pm_istore K dX2_addUpForth_54 (q := 56) rfl (by decide) rfl ?_
          refine pm_ic0 K dX2_addUpForth_56 (q := 57) rfl ?_
          refine pm_istore K dX2_addUpForth_57 (q := 59) rfl (by decide) rfl ?_
          refine pm_ic0 K dX2_addUpForth_59 (q := 60) rfl ?_
          refine pm_istore K dX2_addUpForth_60 (q := 62) rfl (by decide) rfl ?_
          refine pm_iload K dX2_addUpForth_62 (q := 64) rfl rfl ?_
          refine pm_aload K dX2_addUpForth_64 (q := 66) rfl rfl ?_
          refine pm_iload_n K dX2_addUpForth_66 (q := 67) rfl rfl rfl ?_
          refine pm_callV0 K gw_ok wcX2_33 (c_column l (by omega) (H1.row gx) sc) rfl (by omega) (H1.row gx) rfl rfl (Nat.le_of_ble_eq_true rfl) (by decide) dX2_addUpForth_67 (q := 70) rfl (fun r5 h5 hp => ?_)
          obtain ⟨rfl, e1⟩ := hp
          rw [e1]
          refine pm_iadd K dX2_addUpForth_70 (q := 71) rfl ?_
          refine pm_istore K dX2_addUpForth_71 (q := 73) rfl (by decide) rfl ?_
          refine pm_inc K dX2_addUpForth_73 (q := 76) rfl rfl (by decide) rfl ?_
          refine pm_aload K dX2_addUpForth_76 (q := 78) rfl rfl ?_
          refine pm_iload K dX2_addUpForth_78 (q := 80) rfl rfl ?_
          refine pm_iload K dX2_addUpForth_80 (q := 82) rfl rfl ?_
          refine pm_iload K dX2_addUpForth_82 (q := 84) rfl rfl ?_
          refine pm_callV0 K gw_ok wcX2_56 (c_setColumns l (by omega) (H1.row gx) (R (ix p) 3) (0 + rw_col sc (R (ix p))) (nI 1)) rfl (by omega) (H1.row gx) rfl rfl (Nat.le_of_ble_eq_true rfl) (by decide) dX2_addUpForth_84 (q := 87) rfl (fun r6 h6 hp => ?_)
          obtain ⟨rfl, rfl⟩ := hp
          refine pm_aload K dX2_addUpForth_87 (q := 89) rfl rfl ?_
          refine pm_iload K dX2_addUpForth_89 (q := 91) rfl rfl ?_
          refine pm_iload_n K dX2_addUpForth_91 (q := 92) rfl rfl rfl ?_
          refine pm_ic1 K dX2_addUpForth_92 (q := 93) rfl ?_
          refine pm_isub K dX2_addUpForth_93 (q := 94) rfl ?_
          rw [nI_pred]
          refine pm_callV0 K gw_ok wcX2_43 (c_keep l (by omega) (pm_same _ _ _) (nI p) (nI (ga_a M sc p).1)) rfl (by omega) (pm_same _ _ _) rfl rfl (Nat.le_of_ble_eq_true rfl) (by decide) dX2_addUpForth_94 (q := 97) rfl (fun r7 h7 hp => ?_)
          obtain ⟨rfl, rfl⟩ := hp
          rw [pm_up2]
          have H2 := H1.mod gx (f := rw_keep (nI p) (nI (ga_a M sc p).1) (rw_cols (R (ix p) 3) (0 + rw_col sc (R (ix p))) (nI 1) (R (ix p)))) (Or.inr rfl)
          refine pm_aload_n K dX2_addUpForth_97 (q := 98) rfl rfl rfl ?_
          refine pm_get K inX2 rfl (k := 0) (by decide) wlX2_9 rfl (by omega) (pm_ne (by omega) ((F1 94 (by omega) (by omega)).trans ((hF 94 (by omega)).trans O))) rfl dX2_addUpForth_98 (q := 101) rfl ?_
          refine pm_iload K dX2_addUpForth_101 (q := 103) rfl rfl ?_
          refine pm_aload K dX2_addUpForth_103 (q := 105) rfl rfl ?_
          refine pm_callV0 K gw_ok wcX2_49 (c_write l H2 (p := p) (by omega) gx) rfl (by omega) (pm_ne (by omega) H1.2.1) rfl rfl (Nat.le_of_ble_eq_true rfl) (by decide) dX2_addUpForth_105 (q := 108) rfl (fun r9 h9 hp => ?_)
          obtain ⟨rfl, H3, F3⟩ := hp
          rw [so_id] at H3
          simp only [tk_app, List.append_assoc, List.cons_append, List.nil_append] at H3
          have hF9 : so_fr h h9 := fun q hq => by rw [F3 q (by omega), pm_ne (by omega) rfl, F1 q (by omega) (by omega), hF q hq]
          refine pm_inc K dX2_addUpForth_108 (q := 111) rfl rfl (by decide) rfl ?_
          refine pm_goto K dX2_addUpForth_111 (q := 14) rfl ?_
          have := ih (p + 1) h9 _ (some (.ref (18 + ix p))) (by omega) (by rw [tr_sc_s, Nat.zero_add]; exact H3) (by rw [so_map_succ0, ga_F_new hnw, ← eM]; exact hcl _) hF9
          rw [ga_new hnw, ← eM] at this
          exact this
  have := loop m 0 h R0 none (by omega) (by rw [tr_sc, List.append_nil, so_at.tke HA0]; exact HA0) (by rw [so_map_0]; exact hL0) so_fr.rf
  exact this
set_option maxRecDepth 100000 in
theorem c_keepLast (l : Launch) {n : Nat} {h : pm_H} {M : Nat → rw_T} {ts : List Int32} (H : so_L n h M ts) (hn : 111 < n) (O : h 94 = pm_O cOps [.ref 15]) {m : Nat} (hm : m ≤ 76) : bM0 l yX2_keepLastOfEach cX2_keepLastOfEach 5 none 2 [.ref 94, .int (nI m)] n h (fun r h' => r = none ∧ so_L n h' (so_bk 0 m (kl_F M m) M) (tk (ts ++ tr_bk m m)) ∧ so_fr h h') := by
  refine pm_enter rfl (Nat.le_of_ble_eq_true rfl) (fun G K Z => ?_)
  obtain ⟨ix, R0, HA0, hi, hL0⟩ := id H
  refine pm_ic0 K dX2_keepLastOfEach_0 (q := 1) rfl ?_
  refine pm_istore_n K dX2_keepLastOfEach_1 (q := 2) rfl rfl (by decide) rfl ?_
  refine pm_iload_n K dX2_keepLastOfEach_2 (q := 3) rfl rfl rfl ?_
  refine pm_ic1 K dX2_keepLastOfEach_3 (q := 4) rfl ?_
  refine pm_isub K dX2_keepLastOfEach_4 (q := 5) rfl ?_
  refine pm_istore_n K dX2_keepLastOfEach_5 (q := 6) rfl rfl (by decide) rfl ?_
  have loop : ∀ (k : Nat) (h2 : pm_H) (R : Nat → rw_T) (ky : Int32) (x4 : Option Value), k ≤ m → so_at n h2 ix R (tk (ts ++ tr_bk m (m - k))) → (∀ i, i < 76 → so_bk k m (kl_F M m) M i = R (ix i)) → so_fr h h2 → (k < m → ky = M k 3) → G 0 0 6 [some (.ref 94), some (.int (nI m)), some (.int ky), some (.int (nI k - 1)), x4] [] n h2 := by
    intro k
    induction k with
    | zero =>
      intro h2 R ky x4 hk HA hL hF hky
      refine pm_iload_n K dX2_keepLastOfEach_6 (q := 7) rfl rfl rfl ?_
      refine pm_if_lt K dX2_keepLastOfEach_7 (tgt := 63) (q := 10) rfl rfl (fun _ => ?_) (fun z => absurd z (fun z => z (by decide)))
      exact pm_vret Z dX2_keepLastOfEach_63 rfl (Nat.le_of_ble_eq_true rfl) (Nat.le_of_ble_eq_true rfl) ⟨rfl, ⟨rfl, ⟨ix, R, HA, hi, hL⟩, hF⟩⟩
    | succ k ih =>
      intro h2 R ky x4 hk HA hL hF hky
      rw [nI_pred]
      refine pm_iload_n K dX2_keepLastOfEach_6 (q := 7) rfl rfl rfl ?_
      refine pm_if_lt K dX2_keepLastOfEach_7 (tgt := 63) (q := 10) rfl rfl (fun z => absurd z (nI_pos (by omega))) (fun _ => ?_)
      have gx := HA.2.2.2.2.1 (k) (by omega)
      refine pm_aload_n K dX2_keepLastOfEach_10 (q := 11) rfl rfl rfl ?_
      refine pm_get K inX2 rfl (k := 0) (by decide) wlX2_9 rfl (by omega) ((hF 94 (by omega)).trans O) rfl dX2_keepLastOfEach_11 (q := 14) rfl ?_
      refine pm_iload_n K dX2_keepLastOfEach_14 (q := 15) rfl rfl rfl ?_
      refine pm_callV0 K gw_ok wcX2_29 (c_read l HA (p := k) (by omega)) rfl (by omega) HA.2.1 rfl rfl (Nat.le_of_ble_eq_true rfl) (by decide) dX2_keepLastOfEach_15 (q := 18) rfl (fun r1 h1 hp => ?_)
      obtain ⟨rfl, H1, F1⟩ := hp
      have eM : R (ix k) = M k := by rw [← hL k (by omega), so_bk_out (by omega)]
      refine pm_astore K dX2_keepLastOfEach_18 (q := 20) rfl (by decide) rfl ?_
      refine pm_iload_n K dX2_keepLastOfEach_20 (q := 21) rfl rfl rfl ?_
      refine pm_iload_n K dX2_keepLastOfEach_21 (q := 22) rfl rfl rfl ?_
      refine pm_ic1 K dX2_keepLastOfEach_22 (q := 23) rfl ?_
      refine pm_isub K dX2_keepLastOfEach_23 (q := 24) rfl ?_
      rw [show nI m - 1 = nI (m - 1) from pk_sub (b := 1) (by omega)]
      have hcl := fun f => so_cl2 (f := f) hi hL (show k < 76 by omega)
      have etr : tr_bk m (m - k) = tr_bk m (m - (k + 1)) ++ [so_rd k, so_wr k] := tr_bk_s (by omega)
      refine pm_icmp_ge K dX2_keepLastOfEach_24 (tgt := 41) (q := 27) rfl rfl (fun hx => ?_) (fun hx => ?_)
      · have hk1 : k + 1 = m := by have := (nI_leI (by omega) (by omega)).mp hx; omega
        refine pm_aload K dX2_keepLastOfEach_41 (q := 43) rfl rfl ?_
        refine pm_get K inX3 rfl (k := 3) (by decide) wlX2_79 rfl (by omega) (H1.row gx) rfl dX2_keepLastOfEach_43 (q := 46) rfl ?_
        refine pm_istore_n K dX2_keepLastOfEach_46 (q := 47) rfl rfl (by decide) rfl ?_
        have H2 := H1
        refine pm_aload_n K dX2_keepLastOfEach_47 (q := 48) rfl rfl rfl ?_
        refine pm_get K inX2 rfl (k := 0) (by decide) wlX2_9 rfl (by omega) ((F1 94 (by omega) (by omega)).trans ((hF 94 (by omega)).trans O)) rfl dX2_keepLastOfEach_48 (q := 51) rfl ?_
        refine pm_iload_n K dX2_keepLastOfEach_51 (q := 52) rfl rfl rfl ?_
        refine pm_aload K dX2_keepLastOfEach_52 (q := 54) rfl rfl ?_
        refine pm_callV0 K gw_ok wcX2_49 (c_write l H2 (p := k) (by omega) gx) rfl (by omega) H1.2.1 rfl rfl (Nat.le_of_ble_eq_true rfl) (by decide) dX2_keepLastOfEach_54 (q := 57) rfl (fun r9 h9 hp => ?_)
        obtain ⟨rfl, H3, F3⟩ := hp
        rw [so_id] at H3
        simp only [tk_app, List.append_assoc, List.cons_append, List.nil_append] at H3
        have hF9 : so_fr h h9 := fun q hq => by rw [F3 q (by omega), F1 q (by omega) (by omega), hF q hq]
        refine pm_iinc (v := nI k - 1) K dX2_keepLastOfEach_57 (q := 60) rfl rfl (by rw [Int32.sub_eq_add_neg]; rfl) (by decide) rfl ?_
        refine pm_goto K dX2_keepLastOfEach_60 (q := 6) rfl ?_
        exact ih h9 R _ _ (by omega) (by rw [etr]; exact H3) (by rw [so_bk_s (by omega), kl_F_t (Or.inl hk1), so_bk_same (by omega)]; exact hL) hF9 (fun _ => by rw [← eM])
      · have hk1 : k + 1 < m := by have : ¬ m - 1 ≤ k := fun z => hx ((nI_leI (by omega) (by omega)).mpr z); omega
        have ek := hky hk1
        refine pm_aload K dX2_keepLastOfEach_27 (q := 29) rfl rfl ?_
        refine pm_get K inX3 rfl (k := 3) (by decide) wlX2_79 rfl (by omega) (H1.row gx) rfl dX2_keepLastOfEach_29 (q := 32) rfl ?_
        refine pm_iload_n K dX2_keepLastOfEach_32 (q := 33) rfl rfl rfl ?_
        refine pm_icmp_ne K dX2_keepLastOfEach_33 (tgt := 41) (q := 36) rfl rfl (fun hy => ?_) (fun hy => ?_)
        · rw [eM, ek] at hy
          refine pm_aload K dX2_keepLastOfEach_41 (q := 43) rfl rfl ?_
          refine pm_get K inX3 rfl (k := 3) (by decide) wlX2_79 rfl (by omega) (H1.row gx) rfl dX2_keepLastOfEach_43 (q := 46) rfl ?_
          refine pm_istore_n K dX2_keepLastOfEach_46 (q := 47) rfl rfl (by decide) rfl ?_
          have H2 := H1
          refine pm_aload_n K dX2_keepLastOfEach_47 (q := 48) rfl rfl rfl ?_
          refine pm_get K inX2 rfl (k := 0) (by decide) wlX2_9 rfl (by omega) ((F1 94 (by omega) (by omega)).trans ((hF 94 (by omega)).trans O)) rfl dX2_keepLastOfEach_48 (q := 51) rfl ?_
          refine pm_iload_n K dX2_keepLastOfEach_51 (q := 52) rfl rfl rfl ?_
          refine pm_aload K dX2_keepLastOfEach_52 (q := 54) rfl rfl ?_
          refine pm_callV0 K gw_ok wcX2_49 (c_write l H2 (p := k) (by omega) gx) rfl (by omega) H1.2.1 rfl rfl (Nat.le_of_ble_eq_true rfl) (by decide) dX2_keepLastOfEach_54 (q := 57) rfl (fun r9 h9 hp => ?_)
          obtain ⟨rfl, H3, F3⟩ := hp
          rw [so_id] at H3
          simp only [tk_app, List.append_assoc, List.cons_append, List.nil_append] at H3
          have hF9 : so_fr h h9 := fun q hq => by rw [F3 q (by omega), F1 q (by omega) (by omega), hF q hq]
          refine pm_iinc (v := nI k - 1) K dX2_keepLastOfEach_57 (q := 60) rfl rfl (by rw [Int32.sub_eq_add_neg]; rfl) (by decide) rfl ?_
          refine pm_goto K dX2_keepLastOfEach_60 (q := 6) rfl ?_
          exact ih h9 R _ _ (by omega) (by rw [etr]; exact H3) (by rw [so_bk_s (by omega), kl_F_t (Or.inr hy), so_bk_same (by omega)]; exact hL) hF9 (fun _ => by rw [← eM])
        · rw [eM, ek] at hy
          refine pm_aload K dX2_keepLastOfEach_36 (q := 38) rfl rfl ?_
          refine pm_callV0 K gw_ok wcX2_46 (c_discard l (by omega) (H1.row gx)) rfl (by omega) (H1.row gx) rfl rfl (Nat.le_of_ble_eq_true rfl) (by decide) dX2_keepLastOfEach_38 (q := 41) rfl (fun r7 h7 hp => ?_)
          obtain ⟨rfl, rfl⟩ := hp
          refine pm_aload K dX2_keepLastOfEach_41 (q := 43) rfl rfl ?_
          refine pm_get K inX3 rfl (k := 3) (by decide) wlX2_79 rfl (by omega) (pm_same _ _ _) rfl dX2_keepLastOfEach_43 (q := 46) rfl ?_
          refine pm_istore_n K dX2_keepLastOfEach_46 (q := 47) rfl rfl (by decide) rfl ?_
          have H2 := H1.mod gx (f := rw_disc (R (ix k))) (Or.inl rfl)
          refine pm_aload_n K dX2_keepLastOfEach_47 (q := 48) rfl rfl rfl ?_
          refine pm_get K inX2 rfl (k := 0) (by decide) wlX2_9 rfl (by omega) (pm_ne (by omega) ((F1 94 (by omega) (by omega)).trans ((hF 94 (by omega)).trans O))) rfl dX2_keepLastOfEach_48 (q := 51) rfl ?_
          refine pm_iload_n K dX2_keepLastOfEach_51 (q := 52) rfl rfl rfl ?_
          refine pm_aload K dX2_keepLastOfEach_52 (q := 54) rfl rfl ?_
          refine pm_callV0 K gw_ok wcX2_49 (c_write l H2 (p := k) (by omega) gx) rfl (by omega) (pm_ne (by omega) H1.2.1) rfl rfl (Nat.le_of_ble_eq_true rfl) (by decide) dX2_keepLastOfEach_54 (q := 57) rfl (fun r9 h9 hp => ?_)
          obtain ⟨rfl, H3, F3⟩ := hp
          rw [so_id] at H3
          simp only [tk_app, List.append_assoc, List.cons_append, List.nil_append] at H3
          have hF9 : so_fr h h9 := fun q hq => by rw [F3 q (by omega), pm_ne (by omega) rfl, F1 q (by omega) (by omega), hF q hq]
          refine pm_iinc (v := nI k - 1) K dX2_keepLastOfEach_57 (q := 60) rfl rfl (by rw [Int32.sub_eq_add_neg]; rfl) (by decide) rfl ?_
          refine pm_goto K dX2_keepLastOfEach_60 (q := 6) rfl ?_
          exact ih h9 _ _ _ (by omega) (by rw [etr]; exact H3) (by rw [so_bk_s (by omega), kl_F_f (fun z => z.elim (by omega) (fun z => z hy)), ← eM]; exact hcl _) hF9 (fun _ => by rw [← eM]; rfl)
  have := loop m h R0 0 none (Nat.le_refl _) (by rw [Nat.sub_self, tr_bk, List.append_nil, so_at.tke HA0]; exact HA0) (by rw [so_bk_0]; exact hL0) so_fr.rf (fun z => absurd z (Nat.lt_irrefl _))
  exact this
