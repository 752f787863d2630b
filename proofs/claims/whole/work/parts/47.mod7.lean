/-! The reference: the accesses of its networks. -/
def tw (g : Nat → Int32) (w : List Int32) : Prop := g 24 = nI w.length ∧ g 26 = so_nth w (g 25)
def gq (g g' : Nat → Int32) : Prop := ∀ k, k ≠ 24 → k ≠ 26 → g' k = g k
theorem gq.rf {g : Nat → Int32} : gq g g := fun _ _ _ => rfl
theorem gq.tr {g g' g'' : Nat → Int32} (x : gq g g') (y : gq g' g'') : gq g g'' := fun k a b => (y k a b).trans (x k a b)
theorem gq.u26 {g g' : Nat → Int32} (x : gq g g') (a b : Int32) : gq g (upd (upd g' 26 a) 24 b) := fun k h1 h2 => (if_neg h1).trans ((if_neg h2).trans (x k h1 h2))
theorem so_nth_no {w : List Int32} {x W y : Int32} (hl : w.length < 2 ^ 30) (h : ¬ nI w.length = W) (e : y = so_nth w W) : y = so_nth (w ++ [x]) W := by
  rw [e]
  unfold so_nth
  by_cases h0 : W < 0
  · rw [if_pos (Or.inl h0), if_pos (Or.inl h0)]
  · obtain ⟨j, hj, rfl⟩ := nI_of h0
    have hne : ¬ w.length = j := fun z => h (by rw [z])
    rw [List.length_append, List.length_singleton]
    by_cases h1 : w.length < j
    · rw [if_pos (Or.inr (nI_le (by omega) (by omega))), if_pos (Or.inr (nI_le (by omega) (by omega)))]
    · rw [if_neg (fun z => z.elim h0 (fun z => nI_ge (by omega) (by omega) z)), if_neg (fun z => z.elim h0 (fun z => nI_ge (by omega) (by omega) z)), nI_clamp (by omega), List.getElem?_append_left (by omega)]
theorem so_nth_yes {w : List Int32} {x W : Int32} (hl : w.length < 2 ^ 30) (h : nI w.length = W) : x = so_nth (w ++ [x]) W := by
  rw [← h]
  refine (so_nth_at ?_ ?_ ?_).symm
  · rw [List.getElem?_append_right (Nat.le_refl _), Nat.sub_self]; rfl
  · rw [List.length_append, List.length_singleton]; omega
  · rw [List.length_append, List.length_singleton]; omega
theorem len_sc (b k : Nat) : (tr_sc b k).length = 2 * k := by
  induction k with
  | zero => rfl
  | succ k ih => rw [tr_sc_s, List.length_append, ih]; simp only [List.length_cons, List.length_nil]; omega
theorem len_bk (m k : Nat) : (tr_bk m k).length = 2 * k := by
  induction k with
  | zero => rfl
  | succ k ih => rw [tr_bk, List.length_append, ih]; simp only [List.length_cons, List.length_nil]; omega
theorem len_cp (k : Nat) : (tr_cp k).length = 2 * k := by
  induction k with
  | zero => rfl
  | succ k ih => rw [tr_cp_s, List.length_append, ih]; simp only [List.length_cons, List.length_nil]; omega
theorem len_ap (k : Nat) : (tr_ap k).length = 3 * k := by
  induction k with
  | zero => rfl
  | succ k ih => rw [tr_ap_s, List.length_append, ih]; simp only [List.length_cons, List.length_nil]; omega
theorem len_sq (b d m : Nat) : (tr_sq b d m).length = 4 * m := by
  induction m with
  | zero => rfl
  | succ k ih => rw [tr_sq_s, List.length_append, ih]; simp only [List.length_cons, List.length_nil]; omega
theorem len_sd (b n d m : Nat) : (tr_sd b n d m).length = 4 * m := by
  induction m with
  | zero => rfl
  | succ k ih => rw [tr_sd_s, List.length_append, ih]; simp only [List.length_cons, List.length_nil]; omega
theorem len_ps (b p r d m : Nat) : (tr_ps b p r d m).length ≤ 4 * m := by
  induction m with
  | zero => exact Nat.le_refl _
  | succ k ih =>
    by_cases h : k &&& p = r
    · rw [tr_ps_yes h, List.length_append]; simp only [List.length_cons, List.length_nil]; omega
    · rw [tr_ps_no h]; omega
theorem len_sqs (b : Nat) {n : Nat} (hn : n ≤ 76) (k : Nat) : (tr_sqs b n k).length ≤ 304 * k := by
  induction k with
  | zero => exact Nat.le_refl _
  | succ k ih => rw [tr_sqs, List.length_append, len_sq]; have := Nat.sub_le n (2 ^ k); omega
set_option maxRecDepth 100000 in
theorem m_trd (l : Launch) {n : Nat} {h : pm_H} {g : Nat → Int32} {A : Nat → Nat → Int32} (M : mo_at n h g A) {w : List Int32} (hw : tw g w) (hb : w.length < 2 ^ 30) (p : Nat) : bM0 l yX7_touch cX7_touch 3 none 0 [.ref 112, .int (nI p), .int 0] n h (fun r h' => r = none ∧ ∃ g', mo_at n h' g' A ∧ tw g' (w ++ [so_rd p]) ∧ gq g g' ∧ mo_fr h h') := by
  refine pm_enter rfl (Nat.le_of_ble_eq_true rfl) (fun G K Z => ?_)
  refine pm_aload_n K dX7_touch_0 (q := 1) rfl rfl rfl ?_
  refine pm_aload_n K dX7_touch_1 (q := 2) rfl rfl rfl ?_
  refine pm_get K inX7 rfl (k := 24) (by decide) wlX7_128 rfl (by have := M.1; omega) M.2.1 rfl dX7_touch_2 (q := 5) rfl ?_
  refine pm_top (y := nI (w.length)) (hw.1) ?_
  refine pm_aload_n K dX7_touch_5 (q := 6) rfl rfl rfl ?_
  refine pm_get K inX7 rfl (k := 25) (by decide) wlX7_131 rfl (by have := M.1; omega) M.2.1 rfl dX7_touch_6 (q := 9) rfl ?_
  refine pm_icmp_ne K dX7_touch_9 (tgt := 28) (q := 12) rfl rfl (fun hx => ?_) (fun hx => ?_)
  · refine pm_aload_n K dX7_touch_28 (q := 29) rfl rfl rfl ?_
    refine pm_get K inX7 rfl (k := 26) (by decide) wlX7_134 rfl (by have := M.1; omega) M.2.1 rfl dX7_touch_29 (q := 32) rfl ?_
    refine mo_put (k := 26) K M (by decide) wlX7_134 dX7_touch_32 (q := 35) rfl (fun hm1 M1 Fm1 => ?_)
    refine pm_aload_n K dX7_touch_35 (q := 36) rfl rfl rfl ?_
    refine pm_dup K dX7_touch_36 (q := 37) rfl ?_
    refine pm_get K inX7 rfl (k := 24) (by decide) wlX7_128 rfl (by have := M1.1; omega) M1.2.1 rfl dX7_touch_37 (q := 40) rfl ?_
    refine pm_top (y := nI (w.length)) (hw.1) ?_
    refine pm_ic1 K dX7_touch_40 (q := 41) rfl ?_
    refine pm_iadd K dX7_touch_41 (q := 42) rfl ?_
    refine pm_top (y := nI (w.length + 1)) (kadd (a := w.length) (b := 1) rfl rfl) ?_
    refine mo_put (k := 24) K M1 (by decide) wlX7_128 dX7_touch_42 (q := 45) rfl (fun hm2 M2 Fm2 => ?_)
    exact pm_vret Z dX7_touch_45 rfl (Nat.le_of_ble_eq_true rfl) (Nat.le_of_ble_eq_true rfl) ⟨rfl, ⟨rfl, _, M2, ⟨by rw [List.length_append]; rfl, (so_nth_no hb hx hw.2)⟩, gq.rf.u26 _ _, (Fm1.tr Fm2)⟩⟩
  · refine pm_ic2 K dX7_touch_12 (q := 13) rfl ?_
    refine pm_iload_n K dX7_touch_13 (q := 14) rfl rfl rfl ?_
    refine pm_imul K dX7_touch_14 (q := 15) rfl ?_
    refine pm_top (y := nI (2 * p)) (kmul (a := 2) (b := p) rfl rfl) ?_
    refine pm_iload_n K dX7_touch_15 (q := 16) rfl rfl rfl ?_
    refine pm_if_eq K dX7_touch_16 (tgt := 23) (q := 19) rfl rfl (fun _ => ?_) (fun z => absurd ((keqI (a := 0) (b := 0) rfl rfl (by omega) (by omega)).mpr (by omega)) z)
    refine pm_ic0 K dX7_touch_23 (q := 24) rfl ?_
    refine pm_iadd K dX7_touch_24 (q := 25) rfl ?_
    refine pm_top (y := nI (2 * p + 0)) (kadd (a := 2 * p) (b := 0) rfl rfl) ?_
    refine pm_goto K dX7_touch_25 (q := 32) rfl ?_
    refine mo_put (k := 26) K M (by decide) wlX7_134 dX7_touch_32 (q := 35) rfl (fun hm1 M1 Fm1 => ?_)
    refine pm_aload_n K dX7_touch_35 (q := 36) rfl rfl rfl ?_
    refine pm_dup K dX7_touch_36 (q := 37) rfl ?_
    refine pm_get K inX7 rfl (k := 24) (by decide) wlX7_128 rfl (by have := M1.1; omega) M1.2.1 rfl dX7_touch_37 (q := 40) rfl ?_
    refine pm_top (y := nI (w.length)) (hw.1) ?_
    refine pm_ic1 K dX7_touch_40 (q := 41) rfl ?_
    refine pm_iadd K dX7_touch_41 (q := 42) rfl ?_
    refine pm_top (y := nI (w.length + 1)) (kadd (a := w.length) (b := 1) rfl rfl) ?_
    refine mo_put (k := 24) K M1 (by decide) wlX7_128 dX7_touch_42 (q := 45) rfl (fun hm2 M2 Fm2 => ?_)
    exact pm_vret Z dX7_touch_45 rfl (Nat.le_of_ble_eq_true rfl) (Nat.le_of_ble_eq_true rfl) ⟨rfl, ⟨rfl, _, M2, ⟨by rw [List.length_append]; rfl, (so_nth_yes hb hx)⟩, gq.rf.u26 _ _, (Fm1.tr Fm2)⟩⟩
set_option maxRecDepth 100000 in
theorem m_twr (l : Launch) {n : Nat} {h : pm_H} {g : Nat → Int32} {A : Nat → Nat → Int32} (M : mo_at n h g A) {w : List Int32} (hw : tw g w) (hb : w.length < 2 ^ 30) (p : Nat) : bM0 l yX7_touch cX7_touch 3 none 0 [.ref 112, .int (nI p), .int 1] n h (fun r h' => r = none ∧ ∃ g', mo_at n h' g' A ∧ tw g' (w ++ [so_wr p]) ∧ gq g g' ∧ mo_fr h h') := by
  refine pm_enter rfl (Nat.le_of_ble_eq_true rfl) (fun G K Z => ?_)
  refine pm_aload_n K dX7_touch_0 (q := 1) rfl rfl rfl ?_
  refine pm_aload_n K dX7_touch_1 (q := 2) rfl rfl rfl ?_
  refine pm_get K inX7 rfl (k := 24) (by decide) wlX7_128 rfl (by have := M.1; omega) M.2.1 rfl dX7_touch_2 (q := 5) rfl ?_
  refine pm_top (y := nI (w.length)) (hw.1) ?_
  refine pm_aload_n K dX7_touch_5 (q := 6) rfl rfl rfl ?_
  refine pm_get K inX7 rfl (k := 25) (by decide) wlX7_131 rfl (by have := M.1; omega) M.2.1 rfl dX7_touch_6 (q := 9) rfl ?_
  refine pm_icmp_ne K dX7_touch_9 (tgt := 28) (q := 12) rfl rfl (fun hx => ?_) (fun hx => ?_)
  · refine pm_aload_n K dX7_touch_28 (q := 29) rfl rfl rfl ?_
    refine pm_get K inX7 rfl (k := 26) (by decide) wlX7_134 rfl (by have := M.1; omega) M.2.1 rfl dX7_touch_29 (q := 32) rfl ?_
    refine mo_put (k := 26) K M (by decide) wlX7_134 dX7_touch_32 (q := 35) rfl (fun hm1 M1 Fm1 => ?_)
    refine pm_aload_n K dX7_touch_35 (q := 36) rfl rfl rfl ?_
    refine pm_dup K dX7_touch_36 (q := 37) rfl ?_
    refine pm_get K inX7 rfl (k := 24) (by decide) wlX7_128 rfl (by have := M1.1; omega) M1.2.1 rfl dX7_touch_37 (q := 40) rfl ?_
    refine pm_top (y := nI (w.length)) (hw.1) ?_
    refine pm_ic1 K dX7_touch_40 (q := 41) rfl ?_
    refine pm_iadd K dX7_touch_41 (q := 42) rfl ?_
    refine pm_top (y := nI (w.length + 1)) (kadd (a := w.length) (b := 1) rfl rfl) ?_
    refine mo_put (k := 24) K M1 (by decide) wlX7_128 dX7_touch_42 (q := 45) rfl (fun hm2 M2 Fm2 => ?_)
    exact pm_vret Z dX7_touch_45 rfl (Nat.le_of_ble_eq_true rfl) (Nat.le_of_ble_eq_true rfl) ⟨rfl, ⟨rfl, _, M2, ⟨by rw [List.length_append]; rfl, (so_nth_no hb hx hw.2)⟩, gq.rf.u26 _ _, (Fm1.tr Fm2)⟩⟩
  · refine pm_ic2 K dX7_touch_12 (q := 13) rfl ?_
    refine pm_iload_n K dX7_touch_13 (q := 14) rfl rfl rfl ?_
    refine pm_imul K dX7_touch_14 (q := 15) rfl ?_
    refine pm_top (y := nI (2 * p)) (kmul (a := 2) (b := p) rfl rfl) ?_
    refine pm_iload_n K dX7_touch_15 (q := 16) rfl rfl rfl ?_
    refine pm_if_eq K dX7_touch_16 (tgt := 23) (q := 19) rfl rfl (fun z => absurd ((keqI (a := 1) (b := 0) rfl rfl (by omega) (by omega)).mp z) (by omega)) (fun _ => ?_)
    refine pm_ic1 K dX7_touch_19 (q := 20) rfl ?_
    refine pm_goto K dX7_touch_20 (q := 24) rfl ?_
    refine pm_iadd K dX7_touch_24 (q := 25) rfl ?_
    refine pm_top (y := nI (2 * p + 1)) (kadd (a := 2 * p) (b := 1) rfl rfl) ?_
    refine pm_goto K dX7_touch_25 (q := 32) rfl ?_
    refine mo_put (k := 26) K M (by decide) wlX7_134 dX7_touch_32 (q := 35) rfl (fun hm1 M1 Fm1 => ?_)
    refine pm_aload_n K dX7_touch_35 (q := 36) rfl rfl rfl ?_
    refine pm_dup K dX7_touch_36 (q := 37) rfl ?_
    refine pm_get K inX7 rfl (k := 24) (by decide) wlX7_128 rfl (by have := M1.1; omega) M1.2.1 rfl dX7_touch_37 (q := 40) rfl ?_
    refine pm_top (y := nI (w.length)) (hw.1) ?_
    refine pm_ic1 K dX7_touch_40 (q := 41) rfl ?_
    refine pm_iadd K dX7_touch_41 (q := 42) rfl ?_
    refine pm_top (y := nI (w.length + 1)) (kadd (a := w.length) (b := 1) rfl rfl) ?_
    refine mo_put (k := 24) K M1 (by decide) wlX7_128 dX7_touch_42 (q := 45) rfl (fun hm2 M2 Fm2 => ?_)
    exact pm_vret Z dX7_touch_45 rfl (Nat.le_of_ble_eq_true rfl) (Nat.le_of_ble_eq_true rfl) ⟨rfl, ⟨rfl, _, M2, ⟨by rw [List.length_append]; rfl, (so_nth_yes hb hx)⟩, gq.rf.u26 _ _, (Fm1.tr Fm2)⟩⟩
set_option maxRecDepth 100000 in
theorem m_exchange (l : Launch) {n : Nat} {h : pm_H} {g : Nat → Int32} {A : Nat → Nat → Int32} (M : mo_at n h g A) {w : List Int32} (hw : tw g w) (hb : w.length + 4 < 2 ^ 30) (i j : Nat) : bM0 l yX7_exchange cX7_exchange 3 none 1 [.ref 112, .int (nI i), .int (nI j)] n h (fun r h' => r = none ∧ ∃ g', mo_at n h' g' A ∧ tw g' (w ++ [so_rd i, so_rd j, so_wr i, so_wr j]) ∧ gq g g' ∧ mo_fr h h') := by
  refine pm_enter rfl (Nat.le_of_ble_eq_true rfl) (fun G K Z => ?_)
  refine pm_aload_n K dX7_exchange_0 (q := 1) rfl rfl rfl ?_
  refine pm_iload_n K dX7_exchange_1 (q := 2) rfl rfl rfl ?_
  refine pm_ic0 K dX7_exchange_2 (q := 3) rfl ?_
  refine pm_callV0 K gw_ok wcX7_137 (m_trd l M hw (by first | omega | (simp only [List.length_append, List.length_cons, List.length_nil]; omega)) i) rfl (by have := M.1; omega) M.2.1 rfl rfl (Nat.le_of_ble_eq_true rfl) (by decide) dX7_exchange_3 (q := 6) rfl (fun rt1 ht1 hp => ?_)
  obtain ⟨rfl, gt1, Mt1, Wt1, Qt1, Ft1⟩ := hp
  refine pm_aload_n K dX7_exchange_6 (q := 7) rfl rfl rfl ?_
  refine pm_iload_n K dX7_exchange_7 (q := 8) rfl rfl rfl ?_
  refine pm_ic0 K dX7_exchange_8 (q := 9) rfl ?_
  refine pm_callV0 K gw_ok wcX7_137 (m_trd l Mt1 Wt1 (by first | omega | (simp only [List.length_append, List.length_cons, List.length_nil]; omega)) j) rfl (by have := Mt1.1; omega) Mt1.2.1 rfl rfl (Nat.le_of_ble_eq_true rfl) (by decide) dX7_exchange_9 (q := 12) rfl (fun rt2 ht2 hp => ?_)
  obtain ⟨rfl, gt2, Mt2, Wt2, Qt2, Ft2⟩ := hp
  refine pm_aload_n K dX7_exchange_12 (q := 13) rfl rfl rfl ?_
  refine pm_iload_n K dX7_exchange_13 (q := 14) rfl rfl rfl ?_
  refine pm_ic1 K dX7_exchange_14 (q := 15) rfl ?_
  refine pm_callV0 K gw_ok wcX7_137 (m_twr l Mt2 Wt2 (by first | omega | (simp only [List.length_append, List.length_cons, List.length_nil]; omega)) i) rfl (by have := Mt2.1; omega) Mt2.2.1 rfl rfl (Nat.le_of_ble_eq_true rfl) (by decide) dX7_exchange_15 (q := 18) rfl (fun rt3 ht3 hp => ?_)
  obtain ⟨rfl, gt3, Mt3, Wt3, Qt3, Ft3⟩ := hp
  refine pm_aload_n K dX7_exchange_18 (q := 19) rfl rfl rfl ?_
  refine pm_iload_n K dX7_exchange_19 (q := 20) rfl rfl rfl ?_
  refine pm_ic1 K dX7_exchange_20 (q := 21) rfl ?_
  refine pm_callV0 K gw_ok wcX7_137 (m_twr l Mt3 Wt3 (by first | omega | (simp only [List.length_append, List.length_cons, List.length_nil]; omega)) j) rfl (by have := Mt3.1; omega) Mt3.2.1 rfl rfl (Nat.le_of_ble_eq_true rfl) (by decide) dX7_exchange_21 (q := 24) rfl (fun rt4 ht4 hp => ?_)
  obtain ⟨rfl, gt4, Mt4, Wt4, Qt4, Ft4⟩ := hp
  exact pm_vret Z dX7_exchange_24 rfl (Nat.le_of_ble_eq_true rfl) (Nat.le_of_ble_eq_true rfl) ⟨rfl, ⟨rfl, _, Mt4, (by simpa only [List.append_assoc, List.cons_append, List.nil_append] using Wt4), (((Qt1.tr Qt2).tr Qt3).tr Qt4), (((Ft1.tr Ft2).tr Ft3).tr Ft4)⟩⟩
set_option maxRecDepth 100000 in
theorem m_scan (l : Launch) {n : Nat} {h : pm_H} {g : Nat → Int32} {A : Nat → Nat → Int32} (M : mo_at n h g A) {w : List Int32} (hw : tw g w) {b0 m0 : Nat} (hm : m0 ≤ 76) (hb : w.length + 1000 < 2 ^ 30) : bM0 l yX7_scan cX7_scan 6 none 1 [.ref 112, .int (nI m0), .int (nI b0), .int 0] n h (fun r h' => r = none ∧ ∃ g', mo_at n h' g' A ∧ tw g' (w ++ (tr_sc b0 m0)) ∧ gq g g' ∧ mo_fr h h') := by
  refine pm_enter rfl (Nat.le_of_ble_eq_true rfl) (fun G K Z => ?_)
  refine pm_ic0 K dX7_scan_0 (q := 1) rfl ?_
  refine pm_istore K dX7_scan_1 (q := 3) rfl (by decide) rfl ?_
  have loop : ∀ (m k : Nat) (h1 : pm_H) (g1 : Nat → Int32) (x5 : Option Value), k + m = m0 → mo_at n h1 g1 A → tw g1 (w ++ tr_sc b0 k) → gq g g1 → mo_fr h h1 → G 0 0 3 [some (.ref 112), some (.int (nI m0)), some (.int (nI b0)), some (.int 0), some (.int (nI k)), x5] [] n h1 := by
    intro m
    induction m with
    | zero =>
      intro k h1 g1 x5 hk M1 W1 Q1 F1
      have hl := len_sc b0 k
      refine pm_iload K dX7_scan_3 (q := 5) rfl rfl ?_
      refine pm_iload_n K dX7_scan_5 (q := 6) rfl rfl rfl ?_
      refine pm_icmp_ge K dX7_scan_6 (tgt := 48) (q := 9) rfl rfl (fun _ => ?_) (fun z => absurd ((kleI (a := m0) (b := k) rfl rfl (by omega) (by omega)).mpr (by omega)) z)
      have ek : k = m0 := by omega
      subst ek
      exact pm_vret Z dX7_scan_48 rfl (Nat.le_of_ble_eq_true rfl) (Nat.le_of_ble_eq_true rfl) ⟨rfl, ⟨rfl, g1, M1, W1, Q1, F1⟩⟩
    | succ m ih =>
      intro k h1 g1 x5 hk M1 W1 Q1 F1
      have hl := len_sc b0 k
      refine pm_iload K dX7_scan_3 (q := 5) rfl rfl ?_
      refine pm_iload_n K dX7_scan_5 (q := 6) rfl rfl rfl ?_
      refine pm_icmp_ge K dX7_scan_6 (tgt := 48) (q := 9) rfl rfl (fun z => absurd ((kleI (a := m0) (b := k) rfl rfl (by omega) (by omega)).mp z) (by omega)) (fun _ => ?_)
      refine pm_iload_n K dX7_scan_9 (q := 10) rfl rfl rfl ?_
      refine pm_iload_n K dX7_scan_10 (q := 11) rfl rfl rfl ?_
      refine pm_if_eq K dX7_scan_11 (tgt := 23) (q := 14) rfl rfl (fun _ => ?_) (fun z => absurd ((keqI (a := 0) (b := 0) rfl rfl (by omega) (by omega)).mpr (by omega)) z)
      refine pm_iload K dX7_scan_23 (q := 25) rfl rfl ?_
      refine pm_iadd K dX7_scan_25 (q := 26) rfl ?_
      refine pm_top (y := nI (b0 + k)) (kadd (a := b0) (b := k) rfl rfl) ?_
      refine pm_istore K dX7_scan_26 (q := 28) rfl (by decide) rfl ?_
      refine pm_aload_n K dX7_scan_28 (q := 29) rfl rfl rfl ?_
      refine pm_iload K dX7_scan_29 (q := 31) rfl rfl ?_
      refine pm_ic0 K dX7_scan_31 (q := 32) rfl ?_
      refine pm_callV0 K gw_ok wcX7_137 (m_trd l M1 W1 (by first | omega | (simp only [List.length_append, List.length_cons, List.length_nil]; omega)) (b0 + k)) rfl (by have := M1.1; omega) M1.2.1 rfl rfl (Nat.le_of_ble_eq_true rfl) (by decide) dX7_scan_32 (q := 35) rfl (fun rt1 ht1 hp => ?_)
      obtain ⟨rfl, gt1, Mt1, Wt1, Qt1, Ft1⟩ := hp
      refine pm_aload_n K dX7_scan_35 (q := 36) rfl rfl rfl ?_
      refine pm_iload K dX7_scan_36 (q := 38) rfl rfl ?_
      refine pm_ic1 K dX7_scan_38 (q := 39) rfl ?_
      refine pm_callV0 K gw_ok wcX7_137 (m_twr l Mt1 Wt1 (by first | omega | (simp only [List.length_append, List.length_cons, List.length_nil]; omega)) (b0 + k)) rfl (by have := Mt1.1; omega) Mt1.2.1 rfl rfl (Nat.le_of_ble_eq_true rfl) (by decide) dX7_scan_39 (q := 42) rfl (fun rt2 ht2 hp => ?_)
      obtain ⟨rfl, gt2, Mt2, Wt2, Qt2, Ft2⟩ := hp
      refine pm_inc K dX7_scan_42 (q := 45) rfl rfl (by decide) rfl ?_
      refine pm_goto K dX7_scan_45 (q := 3) rfl ?_
      exact ih (k + 1) _ _ _ (by omega) Mt2 (by rw [tr_sc_s]; simpa only [List.append_assoc, List.cons_append, List.nil_append] using Wt2) ((Q1.tr Qt1).tr Qt2) ((F1.tr Ft1).tr Ft2)
  exact loop m0 0 h g none (by omega) M (by show tw g (w ++ []); rw [List.append_nil]; exact hw) gq.rf mo_fr.rf
set_option maxRecDepth 100000 in
theorem m_back (l : Launch) {n : Nat} {h : pm_H} {g : Nat → Int32} {A : Nat → Nat → Int32} (M : mo_at n h g A) {w : List Int32} (hw : tw g w) {b0 m0 : Nat} (hm : m0 ≤ 76) (hb : w.length + 1000 < 2 ^ 30) (h0 : b0 = 0) : bM0 l yX7_scan cX7_scan 6 none 1 [.ref 112, .int (nI m0), .int (nI b0), .int 1] n h (fun r h' => r = none ∧ ∃ g', mo_at n h' g' A ∧ tw g' (w ++ (tr_bk m0 m0)) ∧ gq g g' ∧ mo_fr h h') := by
  refine pm_enter rfl (Nat.le_of_ble_eq_true rfl) (fun G K Z => ?_)
  refine pm_ic0 K dX7_scan_0 (q := 1) rfl ?_
  refine pm_istore K dX7_scan_1 (q := 3) rfl (by decide) rfl ?_
  have loop : ∀ (m k : Nat) (h1 : pm_H) (g1 : Nat → Int32) (x5 : Option Value), k + m = m0 → mo_at n h1 g1 A → tw g1 (w ++ tr_bk m0 k) → gq g g1 → mo_fr h h1 → G 0 0 3 [some (.ref 112), some (.int (nI m0)), some (.int (nI b0)), some (.int 1), some (.int (nI k)), x5] [] n h1 := by
    intro m
    induction m with
    | zero =>
      intro k h1 g1 x5 hk M1 W1 Q1 F1
      have hl := len_bk m0 k
      refine pm_iload K dX7_scan_3 (q := 5) rfl rfl ?_
      refine pm_iload_n K dX7_scan_5 (q := 6) rfl rfl rfl ?_
      refine pm_icmp_ge K dX7_scan_6 (tgt := 48) (q := 9) rfl rfl (fun _ => ?_) (fun z => absurd ((kleI (a := m0) (b := k) rfl rfl (by omega) (by omega)).mpr (by omega)) z)
      have ek : k = m0 := by omega
      subst ek
      exact pm_vret Z dX7_scan_48 rfl (Nat.le_of_ble_eq_true rfl) (Nat.le_of_ble_eq_true rfl) ⟨rfl, ⟨rfl, g1, M1, W1, Q1, F1⟩⟩
    | succ m ih =>
      intro k h1 g1 x5 hk M1 W1 Q1 F1
      have hl := len_bk m0 k
      refine pm_iload K dX7_scan_3 (q := 5) rfl rfl ?_
      refine pm_iload_n K dX7_scan_5 (q := 6) rfl rfl rfl ?_
      refine pm_icmp_ge K dX7_scan_6 (tgt := 48) (q := 9) rfl rfl (fun z => absurd ((kleI (a := m0) (b := k) rfl rfl (by omega) (by omega)).mp z) (by omega)) (fun _ => ?_)
      refine pm_iload_n K dX7_scan_9 (q := 10) rfl rfl rfl ?_
      refine pm_iload_n K dX7_scan_10 (q := 11) rfl rfl rfl ?_
      refine pm_if_eq K dX7_scan_11 (tgt := 23) (q := 14) rfl rfl (fun z => absurd ((keqI (a := 1) (b := 0) rfl rfl (by omega) (by omega)).mp z) (by omega)) (fun _ => ?_)
      refine pm_iload_n K dX7_scan_14 (q := 15) rfl rfl rfl ?_
      refine pm_ic1 K dX7_scan_15 (q := 16) rfl ?_
      refine pm_isub K dX7_scan_16 (q := 17) rfl ?_
      refine pm_top (y := nI (m0 - 1)) (ksub (a := m0) (b := 1) rfl rfl (by omega)) ?_
      refine pm_iload K dX7_scan_17 (q := 19) rfl rfl ?_
      refine pm_isub K dX7_scan_19 (q := 20) rfl ?_
      refine pm_top (y := nI ((m0 - 1) - k)) (ksub (a := m0 - 1) (b := k) rfl rfl (by omega)) ?_
      refine pm_goto K dX7_scan_20 (q := 25) rfl ?_
      refine pm_iadd K dX7_scan_25 (q := 26) rfl ?_
      refine pm_top (y := nI (b0 + ((m0 - 1) - k))) (kadd (a := b0) (b := (m0 - 1) - k) rfl rfl) ?_
      refine pm_top (y := nI (m0 - 1 - k)) (congrArg nI (by omega)) ?_
      refine pm_istore K dX7_scan_26 (q := 28) rfl (by decide) rfl ?_
      refine pm_aload_n K dX7_scan_28 (q := 29) rfl rfl rfl ?_
      refine pm_iload K dX7_scan_29 (q := 31) rfl rfl ?_
      refine pm_ic0 K dX7_scan_31 (q := 32) rfl ?_
      refine pm_callV0 K gw_ok wcX7_137 (m_trd l M1 W1 (by first | omega | (simp only [List.length_append, List.length_cons, List.length_nil]; omega)) (m0 - 1 - k)) rfl (by have := M1.1; omega) M1.2.1 rfl rfl (Nat.le_of_ble_eq_true rfl) (by decide) dX7_scan_32 (q := 35) rfl (fun rt1 ht1 hp => ?_)
      obtain ⟨rfl, gt1, Mt1, Wt1, Qt1, Ft1⟩ := hp
      refine pm_aload_n K dX7_scan_35 (q := 36) rfl rfl rfl ?_
      refine pm_iload K dX7_scan_36 (q := 38) rfl rfl ?_
      refine pm_ic1 K dX7_scan_38 (q := 39) rfl ?_
      refine pm_callV0 K gw_ok wcX7_137 (m_twr l Mt1 Wt1 (by first | omega | (simp only [List.length_append, List.length_cons, List.length_nil]; omega)) (m0 - 1 - k)) rfl (by have := Mt1.1; omega) Mt1.2.1 rfl rfl (Nat.le_of_ble_eq_true rfl) (by decide) dX7_scan_39 (q := 42) rfl (fun rt2 ht2 hp => ?_)
      obtain ⟨rfl, gt2, Mt2, Wt2, Qt2, Ft2⟩ := hp
      refine pm_inc K dX7_scan_42 (q := 45) rfl rfl (by decide) rfl ?_
      refine pm_goto K dX7_scan_45 (q := 3) rfl ?_
      exact ih (k + 1) _ _ _ (by omega) Mt2 (by rw [tr_bk]; simpa only [List.append_assoc, List.cons_append, List.nil_append] using Wt2) ((Q1.tr Qt1).tr Qt2) ((F1.tr Ft1).tr Ft2)
  exact loop m0 0 h g none (by omega) M (by show tw g (w ++ []); rw [List.append_nil]; exact hw) gq.rf mo_fr.rf
set_option maxRecDepth 100000 in
theorem m_compare (l : Launch) {n : Nat} {h : pm_H} {g : Nat → Int32} {A : Nat → Nat → Int32} (M : mo_at n h g A) {w : List Int32} (hw : tw g w) {b0 m0 p r0 d : Nat} (hm : m0 ≤ 76) (hp : p ≤ 76) (hr : r0 ≤ 76) (hd : d ≤ m0) (hb : w.length + 1000 < 2 ^ 30) : bM0 l yX7_compare cX7_compare 7 none 2 [.ref 112, .int (nI m0), .int (nI b0), .int (nI p), .int (nI r0), .int (nI d)] n h (fun r h' => r = none ∧ ∃ g', mo_at n h' g' A ∧ tw g' (w ++ (tr_ps b0 p r0 d (m0 - d))) ∧ gq g g' ∧ mo_fr h h') := by
  refine pm_enter rfl (Nat.le_of_ble_eq_true rfl) (fun G K Z => ?_)
  refine pm_ic0 K dX7_compare_0 (q := 1) rfl ?_
  refine pm_istore K dX7_compare_1 (q := 3) rfl (by decide) rfl ?_
  have loop : ∀ (m i : Nat) (h1 : pm_H) (g1 : Nat → Int32), i + m = m0 - d → mo_at n h1 g1 A → tw g1 (w ++ tr_ps b0 p r0 d i) → gq g g1 → mo_fr h h1 → G 0 0 3 [some (.ref 112), some (.int (nI m0)), some (.int (nI b0)), some (.int (nI p)), some (.int (nI r0)), some (.int (nI d)), some (.int (nI i))] [] n h1 := by
    intro m
    induction m with
    | zero =>
      intro i h1 g1 hi M1 W1 Q1 F1
      have hl := len_ps b0 p r0 d i
      refine pm_iload K dX7_compare_3 (q := 5) rfl rfl ?_
      refine pm_iload_n K dX7_compare_5 (q := 6) rfl rfl rfl ?_
      refine pm_iload K dX7_compare_6 (q := 8) rfl rfl ?_
      refine pm_isub K dX7_compare_8 (q := 9) rfl ?_
      refine pm_top (y := nI (m0 - d)) (ksub (a := m0) (b := d) rfl rfl (by omega)) ?_
      refine pm_icmp_ge K dX7_compare_9 (tgt := 42) (q := 12) rfl rfl (fun _ => ?_) (fun z => absurd ((kleI (a := m0 - d) (b := i) rfl rfl (by omega) (by omega)).mpr (by omega)) z)
      have ei : i = m0 - d := by omega
      subst ei
      exact pm_vret Z dX7_compare_42 rfl (Nat.le_of_ble_eq_true rfl) (Nat.le_of_ble_eq_true rfl) ⟨rfl, ⟨rfl, g1, M1, W1, Q1, F1⟩⟩
    | succ m ih =>
      intro i h1 g1 hi M1 W1 Q1 F1
      have hl := len_ps b0 p r0 d i
      refine pm_iload K dX7_compare_3 (q := 5) rfl rfl ?_
      refine pm_iload_n K dX7_compare_5 (q := 6) rfl rfl rfl ?_
      refine pm_iload K dX7_compare_6 (q := 8) rfl rfl ?_
      refine pm_isub K dX7_compare_8 (q := 9) rfl ?_
      refine pm_top (y := nI (m0 - d)) (ksub (a := m0) (b := d) rfl rfl (by omega)) ?_
      refine pm_icmp_ge K dX7_compare_9 (tgt := 42) (q := 12) rfl rfl (fun z => absurd ((kleI (a := m0 - d) (b := i) rfl rfl (by omega) (by omega)).mp z) (by omega)) (fun _ => ?_)
      have hand : i &&& p ≤ i := Nat.and_le_left
      refine pm_iload K dX7_compare_12 (q := 14) rfl rfl ?_
      refine pm_iload_n K dX7_compare_14 (q := 15) rfl rfl rfl ?_
      refine pm_iand K dX7_compare_15 (q := 16) rfl ?_
      refine pm_top (y := nI (i &&& p)) (nx_and i p) ?_
      refine pm_iload K dX7_compare_16 (q := 18) rfl rfl ?_
      refine pm_icmp_ne K dX7_compare_18 (tgt := 36) (q := 21) rfl rfl (fun z => ?_) (fun z => ?_)
      · have hx : ¬ (i &&& p) = r0 := fun y => z ((keqI (a := (i &&& p)) (b := r0) rfl rfl (by omega) (by omega)).mpr y)
        refine pm_inc K dX7_compare_36 (q := 39) rfl rfl (by decide) rfl ?_
        refine pm_goto K dX7_compare_39 (q := 3) rfl ?_
        exact ih (i + 1) h1 g1 (by omega) M1 (by rw [tr_ps_no hx]; exact W1) Q1 F1
      · have hx : (i &&& p) = r0 := (keqI (a := (i &&& p)) (b := r0) rfl rfl (by omega) (by omega)).mp z
        refine pm_aload_n K dX7_compare_21 (q := 22) rfl rfl rfl ?_
        refine pm_iload_n K dX7_compare_22 (q := 23) rfl rfl rfl ?_
        refine pm_iload K dX7_compare_23 (q := 25) rfl rfl ?_
        refine pm_iadd K dX7_compare_25 (q := 26) rfl ?_
        refine pm_top (y := nI (b0 + i)) (kadd (a := b0) (b := i) rfl rfl) ?_
        refine pm_iload_n K dX7_compare_26 (q := 27) rfl rfl rfl ?_
        refine pm_iload K dX7_compare_27 (q := 29) rfl rfl ?_
        refine pm_iadd K dX7_compare_29 (q := 30) rfl ?_
        refine pm_top (y := nI (b0 + i)) (kadd (a := b0) (b := i) rfl rfl) ?_
        refine pm_iload K dX7_compare_30 (q := 32) rfl rfl ?_
        refine pm_iadd K dX7_compare_32 (q := 33) rfl ?_
        refine pm_top (y := nI (b0 + i + d)) (kadd (a := b0 + i) (b := d) rfl rfl) ?_
        refine pm_callV0 K gw_ok wcX7_141 (m_exchange l M1 W1 (by first | omega | (simp only [List.length_append, List.length_cons, List.length_nil]; omega)) (b0 + i) (b0 + i + d)) rfl (by have := M1.1; omega) M1.2.1 rfl rfl (Nat.le_of_ble_eq_true rfl) (by decide) dX7_compare_33 (q := 36) rfl (fun rt1 ht1 hp => ?_)
        obtain ⟨rfl, gt1, Mt1, Wt1, Qt1, Ft1⟩ := hp
        refine pm_inc K dX7_compare_36 (q := 39) rfl rfl (by decide) rfl ?_
        refine pm_goto K dX7_compare_39 (q := 3) rfl ?_
        exact ih (i + 1) _ _ (by omega) Mt1 (by rw [tr_ps_yes hx, ← List.append_assoc]; exact Wt1) (Q1.tr Qt1) (F1.tr Ft1)
  exact loop (m0 - d) 0 h g (by omega) M (by show tw g (w ++ []); rw [List.append_nil]; exact hw) gq.rf mo_fr.rf
set_option maxRecDepth 100000 in
theorem m_sort (l : Launch) {n : Nat} {h : pm_H} {g : Nat → Int32} {A : Nat → Nat → Int32} (M : mo_at n h g A) {w : List Int32} (hw : tw g w) {b0 m0 : Nat} (hm : m0 ≤ 76) (hb : (w ++ tr_sort b0 m0).length + 1000 < 2 ^ 30) : bM0 l yX7_sort cX7_sort 6 none 3 [.ref 112, .int (nI m0), .int (nI b0)] n h (fun r h' => r = none ∧ ∃ g', mo_at n h' g' A ∧ tw g' (w ++ (tr_sort b0 m0)) ∧ gq g g' ∧ mo_fr h h') := by
  refine pm_enter rfl (Nat.le_of_ble_eq_true rfl) (fun G K Z => ?_)
  have main : ∀ t, so_t m0 = t → G 0 0 16 [some (.ref 112), some (.int (nI m0)), some (.int (nI b0)), some (.int (nI (2 ^ t))), none, none] [] n h := by
    intro t ht
    have hp0 : 0 < 2 ^ t := Nat.two_pow_pos t
    by_cases h2 : m0 < 2
    · have ht0 : t = 0 := by rw [← ht, so_t]; rcases (show m0 = 0 ∨ m0 = 1 by omega) with rfl | rfl <;> decide
      have e0 : 2 ^ t = 1 := by rw [ht0]
      refine pm_iload_n K dX7_sort_16 (q := 17) rfl rfl rfl ?_
      refine pm_istore K dX7_sort_17 (q := 19) rfl (by decide) rfl ?_
      refine pm_iload K dX7_sort_19 (q := 21) rfl rfl ?_
      refine pm_if_le K dX7_sort_21 (tgt := 83) (q := 24) rfl rfl (fun z => absurd ((kleI (a := 2 ^ t) (b := 0) rfl rfl (by omega) (by omega)).mp z) (by omega)) (fun _ => ?_)
      refine pm_iload_n K dX7_sort_24 (q := 25) rfl rfl rfl ?_
      refine pm_ic1 K dX7_sort_25 (q := 26) rfl ?_
      refine pm_icmp_le K dX7_sort_26 (tgt := 83) (q := 29) rfl rfl (fun _ => ?_) (fun z => absurd ((kleI (a := m0) (b := 1) rfl rfl (by omega) (by omega)).mpr (by omega)) z)
      exact pm_vret Z dX7_sort_83 rfl (Nat.le_of_ble_eq_true rfl) (Nat.le_of_ble_eq_true rfl) ⟨rfl, ⟨rfl, g, M, by rw [tr_sort, if_pos h2, List.append_nil]; exact hw, gq.rf, mo_fr.rf⟩⟩
    · obtain ⟨ht1, ht2⟩ := so_t_sp (show 2 ≤ m0 by omega)
      rw [ht] at ht1 ht2
      obtain ⟨tF, htF⟩ : ∃ z, z = w ++ tr_sort b0 m0 := ⟨_, rfl⟩
      rw [← htF] at Z hb
      rw [tr_sort, if_neg h2, ht] at htF
      refine pm_iload_n K dX7_sort_16 (q := 17) rfl rfl rfl ?_
      refine pm_istore K dX7_sort_17 (q := 19) rfl (by decide) rfl ?_
      have outer : ∀ (k : Nat) (h1 : pm_H) (g1 : Nat → Int32) (w1 : List Int32) (x5 : Option Value), k ≤ t + 1 → mo_at n h1 g1 A → tw g1 w1 → gq g g1 → mo_fr h h1 → w1 ++ tr_out b0 m0 t k = tF → G 0 0 19 [some (.ref 112), some (.int (nI m0)), some (.int (nI b0)), some (.int (nI (2 ^ t))), some (.int (so_pw k)), x5] [] n h1 := by
        intro k
        induction k with
        | zero =>
          intro h1 g1 w1 x5 hk M1 W1 Q1 F1 e1
          refine pm_iload K dX7_sort_19 (q := 21) rfl rfl ?_
          refine pm_if_le K dX7_sort_21 (tgt := 83) (q := 24) rfl rfl (fun _ => ?_) (fun z => absurd z (fun z => z (by decide)))
          rw [tr_out, List.append_nil] at e1
          exact pm_vret Z dX7_sort_83 rfl (Nat.le_of_ble_eq_true rfl) (Nat.le_of_ble_eq_true rfl) ⟨rfl, ⟨rfl, g1, M1, by rw [← e1]; exact W1, Q1, F1⟩⟩
        | succ k ih =>
          intro h1 g1 w1 x5 hk M1 W1 Q1 F1 e1
          have hpk : 2 ^ k ≤ 2 ^ t := Nat.pow_le_pow_right (by omega) (by omega)
          have hp1 : 0 < 2 ^ k := Nat.two_pow_pos k
          have hl := congrArg List.length e1
          rw [List.length_append] at hl
          rw [so_pw_s]
          refine pm_iload K dX7_sort_19 (q := 21) rfl rfl ?_
          refine pm_if_le K dX7_sort_21 (tgt := 83) (q := 24) rfl rfl (fun z => absurd ((kleI (a := 2 ^ k) (b := 0) rfl rfl (by omega) (by omega)).mp z) (by omega)) (fun _ => ?_)
          refine pm_iload_n K dX7_sort_24 (q := 25) rfl rfl rfl ?_
          refine pm_ic1 K dX7_sort_25 (q := 26) rfl ?_
          refine pm_icmp_le K dX7_sort_26 (tgt := 83) (q := 29) rfl rfl (fun z => absurd ((kleI (a := m0) (b := 1) rfl rfl (by omega) (by omega)).mp z) (by omega)) (fun _ => ?_)
          refine pm_aload_n K dX7_sort_29 (q := 30) rfl rfl rfl ?_
          refine pm_iload_n K dX7_sort_30 (q := 31) rfl rfl rfl ?_
          refine pm_iload_n K dX7_sort_31 (q := 32) rfl rfl rfl ?_
          refine pm_iload K dX7_sort_32 (q := 34) rfl rfl ?_
          refine pm_ic0 K dX7_sort_34 (q := 35) rfl ?_
          refine pm_iload K dX7_sort_35 (q := 37) rfl rfl ?_
          refine pm_callV0 K gw_ok wcX7_145 (m_compare l M1 W1 (b0 := b0) (m0 := m0) (p := 2 ^ k) (r0 := 0) (d := 2 ^ k) hm (by omega) (by omega) (by omega) (by omega)) rfl (by have := M1.1; omega) M1.2.1 rfl rfl (Nat.le_of_ble_eq_true rfl) (by decide) dX7_sort_37 (q := 40) rfl (fun rt1 ht1 hp => ?_)
          obtain ⟨rfl, gt1, Mt1, Wt1, Qt1, Ft1⟩ := hp
          refine pm_iload_n K dX7_sort_40 (q := 41) rfl rfl rfl ?_
          refine pm_istore K dX7_sort_41 (q := 43) rfl (by decide) rfl ?_
          have inner : ∀ (j : Nat) (h3 : pm_H) (g3 : Nat → Int32) (w3 : List Int32), k + j ≤ t → mo_at n h3 g3 A → tw g3 w3 → gq g g3 → mo_fr h h3 → w3 ++ (tr_in b0 m0 k j ++ tr_out b0 m0 t k) = tF → G 0 0 43 [some (.ref 112), some (.int (nI m0)), some (.int (nI b0)), some (.int (nI (2 ^ t))), some (.int (nI (2 ^ k))), some (.int (nI (2 ^ (k + j))))] [] n h3 := by
            intro j
            induction j with
            | zero =>
              intro h3 g3 w3 hj M3 W3 Q3 F3 e3
              have e0 : 2 ^ (k + 0) = 2 ^ k := rfl
              refine pm_iload K dX7_sort_43 (q := 45) rfl rfl ?_
              refine pm_iload K dX7_sort_45 (q := 47) rfl rfl ?_
              refine pm_icmp_eq K dX7_sort_47 (tgt := 74) (q := 50) rfl rfl (fun _ => ?_) (fun z => absurd ((keqI (a := 2 ^ (k + 0)) (b := 2 ^ k) rfl rfl (by omega) (by omega)).mpr (by omega)) z)
              refine pm_iload K dX7_sort_74 (q := 76) rfl rfl ?_
              refine pm_ic2 K dX7_sort_76 (q := 77) rfl ?_
              refine pm_idiv K dX7_sort_77 (q := 78) rfl (by decide) ?_
              rw [so_half (by omega)]
              refine pm_istore K dX7_sort_78 (q := 80) rfl (by decide) rfl ?_
              refine pm_goto K dX7_sort_80 (q := 19) rfl ?_
              exact ih h3 g3 w3 _ (by omega) M3 W3 Q3 F3 e3
            | succ j ihj =>
              intro h3 g3 w3 hj M3 W3 Q3 F3 e3
              have hq1 : 2 ^ (k + (j + 1)) ≤ 2 ^ t := Nat.pow_le_pow_right (by omega) (by omega)
              have hq2 : 2 ^ (k + (j + 1)) = 2 * 2 ^ (k + j) := by rw [← Nat.add_assoc, Nat.pow_succ]; omega
              have hq3 : 2 ^ k ≤ 2 ^ (k + j) := Nat.pow_le_pow_right (by omega) (by omega)
              have hl3 := congrArg List.length e3
              rw [List.length_append] at hl3
              refine pm_iload K dX7_sort_43 (q := 45) rfl rfl ?_
              refine pm_iload K dX7_sort_45 (q := 47) rfl rfl ?_
              refine pm_icmp_eq K dX7_sort_47 (tgt := 74) (q := 50) rfl rfl (fun z => absurd ((keqI (a := 2 ^ (k + (j + 1))) (b := 2 ^ k) rfl rfl (by omega) (by omega)).mp z) (by omega)) (fun _ => ?_)
              refine pm_aload_n K dX7_sort_50 (q := 51) rfl rfl rfl ?_
              refine pm_iload_n K dX7_sort_51 (q := 52) rfl rfl rfl ?_
              refine pm_iload_n K dX7_sort_52 (q := 53) rfl rfl rfl ?_
              refine pm_iload K dX7_sort_53 (q := 55) rfl rfl ?_
              refine pm_iload K dX7_sort_55 (q := 57) rfl rfl ?_
              refine pm_iload K dX7_sort_57 (q := 59) rfl rfl ?_
              refine pm_iload K dX7_sort_59 (q := 61) rfl rfl ?_
              refine pm_isub K dX7_sort_61 (q := 62) rfl ?_
              refine pm_top (y := nI ((2 ^ (k + (j + 1))) - (2 ^ k))) (ksub (a := 2 ^ (k + (j + 1))) (b := 2 ^ k) rfl rfl (by omega)) ?_
              refine pm_callV0 K gw_ok wcX7_145 (m_compare l M3 W3 (b0 := b0) (m0 := m0) (p := 2 ^ k) (r0 := 2 ^ k) (d := 2 ^ (k + (j + 1)) - 2 ^ k) hm (by omega) (by omega) (by omega) (by omega)) rfl (by have := M3.1; omega) M3.2.1 rfl rfl (Nat.le_of_ble_eq_true rfl) (by decide) dX7_sort_62 (q := 65) rfl (fun rt1i ht1i hp => ?_)
              obtain ⟨rfl, gt1i, Mt1i, Wt1i, Qt1i, Ft1i⟩ := hp
              refine pm_iload K dX7_sort_65 (q := 67) rfl rfl ?_
              refine pm_ic2 K dX7_sort_67 (q := 68) rfl ?_
              refine pm_idiv K dX7_sort_68 (q := 69) rfl (by decide) ?_
              rw [so_half2 (by omega)]
              refine pm_istore K dX7_sort_69 (q := 71) rfl (by decide) rfl ?_
              refine pm_goto K dX7_sort_71 (q := 43) rfl ?_
              exact ihj _ _ _ (by omega) Mt1i Wt1i (Q3.tr Qt1i) (F3.tr Ft1i) (by rw [List.append_assoc, ← List.append_assoc (tr_ps _ _ _ _ _)]; exact e3)
          have e3 : k + (t - k) = t := by omega
          have := inner (t - k) _ _ _ (by omega) Mt1 Wt1 (Q1.tr Qt1) (F1.tr Ft1) (by rw [List.append_assoc]; exact e1)
          rw [e3] at this
          exact this
      have := outer (t + 1) h g w none (by omega) M hw gq.rf mo_fr.rf htF.symm
      rw [so_pw_s] at this
      exact this
  refine pm_ic1 K dX7_sort_0 (q := 1) rfl ?_
  refine pm_istore_n K dX7_sort_1 (q := 2) rfl rfl (by decide) rfl ?_
  have wide : ∀ (m t : Nat), t + m = 7 → (t = 0 ∨ 2 ^ t < m0) → G 0 0 2 [some (.ref 112), some (.int (nI m0)), some (.int (nI b0)), some (.int (nI (2 ^ t))), none, none] [] n h := by
    intro m
    induction m with
    | zero =>
      intro t ht h2
      have e7 : t = 7 := by omega
      subst e7
      omega
    | succ m ih =>
      intro t ht h2
      have h7 : 2 ^ t ≤ 2 ^ 7 := Nat.pow_le_pow_right (by omega) (by omega)
      refine pm_ic2 K dX7_sort_2 (q := 3) rfl ?_
      refine pm_iload_n K dX7_sort_3 (q := 4) rfl rfl rfl ?_
      refine pm_imul K dX7_sort_4 (q := 5) rfl ?_
      refine pm_top (y := nI (2 * (2 ^ t))) (kmul (a := 2) (b := 2 ^ t) rfl rfl) ?_
      refine pm_iload_n K dX7_sort_5 (q := 6) rfl rfl rfl ?_
      refine pm_icmp_ge K dX7_sort_6 (tgt := 16) (q := 9) rfl rfl (fun z => ?_) (fun z => ?_)
      · have hx : m0 ≤ 2 * (2 ^ t) := (kleI (a := m0) (b := 2 * (2 ^ t)) rfl rfl (by omega) (by omega)).mp z
        exact main t (so_t_eq h2 (by rw [Nat.pow_succ]; omega))
      · have hx : ¬ m0 ≤ 2 * (2 ^ t) := fun y => z ((kleI (a := m0) (b := 2 * (2 ^ t)) rfl rfl (by omega) (by omega)).mpr y)
        refine pm_ic2 K dX7_sort_9 (q := 10) rfl ?_
        refine pm_iload_n K dX7_sort_10 (q := 11) rfl rfl rfl ?_
        refine pm_imul K dX7_sort_11 (q := 12) rfl ?_
        refine pm_top (y := nI (2 * (2 ^ t))) (kmul (a := 2) (b := 2 ^ t) rfl rfl) ?_
        refine pm_istore_n K dX7_sort_12 (q := 13) rfl rfl (by decide) rfl ?_
        refine pm_goto K dX7_sort_13 (q := 2) rfl ?_
        have := ih (t + 1) (by omega) (Or.inr (by rw [Nat.pow_succ]; omega))
        rw [Nat.pow_succ'] at this
        exact this
  exact wide 7 0 (by omega) (Or.inl rfl)
set_option maxRecDepth 100000 in
theorem m_squeeze (l : Launch) {n : Nat} {h : pm_H} {g : Nat → Int32} {A : Nat → Nat → Int32} (M : mo_at n h g A) {w : List Int32} (hw : tw g w) {b0 m0 : Nat} (hm : m0 ≤ 76) (hb : w.length + 4000 < 2 ^ 30) : bM0 l yX7_squeeze cX7_squeeze 5 none 2 [.ref 112, .int (nI m0), .int (nI b0)] n h (fun r h' => r = none ∧ ∃ g', mo_at n h' g' A ∧ tw g' (w ++ (tr_sqs b0 m0 (so_k m0))) ∧ gq g g' ∧ mo_fr h h') := by
  refine pm_enter rfl (Nat.le_of_ble_eq_true rfl) (fun G K Z => ?_)
  refine pm_ic1 K dX7_squeeze_0 (q := 1) rfl ?_
  refine pm_istore_n K dX7_squeeze_1 (q := 2) rfl rfl (by decide) rfl ?_
  have outer : ∀ (f k : Nat) (h1 : pm_H) (g1 : Nat → Int32) (x4 : Option Value), k + f = 8 → (∀ j, j < k → 2 ^ j < m0) → mo_at n h1 g1 A → tw g1 (w ++ tr_sqs b0 m0 k) → gq g g1 → mo_fr h h1 → G 0 0 2 [some (.ref 112), some (.int (nI m0)), some (.int (nI b0)), some (.int (nI (2 ^ k))), x4] [] n h1 := by
    intro f
    induction f with
    | zero =>
      intro k h1 g1 x4 hk hj
      exfalso
      have := hj 7 (by omega)
      omega
    | succ f ih =>
      intro k h1 g1 x4 hk hj M1 W1 Q1 F1
      have hp0 : 0 < 2 ^ k := Nat.two_pow_pos k
      have hk8 : 2 ^ k ≤ 2 ^ 7 := Nat.pow_le_pow_right (by omega) (by omega)
      have hls := len_sqs b0 hm k
      refine pm_iload_n K dX7_squeeze_2 (q := 3) rfl rfl rfl ?_
      refine pm_iload_n K dX7_squeeze_3 (q := 4) rfl rfl rfl ?_
      refine pm_icmp_ge K dX7_squeeze_4 (tgt := 43) (q := 7) rfl rfl (fun z => ?_) (fun z => ?_)
      · have hx : m0 ≤ 2 ^ k := (kleI (a := m0) (b := 2 ^ k) rfl rfl (by omega) (by omega)).mp z
        rw [← so_k_eq hj hx] at W1
        exact pm_vret Z dX7_squeeze_43 rfl (Nat.le_of_ble_eq_true rfl) (Nat.le_of_ble_eq_true rfl) ⟨rfl, ⟨rfl, g1, M1, W1, Q1, F1⟩⟩
      · have hx : ¬ m0 ≤ 2 ^ k := fun y => z ((kleI (a := m0) (b := 2 ^ k) rfl rfl (by omega) (by omega)).mpr y)
        refine pm_iload_n K dX7_squeeze_7 (q := 8) rfl rfl rfl ?_
        refine pm_istore K dX7_squeeze_8 (q := 10) rfl (by decide) rfl ?_
        have inner : ∀ (f m : Nat) (h3 : pm_H) (g3 : Nat → Int32), m + f = m0 - 2 ^ k → mo_at n h3 g3 A → tw g3 (w ++ (tr_sqs b0 m0 k ++ tr_sq b0 (2 ^ k) m)) → gq g g3 → mo_fr h h3 → G 0 0 10 [some (.ref 112), some (.int (nI m0)), some (.int (nI b0)), some (.int (nI (2 ^ k))), some (.int (nI (m + 2 ^ k)))] [] n h3 := by
          intro f
          induction f with
          | zero =>
            intro m h3 g3 hmf M3 W3 Q3 F3
            have hl := len_sq b0 (2 ^ k) m
            refine pm_iload K dX7_squeeze_10 (q := 12) rfl rfl ?_
            refine pm_iload_n K dX7_squeeze_12 (q := 13) rfl rfl rfl ?_
            refine pm_icmp_ge K dX7_squeeze_13 (tgt := 36) (q := 16) rfl rfl (fun _ => ?_) (fun z => absurd ((kleI (a := m0) (b := m + 2 ^ k) rfl rfl (by omega) (by omega)).mpr (by omega)) z)
            have em : m = m0 - 2 ^ k := by omega
            subst em
            refine pm_ic2 K dX7_squeeze_36 (q := 37) rfl ?_
            refine pm_iload_n K dX7_squeeze_37 (q := 38) rfl rfl rfl ?_
            refine pm_imul K dX7_squeeze_38 (q := 39) rfl ?_
            refine pm_top (y := nI (2 * (2 ^ k))) (kmul (a := 2) (b := 2 ^ k) rfl rfl) ?_
            refine pm_top (y := nI (2 ^ (k + 1))) (by rw [Nat.pow_succ']) ?_
            refine pm_istore_n K dX7_squeeze_39 (q := 40) rfl rfl (by decide) rfl ?_
            refine pm_goto K dX7_squeeze_40 (q := 2) rfl ?_
            exact ih (k + 1) h3 g3 _ (by omega) (fun j hj2 => by rcases Nat.lt_succ_iff_lt_or_eq.mp hj2 with z | rfl; exact hj j z; omega) M3 W3 Q3 F3
          | succ f ihj =>
            intro m h3 g3 hmf M3 W3 Q3 F3
            have hl := len_sq b0 (2 ^ k) m
            refine pm_iload K dX7_squeeze_10 (q := 12) rfl rfl ?_
            refine pm_iload_n K dX7_squeeze_12 (q := 13) rfl rfl rfl ?_
            refine pm_icmp_ge K dX7_squeeze_13 (tgt := 36) (q := 16) rfl rfl (fun z => absurd ((kleI (a := m0) (b := m + 2 ^ k) rfl rfl (by omega) (by omega)).mp z) (by omega)) (fun _ => ?_)
            refine pm_aload_n K dX7_squeeze_16 (q := 17) rfl rfl rfl ?_
            refine pm_iload_n K dX7_squeeze_17 (q := 18) rfl rfl rfl ?_
            refine pm_iload K dX7_squeeze_18 (q := 20) rfl rfl ?_
            refine pm_iadd K dX7_squeeze_20 (q := 21) rfl ?_
            refine pm_top (y := nI (b0 + (m + 2 ^ k))) (kadd (a := b0) (b := m + 2 ^ k) rfl rfl) ?_
            refine pm_iload_n K dX7_squeeze_21 (q := 22) rfl rfl rfl ?_
            refine pm_isub K dX7_squeeze_22 (q := 23) rfl ?_
            refine pm_top (y := nI ((b0 + (m + 2 ^ k)) - (2 ^ k))) (ksub (a := b0 + (m + 2 ^ k)) (b := 2 ^ k) rfl rfl (by omega)) ?_
            refine pm_top (y := nI (b0 + m)) (congrArg nI (by omega)) ?_
            refine pm_iload_n K dX7_squeeze_23 (q := 24) rfl rfl rfl ?_
            refine pm_iload K dX7_squeeze_24 (q := 26) rfl rfl ?_
            refine pm_iadd K dX7_squeeze_26 (q := 27) rfl ?_
            refine pm_top (y := nI (b0 + (m + 2 ^ k))) (kadd (a := b0) (b := m + 2 ^ k) rfl rfl) ?_
            refine pm_callV0 K gw_ok wcX7_141 (m_exchange l M3 W3 (by first | omega | (simp only [List.length_append, List.length_cons, List.length_nil]; omega)) (b0 + m) (b0 + (m + 2 ^ k))) rfl (by have := M3.1; omega) M3.2.1 rfl rfl (Nat.le_of_ble_eq_true rfl) (by decide) dX7_squeeze_27 (q := 30) rfl (fun rt1i ht1i hp => ?_)
            obtain ⟨rfl, gt1i, Mt1i, Wt1i, Qt1i, Ft1i⟩ := hp
            refine pm_inc K dX7_squeeze_30 (q := 33) rfl rfl (by decide) rfl ?_
            refine pm_goto K dX7_squeeze_33 (q := 10) rfl ?_
            rw [show m + 2 ^ k + 1 = m + 1 + 2 ^ k by omega]
            exact ihj (m + 1) _ _ (by omega) Mt1i (by rw [tr_sq_s]; simpa only [List.append_assoc] using Wt1i) (Q3.tr Qt1i) (F3.tr Ft1i)
        have := inner (m0 - 2 ^ k) 0 h1 g1 (by omega) M1 (by rw [tr_sq, List.append_nil]; exact W1) Q1 F1
        rw [Nat.zero_add] at this
        exact this
  exact outer 8 0 h g none (by omega) (fun j hj => absurd hj (Nat.not_lt_zero _)) M (by rw [tr_sqs, List.append_nil]; exact hw) gq.rf mo_fr.rf
set_option maxRecDepth 100000 in
theorem m_spread (l : Launch) {n : Nat} {h : pm_H} {g : Nat → Int32} {A : Nat → Nat → Int32} (M : mo_at n h g A) {w : List Int32} (hw : tw g w) {b0 m0 : Nat} (hm : m0 ≤ 76) (hm1 : 1 ≤ m0) (hb : (w ++ tr_sds b0 m0 (so_t m0 + 1)).length + 1000 < 2 ^ 30) : bM0 l yX7_spread cX7_spread 6 none 2 [.ref 112, .int (nI m0), .int (nI b0)] n h (fun r h' => r = none ∧ ∃ g', mo_at n h' g' A ∧ tw g' (w ++ (tr_sds b0 m0 (so_t m0 + 1))) ∧ gq g g' ∧ mo_fr h h') := by
  refine pm_enter rfl (Nat.le_of_ble_eq_true rfl) (fun G K Z => ?_)
  have main : ∀ t, so_t m0 = t → G 0 0 16 [some (.ref 112), some (.int (nI m0)), some (.int (nI b0)), some (.int (nI (2 ^ t))), none, none] [] n h := by
    intro t ht
    have htm : 2 ^ t ≤ m0 := by rw [← ht]; exact so_t_le hm1
    obtain ⟨tF, htF⟩ : ∃ z, z = w ++ tr_sds b0 m0 (so_t m0 + 1) := ⟨_, rfl⟩
    rw [← htF] at Z hb
    rw [ht] at htF
    refine pm_iload_n K dX7_spread_16 (q := 17) rfl rfl rfl ?_
    refine pm_istore K dX7_spread_17 (q := 19) rfl (by decide) rfl ?_
    have outer : ∀ (k : Nat) (h1 : pm_H) (g1 : Nat → Int32) (w1 : List Int32) (x5 : Option Value), k ≤ t + 1 → mo_at n h1 g1 A → tw g1 w1 → gq g g1 → mo_fr h h1 → w1 ++ tr_sds b0 m0 k = tF → G 0 0 19 [some (.ref 112), some (.int (nI m0)), some (.int (nI b0)), some (.int (nI (2 ^ t))), some (.int (so_pw k)), x5] [] n h1 := by
      intro k
      induction k with
      | zero =>
        intro h1 g1 w1 x5 hk M1 W1 Q1 F1 e1
        refine pm_iload K dX7_spread_19 (q := 21) rfl rfl ?_
        refine pm_if_le K dX7_spread_21 (tgt := 66) (q := 24) rfl rfl (fun _ => ?_) (fun z => absurd z (fun z => z (by decide)))
        rw [tr_sds, List.append_nil] at e1
        exact pm_vret Z dX7_spread_66 rfl (Nat.le_of_ble_eq_true rfl) (Nat.le_of_ble_eq_true rfl) ⟨rfl, ⟨rfl, g1, M1, by rw [← e1]; exact W1, Q1, F1⟩⟩
      | succ k ih =>
        intro h1 g1 w1 x5 hk M1 W1 Q1 F1 e1
        have hpk : 2 ^ k ≤ 2 ^ t := Nat.pow_le_pow_right (by omega) (by omega)
        have hp1 : 0 < 2 ^ k := Nat.two_pow_pos k
        have hl := congrArg List.length e1
        rw [List.length_append] at hl
        rw [so_pw_s]
        refine pm_iload K dX7_spread_19 (q := 21) rfl rfl ?_
        refine pm_if_le K dX7_spread_21 (tgt := 66) (q := 24) rfl rfl (fun z => absurd ((kleI (a := 2 ^ k) (b := 0) rfl rfl (by omega) (by omega)).mp z) (by omega)) (fun _ => ?_)
        refine pm_iload_n K dX7_spread_24 (q := 25) rfl rfl rfl ?_
        refine pm_ic1 K dX7_spread_25 (q := 26) rfl ?_
        refine pm_isub K dX7_spread_26 (q := 27) rfl ?_
        refine pm_top (y := nI (m0 - 1)) (ksub (a := m0) (b := 1) rfl rfl (by omega)) ?_
        refine pm_istore K dX7_spread_27 (q := 29) rfl (by decide) rfl ?_
        have inner : ∀ (f m : Nat) (h3 : pm_H) (g3 : Nat → Int32), m + f = m0 - 2 ^ k → mo_at n h3 g3 A → tw g3 (w1 ++ tr_sd b0 m0 (2 ^ k) m) → gq g g3 → mo_fr h h3 → G 0 0 29 [some (.ref 112), some (.int (nI m0)), some (.int (nI b0)), some (.int (nI (2 ^ t))), some (.int (nI (2 ^ k))), some (.int (nI (m0 - 1 - m)))] [] n h3 := by
          intro f
          induction f with
          | zero =>
            intro m h3 g3 hmf M3 W3 Q3 F3
            have hl2 := len_sd b0 m0 (2 ^ k) m
            refine pm_iload K dX7_spread_29 (q := 31) rfl rfl ?_
            refine pm_iload K dX7_spread_31 (q := 33) rfl rfl ?_
            refine pm_icmp_lt K dX7_spread_33 (tgt := 57) (q := 36) rfl rfl (fun _ => ?_) (fun z => absurd ((kltI (a := m0 - 1 - m) (b := 2 ^ k) rfl rfl (by omega) (by omega)).mpr (by omega)) z)
            have em : m = m0 - 2 ^ k := by omega
            subst em
            refine pm_iload K dX7_spread_57 (q := 59) rfl rfl ?_
            refine pm_ic2 K dX7_spread_59 (q := 60) rfl ?_
            refine pm_idiv K dX7_spread_60 (q := 61) rfl (by decide) ?_
            rw [so_half (by omega)]
            refine pm_istore K dX7_spread_61 (q := 63) rfl (by decide) rfl ?_
            refine pm_goto K dX7_spread_63 (q := 19) rfl ?_
            exact ih h3 g3 _ _ (by omega) M3 W3 Q3 F3 (by rw [List.append_assoc]; exact e1)
          | succ f ihj =>
            intro m h3 g3 hmf M3 W3 Q3 F3
            have hl2 := len_sd b0 m0 (2 ^ k) m
            refine pm_iload K dX7_spread_29 (q := 31) rfl rfl ?_
            refine pm_iload K dX7_spread_31 (q := 33) rfl rfl ?_
            refine pm_icmp_lt K dX7_spread_33 (tgt := 57) (q := 36) rfl rfl (fun z => absurd ((kltI (a := m0 - 1 - m) (b := 2 ^ k) rfl rfl (by omega) (by omega)).mp z) (by omega)) (fun _ => ?_)
            refine pm_aload_n K dX7_spread_36 (q := 37) rfl rfl rfl ?_
            refine pm_iload_n K dX7_spread_37 (q := 38) rfl rfl rfl ?_
            refine pm_iload K dX7_spread_38 (q := 40) rfl rfl ?_
            refine pm_iadd K dX7_spread_40 (q := 41) rfl ?_
            refine pm_top (y := nI (b0 + (m0 - 1 - m))) (kadd (a := b0) (b := m0 - 1 - m) rfl rfl) ?_
            refine pm_iload K dX7_spread_41 (q := 43) rfl rfl ?_
            refine pm_isub K dX7_spread_43 (q := 44) rfl ?_
            refine pm_top (y := nI ((b0 + (m0 - 1 - m)) - (2 ^ k))) (ksub (a := b0 + (m0 - 1 - m)) (b := 2 ^ k) rfl rfl (by omega)) ?_
            refine pm_top (y := nI (b0 + (m0 - 1 - m - 2 ^ k))) (congrArg nI (by omega)) ?_
            refine pm_iload_n K dX7_spread_44 (q := 45) rfl rfl rfl ?_
            refine pm_iload K dX7_spread_45 (q := 47) rfl rfl ?_
            refine pm_iadd K dX7_spread_47 (q := 48) rfl ?_
            refine pm_top (y := nI (b0 + (m0 - 1 - m))) (kadd (a := b0) (b := m0 - 1 - m) rfl rfl) ?_
            refine pm_callV0 K gw_ok wcX7_141 (m_exchange l M3 W3 (by first | omega | (simp only [List.length_append, List.length_cons, List.length_nil]; omega)) (b0 + (m0 - 1 - m - 2 ^ k)) (b0 + (m0 - 1 - m))) rfl (by have := M3.1; omega) M3.2.1 rfl rfl (Nat.le_of_ble_eq_true rfl) (by decide) dX7_spread_48 (q := 51) rfl (fun rt1i ht1i hp => ?_)
            obtain ⟨rfl, gt1i, Mt1i, Wt1i, Qt1i, Ft1i⟩ := hp
            refine pm_iinc (v := nI (m0 - 1 - (m + 1))) K dX7_spread_51 (q := 54) rfl rfl (by rw [show m0 - 1 - m = m0 - 1 - (m + 1) + 1 by omega, ← pk_m1 (m0 - 1 - (m + 1))]; congr 1) (by decide) rfl ?_
            refine pm_goto K dX7_spread_54 (q := 29) rfl ?_
            exact ihj (m + 1) _ _ (by omega) Mt1i (by rw [tr_sd_s, ← List.append_assoc]; exact Wt1i) (Q3.tr Qt1i) (F3.tr Ft1i)
        exact inner (m0 - 2 ^ k) 0 h1 g1 (by omega) M1 (by rw [tr_sd, List.append_nil]; exact W1) Q1 F1
    have := outer (t + 1) h g w none (by omega) M hw gq.rf mo_fr.rf htF.symm
    rw [so_pw_s] at this
    exact this
  refine pm_ic1 K dX7_spread_0 (q := 1) rfl ?_
  refine pm_istore_n K dX7_spread_1 (q := 2) rfl rfl (by decide) rfl ?_
  have wide : ∀ (m t : Nat), t + m = 7 → (t = 0 ∨ 2 ^ t < m0) → G 0 0 2 [some (.ref 112), some (.int (nI m0)), some (.int (nI b0)), some (.int (nI (2 ^ t))), none, none] [] n h := by
    intro m
    induction m with
    | zero =>
      intro t ht h2
      have e7 : t = 7 := by omega
      subst e7
      omega
    | succ m ih =>
      intro t ht h2
      have h7 : 2 ^ t ≤ 2 ^ 7 := Nat.pow_le_pow_right (by omega) (by omega)
      refine pm_ic2 K dX7_spread_2 (q := 3) rfl ?_
      refine pm_iload_n K dX7_spread_3 (q := 4) rfl rfl rfl ?_
      refine pm_imul K dX7_spread_4 (q := 5) rfl ?_
      refine pm_top (y := nI (2 * (2 ^ t))) (kmul (a := 2) (b := 2 ^ t) rfl rfl) ?_
      refine pm_iload_n K dX7_spread_5 (q := 6) rfl rfl rfl ?_
      refine pm_icmp_ge K dX7_spread_6 (tgt := 16) (q := 9) rfl rfl (fun z => ?_) (fun z => ?_)
      · have hx : m0 ≤ 2 * (2 ^ t) := (kleI (a := m0) (b := 2 * (2 ^ t)) rfl rfl (by omega) (by omega)).mp z
        exact main t (so_t_eq h2 (by rw [Nat.pow_succ]; omega))
      · have hx : ¬ m0 ≤ 2 * (2 ^ t) := fun y => z ((kleI (a := m0) (b := 2 * (2 ^ t)) rfl rfl (by omega) (by omega)).mpr y)
        refine pm_ic2 K dX7_spread_9 (q := 10) rfl ?_
        refine pm_iload_n K dX7_spread_10 (q := 11) rfl rfl rfl ?_
        refine pm_imul K dX7_spread_11 (q := 12) rfl ?_
        refine pm_top (y := nI (2 * (2 ^ t))) (kmul (a := 2) (b := 2 ^ t) rfl rfl) ?_
        refine pm_istore_n K dX7_spread_12 (q := 13) rfl rfl (by decide) rfl ?_
        refine pm_goto K dX7_spread_13 (q := 2) rfl ?_
        have := ih (t + 1) (by omega) (Or.inr (by rw [Nat.pow_succ]; omega))
        rw [Nat.pow_succ'] at this
        exact this
  exact wide 7 0 (by omega) (Or.inl rfl)
