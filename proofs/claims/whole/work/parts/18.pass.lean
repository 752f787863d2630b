/-! The store: a pass of the sort. -/
def so_t (n : Nat) : Nat := (n - 1).log2
theorem so_t_eq {t n : Nat} (h : t = 0 ∨ 2 ^ t < n) (h2 : n ≤ 2 ^ (t + 1)) : so_t n = t := by
  unfold so_t
  by_cases h0 : n - 1 = 0
  · rw [h0]
    rcases h with rfl | h
    · rfl
    · have : 0 < 2 ^ t := Nat.two_pow_pos t
      omega
  · rw [Nat.log2_eq_iff h0]
    rcases h with rfl | h
    · constructor
      · show 2 ^ 0 ≤ _
        omega
      · omega
    · omega
def rw_lt (f g : rw_T) : Bool := rw_gt g f
def tr_ps (b p r d : Nat) : Nat → List Int32
  | 0 => []
  | m + 1 => tr_ps b p r d m ++ (if m &&& p = r then [so_rd (b + m), so_rd (b + m + d), so_wr (b + m), so_wr (b + m + d)] else [])
theorem tr_ps_0 (b p r d : Nat) : tr_ps b p r d 0 = [] := rfl
theorem tr_ps_no {b p r d m : Nat} (h : ¬ m &&& p = r) : tr_ps b p r d (m + 1) = tr_ps b p r d m := by
  rw [tr_ps, if_neg h, List.append_nil]
theorem tr_ps_yes {b p r d m : Nat} (h : m &&& p = r) : tr_ps b p r d (m + 1) = tr_ps b p r d m ++ [so_rd (b + m), so_rd (b + m + d), so_wr (b + m), so_wr (b + m + d)] := by
  rw [tr_ps, if_pos h]
theorem nw_ps_no {α : Type} {lt : α → α → Bool} {b p r d m : Nat} {L : Nat → α} (h : ¬ m &&& p = r) : nw_ps lt b p r d (m + 1) L = nw_ps lt b p r d m L := by
  rw [nw_ps, if_neg h]
theorem nw_ps_yes {α : Type} {lt : α → α → Bool} {b p r d m : Nat} {L : Nat → α} (h : m &&& p = r) (hs : lt (nw_ps lt b p r d m L (b + m + d)) (nw_ps lt b p r d m L (b + m)) = true) : nw_ps lt b p r d (m + 1) L = nw_sw (b + m) (b + m + d) (nw_ps lt b p r d m L) := by
  rw [nw_ps, if_pos h, nw_cx, if_pos hs]
theorem nw_ps_stay {α : Type} {lt : α → α → Bool} {b p r d m : Nat} {L : Nat → α} (hs : lt (nw_ps lt b p r d m L (b + m + d)) (nw_ps lt b p r d m L (b + m)) = false) : nw_ps lt b p r d (m + 1) L = nw_ps lt b p r d m L := by
  rw [nw_ps]
  split
  · rw [nw_cx, if_neg (by rw [hs]; decide)]
  · rfl
theorem so_L.tke {n : Nat} {h : pm_H} {L : Nat → rw_T} {ts : List Int32} (H : so_L n h L ts) : so_L n h L (tk ts) := by
  obtain ⟨ix, R, HA, hi, hL⟩ := H
  have e : tk ts = ts := List.take_of_length_le HA.2.2.2.2.2.2
  rw [e]
  exact ⟨ix, R, HA, hi, hL⟩
theorem nx_and (a b : Nat) : nI a &&& nI b = nI (a &&& b) := by
  apply Int32.toBitVec_inj.mp
  show (nI a).toBitVec &&& (nI b).toBitVec = (nI (a &&& b)).toBitVec
  show BitVec.ofNat 32 a &&& BitVec.ofNat 32 b = BitVec.ofNat 32 (a &&& b)
  rw [BitVec.ofNat_and]
set_option maxRecDepth 100000 in
theorem c_widest (l : Launch) {n : Nat} {h : pm_H} {m0 : Nat} (hm : m0 ≤ 76) : bM0 l yX5_widest cX5_widest 2 (some (.int)) 0 [.int (nI m0)] n h (fun r h' => r = some (.int (nI (2 ^ so_t m0))) ∧ h' = h) := by
  refine pm_enter rfl (Nat.le_of_ble_eq_true rfl) (fun G K Z => ?_)
  refine pm_ic1 K dX5_widest_0 (q := 1) rfl ?_
  refine pm_istore_n K dX5_widest_1 (q := 2) rfl rfl (by decide) rfl ?_
  have loop : ∀ (k t : Nat), t + k = 7 → (t = 0 ∨ 2 ^ t < m0) → G 0 0 2 [some (.int (nI m0)), some (.int (nI (2 ^ t)))] [] n h := by
    intro k
    induction k with
    | zero =>
      intro t hk ht
      exfalso
      have e : t = 7 := by omega
      subst e
      omega
    | succ k ih =>
      intro t hk ht
      have hd : 2 ^ t < 76 := by
        rcases ht with rfl | ht
        · decide
        · omega
      have h2 : 2 ^ (t + 1) = 2 * 2 ^ t := by rw [Nat.pow_succ]; omega
      refine pm_iload_n K dX5_widest_2 (q := 3) rfl rfl rfl ?_
      refine pm_bipush (v := nI 76) K dX5_widest_3 (q := 5) rfl (by decide) ?_
      refine pm_icmp_ge K dX5_widest_5 (tgt := 22) (q := 8) rfl rfl (fun z => absurd z (nI_ge hd (by decide))) (fun _ => ?_)
      refine pm_ic2 K dX5_widest_8 (q := 9) rfl ?_
      refine pm_iload_n K dX5_widest_9 (q := 10) rfl rfl rfl ?_
      refine pm_imul K dX5_widest_10 (q := 11) rfl ?_
      refine pm_iload_n K dX5_widest_11 (q := 12) rfl rfl rfl ?_
      rw [show (2 : Int32) * nI (2 ^ t) = nI (2 * 2 ^ t) from pk_mul 2 (2 ^ t)]
      refine pm_icmp_ge K dX5_widest_12 (tgt := 22) (q := 15) rfl rfl (fun hx => ?_) (fun hx => ?_)
      · have hle : m0 ≤ 2 * 2 ^ t := (nI_leI (by omega) (by omega)).mp hx
        refine pm_iload_n K dX5_widest_22 (q := 23) rfl rfl rfl ?_
        exact pm_iret Z dX5_widest_23 rfl rfl (Nat.le_of_ble_eq_true rfl) (Nat.le_of_ble_eq_true rfl) ⟨rfl, ⟨by rw [so_t_eq ht (by omega)], rfl⟩⟩
      · have hlt : 2 * 2 ^ t < m0 := Nat.lt_of_not_le (fun z => hx ((nI_leI (by omega) (by omega)).mpr z))
        refine pm_iload_n K dX5_widest_15 (q := 16) rfl rfl rfl ?_
        refine pm_ic2 K dX5_widest_16 (q := 17) rfl ?_
        refine pm_imul K dX5_widest_17 (q := 18) rfl ?_
        refine pm_istore_n K dX5_widest_18 (q := 19) rfl rfl (by decide) rfl ?_
        refine pm_goto K dX5_widest_19 (q := 2) rfl ?_
        have := ih (t + 1) (by omega) (Or.inr (by omega))
        rw [h2, Nat.mul_comm, show nI (2 ^ t * 2) = nI (2 ^ t) * 2 from (pk_mul (2 ^ t) 2).symm] at this
        exact this
  have := loop 7 0 (by omega) (Or.inl rfl)
  exact this
set_option maxRecDepth 100000 in
theorem c_sortPass (l : Launch) {n : Nat} {h : pm_H} {L : Nat → rw_T} {ts : List Int32} (H : so_L n h L ts) {b0 m0 p r0 d : Nat} (hb : b0 + m0 ≤ 76) (hd : d ≤ m0) (hd0 : 0 < d) (hp : p < 76) (hr : r0 < 76) : bM0 l yX5_sortPass cX5_sortPass 11 none 2 [.ref 15, .int (nI b0), .int (nI m0), .int (nI p), .int (nI r0), .int (nI d)] n h (fun r h' => r = none ∧ so_L n h' (nw_ps rw_lt b0 p r0 d (m0 - d) L) (tk (ts ++ tr_ps b0 p r0 d (m0 - d))) ∧ so_fr h h') := by
  refine pm_enter rfl (Nat.le_of_ble_eq_true rfl) (fun G K Z => ?_)
  refine pm_ic0 K dX5_sortPass_0 (q := 1) rfl ?_
  refine pm_istore K dX5_sortPass_1 (q := 3) rfl (by decide) rfl ?_
  have loop : ∀ (k i : Nat) (h2 : pm_H) (x7 x8 x9 x10 : Option Value), i + k = m0 - d → so_L n h2 (nw_ps rw_lt b0 p r0 d i L) (tk (ts ++ tr_ps b0 p r0 d i)) → so_fr h h2 → G 0 0 3 [some (.ref 15), some (.int (nI b0)), some (.int (nI m0)), some (.int (nI p)), some (.int (nI r0)), some (.int (nI d)), some (.int (nI i)), x7, x8, x9, x10] [] n h2 := by
    intro k
    induction k with
    | zero =>
      intro i h2 x7 x8 x9 x10 hk HL hF
      refine pm_iload K dX5_sortPass_3 (q := 5) rfl rfl ?_
      refine pm_iload_n K dX5_sortPass_5 (q := 6) rfl rfl rfl ?_
      refine pm_iload K dX5_sortPass_6 (q := 8) rfl rfl ?_
      refine pm_isub K dX5_sortPass_8 (q := 9) rfl ?_
      rw [pk_sub hd]
      refine pm_icmp_ge K dX5_sortPass_9 (tgt := 100) (q := 12) rfl rfl (fun _ => ?_) (fun z => absurd z (fun z => z (nI_le (by omega) (by omega))))
      have er : i = m0 - d := by omega
      subst er
      exact pm_vret Z dX5_sortPass_100 rfl (Nat.le_of_ble_eq_true rfl) (Nat.le_of_ble_eq_true rfl) ⟨rfl, ⟨rfl, HL, hF⟩⟩
    | succ k ih =>
      intro i h2 x7 x8 x9 x10 hk HL hF
      refine pm_iload K dX5_sortPass_3 (q := 5) rfl rfl ?_
      refine pm_iload_n K dX5_sortPass_5 (q := 6) rfl rfl rfl ?_
      refine pm_iload K dX5_sortPass_6 (q := 8) rfl rfl ?_
      refine pm_isub K dX5_sortPass_8 (q := 9) rfl ?_
      rw [pk_sub hd]
      refine pm_icmp_ge K dX5_sortPass_9 (tgt := 100) (q := 12) rfl rfl (fun z => absurd z (nI_ge (by omega) (by omega))) (fun _ => ?_)
      refine pm_iload K dX5_sortPass_12 (q := 14) rfl rfl ?_
      refine pm_iload_n K dX5_sortPass_14 (q := 15) rfl rfl rfl ?_
      refine pm_iand K dX5_sortPass_15 (q := 16) rfl ?_
      refine pm_iload K dX5_sortPass_16 (q := 18) rfl rfl ?_
      rw [nx_and]
      refine pm_icmp_ne K dX5_sortPass_18 (tgt := 94) (q := 21) rfl rfl (fun hx => ?_) (fun hx => ?_)
      · have hne : ¬ i &&& p = r0 := fun z => hx (by rw [z])
        refine pm_inc K dX5_sortPass_94 (q := 97) rfl rfl (by decide) rfl ?_
        refine pm_goto K dX5_sortPass_97 (q := 3) rfl ?_
        refine ih (i + 1) h2 _ _ _ _ (by omega) ?_ hF
        rw [nw_ps_no hne, tr_ps_no hne]
        exact HL
      · have hlp : i &&& p < 76 := Nat.lt_of_le_of_lt Nat.and_le_right hp
        have hq : i &&& p = r0 := (nI_eq (by omega) (by omega)).mp hx
        obtain ⟨ix, R, HA, hi, hL⟩ := HL
        have g0 := HA.1
        have gx := HA.2.2.2.2.1 (b0 + i) (by omega)
        have gy := HA.2.2.2.2.1 (b0 + i + d) (by omega)
        have hxy : ix (b0 + i) ≠ ix (b0 + i + d) := fun z => by have := hi _ _ (by omega) (by omega) z; omega
        refine pm_iload_n K dX5_sortPass_21 (q := 22) rfl rfl rfl ?_
        refine pm_iload K dX5_sortPass_22 (q := 24) rfl rfl ?_
        refine pm_iadd K dX5_sortPass_24 (q := 25) rfl ?_
        rw [nI_add]
        refine pm_istore K dX5_sortPass_25 (q := 27) rfl (by decide) rfl ?_
        refine pm_aload_n K dX5_sortPass_27 (q := 28) rfl rfl rfl ?_
        refine pm_iload K dX5_sortPass_28 (q := 30) rfl rfl ?_
        refine pm_callV0 K gw_ok wcX5_34 (c_read l HA (p := b0 + i) (by omega)) rfl (by have := HA.1; omega) HA.2.1 rfl rfl (Nat.le_of_ble_eq_true rfl) (by decide) dX5_sortPass_30 (q := 33) rfl (fun r1 h1 hp => ?_)
        obtain ⟨rfl, H1, F1⟩ := hp
        refine pm_astore K dX5_sortPass_33 (q := 35) rfl (by decide) rfl ?_
        refine pm_aload_n K dX5_sortPass_35 (q := 36) rfl rfl rfl ?_
        refine pm_iload K dX5_sortPass_36 (q := 38) rfl rfl ?_
        refine pm_iload K dX5_sortPass_38 (q := 40) rfl rfl ?_
        refine pm_iadd K dX5_sortPass_40 (q := 41) rfl ?_
        rw [nI_add]
        refine pm_callV0 K gw_ok wcX5_34 (c_read l H1 (p := b0 + i + d) (by omega)) rfl (by have := H1.1; omega) H1.2.1 rfl rfl (Nat.le_of_ble_eq_true rfl) (by decide) dX5_sortPass_41 (q := 44) rfl (fun r2 h2x hp => ?_)
        obtain ⟨rfl, H2, F2⟩ := hp
        refine pm_astore K dX5_sortPass_44 (q := 46) rfl (by decide) rfl ?_
        refine pm_aload K dX5_sortPass_46 (q := 48) rfl rfl ?_
        refine pm_aload K dX5_sortPass_48 (q := 50) rfl rfl ?_
        refine pm_callV0 K gw_ok wcX5_102 (c_isBehind l (by omega) (H2.row gx) (by omega) (H2.row gy)) rfl (by omega) (H2.row gx) rfl rfl (Nat.le_of_ble_eq_true rfl) (by decide) dX5_sortPass_50 (q := 53) rfl (fun r3 h3x hp => ?_)
        obtain ⟨rfl, rfl⟩ := hp
        refine pm_istore K dX5_sortPass_53 (q := 55) rfl (by decide) rfl ?_
        cases hgt : rw_gt (R (ix (b0 + i))) (R (ix (b0 + i + d)))
        · refine pm_aload_n K dX5_sortPass_55 (q := 56) rfl rfl rfl ?_
          refine pm_iload K dX5_sortPass_56 (q := 58) rfl rfl ?_
          refine pm_iload K dX5_sortPass_58 (q := 60) rfl rfl ?_
          refine pm_if_eq K dX5_sortPass_60 (tgt := 68) (q := 63) rfl rfl (fun _ => ?_) (fun z => absurd z (fun z => z rfl))
          refine pm_aload K dX5_sortPass_68 (q := 70) rfl rfl ?_
          refine pm_callV0 K gw_ok wcX5_41 (c_write l H2 (p := b0 + i) (by omega) gx) rfl (by have := H2.1; omega) H2.2.1 rfl rfl (Nat.le_of_ble_eq_true rfl) (by decide) dX5_sortPass_70 (q := 73) rfl (fun r4 h4x hp => ?_)
          obtain ⟨rfl, H3, F3⟩ := hp
          refine pm_aload_n K dX5_sortPass_73 (q := 74) rfl rfl rfl ?_
          refine pm_iload K dX5_sortPass_74 (q := 76) rfl rfl ?_
          refine pm_iload K dX5_sortPass_76 (q := 78) rfl rfl ?_
          refine pm_iadd K dX5_sortPass_78 (q := 79) rfl ?_
          rw [nI_add]
          refine pm_iload K dX5_sortPass_79 (q := 81) rfl rfl ?_
          refine pm_if_eq K dX5_sortPass_81 (tgt := 89) (q := 84) rfl rfl (fun _ => ?_) (fun z => absurd z (fun z => z rfl))
          refine pm_aload K dX5_sortPass_89 (q := 91) rfl rfl ?_
          refine pm_callV0 K gw_ok wcX5_41 (c_write l H3 (p := b0 + i + d) (by omega) gy) rfl (by have := H3.1; omega) H3.2.1 rfl rfl (Nat.le_of_ble_eq_true rfl) (by decide) dX5_sortPass_91 (q := 94) rfl (fun r5 h5x hp => ?_)
          obtain ⟨rfl, H4, F4⟩ := hp
          refine pm_inc K dX5_sortPass_94 (q := 97) rfl rfl (by decide) rfl ?_
          refine pm_goto K dX5_sortPass_97 (q := 3) rfl ?_
          refine ih (i + 1) h5x _ _ _ _ (by omega) ?_ (fun q hq => by rw [F4 q (by omega), F3 q (by omega), F2 q (by omega) (by omega), F1 q (by omega) (by omega), hF q hq])
          simp only [tk_app, List.append_assoc, List.cons_append, List.nil_append] at H4
          rw [so_id, so_id] at H4
          rw [nw_ps_stay (by rw [hL _ (by omega), hL _ (by omega)]; exact hgt), tr_ps_yes hq]
          exact ⟨ix, R, H4, hi, hL⟩
        · refine pm_aload_n K dX5_sortPass_55 (q := 56) rfl rfl rfl ?_
          refine pm_iload K dX5_sortPass_56 (q := 58) rfl rfl ?_
          refine pm_iload K dX5_sortPass_58 (q := 60) rfl rfl ?_
          refine pm_if_eq K dX5_sortPass_60 (tgt := 68) (q := 63) rfl rfl (fun z => absurd z (by decide)) (fun _ => ?_)
          refine pm_aload K dX5_sortPass_63 (q := 65) rfl rfl ?_
          refine pm_goto K dX5_sortPass_65 (q := 70) rfl ?_
          refine pm_callV0 K gw_ok wcX5_41 (c_write l H2 (p := b0 + i) (by omega) gy) rfl (by have := H2.1; omega) H2.2.1 rfl rfl (Nat.le_of_ble_eq_true rfl) (by decide) dX5_sortPass_70 (q := 73) rfl (fun r4 h4x hp => ?_)
          obtain ⟨rfl, H3, F3⟩ := hp
          refine pm_aload_n K dX5_sortPass_73 (q := 74) rfl rfl rfl ?_
          refine pm_iload K dX5_sortPass_74 (q := 76) rfl rfl ?_
          refine pm_iload K dX5_sortPass_76 (q := 78) rfl rfl ?_
          refine pm_iadd K dX5_sortPass_78 (q := 79) rfl ?_
          rw [nI_add]
          refine pm_iload K dX5_sortPass_79 (q := 81) rfl rfl ?_
          refine pm_if_eq K dX5_sortPass_81 (tgt := 89) (q := 84) rfl rfl (fun z => absurd z (by decide)) (fun _ => ?_)
          refine pm_aload K dX5_sortPass_84 (q := 86) rfl rfl ?_
          refine pm_goto K dX5_sortPass_86 (q := 91) rfl ?_
          refine pm_callV0 K gw_ok wcX5_41 (c_write l H3 (p := b0 + i + d) (by omega) gx) rfl (by have := H3.1; omega) H3.2.1 rfl rfl (Nat.le_of_ble_eq_true rfl) (by decide) dX5_sortPass_91 (q := 94) rfl (fun r5 h5x hp => ?_)
          obtain ⟨rfl, H4, F4⟩ := hp
          refine pm_inc K dX5_sortPass_94 (q := 97) rfl rfl (by decide) rfl ?_
          refine pm_goto K dX5_sortPass_97 (q := 3) rfl ?_
          refine ih (i + 1) h5x _ _ _ _ (by omega) ?_ (fun q hq => by rw [F4 q (by omega), F3 q (by omega), F2 q (by omega) (by omega), F1 q (by omega) (by omega), hF q hq])
          simp only [tk_app, List.append_assoc, List.cons_append, List.nil_append] at H4
          rw [nw_ps_yes hq (by rw [hL _ (by omega), hL _ (by omega)]; exact hgt), tr_ps_yes hq]
          exact so_L.sw H4 hi hL (by omega) (by omega)
  have := loop (m0 - d) 0 h none none none none (by omega) (by rw [tr_ps_0, List.append_nil]; exact so_L.tke H) so_fr.rf
  rw [nI_0] at this
  exact this
