/-! The operators: each row once. -/
theorem so_cl2 {ix : Nat → Nat} {R N : Nat → rw_T} {p : Nat} {f : rw_T} (hi : ∀ i j, i < 76 → j < 76 → ix i = ix j → i = j) (hL : ∀ i, i < 76 → N i = R (ix i)) (hp : p < 76) : ∀ i, i < 76 → va_up N p f i = va_up R (ix p) f (ix i) := fun i hi' => by
  by_cases e : i = p
  · subst e; simp [va_up]
  · have : ix i ≠ ix p := fun z => e (hi i p hi' hp z)
    simp [va_up, e, this, hL i hi']
theorem so_at.tke {n : Nat} {h : pm_H} {ix : Nat → Nat} {R : Nat → rw_T} {ts : List Int32} (H : so_at n h ix R ts) : tk ts = ts := List.take_of_length_le H.2.2.2.2.2.2
/-- the row is another than the one before it -/
def op_new (M : Nat → rw_T) (p : Nat) : Bool := !(decide (p ≠ 0 ∧ rw_c3 (M p) = rw_c3 (M (p - 1))))
theorem op_new_f {M : Nat → rw_T} {p : Nat} (h : ¬ p = 0) (hs : rw_c3 (M p) = rw_c3 (M (p - 1))) : op_new M p = false := by
  unfold op_new
  rw [decide_eq_true ⟨h, hs⟩]
  rfl
theorem op_new_t {M : Nat → rw_T} {p : Nat} (h : p ≠ 0 → ¬ rw_c3 (M p) = rw_c3 (M (p - 1))) : op_new M p = true := by
  unfold op_new
  rw [decide_eq_false (fun z => h z.1 z.2)]
  rfl
def op_bf (ix : Nat → Nat) (p : Nat) : Value := if p = 0 then .null else .ref (18 + ix (p - 1))
theorem op_sm (f g : rw_T) : decide (f 0 = g 0 ∧ f 1 = g 1 ∧ f 2 = g 2) = decide (rw_c3 f = rw_c3 g) := by
  unfold rw_c3
  simp
/-- the first of each, of rows in order: each row once -/
theorem op_dist (g : Nat → bg_T) (m : Nat) (hs : ((List.range m).map g).Pairwise bg_le) : ((nw_mk (fun p => !(decide (p ≠ 0 ∧ g p = g (p - 1)))) m).map g).Nodup ∧ ∀ t, t ∈ (nw_mk (fun p => !(decide (p ≠ 0 ∧ g p = g (p - 1)))) m).map g ↔ ∃ p, p < m ∧ g p = t := by
  have hle : ∀ i j, i < j → j < m → bg_le (g i) (g j) := fun i j hij hj => by
    rw [List.pairwise_map, List.pairwise_iff_getElem] at hs
    have := hs i j (by rw [List.length_range]; omega) (by rw [List.length_range]; omega) hij
    simpa using this
  constructor
  · rw [List.Nodup, List.pairwise_map]
    have hlt : (nw_mk (fun p => !(decide (p ≠ 0 ∧ g p = g (p - 1)))) m).Pairwise (· < ·) := List.Pairwise.filter _ List.pairwise_lt_range
    refine hlt.imp_of_mem (fun {a b} ha hb hab he => ?_)
    have hb' := nw_mk_mem.mp hb
    have hn : ¬ (b ≠ 0 ∧ g b = g (b - 1)) := fun z => by
      have h5 : (!(decide (b ≠ 0 ∧ g b = g (b - 1)))) = true := hb'.2
      rw [decide_eq_true z] at h5
      cases h5
    refine hn ⟨by omega, ?_⟩
    by_cases h : a = b - 1
    · rw [← h]; exact he.symm
    · exact bg_le_anti (by rw [← he]; exact hle a (b - 1) (by omega) (by omega)) (hle (b - 1) b (by omega) hb'.1)
  · intro t
    constructor
    · intro h
      obtain ⟨p, hp, rfl⟩ := List.mem_map.mp h
      exact ⟨p, (nw_mk_mem.mp hp).1, rfl⟩
    · rintro ⟨p, hp, rfl⟩
      induction p with
      | zero => exact List.mem_map.mpr ⟨0, nw_mk_mem.mpr ⟨hp, by simp⟩, rfl⟩
      | succ p ih =>
        by_cases h : g (p + 1) = g p
        · rw [h]; exact ih (by omega)
        · exact List.mem_map.mpr ⟨p + 1, nw_mk_mem.mpr ⟨hp, by simp [h]⟩, rfl⟩
set_option maxRecDepth 100000 in
theorem c_keepFirst (l : Launch) {n : Nat} {h : pm_H} {M : Nat → rw_T} {ts : List Int32} (H : so_L n h M ts) (hn : 111 < n) (O : h 94 = pm_O cOps [.ref 15]) {m : Nat} (hm : m ≤ 76) : bM0 l yX2_keepFirstOfEach cX2_keepFirstOfEach 6 (some (.int)) 2 [.ref 94, .int (nI m)] n h (fun r h' => r = some (.int (nI (nw_mk (op_new M) m).length)) ∧ so_L n h' (so_map 0 m (op_mark (op_new M)) M) (tk (ts ++ tr_sc 0 m)) ∧ so_fr h h') := by
  refine pm_enter rfl (Nat.le_of_ble_eq_true rfl) (fun G K Z => ?_)
  obtain ⟨ix, R0, HA0, hi, hL0⟩ := id H
  refine pm_ic0 K dX2_keepFirstOfEach_0 (q := 1) rfl ?_
  refine pm_istore_n K dX2_keepFirstOfEach_1 (q := 2) rfl rfl (by decide) rfl ?_
  refine pm_null K dX2_keepFirstOfEach_2 (q := 3) rfl ?_
  refine pm_astore_nN K dX2_keepFirstOfEach_3 (q := 4) rfl rfl (by decide) rfl ?_
  refine pm_ic0 K dX2_keepFirstOfEach_4 (q := 5) rfl ?_
  refine pm_istore K dX2_keepFirstOfEach_5 (q := 7) rfl (by decide) rfl ?_
  have loop : ∀ (k p : Nat) (h2 : pm_H) (R : Nat → rw_T) (x5 : Option Value), p + k = m → so_at n h2 ix R (tk (ts ++ tr_sc 0 p)) → (∀ i, i < 76 → so_map 0 p (op_mark (op_new M)) M i = R (ix i)) → so_fr h h2 → G 0 0 7 [some (.ref 94), some (.int (nI m)), some (.int (nI (nw_mk (op_new M) p).length)), some (op_bf ix p), some (.int (nI p)), x5] [] n h2 := by
    intro k
    induction k with
    | zero =>
      intro p h2 R x5 hk HA hL hF
      refine pm_iload K dX2_keepFirstOfEach_7 (q := 9) rfl rfl ?_
      refine pm_iload_n K dX2_keepFirstOfEach_9 (q := 10) rfl rfl rfl ?_
      refine pm_icmp_ge K dX2_keepFirstOfEach_10 (tgt := 76) (q := 13) rfl rfl (fun _ => ?_) (fun z => absurd z (fun z => z (nI_le (by omega) (by omega))))
      have ep : p = m := by omega
      subst ep
      refine pm_iload_n K dX2_keepFirstOfEach_76 (q := 77) rfl rfl rfl ?_
      exact pm_iret Z dX2_keepFirstOfEach_77 rfl rfl (Nat.le_of_ble_eq_true rfl) (Nat.le_of_ble_eq_true rfl) ⟨rfl, ⟨rfl, ⟨ix, R, HA, hi, hL⟩, hF⟩⟩
    | succ k ih =>
      intro p h2 R x5 hk HA hL hF
      refine pm_iload K dX2_keepFirstOfEach_7 (q := 9) rfl rfl ?_
      refine pm_iload_n K dX2_keepFirstOfEach_9 (q := 10) rfl rfl rfl ?_
      refine pm_icmp_ge K dX2_keepFirstOfEach_10 (tgt := 76) (q := 13) rfl rfl (fun z => absurd z (nI_ge (by omega) (by omega))) (fun _ => ?_)
      have gx := HA.2.2.2.2.1 (p) (by omega)
      refine pm_aload_n K dX2_keepFirstOfEach_13 (q := 14) rfl rfl rfl ?_
      refine pm_get K inX2 rfl (k := 0) (by decide) wlX2_9 rfl (by omega) ((hF 94 (by omega)).trans O) rfl dX2_keepFirstOfEach_14 (q := 17) rfl ?_
      refine pm_iload K dX2_keepFirstOfEach_17 (q := 19) rfl rfl ?_
      refine pm_callV0 K gw_ok wcX2_29 (c_read l HA (p := p) (by omega)) rfl (by omega) HA.2.1 rfl rfl (Nat.le_of_ble_eq_true rfl) (by decide) dX2_keepFirstOfEach_19 (q := 22) rfl (fun r1 h1 hp => ?_)
      obtain ⟨rfl, H1, F1⟩ := hp
      have eM : R (ix p) = M p := by rw [← hL p (by omega), so_map_at0]
      refine pm_astore K dX2_keepFirstOfEach_22 (q := 24) rfl (by decide) rfl ?_
      have hcl := fun f => so_cl2 (f := f) hi hL (show p < 76 by omega)
      by_cases hp0 : p = 0
      · have hv : op_new M p = true := by rw [hp0]; rfl
        have eb : op_bf ix p = .null := if_pos hp0
        rw [eb]
        refine pm_aload_nN K dX2_keepFirstOfEach_24 (q := 25) rfl rfl rfl ?_
        refine pm_ifnullN K dX2_keepFirstOfEach_25 (q := 45) rfl ?_
        refine pm_aload K dX2_keepFirstOfEach_45 (q := 47) rfl rfl ?_
        refine pm_iload K dX2_keepFirstOfEach_47 (q := 49) rfl rfl ?_
        refine pm_iload_n K dX2_keepFirstOfEach_49 (q := 50) rfl rfl rfl ?_
        refine pm_callV0 K gw_ok wcX2_43 (c_keep l (by omega) (H1.row gx) (nI p) (nI (nw_mk (op_new M) p).length)) rfl (by omega) (H1.row gx) rfl rfl (Nat.le_of_ble_eq_true rfl) (by decide) dX2_keepFirstOfEach_50 (q := 53) rfl (fun r7 h7 hp => ?_)
        obtain ⟨rfl, rfl⟩ := hp
        refine pm_inc K dX2_keepFirstOfEach_53 (q := 56) rfl rfl (by decide) rfl ?_
        refine pm_aload K dX2_keepFirstOfEach_56 (q := 58) rfl rfl ?_
        refine pm_astore_n K dX2_keepFirstOfEach_58 (q := 59) rfl rfl (by decide) rfl ?_
        have H2 := H1.mod gx (f := rw_keep (nI p) (nI (nw_mk (op_new M) p).length) (R (ix p))) (Or.inr rfl)
        refine pm_aload_n K dX2_keepFirstOfEach_59 (q := 60) rfl rfl rfl ?_
        refine pm_get K inX2 rfl (k := 0) (by decide) wlX2_9 rfl (by omega) (pm_ne (by omega) ((F1 94 (by omega) (by omega)).trans ((hF 94 (by omega)).trans O))) rfl dX2_keepFirstOfEach_60 (q := 63) rfl ?_
        refine pm_iload K dX2_keepFirstOfEach_63 (q := 65) rfl rfl ?_
        refine pm_aload K dX2_keepFirstOfEach_65 (q := 67) rfl rfl ?_
        refine pm_callV0 K gw_ok wcX2_49 (c_write l H2 (p := p) (by omega) gx) rfl (by omega) (pm_ne (by omega) H1.2.1) rfl rfl (Nat.le_of_ble_eq_true rfl) (by decide) dX2_keepFirstOfEach_67 (q := 70) rfl (fun r9 h9 hp => ?_)
        obtain ⟨rfl, H3, F3⟩ := hp
        rw [so_id] at H3
        simp only [tk_app, List.append_assoc, List.cons_append, List.nil_append] at H3
        have hF9 : so_fr h h9 := fun q hq => by rw [F3 q (by omega), pm_ne (by omega) rfl, F1 q (by omega) (by omega), hF q hq]
        refine pm_inc K dX2_keepFirstOfEach_70 (q := 73) rfl rfl (by decide) rfl ?_
        refine pm_goto K dX2_keepFirstOfEach_73 (q := 7) rfl ?_
        have := ih (p + 1) h9 _ (some (.ref (18 + ix p))) (by omega) (by rw [tr_sc_s, Nat.zero_add]; exact H3) (by rw [so_map_succ0, op_mark_t hv, ← eM]; exact hcl _) hF9
        rw [nw_mk_t hv] at this
        exact this
      · have eb : op_bf ix p = .ref (18 + ix (p - 1)) := if_neg hp0
        rw [eb]
        have gy := HA.2.2.2.2.1 (p - 1) (by omega)
        refine pm_aload_n K dX2_keepFirstOfEach_24 (q := 25) rfl rfl rfl ?_
        refine pm_ifnull K dX2_keepFirstOfEach_25 (q := 28) rfl ?_
        refine pm_aload K dX2_keepFirstOfEach_28 (q := 30) rfl rfl ?_
        refine pm_aload_n K dX2_keepFirstOfEach_30 (q := 31) rfl rfl rfl ?_
        refine pm_callV0 K gw_ok wcX2_63 (c_sameColumns l (by omega) (H1.row gx) (by omega) (H1.row gy)) rfl (by omega) (H1.row gx) rfl rfl (Nat.le_of_ble_eq_true rfl) (by decide) dX2_keepFirstOfEach_31 (q := 34) rfl (fun r5 h5 hp => ?_)
        obtain ⟨rfl, e1⟩ := hp
        rw [e1]
        have ey : rw_c3 (R (ix (p - 1))) = rw_c3 (M (p - 1)) := by rw [← hL (p - 1) (by omega), so_map_in (by omega), op_mark_c3]
        rw [op_sm, ey, eM]
        by_cases hs : rw_c3 (M p) = rw_c3 (M (p - 1))
        · have hv : op_new M p = false := op_new_f hp0 hs
          rw [decide_eq_true hs]
          refine pm_if_eq K dX2_keepFirstOfEach_34 (tgt := 45) (q := 37) rfl rfl (fun z => absurd z (by decide)) (fun _ => ?_)
          refine pm_aload K dX2_keepFirstOfEach_37 (q := 39) rfl rfl ?_
          refine pm_callV0 K gw_ok wcX2_46 (c_discard l (by omega) (H1.row gx)) rfl (by omega) (H1.row gx) rfl rfl (Nat.le_of_ble_eq_true rfl) (by decide) dX2_keepFirstOfEach_39 (q := 42) rfl (fun r7 h7 hp => ?_)
          obtain ⟨rfl, rfl⟩ := hp
          refine pm_goto K dX2_keepFirstOfEach_42 (q := 56) rfl ?_
          refine pm_aload K dX2_keepFirstOfEach_56 (q := 58) rfl rfl ?_
          refine pm_astore_n K dX2_keepFirstOfEach_58 (q := 59) rfl rfl (by decide) rfl ?_
          have H2 := H1.mod gx (f := rw_disc (R (ix p))) (Or.inl rfl)
          refine pm_aload_n K dX2_keepFirstOfEach_59 (q := 60) rfl rfl rfl ?_
          refine pm_get K inX2 rfl (k := 0) (by decide) wlX2_9 rfl (by omega) (pm_ne (by omega) ((F1 94 (by omega) (by omega)).trans ((hF 94 (by omega)).trans O))) rfl dX2_keepFirstOfEach_60 (q := 63) rfl ?_
          refine pm_iload K dX2_keepFirstOfEach_63 (q := 65) rfl rfl ?_
          refine pm_aload K dX2_keepFirstOfEach_65 (q := 67) rfl rfl ?_
          refine pm_callV0 K gw_ok wcX2_49 (c_write l H2 (p := p) (by omega) gx) rfl (by omega) (pm_ne (by omega) H1.2.1) rfl rfl (Nat.le_of_ble_eq_true rfl) (by decide) dX2_keepFirstOfEach_67 (q := 70) rfl (fun r9 h9 hp => ?_)
          obtain ⟨rfl, H3, F3⟩ := hp
          rw [so_id] at H3
          simp only [tk_app, List.append_assoc, List.cons_append, List.nil_append] at H3
          have hF9 : so_fr h h9 := fun q hq => by rw [F3 q (by omega), pm_ne (by omega) rfl, F1 q (by omega) (by omega), hF q hq]
          refine pm_inc K dX2_keepFirstOfEach_70 (q := 73) rfl rfl (by decide) rfl ?_
          refine pm_goto K dX2_keepFirstOfEach_73 (q := 7) rfl ?_
          have := ih (p + 1) h9 _ (some (.ref (18 + ix p))) (by omega) (by rw [tr_sc_s, Nat.zero_add]; exact H3) (by rw [so_map_succ0, op_mark_f hv, ← eM]; exact hcl _) hF9
          rw [nw_mk_f hv] at this
          exact this
        · have hv : op_new M p = true := op_new_t (fun _ => hs)
          rw [decide_eq_false hs]
          refine pm_if_eq K dX2_keepFirstOfEach_34 (tgt := 45) (q := 37) rfl rfl (fun _ => ?_) (fun z => absurd z (fun z => z rfl))
          refine pm_aload K dX2_keepFirstOfEach_45 (q := 47) rfl rfl ?_
          refine pm_iload K dX2_keepFirstOfEach_47 (q := 49) rfl rfl ?_
          refine pm_iload_n K dX2_keepFirstOfEach_49 (q := 50) rfl rfl rfl ?_
          refine pm_callV0 K gw_ok wcX2_43 (c_keep l (by omega) (H1.row gx) (nI p) (nI (nw_mk (op_new M) p).length)) rfl (by omega) (H1.row gx) rfl rfl (Nat.le_of_ble_eq_true rfl) (by decide) dX2_keepFirstOfEach_50 (q := 53) rfl (fun r7 h7 hp => ?_)
          obtain ⟨rfl, rfl⟩ := hp
          refine pm_inc K dX2_keepFirstOfEach_53 (q := 56) rfl rfl (by decide) rfl ?_
          refine pm_aload K dX2_keepFirstOfEach_56 (q := 58) rfl rfl ?_
          refine pm_astore_n K dX2_keepFirstOfEach_58 (q := 59) rfl rfl (by decide) rfl ?_
          have H2 := H1.mod gx (f := rw_keep (nI p) (nI (nw_mk (op_new M) p).length) (R (ix p))) (Or.inr rfl)
          refine pm_aload_n K dX2_keepFirstOfEach_59 (q := 60) rfl rfl rfl ?_
          refine pm_get K inX2 rfl (k := 0) (by decide) wlX2_9 rfl (by omega) (pm_ne (by omega) ((F1 94 (by omega) (by omega)).trans ((hF 94 (by omega)).trans O))) rfl dX2_keepFirstOfEach_60 (q := 63) rfl ?_
          refine pm_iload K dX2_keepFirstOfEach_63 (q := 65) rfl rfl ?_
          refine pm_aload K dX2_keepFirstOfEach_65 (q := 67) rfl rfl ?_
          refine pm_callV0 K gw_ok wcX2_49 (c_write l H2 (p := p) (by omega) gx) rfl (by omega) (pm_ne (by omega) H1.2.1) rfl rfl (Nat.le_of_ble_eq_true rfl) (by decide) dX2_keepFirstOfEach_67 (q := 70) rfl (fun r9 h9 hp => ?_)
          obtain ⟨rfl, H3, F3⟩ := hp
          rw [so_id] at H3
          simp only [tk_app, List.append_assoc, List.cons_append, List.nil_append] at H3
          have hF9 : so_fr h h9 := fun q hq => by rw [F3 q (by omega), pm_ne (by omega) rfl, F1 q (by omega) (by omega), hF q hq]
          refine pm_inc K dX2_keepFirstOfEach_70 (q := 73) rfl rfl (by decide) rfl ?_
          refine pm_goto K dX2_keepFirstOfEach_73 (q := 7) rfl ?_
          have := ih (p + 1) h9 _ (some (.ref (18 + ix p))) (by omega) (by rw [tr_sc_s, Nat.zero_add]; exact H3) (by rw [so_map_succ0, op_mark_t hv, ← eM]; exact hcl _) hF9
          rw [nw_mk_t hv] at this
          exact this
  have := loop m 0 h R0 none (by omega) (by rw [tr_sc, List.append_nil, so_at.tke HA0]; exact HA0) (by rw [so_map_0]; exact hL0) so_fr.rf
  exact this
set_option maxRecDepth 100000 in
theorem c_keepDifferent (l : Launch) {n : Nat} {h : pm_H} {L : Nat → rw_T} {ts : List Int32} (H : so_L n h L ts) (hn : 111 < n) (O : h 94 = pm_O cOps [.ref 15]) {b len : Nat} {l0 : List bg_T} (B : bg_at n h b len l0) (hb : b + 3 < 15 ∨ 96 < b) : bM0 l yX2_keepDifferent cX2_keepDifferent 4 none 4 [.ref 94, .ref b] n h (fun r h' => r = none ∧ ∃ l1, l1.Nodup ∧ (∀ t, t ∈ l1 ↔ t ∈ l0) ∧ op_P n h b len ts h' l1 (tr_sort 0 l0.length ++ (tr_sc 0 l0.length ++ tr_sqs 0 l0.length (so_k l0.length)))) := by
  refine pm_enter rfl (Nat.le_of_ble_eq_true rfl) (fun G K Z => ?_)
  have hlen : l0.length ≤ 24 := Nat.le_trans B.2.1 B.2.2.1
  obtain ⟨ix0, R0, HA0, hi0, hL0⟩ := id H
  refine pm_aload_n K dX2_keepDifferent_0 (q := 1) rfl rfl rfl ?_
  refine pm_get K inX2 rfl (k := 0) (by decide) wlX2_9 rfl (by omega) O rfl dX2_keepDifferent_1 (q := 4) rfl ?_
  refine pm_aload_n K dX2_keepDifferent_4 (q := 5) rfl rfl rfl ?_
  refine pm_callV0 K gw_ok wcX2_15 (c_lay l H B (by omega)) rfl (by omega) HA0.2.1 rfl rfl (Nat.le_of_ble_eq_true rfl) (by decide) dX2_keepDifferent_5 (q := 8) rfl (fun r1 h1 hp => ?_)
  obtain ⟨rfl, HL1, F1⟩ := hp
  obtain ⟨ix1, R1, HA1, hi1, hL1⟩ := id HL1
  refine pm_istore_n K dX2_keepDifferent_8 (q := 9) rfl rfl (by decide) rfl ?_
  refine pm_aload_n K dX2_keepDifferent_9 (q := 10) rfl rfl rfl ?_
  refine pm_get K inX2 rfl (k := 0) (by decide) wlX2_9 rfl (by omega) ((F1 94 (by omega)).trans O) rfl dX2_keepDifferent_10 (q := 13) rfl ?_
  refine pm_ic0 K dX2_keepDifferent_13 (q := 14) rfl ?_
  refine pm_iload_n K dX2_keepDifferent_14 (q := 15) rfl rfl rfl ?_
  refine pm_callV0 K gw_ok wcX2_21 (c_sort l HL1 (b0 := 0) (m0 := l0.length) (by omega)) rfl (by omega) HA1.2.1 rfl rfl (Nat.le_of_ble_eq_true rfl) (by decide) dX2_keepDifferent_15 (q := 18) rfl (fun r2 h2 hp => ?_)
  obtain ⟨rfl, HL2, F2⟩ := hp
  have F12 := F1.tr F2
  obtain ⟨M, hM⟩ : ∃ z, z = so_sort 0 l0.length (so_lays l0 L) := ⟨_, rfl⟩
  have HL2 : so_L n h2 M (tk (ts ++ tr_sort 0 l0.length)) := by rw [hM]; exact HL2
  refine pm_aload_n K dX2_keepDifferent_18 (q := 19) rfl rfl rfl ?_
  refine pm_iload_n K dX2_keepDifferent_19 (q := 20) rfl rfl rfl ?_
  refine pm_callV0 K gw_ok wcX2_60 (c_keepFirst l HL2 hn ((F12 94 (by omega)).trans O) (m := l0.length) (by omega)) rfl (by omega) ((F12 94 (by omega)).trans O) rfl rfl (Nat.le_of_ble_eq_true rfl) (by decide) dX2_keepDifferent_20 (q := 23) rfl (fun r3 h3 hp => ?_)
  obtain ⟨rfl, HL3, F3⟩ := hp
  have F13 := F12.tr F3
  have hml := nw_mk_le (op_new M) l0.length
  obtain ⟨ix3, R3, HA3, hi3, hL3⟩ := id HL3
  refine pm_istore_n K dX2_keepDifferent_23 (q := 24) rfl rfl (by decide) rfl ?_
  refine pm_aload_n K dX2_keepDifferent_24 (q := 25) rfl rfl rfl ?_
  refine pm_get K inX2 rfl (k := 0) (by decide) wlX2_9 rfl (by omega) ((F13 94 (by omega)).trans O) rfl dX2_keepDifferent_25 (q := 28) rfl ?_
  refine pm_ic0 K dX2_keepDifferent_28 (q := 29) rfl ?_
  refine pm_iload_n K dX2_keepDifferent_29 (q := 30) rfl rfl rfl ?_
  refine pm_callV0 K gw_ok wcX2_53 (c_squeeze l HL3 (b0 := 0) (m0 := l0.length) (by omega)) rfl (by omega) HA3.2.1 rfl rfl (Nat.le_of_ble_eq_true rfl) (by decide) dX2_keepDifferent_30 (q := 33) rfl (fun r4 h4 hp => ?_)
  obtain ⟨rfl, HL4, F4⟩ := hp
  have F14 := F13.tr F4
  obtain ⟨ix4, R4, HA4, hi4, hL4⟩ := id HL4
  have B4 : bg_at n h4 b len l0 := B.fr (Nat.le_refl _) (fun q a c => F14 q (by omega))
  refine pm_aload_n K dX2_keepDifferent_33 (q := 34) rfl rfl rfl ?_
  refine pm_get K inX2 rfl (k := 0) (by decide) wlX2_9 rfl (by omega) ((F14 94 (by omega)).trans O) rfl dX2_keepDifferent_34 (q := 37) rfl ?_
  refine pm_aload_n K dX2_keepDifferent_37 (q := 38) rfl rfl rfl ?_
  refine pm_iload_n K dX2_keepDifferent_38 (q := 39) rfl rfl rfl ?_
  refine pm_callV0 K gw_ok wcX2_25 (c_takeAway l HL4 B4 (by omega) (m := (nw_mk (op_new M) l0.length).length) (by omega)) rfl (by omega) HA4.2.1 rfl rfl (Nat.le_of_ble_eq_true rfl) (by decide) dX2_keepDifferent_39 (q := 42) rfl (fun r5 h5 hp => ?_)
  obtain ⟨rfl, B5, F5⟩ := hp
  obtain ⟨hp1, hp2⟩ := so_order l0 L
  rw [← hM] at hp1 hp2
  rw [op_marked (by omega), List.take_of_length_le (by rw [List.length_map]; exact Nat.le_trans hml B.2.1)] at B5
  simp only [tk_app, List.append_assoc] at HL4
  obtain ⟨hd1, hd2⟩ := op_dist (fun p => rw_c3 (M p)) l0.length (by have := hp2; simp only [nw_ls, List.map_map] at this; simpa [Function.comp_def] using this)
  exact pm_vret Z dX2_keepDifferent_42 rfl (Nat.le_of_ble_eq_true rfl) (Nat.le_of_ble_eq_true rfl) ⟨rfl, ⟨rfl, _, hd1, fun t => (hd2 t).trans (by rw [← hp1.mem_iff]; simp [nw_ls]), ⟨_, HL4.mv (fun q hq => F5 q (by omega))⟩, B5, fun q a c => by rw [F5 q c, F14 q a]⟩⟩
