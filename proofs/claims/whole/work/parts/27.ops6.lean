/-! The operators: a batch. -/
def bt_batch (lt lp ld : List bg_T) : List bg_T := lt.filter (fun t => !(ld.any (fun d => decide (d.1 = t.1)))) ++ lp
def bt_PP (C : List (bg_T × Int32)) (u : bg_T × Int32) : Bool := decide (u.2 = 2) || (decide (u.2 = 1) && !(C.any (fun v => decide (v.2 = 0 ∧ v.1.1 = u.1.1))))
theorem bt_pairs {M : Nat → rw_T} {n : Nat} {C : List (bg_T × Int32)} (hC : ((nw_ls 0 n M).map (fun f => (rw_c3 f, f 4))).Perm C) (h3 : ∀ p, p < n → M p 3 = (rw_c3 (M p)).1) (hl : ∀ p, p < n → ud_live M p = ud_P (nw_ls 0 n M) (M p)) : ((nw_mk (ud_live M) n).map (fun p => rw_c3 (M p))).Perm ((C.filter (bt_PP C)).map (fun u => u.1)) := by
  have hany : ∀ p, p < n → (nw_ls 0 n M).any (fun g => decide (g 4 = 0 ∧ g 3 = M p 3)) = C.any (fun v => decide (v.2 = 0 ∧ v.1.1 = (rw_c3 (M p)).1)) := fun p hp => by
    rw [Bool.eq_iff_iff, List.any_eq_true, List.any_eq_true]
    constructor
    · rintro ⟨f, hf, h⟩
      obtain ⟨q, hq, rfl⟩ := nw_ls_mem.mp hf
      have h := of_decide_eq_true h
      rw [Nat.zero_add] at h hf
      refine ⟨(rw_c3 (M q), M q 4), hC.mem_iff.mp (List.mem_map.mpr ⟨_, hf, rfl⟩), decide_eq_true ⟨h.1, ?_⟩⟩
      rw [← h3 q hq, ← h3 p hp]
      exact h.2
    · rintro ⟨u, hu, h⟩
      obtain ⟨f, hf, rfl⟩ := List.mem_map.mp (hC.mem_iff.mpr hu)
      refine ⟨f, hf, decide_eq_true ?_⟩
      obtain ⟨q, hq, rfl⟩ := nw_ls_mem.mp hf
      have h := of_decide_eq_true h
      rw [Nat.zero_add] at h ⊢
      rw [h3 q hq, h3 p hp]
      exact h
  have e1 : (nw_mk (ud_live M) n).map (fun p => rw_c3 (M p)) = ((((List.range n).map (fun p => (rw_c3 (M p), M p 4))).filter (bt_PP C)).map (fun u => u.1)) := by
    have e2 : nw_mk (ud_live M) n = nw_mk (fun p => bt_PP C (rw_c3 (M p), M p 4)) n := List.filter_congr (fun p hp => by
      have hp := List.mem_range.mp hp
      rw [hl p hp]
      unfold ud_P bt_PP
      rw [hany p hp])
    rw [e2, ← mk_filter (bt_PP C) (fun p => (rw_c3 (M p), M p 4)) n, List.map_map]
    rfl
  rw [e1]
  rw [nw_ls0] at hC
  exact (hC.filter _).map _
theorem bt_af (l : List bg_T) : (l.any fun _ => false) = false := by
  induction l with
  | nil => rfl
  | cons a l ih => rw [List.any_cons, ih]; rfl
theorem bt_filter (lt lp ld : List bg_T) : ((((lt.map (fun t => (t, (1 : Int32)))) ++ (lp.map (fun t => (t, (2 : Int32))) ++ ld.map (fun t => (t, (0 : Int32))))).filter (bt_PP ((lt.map (fun t => (t, (1 : Int32)))) ++ (lp.map (fun t => (t, (2 : Int32))) ++ ld.map (fun t => (t, (0 : Int32))))))).map (fun u => u.1)) = bt_batch lt lp ld := by
  have hany : ∀ t : bg_T, ((lt.map (fun t => (t, (1 : Int32)))) ++ (lp.map (fun t => (t, (2 : Int32))) ++ ld.map (fun t => (t, (0 : Int32))))).any (fun v => decide (v.2 = 0 ∧ v.1.1 = t.1)) = ld.any (fun d => decide (d.1 = t.1)) := fun t => by
    simp [List.any_append, List.any_map, Function.comp_def, bt_af]
  generalize hD : ((lt.map (fun t => (t, (1 : Int32)))) ++ (lp.map (fun t => (t, (2 : Int32))) ++ ld.map (fun t => (t, (0 : Int32))))) = D at hany
  have p1 : ∀ t : bg_T, bt_PP D (t, 1) = !(ld.any (fun d => decide (d.1 = t.1))) := fun t => by
    unfold bt_PP
    rw [hany]
    simp
  have p2 : ∀ t : bg_T, bt_PP D (t, 2) = true := fun t => by
    unfold bt_PP
    simp
  have p0 : ∀ t : bg_T, bt_PP D (t, 0) = false := fun t => by
    unfold bt_PP
    simp
  rw [← hD, List.filter_append, List.filter_append, hD, List.filter_map, List.filter_map, List.filter_map, List.map_append, List.map_append, List.map_map, List.map_map, List.map_map]
  unfold bt_batch
  have q1 : (bt_PP D ∘ fun t : bg_T => (t, (1 : Int32))) = fun t => !(ld.any (fun d => decide (d.1 = t.1))) := funext p1
  have q2 : (bt_PP D ∘ fun t : bg_T => (t, (2 : Int32))) = fun _ => true := funext p2
  have q0 : (bt_PP D ∘ fun t : bg_T => (t, (0 : Int32))) = fun _ => false := funext p0
  have f1 : lp.filter (fun _ => true) = lp := List.filter_eq_self.mpr (fun _ _ => rfl)
  have f0 : ld.filter (fun _ => false) = [] := List.filter_eq_nil_iff.mpr (fun _ _ => by decide)
  rw [q1, q2, q0, f1, f0]
  simp [Function.comp_def]
theorem bt_lay (lt lp ld : List bg_T) (L : Nat → rw_T) (p : Nat) (hp : p < lt.length + lp.length + ld.length) : ∃ (t : bg_T) (sd : Int32) (f : rw_T), so_map (lt.length + lp.length) ld.length (fun r f => so_key 0 0 (ld.getD r (0, 0, 0)) f) (so_map lt.length lp.length (fun r f => so_key 0 2 (lp.getD r (0, 0, 0)) f) (so_map 0 lt.length (fun r f => so_key 0 1 (lt.getD r (0, 0, 0)) f) L)) p = so_key 0 sd t f ∧ ((lt.map (fun t => (t, (1 : Int32)))) ++ (lp.map (fun t => (t, (2 : Int32))) ++ ld.map (fun t => (t, (0 : Int32)))))[p]? = some (t, sd) ∧ (sd = 0 ∨ sd = 1 ∨ sd = 2) := by
  have hg : ∀ (l : List bg_T) (i : Nat), i < l.length → l[i]? = some (l.getD i (0, 0, 0)) := fun l i h => by
    rw [List.getD_eq_getElem?_getD, List.getElem?_eq_getElem h]
    rfl
  by_cases h1 : p < lt.length
  · refine ⟨lt.getD p (0, 0, 0), 1, L p, ?_, ?_, Or.inr (Or.inl rfl)⟩
    · unfold so_map
      rw [if_neg (by omega), if_neg (by omega), if_pos (by omega), Nat.sub_zero]
    · rw [List.getElem?_append_left (by rw [List.length_map]; exact h1), List.getElem?_map, hg lt p h1]
      rfl
  · by_cases h2 : p < lt.length + lp.length
    · refine ⟨lp.getD (p - lt.length) (0, 0, 0), 2, L p, ?_, ?_, Or.inr (Or.inr rfl)⟩
      · unfold so_map
        rw [if_neg (by omega), if_pos (by omega), if_neg (by omega)]
      · rw [List.getElem?_append_right (by rw [List.length_map]; omega), List.length_map, List.getElem?_append_left (by rw [List.length_map]; omega), List.getElem?_map, hg lp _ (by omega)]
        rfl
    · refine ⟨ld.getD (p - (lt.length + lp.length)) (0, 0, 0), 0, L p, ?_, ?_, Or.inl rfl⟩
      · unfold so_map
        rw [if_pos (by omega), if_neg (by omega), if_neg (by omega)]
      · rw [List.getElem?_append_right (by rw [List.length_map]; omega), List.length_map, List.getElem?_append_right (by rw [List.length_map]; omega), List.length_map, List.getElem?_map, show p - lt.length - lp.length = p - (lt.length + lp.length) by omega, hg ld _ (by omega)]
        rfl
theorem bt_perm (lt lp ld : List bg_T) (L : Nat → rw_T) : ((nw_mk (ud_live (so_sort 0 (lt.length + lp.length + ld.length) (so_map (lt.length + lp.length) ld.length (fun r f => so_key 0 0 (ld.getD r (0, 0, 0)) f) (so_map lt.length lp.length (fun r f => so_key 0 2 (lp.getD r (0, 0, 0)) f) (so_map 0 lt.length (fun r f => so_key 0 1 (lt.getD r (0, 0, 0)) f) L))))) (lt.length + lp.length + ld.length)).map (fun p => rw_c3 (so_sort 0 (lt.length + lp.length + ld.length) (so_map (lt.length + lp.length) ld.length (fun r f => so_key 0 0 (ld.getD r (0, 0, 0)) f) (so_map lt.length lp.length (fun r f => so_key 0 2 (lp.getD r (0, 0, 0)) f) (so_map 0 lt.length (fun r f => so_key 0 1 (lt.getD r (0, 0, 0)) f) L))) p))).Perm (bt_batch lt lp ld) := by
  have hlay := bt_lay lt lp ld L
  generalize so_map (lt.length + lp.length) ld.length (fun r f => so_key 0 0 (ld.getD r (0, 0, 0)) f) (so_map lt.length lp.length (fun r f => so_key 0 2 (lp.getD r (0, 0, 0)) f) (so_map 0 lt.length (fun r f => so_key 0 1 (lt.getD r (0, 0, 0)) f) L)) = X at hlay
  rw [← bt_filter]
  have hX : (nw_ls 0 (lt.length + lp.length + ld.length) X).map (fun f => (rw_c3 f, f 4)) = (lt.map (fun t => (t, (1 : Int32)))) ++ (lp.map (fun t => (t, (2 : Int32))) ++ ld.map (fun t => (t, (0 : Int32)))) := by
    apply List.ext_getElem?
    intro i
    rw [List.getElem?_map]
    by_cases h : i < lt.length + lp.length + ld.length
    · obtain ⟨t, sd, f, e1, e2, -⟩ := hlay i h
      rw [nw_ls_get _ h, Nat.zero_add, e1, e2]
      rfl
    · rw [List.getElem?_eq_none (by rw [nw_ls_len]; omega), List.getElem?_eq_none (by simp; omega)]
      rfl
  have hM : ∀ p, p < lt.length + lp.length + ld.length → ∃ (t : bg_T) (sd : Int32) (f : rw_T), so_sort 0 (lt.length + lp.length + ld.length) X p = so_key 0 sd t f ∧ (sd = 0 ∨ sd = 1 ∨ sd = 2) := fun p hp => by
    obtain ⟨q, hq, e⟩ := so_sort_mem (X := X) hp
    obtain ⟨t, sd, f, e1, -, e3⟩ := hlay q hq
    exact ⟨t, sd, f, by rw [e, e1], e3⟩
  refine bt_pairs ?_ (fun p hp => ?_) (ud_ok (ky_sorted (fun p hp => ?_)) (fun p hp => ?_))
  · rw [← hX]
    exact (so_sort_sp 0 _ X).1.1.map _
  · obtain ⟨t, sd, f, e1, -⟩ := hM p hp
    rw [e1]
    rfl
  · obtain ⟨t, sd, f, e1, -⟩ := hlay p hp
    rw [e1]
    exact ⟨rfl, rfl, rfl⟩
  · obtain ⟨t, sd, f, e1, e3⟩ := hM p hp
    rw [e1]
    exact e3
set_option maxRecDepth 100000 in
theorem c_change (l : Launch) {n : Nat} {h : pm_H} {L : Nat → rw_T} {ts : List Int32} (H : so_L n h L ts) (hn : 111 < n) (O : h 94 = pm_O cOps [.ref 15]) {b b2 b3 : Nat} {lt lp ld : List bg_T} (B : bg_at n h b 12 lt) (B2 : bg_at n h b2 6 lp) (B3 : bg_at n h b3 6 ld) (hb : b + 3 < 15 ∨ 96 < b) (hb2 : b2 + 3 < 15 ∨ 96 < b2) (hb3 : b3 + 3 < 15 ∨ 96 < b3) : bM0 l yX2_change cX2_change 8 (some (.boolean)) 4 [.ref 94, .ref b, .ref b2, .ref b3] n h (fun r h' => ∃ l1, l1.Perm (bt_batch lt lp ld) ∧ r = some (.int (b2i (decide (l1.length ≤ 12)))) ∧ op_P n h b 12 ts h' (if l1.length ≤ 12 then l1 else lt) (tr_sort 0 (lt.length + lp.length + ld.length) ++ (tr_sc 0 (lt.length + lp.length + ld.length) ++ tr_sqs 0 (lt.length + lp.length + ld.length) (so_k (lt.length + lp.length + ld.length))))) := by
  refine pm_enter rfl (Nat.le_of_ble_eq_true rfl) (fun G K Z => ?_)
  have hl1 := B.2.1
  have hl2 := B2.2.1
  have hl3 := B3.2.1
  obtain ⟨ix0, R0, HA0, hi0, hL0⟩ := id H
  refine pm_aload_n K dX2_change_0 (q := 1) rfl rfl rfl ?_
  refine pm_get K inX2 rfl (k := 0) (by decide) wlX2_9 rfl (by omega) O rfl dX2_change_1 (q := 4) rfl ?_
  refine pm_aload_n K dX2_change_4 (q := 5) rfl rfl rfl ?_
  refine pm_ic0 K dX2_change_5 (q := 6) rfl ?_
  refine pm_ic0 K dX2_change_6 (q := 7) rfl ?_
  refine pm_ic1 K dX2_change_7 (q := 8) rfl ?_
  refine pm_callV0 K gw_ok wcX2_67 (c_layByKey l H B (by omega) (p0 := 0) (by omega) 0 1) rfl (by omega) HA0.2.1 rfl rfl (Nat.le_of_ble_eq_true rfl) (by decide) dX2_change_8 (q := 11) rfl (fun r1 h1 hp => ?_)
  obtain ⟨rfl, HL1, F1⟩ := hp
  rw [Nat.zero_add]
  obtain ⟨ix1, R1, HA1, hi1, hL1⟩ := id HL1
  have B21 : bg_at n h1 b2 6 lp := B2.fr (Nat.le_refl _) (fun q a c => F1 q (by omega))
  refine pm_istore K dX2_change_11 (q := 13) rfl (by decide) rfl ?_
  refine pm_aload_n K dX2_change_13 (q := 14) rfl rfl rfl ?_
  refine pm_get K inX2 rfl (k := 0) (by decide) wlX2_9 rfl (by omega) ((F1 94 (by omega)).trans O) rfl dX2_change_14 (q := 17) rfl ?_
  refine pm_aload_n K dX2_change_17 (q := 18) rfl rfl rfl ?_
  refine pm_iload K dX2_change_18 (q := 20) rfl rfl ?_
  refine pm_ic0 K dX2_change_20 (q := 21) rfl ?_
  refine pm_ic2 K dX2_change_21 (q := 22) rfl ?_
  refine pm_callV0 K gw_ok wcX2_67 (c_layByKey l HL1 B21 (by omega) (p0 := lt.length) (by omega) 0 2) rfl (by omega) HA1.2.1 rfl rfl (Nat.le_of_ble_eq_true rfl) (by decide) dX2_change_22 (q := 25) rfl (fun r2 h2 hp => ?_)
  obtain ⟨rfl, HL2, F2⟩ := hp
  have F12 := F1.tr F2
  obtain ⟨ix2, R2, HA2, hi2, hL2⟩ := id HL2
  have B32 : bg_at n h2 b3 6 ld := B3.fr (Nat.le_refl _) (fun q a c => F12 q (by omega))
  refine pm_istore K dX2_change_25 (q := 27) rfl (by decide) rfl ?_
  refine pm_aload_n K dX2_change_27 (q := 28) rfl rfl rfl ?_
  refine pm_get K inX2 rfl (k := 0) (by decide) wlX2_9 rfl (by omega) ((F12 94 (by omega)).trans O) rfl dX2_change_28 (q := 31) rfl ?_
  refine pm_aload_n K dX2_change_31 (q := 32) rfl rfl rfl ?_
  refine pm_iload K dX2_change_32 (q := 34) rfl rfl ?_
  refine pm_ic0 K dX2_change_34 (q := 35) rfl ?_
  refine pm_ic0 K dX2_change_35 (q := 36) rfl ?_
  refine pm_callV0 K gw_ok wcX2_67 (c_layByKey l HL2 B32 (by omega) (p0 := lt.length + lp.length) (by omega) 0 0) rfl (by omega) HA2.2.1 rfl rfl (Nat.le_of_ble_eq_true rfl) (by decide) dX2_change_36 (q := 39) rfl (fun r3 h3 hp => ?_)
  obtain ⟨rfl, HL3, F3⟩ := hp
  have F13 := F12.tr F3
  obtain ⟨ix3, R3, HA3, hi3, hL3⟩ := id HL3
  refine pm_istore K dX2_change_39 (q := 41) rfl (by decide) rfl ?_
  refine pm_aload_n K dX2_change_41 (q := 42) rfl rfl rfl ?_
  refine pm_get K inX2 rfl (k := 0) (by decide) wlX2_9 rfl (by omega) ((F13 94 (by omega)).trans O) rfl dX2_change_42 (q := 45) rfl ?_
  refine pm_ic0 K dX2_change_45 (q := 46) rfl ?_
  refine pm_iload K dX2_change_46 (q := 48) rfl rfl ?_
  refine pm_callV0 K gw_ok wcX2_21 (c_sort l HL3 (b0 := 0) (m0 := lt.length + lp.length + ld.length) (by omega)) rfl (by omega) HA3.2.1 rfl rfl (Nat.le_of_ble_eq_true rfl) (by decide) dX2_change_48 (q := 51) rfl (fun r4 h4 hp => ?_)
  obtain ⟨rfl, HL4, F4⟩ := hp
  have F14 := F13.tr F4
  have hpm := bt_perm lt lp ld L
  generalize so_sort 0 (lt.length + lp.length + ld.length) _ = M at HL4 hpm
  refine pm_aload_n K dX2_change_51 (q := 52) rfl rfl rfl ?_
  refine pm_iload K dX2_change_52 (q := 54) rfl rfl ?_
  refine pm_callV0 K gw_ok wcX2_83 (c_undropped l HL4 hn ((F14 94 (by omega)).trans O) (m := lt.length + lp.length + ld.length) (by omega)) rfl (by omega) ((F14 94 (by omega)).trans O) rfl rfl (Nat.le_of_ble_eq_true rfl) (by decide) dX2_change_54 (q := 57) rfl (fun r5 h5 hp => ?_)
  obtain ⟨rfl, HL5, F5⟩ := hp
  have F15 := F14.tr F5
  have hml := nw_mk_le (ud_live M) (lt.length + lp.length + ld.length)
  obtain ⟨ix5, R5, HA5, hi5, hL5⟩ := id HL5
  refine pm_istore K dX2_change_57 (q := 59) rfl (by decide) rfl ?_
  refine pm_aload_n K dX2_change_59 (q := 60) rfl rfl rfl ?_
  refine pm_get K inX2 rfl (k := 0) (by decide) wlX2_9 rfl (by omega) ((F15 94 (by omega)).trans O) rfl dX2_change_60 (q := 63) rfl ?_
  refine pm_ic0 K dX2_change_63 (q := 64) rfl ?_
  refine pm_iload K dX2_change_64 (q := 66) rfl rfl ?_
  refine pm_callV0 K gw_ok wcX2_53 (c_squeeze l HL5 (b0 := 0) (m0 := lt.length + lp.length + ld.length) (by omega)) rfl (by omega) HA5.2.1 rfl rfl (Nat.le_of_ble_eq_true rfl) (by decide) dX2_change_66 (q := 69) rfl (fun r6 h6 hp => ?_)
  obtain ⟨rfl, HL6, F6⟩ := hp
  have F16 := F15.tr F6
  simp only [tk_app, List.append_assoc] at HL6
  have B6 : bg_at n h6 b 12 lt := B.fr (Nat.le_refl _) (fun q a c => F16 q (by omega))
  have hle : ((nw_mk (ud_live M) (lt.length + lp.length + ld.length)).map (fun p => rw_c3 (M p))).length = (nw_mk (ud_live M) (lt.length + lp.length + ld.length)).length := List.length_map _
  refine pm_iload K dX2_change_69 (q := 71) rfl rfl ?_
  refine pm_bipush (v := nI 12) K dX2_change_71 (q := 73) rfl (by decide) ?_
  refine pm_icmp_le K dX2_change_73 (tgt := 78) (q := 76) rfl rfl (fun hx => ?_) (fun hx => ?_)
  · have hgt : (nw_mk (ud_live M) (lt.length + lp.length + ld.length)).length ≤ 12 := (nI_leI (by omega) (by decide)).mp hx
    obtain ⟨ix6, R6, HA6, hi6, hL6⟩ := id HL6
    refine pm_aload_n K dX2_change_78 (q := 79) rfl rfl rfl ?_
    refine pm_get K inX2 rfl (k := 0) (by decide) wlX2_9 rfl (by omega) ((F16 94 (by omega)).trans O) rfl dX2_change_79 (q := 82) rfl ?_
    refine pm_aload_n K dX2_change_82 (q := 83) rfl rfl rfl ?_
    refine pm_iload K dX2_change_83 (q := 85) rfl rfl ?_
    refine pm_callV0 K gw_ok wcX2_25 (c_takeAway l HL6 B6 (by omega) (m := (nw_mk (ud_live M) (lt.length + lp.length + ld.length)).length) (by omega)) rfl (by omega) HA6.2.1 rfl rfl (Nat.le_of_ble_eq_true rfl) (by decide) dX2_change_85 (q := 88) rfl (fun r7 h7 hp => ?_)
    obtain ⟨rfl, B7, F7⟩ := hp
    rw [op_marked (by omega), List.take_of_length_le (by rw [hle]; exact hgt)] at B7
    refine pm_ic1 K dX2_change_88 (q := 89) rfl ?_
    exact pm_iret Z dX2_change_89 rfl rfl (Nat.le_of_ble_eq_true rfl) (Nat.le_of_ble_eq_true rfl) ⟨rfl, ⟨_, hpm, by rw [hle, decide_eq_true hgt]; rfl, ⟨_, HL6.mv (fun q hq => F7 q (by omega))⟩, by rw [hle, if_pos hgt]; exact B7, fun q a c => by rw [F7 q c, F16 q a]⟩⟩
  · have hgt : ¬ (nw_mk (ud_live M) (lt.length + lp.length + ld.length)).length ≤ 12 := fun z => hx (nI_le z (by decide))
    refine pm_ic0 K dX2_change_76 (q := 77) rfl ?_
    exact pm_iret Z dX2_change_77 rfl rfl (Nat.le_of_ble_eq_true rfl) (Nat.le_of_ble_eq_true rfl) ⟨rfl, ⟨_, hpm, by rw [hle, decide_eq_false hgt]; rfl, ⟨_, HL6⟩, by rw [hle, if_neg hgt]; exact B6, fun q a c => F16 q a⟩⟩
