/-! The operators. -/
def op_m (v op x : Int32) : Bool := if op = 0 then decide (v < x) else if op = 1 then decide (v = x) else decide (x < v)
def op_fr (b : Nat) (h h' : pm_H) : Prop := ∀ q, (q < 15 ∨ 93 < q) → (q < b ∨ b + 3 < q) → h' q = h q
/-- what an operator leaves: the store with its trace, the bag with its rows, all else as it was -/
def op_P (n : Nat) (h : pm_H) (b len : Nat) (ts : List Int32) (h' : pm_H) (l' : List bg_T) (tr : List Int32) : Prop := (∃ L', so_L n h' L' (tk (ts ++ tr))) ∧ bg_at n h' b len l' ∧ op_fr b h h'
def tr_sc (b : Nat) : Nat → List Int32
  | 0 => []
  | m + 1 => tr_sc b m ++ [so_rd (b + m), so_wr (b + m)]
theorem tr_sc_s (b m : Nat) : tr_sc b (m + 1) = tr_sc b m ++ [so_rd (b + m), so_wr (b + m)] := rfl
def tr_bk (n : Nat) : Nat → List Int32
  | 0 => []
  | m + 1 => tr_bk n m ++ [so_rd (n - 1 - m), so_wr (n - 1 - m)]
theorem so_k_le (n : Nat) : n ≤ 2 ^ so_k n := by
  unfold so_k
  by_cases h : n ≤ 1
  · rw [if_pos h]; exact h
  · rw [if_neg h]
    exact (so_t_sp (by omega)).2
def rw_dead (f : rw_T) : Prop := f 10 = 0 ∧ f 11 = 0 ∧ f 12 = 0
theorem rw_dead_wb {f : rw_T} (h : rw_dead f) : rw_wb f = 0 := by
  unfold rw_wb
  rw [h.2.1]
  rfl
theorem rw_dead_disc (f : rw_T) : rw_dead (rw_disc f) := ⟨rfl, rfl, rfl⟩
theorem rw_keep_wb {p r : Nat} (h : r ≤ p) (hp : p < 76) (f : rw_T) : rw_wb (rw_keep (nI p) (nI r) f) = p - r := by
  show (nI p - nI r).toBitVec.toNat = p - r
  rw [pk_sub h, pk_tn (by omega)]
/-- what squeezing brings to the front -/
theorem so_squeezed {N : Nat → rw_T} {live : Nat → Bool} {m : Nat} (hk : ∀ p, p < m → live p = true → rw_wb (N p) = p - (nw_mk live p).length) (hd : ∀ p, p < m → live p = false → rw_dead (N p)) : nw_ls 0 (nw_mk live m).length (nw_sqs rw_wb 0 m (so_k m) N) = (nw_mk live m).map N := by
  have h := (nw_sq_rows (w := rw_wb) (dead := rw_dead) (b := 0) (n := m) (k := so_k m) (L := N) (live := live) (so_k_le m) (fun x hx => rw_dead_wb hx) (fun p hp hl => by rw [Nat.zero_add]; exact hk p hp hl) (fun p hp hl => by rw [Nat.zero_add]; exact hd p hp hl)).1
  apply List.ext_getElem?
  intro j
  rw [List.getElem?_map]
  by_cases hj : j < (nw_mk live m).length
  · rw [nw_ls_get _ hj, h j _ (List.getElem?_eq_getElem hj), List.getElem?_eq_getElem hj, Nat.zero_add]
    rfl
  · rw [List.getElem?_eq_none (by rw [nw_ls_len]; omega), List.getElem?_eq_none (by omega)]
    rfl
theorem mk_filter {α : Type} (P : α → Bool) (g : Nat → α) (n : Nat) : (nw_mk (fun p => P (g p)) n).map g = ((List.range n).map g).filter P := by
  unfold nw_mk
  rw [List.filter_map]
  rfl
theorem mk_getD (l : List bg_T) (d : bg_T) : (List.range l.length).map (fun p => l.getD p d) = l := by
  apply List.ext_getElem?
  intro i
  rw [List.getElem?_map]
  by_cases h : i < l.length
  · rw [List.getElem?_range h, Option.map_some, List.getD_eq_getElem?_getD, List.getElem?_eq_getElem h]
    rfl
  · rw [List.getElem?_eq_none (by rw [List.length_range]; omega), List.getElem?_eq_none (by omega)]
    rfl
set_option maxRecDepth 100000 in
theorem c_matches (l : Launch) {n : Nat} {h : pm_H} (v op x : Int32) : bM0 l yX2_matches cX2_matches 3 (some (.boolean)) 0 [.int v, .int op, .int x] n h (fun r h' => r = some (.int (b2i (op_m v op x))) ∧ h' = h) := by
  refine pm_enter rfl (Nat.le_of_ble_eq_true rfl) (fun G K Z => ?_)
  refine pm_iload_n K dX2_matches_0 (q := 1) rfl rfl rfl ?_
  refine pm_if_ne K dX2_matches_1 (tgt := 17) (q := 4) rfl rfl (fun h0 => ?_) (fun h0 => ?_)
  · refine pm_iload_n K dX2_matches_17 (q := 18) rfl rfl rfl ?_
    refine pm_ic1 K dX2_matches_18 (q := 19) rfl ?_
    refine pm_icmp_ne K dX2_matches_19 (tgt := 35) (q := 22) rfl rfl (fun h2 => ?_) (fun h2 => ?_)
    · refine pm_iload_n K dX2_matches_35 (q := 36) rfl rfl rfl ?_
      refine pm_iload_n K dX2_matches_36 (q := 37) rfl rfl rfl ?_
      refine pm_icmp_le K dX2_matches_37 (tgt := 44) (q := 40) rfl rfl (fun h3 => ?_) (fun h3 => ?_)
      · refine pm_ic0 K dX2_matches_44 (q := 45) rfl ?_
        exact pm_iret Z dX2_matches_45 rfl rfl (Nat.le_of_ble_eq_true rfl) (Nat.le_of_ble_eq_true rfl) ⟨rfl, ⟨by rw [op_m, if_neg h0, if_neg h2, decide_eq_false (Int32.not_lt.mpr h3)]; rfl, rfl⟩⟩
      · refine pm_ic1 K dX2_matches_40 (q := 41) rfl ?_
        refine pm_goto K dX2_matches_41 (q := 45) rfl ?_
        exact pm_iret Z dX2_matches_45 rfl rfl (Nat.le_of_ble_eq_true rfl) (Nat.le_of_ble_eq_true rfl) ⟨rfl, ⟨by rw [op_m, if_neg h0, if_neg h2, decide_eq_true (Int32.not_le.mp h3)]; rfl, rfl⟩⟩
    · refine pm_iload_n K dX2_matches_22 (q := 23) rfl rfl rfl ?_
      refine pm_iload_n K dX2_matches_23 (q := 24) rfl rfl rfl ?_
      refine pm_icmp_ne K dX2_matches_24 (tgt := 31) (q := 27) rfl rfl (fun h4 => ?_) (fun h4 => ?_)
      · refine pm_ic0 K dX2_matches_31 (q := 32) rfl ?_
        refine pm_goto K dX2_matches_32 (q := 45) rfl ?_
        exact pm_iret Z dX2_matches_45 rfl rfl (Nat.le_of_ble_eq_true rfl) (Nat.le_of_ble_eq_true rfl) ⟨rfl, ⟨by rw [op_m, if_neg h0, if_pos h2, decide_eq_false h4]; rfl, rfl⟩⟩
      · refine pm_ic1 K dX2_matches_27 (q := 28) rfl ?_
        refine pm_goto K dX2_matches_28 (q := 45) rfl ?_
        exact pm_iret Z dX2_matches_45 rfl rfl (Nat.le_of_ble_eq_true rfl) (Nat.le_of_ble_eq_true rfl) ⟨rfl, ⟨by rw [op_m, if_neg h0, if_pos h2, decide_eq_true h4]; rfl, rfl⟩⟩
  · refine pm_iload_n K dX2_matches_4 (q := 5) rfl rfl rfl ?_
    refine pm_iload_n K dX2_matches_5 (q := 6) rfl rfl rfl ?_
    refine pm_icmp_ge K dX2_matches_6 (tgt := 13) (q := 9) rfl rfl (fun h1 => ?_) (fun h1 => ?_)
    · refine pm_ic0 K dX2_matches_13 (q := 14) rfl ?_
      refine pm_goto K dX2_matches_14 (q := 45) rfl ?_
      exact pm_iret Z dX2_matches_45 rfl rfl (Nat.le_of_ble_eq_true rfl) (Nat.le_of_ble_eq_true rfl) ⟨rfl, ⟨by rw [op_m, if_pos h0, decide_eq_false (Int32.not_lt.mpr h1)]; rfl, rfl⟩⟩
    · refine pm_ic1 K dX2_matches_9 (q := 10) rfl ?_
      refine pm_goto K dX2_matches_10 (q := 45) rfl ?_
      exact pm_iret Z dX2_matches_45 rfl rfl (Nat.le_of_ble_eq_true rfl) (Nat.le_of_ble_eq_true rfl) ⟨rfl, ⟨by rw [op_m, if_pos h0, decide_eq_true (Int32.not_le.mp h1)]; rfl, rfl⟩⟩
set_option maxRecDepth 100000 in
theorem c_order (l : Launch) {n : Nat} {h : pm_H} {L : Nat → rw_T} {ts : List Int32} (H : so_L n h L ts) (hn : 111 < n) (O : h 94 = pm_O cOps [.ref 15]) {b len : Nat} {l0 : List bg_T} (B : bg_at n h b len l0) (hb : b + 3 < 15 ∨ 96 < b) : bM0 l yX2_order cX2_order 3 none 4 [.ref 94, .ref b] n h (fun r h' => r = none ∧ ∃ l1, l1.Perm l0 ∧ l1.Pairwise bg_le ∧ op_P n h b len ts h' l1 (tr_sort 0 l0.length)) := by
  refine pm_enter rfl (Nat.le_of_ble_eq_true rfl) (fun G K Z => ?_)
  have hlen : l0.length ≤ 24 := Nat.le_trans B.2.1 B.2.2.1
  obtain ⟨ix0, R0, HA0, hi0, hL0⟩ := id H
  refine pm_aload_n K dX2_order_0 (q := 1) rfl rfl rfl ?_
  refine pm_get K inX2 rfl (k := 0) (by decide) wlX2_9 rfl (by omega) O rfl dX2_order_1 (q := 4) rfl ?_
  refine pm_aload_n K dX2_order_4 (q := 5) rfl rfl rfl ?_
  refine pm_callV0 K gw_ok wcX2_15 (c_lay l H B (by omega)) rfl (by omega) HA0.2.1 rfl rfl (Nat.le_of_ble_eq_true rfl) (by decide) dX2_order_5 (q := 8) rfl (fun r1 h1 hp => ?_)
  obtain ⟨rfl, HL1, F1⟩ := hp
  obtain ⟨ix1, R1, HA1, hi1, hL1⟩ := id HL1
  refine pm_istore_n K dX2_order_8 (q := 9) rfl rfl (by decide) rfl ?_
  refine pm_aload_n K dX2_order_9 (q := 10) rfl rfl rfl ?_
  refine pm_get K inX2 rfl (k := 0) (by decide) wlX2_9 rfl (by omega) ((F1 94 (by omega)).trans O) rfl dX2_order_10 (q := 13) rfl ?_
  refine pm_ic0 K dX2_order_13 (q := 14) rfl ?_
  refine pm_iload_n K dX2_order_14 (q := 15) rfl rfl rfl ?_
  refine pm_callV0 K gw_ok wcX2_21 (c_sort l HL1 (b0 := 0) (m0 := l0.length) (by omega)) rfl (by omega) HA1.2.1 rfl rfl (Nat.le_of_ble_eq_true rfl) (by decide) dX2_order_15 (q := 18) rfl (fun r2 h2 hp => ?_)
  obtain ⟨rfl, HL2, F2⟩ := hp
  obtain ⟨ix2, R2, HA2, hi2, hL2⟩ := id HL2
  have F12 := F1.tr F2
  have B2 : bg_at n h2 b len l0 := B.fr (Nat.le_refl _) (fun q a c => F12 q (by omega))
  refine pm_aload_n K dX2_order_18 (q := 19) rfl rfl rfl ?_
  refine pm_get K inX2 rfl (k := 0) (by decide) wlX2_9 rfl (by omega) ((F12 94 (by omega)).trans O) rfl dX2_order_19 (q := 22) rfl ?_
  refine pm_aload_n K dX2_order_22 (q := 23) rfl rfl rfl ?_
  refine pm_iload_n K dX2_order_23 (q := 24) rfl rfl rfl ?_
  refine pm_callV0 K gw_ok wcX2_25 (c_takeAway l HL2 B2 (by omega) (m := l0.length) (by omega)) rfl (by omega) HA2.2.1 rfl rfl (Nat.le_of_ble_eq_true rfl) (by decide) dX2_order_24 (q := 27) rfl (fun r3 h3 hp => ?_)
  obtain ⟨rfl, B3, F3⟩ := hp
  obtain ⟨hp1, hp2⟩ := so_order l0 L
  have e1 : (((nw_ls 0 l0.length (so_sort 0 l0.length (so_lays l0 L))).map rw_c3).take len) = (nw_ls 0 l0.length (so_sort 0 l0.length (so_lays l0 L))).map rw_c3 := List.take_of_length_le (by rw [hp1.length_eq]; exact B.2.1)
  exact pm_vret Z dX2_order_27 rfl (Nat.le_of_ble_eq_true rfl) (Nat.le_of_ble_eq_true rfl) ⟨rfl, ⟨rfl, _, hp1, hp2, ⟨_, HL2.mv (fun q hq => F3 q (by omega))⟩, by rw [← e1]; exact B3, fun q a c => by rw [F3 q c, F12 q a]⟩⟩
