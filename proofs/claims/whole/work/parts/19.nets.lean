/-! The store: its networks. -/
def tr_sd (b n d : Nat) : Nat → List Int32
  | 0 => []
  | m + 1 => tr_sd b n d m ++ [so_rd (b + (n - 1 - m - d)), so_rd (b + (n - 1 - m)), so_wr (b + (n - 1 - m - d)), so_wr (b + (n - 1 - m))]
theorem tr_sd_s (b n d m : Nat) : tr_sd b n d (m + 1) = tr_sd b n d m ++ [so_rd (b + (n - 1 - m - d)), so_rd (b + (n - 1 - m)), so_wr (b + (n - 1 - m - d)), so_wr (b + (n - 1 - m))] := rfl
def tr_sds (b n : Nat) : Nat → List Int32
  | 0 => []
  | k + 1 => tr_sd b n (2 ^ k) (n - 2 ^ k) ++ tr_sds b n k
theorem nw_sd_no {α : Type} {w : α → Nat} {b n d m : Nat} {L : Nat → α} (h : w (nw_sd w b n d m L (b + (n - 1 - m - d))) &&& d = 0) : nw_sd w b n d (m + 1) L = nw_sd w b n d m L := by
  rw [nw_sd, if_pos h]
theorem nw_sd_yes {α : Type} {w : α → Nat} {b n d m : Nat} {L : Nat → α} (h : ¬ w (nw_sd w b n d m L (b + (n - 1 - m - d))) &&& d = 0) : nw_sd w b n d (m + 1) L = nw_sw (b + (n - 1 - m - d)) (b + (n - 1 - m)) (nw_sd w b n d m L) := by
  rw [nw_sd, if_neg h]
theorem so_t_sp {n : Nat} (h : 2 ≤ n) : 2 ^ so_t n < n ∧ n ≤ 2 ^ (so_t n + 1) := by
  have h0 : n - 1 ≠ 0 := by omega
  have := (Nat.log2_eq_iff h0 (k := so_t n)).mp rfl
  omega
theorem so_t_lt {n : Nat} (h : 2 ≤ n) (h2 : n ≤ 76) : so_t n < 7 := by
  have h1 := (so_t_sp h).1
  refine Nat.lt_of_not_le (fun z => ?_)
  have : 2 ^ 7 ≤ 2 ^ so_t n := Nat.pow_le_pow_right (by omega) z
  omega
theorem so_t_le {n : Nat} (h : 1 ≤ n) : 2 ^ so_t n ≤ n := by
  by_cases h2 : 2 ≤ n
  · exact Nat.le_of_lt (so_t_sp h2).1
  · have : n = 1 := by omega
    subst this
    exact Nat.le_refl _
def so_pw : Nat → Int32
  | 0 => 0
  | k + 1 => nI (2 ^ k)
theorem so_pw_s (k : Nat) : so_pw (k + 1) = nI (2 ^ k) := rfl
theorem so_half {k : Nat} (h : 2 ^ k < 2 ^ 31) : nI (2 ^ k) / 2 = so_pw k := by
  show nI (2 ^ k) / nI 2 = so_pw k
  rw [pk_div h (by decide) (by decide)]
  cases k with
  | zero => rfl
  | succ k =>
    rw [so_pw_s, Nat.pow_succ]
    congr 1
    omega
theorem so_half2 {k j : Nat} (h : 2 ^ (k + (j + 1)) < 2 ^ 31) : nI (2 ^ (k + (j + 1))) / 2 = nI (2 ^ (k + j)) := so_half h
def tr_in (b n u : Nat) : Nat → List Int32
  | 0 => []
  | k + 1 => tr_ps b (2 ^ u) (2 ^ u) (2 ^ (u + k + 1) - 2 ^ u) (n - (2 ^ (u + k + 1) - 2 ^ u)) ++ tr_in b n u k
def tr_out (b n t : Nat) : Nat → List Int32
  | 0 => []
  | k + 1 => tr_ps b (2 ^ k) 0 (2 ^ k) (n - 2 ^ k) ++ (tr_in b n k (t - k) ++ tr_out b n t k)
def so_sort (b m : Nat) (L : Nat → rw_T) : Nat → rw_T := if m < 2 then L else nw_out rw_lt b m (so_t m) (so_t m + 1) L
def tr_sort (b m : Nat) : List Int32 := if m < 2 then [] else tr_out b m (so_t m) (so_t m + 1)
def rw_wb (f : rw_T) : Nat := (f 11).toBitVec.toNat
def rw_wf (f : rw_T) : Nat := (f 12).toBitVec.toNat
theorem so_nI (x : Int32) : nI x.toBitVec.toNat = x := by
  apply Int32.toBitVec_inj.1
  show BitVec.ofNat 32 x.toBitVec.toNat = x.toBitVec
  apply BitVec.eq_of_toNat_eq
  rw [BitVec.toNat_ofNat]
  exact Nat.mod_eq_of_lt x.toBitVec.isLt
theorem so_and0 {x : Int32} {k : Nat} : x &&& nI (2 ^ k) = 0 ↔ x.toBitVec.toNat &&& 2 ^ k = 0 := by
  have e : x &&& nI (2 ^ k) = nI (x.toBitVec.toNat &&& 2 ^ k) := by
    rw [← nx_and, so_nI]
  rw [e]
  have hlt : x.toBitVec.toNat &&& 2 ^ k < 2 ^ 32 := Nat.lt_of_le_of_lt Nat.and_le_left x.toBitVec.isLt
  constructor
  · intro h
    have := pk_tn hlt
    rw [h] at this
    exact this.symm
  · intro h
    rw [h]
    rfl
def so_k (n : Nat) : Nat := if n ≤ 1 then 0 else so_t n + 1
theorem so_k_eq {n k : Nat} (h : ∀ j, j < k → 2 ^ j < n) (h2 : n ≤ 2 ^ k) : so_k n = k := by
  unfold so_k
  cases k with
  | zero => rw [if_pos (by simpa using h2)]
  | succ k =>
    have h1 := h k (by omega)
    have : 0 < 2 ^ k := Nat.two_pow_pos k
    rw [if_neg (by omega), so_t_eq (Or.inr h1) h2]
def tr_sq (b d : Nat) : Nat → List Int32
  | 0 => []
  | m + 1 => tr_sq b d m ++ [so_rd (b + m), so_rd (b + (m + d)), so_wr (b + m), so_wr (b + (m + d))]
theorem tr_sq_s (b d m : Nat) : tr_sq b d (m + 1) = tr_sq b d m ++ [so_rd (b + m), so_rd (b + (m + d)), so_wr (b + m), so_wr (b + (m + d))] := rfl
def tr_sqs (b n : Nat) : Nat → List Int32
  | 0 => []
  | k + 1 => tr_sqs b n k ++ tr_sq b (2 ^ k) (n - 2 ^ k)
theorem nw_sq_no {α : Type} {w : α → Nat} {b d m : Nat} {L : Nat → α} (h : w (nw_sq w b d m L (b + (m + d))) &&& d = 0) : nw_sq w b d (m + 1) L = nw_sq w b d m L := by
  rw [nw_sq, if_pos h]
theorem nw_sq_yes {α : Type} {w : α → Nat} {b d m : Nat} {L : Nat → α} (h : ¬ w (nw_sq w b d m L (b + (m + d))) &&& d = 0) : nw_sq w b d (m + 1) L = nw_sw (b + m) (b + (m + d)) (nw_sq w b d m L) := by
  rw [nw_sq, if_neg h]
set_option maxRecDepth 100000 in
theorem c_sort (l : Launch) {n : Nat} {h : pm_H} {L : Nat → rw_T} {ts : List Int32} (H : so_L n h L ts) {b0 m0 : Nat} (hb : b0 + m0 ≤ 76) : bM0 l yX5_sort cX5_sort 6 none 3 [.ref 15, .int (nI b0), .int (nI m0)] n h (fun r h' => r = none ∧ so_L n h' (so_sort b0 m0 L) (tk (ts ++ tr_sort b0 m0)) ∧ so_fr h h') := by
  refine pm_enter rfl (Nat.le_of_ble_eq_true rfl) (fun G K Z => ?_)
  refine pm_iload_n K dX5_sort_0 (q := 1) rfl rfl rfl ?_
  refine pm_ic2 K dX5_sort_1 (q := 2) rfl ?_
  refine pm_icmp_ge K dX5_sort_2 (tgt := 6) (q := 5) rfl rfl (fun hx => ?_) (fun hx => ?_)
  · have hge : 2 ≤ m0 := (nI_leI (by decide) (by omega)).mp hx
    obtain ⟨ht1, ht2⟩ := so_t_sp hge
    have ht6 : so_t m0 < 7 := so_t_lt hge (by omega)
    obtain ⟨LF, hLF⟩ : ∃ z, z = so_sort b0 m0 L := ⟨_, rfl⟩
    obtain ⟨tsF, htF⟩ : ∃ z, z = tk (ts ++ tr_sort b0 m0) := ⟨_, rfl⟩
    rw [← hLF, ← htF] at Z
    rw [so_sort, if_neg (by omega)] at hLF
    rw [tr_sort, if_neg (by omega)] at htF
    refine pm_iload_n K dX5_sort_6 (q := 7) rfl rfl rfl ?_
    refine pm_callS0 K gw_ok wcX5_95 (c_widest l (m0 := m0) (by omega)) rfl rfl (Nat.le_of_ble_eq_true rfl) (by decide) dX5_sort_7 (q := 10) rfl (fun r2 h2 hq2 => ?_)
    obtain ⟨rfl, hh⟩ := hq2
    rw [hh]
    refine pm_istore_n K dX5_sort_10 (q := 11) rfl rfl (by decide) rfl ?_
    refine pm_iload_n K dX5_sort_11 (q := 12) rfl rfl rfl ?_
    refine pm_istore K dX5_sort_12 (q := 14) rfl (by decide) rfl ?_
    generalize so_t m0 = t at ht1 ht2 ht6 hLF htF ⊢
    have outer : ∀ (k : Nat) (L1 : Nat → rw_T) (h2 : pm_H) (ts1 : List Int32) (x5 : Option Value), k ≤ t + 1 → so_L n h2 L1 ts1 → so_fr h h2 → nw_out rw_lt b0 m0 t k L1 = LF → tk (ts1 ++ tr_out b0 m0 t k) = tsF → G 0 0 14 [some (.ref 15), some (.int (nI b0)), some (.int (nI m0)), some (.int (nI (2 ^ t))), some (.int (so_pw k)), x5] [] n h2 := by
      intro k
      induction k with
      | zero =>
        intro L1 h2 ts1 x5 hk HL hF e1 e2
        refine pm_iload K dX5_sort_14 (q := 16) rfl rfl ?_
        refine pm_if_le K dX5_sort_16 (tgt := 73) (q := 19) rfl rfl (fun _ => ?_) (fun z => absurd z (fun z => z (by decide)))
        have e1 : L1 = LF := e1
        subst e1
        rw [tr_out, List.append_nil] at e2
        subst e2
        exact pm_vret Z dX5_sort_73 rfl (Nat.le_of_ble_eq_true rfl) (Nat.le_of_ble_eq_true rfl) ⟨rfl, ⟨rfl, HL.tke, hF⟩⟩
      | succ k ih =>
        intro L1 h2 ts1 x5 hk HL hF e1 e2
        have hpk : 2 ^ k ≤ 2 ^ t := Nat.pow_le_pow_right (by omega) (by omega)
        have hp0 : 0 < 2 ^ k := Nat.two_pow_pos k
        have ht76 : 2 ^ t < 76 := by omega
        rw [so_pw_s]
        refine pm_iload K dX5_sort_14 (q := 16) rfl rfl ?_
        refine pm_if_le K dX5_sort_16 (tgt := 73) (q := 19) rfl rfl (fun z => absurd z (nI_nle hp0 (by omega))) (fun _ => ?_)
        obtain ⟨ix, R, HA, hi, hL⟩ := id HL
        refine pm_aload_n K dX5_sort_19 (q := 20) rfl rfl rfl ?_
        refine pm_iload_n K dX5_sort_20 (q := 21) rfl rfl rfl ?_
        refine pm_iload_n K dX5_sort_21 (q := 22) rfl rfl rfl ?_
        refine pm_iload K dX5_sort_22 (q := 24) rfl rfl ?_
        refine pm_ic0 K dX5_sort_24 (q := 25) rfl ?_
        refine pm_iload K dX5_sort_25 (q := 27) rfl rfl ?_
        refine pm_callV0 K gw_ok wcX5_98 (c_sortPass l HL (b0 := b0) (m0 := m0) (p := 2 ^ k) (r0 := 0) (d := 2 ^ k) hb (by omega) hp0 (by omega) (by omega)) rfl (by have := HA.1; omega) HA.2.1 rfl rfl (Nat.le_of_ble_eq_true rfl) (by decide) dX5_sort_27 (q := 30) rfl (fun r1 h1 hp => ?_)
        obtain ⟨rfl, HL1, F1⟩ := hp
        refine pm_iload_n K dX5_sort_30 (q := 31) rfl rfl rfl ?_
        refine pm_istore K dX5_sort_31 (q := 33) rfl (by decide) rfl ?_
        have inner : ∀ (j : Nat) (L2 : Nat → rw_T) (h3 : pm_H) (ts2 : List Int32), k + j ≤ t → so_L n h3 L2 ts2 → so_fr h h3 → nw_out rw_lt b0 m0 t k (nw_in rw_lt b0 m0 k j L2) = LF → tk (ts2 ++ (tr_in b0 m0 k j ++ tr_out b0 m0 t k)) = tsF → G 0 0 33 [some (.ref 15), some (.int (nI b0)), some (.int (nI m0)), some (.int (nI (2 ^ t))), some (.int (nI (2 ^ k))), some (.int (nI (2 ^ (k + j))))] [] n h3 := by
          intro j
          induction j with
          | zero =>
            intro L2 h3 ts2 hj HL2 hF2 f1 f2
            refine pm_iload K dX5_sort_33 (q := 35) rfl rfl ?_
            refine pm_iload K dX5_sort_35 (q := 37) rfl rfl ?_
            refine pm_icmp_le K dX5_sort_37 (tgt := 64) (q := 40) rfl rfl (fun _ => ?_) (fun z => absurd z (fun z => z (nI_le (Nat.le_refl _) (by omega))))
            refine pm_iload K dX5_sort_64 (q := 66) rfl rfl ?_
            refine pm_ic2 K dX5_sort_66 (q := 67) rfl ?_
            refine pm_idiv K dX5_sort_67 (q := 68) rfl (by decide) ?_
            rw [so_half (by omega)]
            refine pm_istore K dX5_sort_68 (q := 70) rfl (by decide) rfl ?_
            refine pm_goto K dX5_sort_70 (q := 14) rfl ?_
            exact ih L2 h3 ts2 _ (by omega) HL2 hF2 f1 f2
          | succ j ihj =>
            intro L2 h3 ts2 hj HL2 hF2 f1 f2
            have hq1 : 2 ^ (k + (j + 1)) ≤ 2 ^ t := Nat.pow_le_pow_right (by omega) (by omega)
            have hq2 : 2 ^ (k + (j + 1)) = 2 * 2 ^ (k + j) := by rw [← Nat.add_assoc, Nat.pow_succ]; omega
            have hq3 : 2 ^ k ≤ 2 ^ (k + j) := Nat.pow_le_pow_right (by omega) (by omega)
            obtain ⟨ix2, R2, HA2, hi2, hL2⟩ := id HL2
            refine pm_iload K dX5_sort_33 (q := 35) rfl rfl ?_
            refine pm_iload K dX5_sort_35 (q := 37) rfl rfl ?_
            refine pm_icmp_le K dX5_sort_37 (tgt := 64) (q := 40) rfl rfl (fun z => absurd z (nI_ge (by omega) (by omega))) (fun _ => ?_)
            refine pm_aload_n K dX5_sort_40 (q := 41) rfl rfl rfl ?_
            refine pm_iload_n K dX5_sort_41 (q := 42) rfl rfl rfl ?_
            refine pm_iload_n K dX5_sort_42 (q := 43) rfl rfl rfl ?_
            refine pm_iload K dX5_sort_43 (q := 45) rfl rfl ?_
            refine pm_iload K dX5_sort_45 (q := 47) rfl rfl ?_
            refine pm_iload K dX5_sort_47 (q := 49) rfl rfl ?_
            refine pm_iload K dX5_sort_49 (q := 51) rfl rfl ?_
            refine pm_isub K dX5_sort_51 (q := 52) rfl ?_
            rw [pk_sub (by omega)]
            refine pm_callV0 K gw_ok wcX5_98 (c_sortPass l HL2 (b0 := b0) (m0 := m0) (p := 2 ^ k) (r0 := 2 ^ k) (d := 2 ^ (k + (j + 1)) - 2 ^ k) hb (by omega) (by omega) (by omega) (by omega)) rfl (by have := HA2.1; omega) HA2.2.1 rfl rfl (Nat.le_of_ble_eq_true rfl) (by decide) dX5_sort_52 (q := 55) rfl (fun r4 h4 hp => ?_)
            obtain ⟨rfl, HL3, F3⟩ := hp
            refine pm_iload K dX5_sort_55 (q := 57) rfl rfl ?_
            refine pm_ic2 K dX5_sort_57 (q := 58) rfl ?_
            refine pm_idiv K dX5_sort_58 (q := 59) rfl (by decide) ?_
            rw [so_half2 (by omega)]
            refine pm_istore K dX5_sort_59 (q := 61) rfl (by decide) rfl ?_
            refine pm_goto K dX5_sort_61 (q := 33) rfl ?_
            refine ihj _ h4 _ (by omega) HL3 (hF2.tr F3) f1 ?_
            rw [tk_app, List.append_assoc, ← List.append_assoc (tr_ps _ _ _ _ _)]
            exact f2
        have e3 : k + (t - k) = t := by omega
        have := inner (t - k) _ h1 _ (by omega) HL1 (hF.tr F1) e1 (by rw [tk_app, List.append_assoc]; exact e2)
        rw [e3] at this
        exact this
    have := outer (t + 1) L h ts none (by omega) H so_fr.rf hLF.symm htF.symm
    rw [so_pw_s] at this
    exact this
  · have hlt : m0 < 2 := Nat.lt_of_not_le (fun z => hx (nI_le z (by omega)))
    exact pm_vret Z dX5_sort_5 rfl (Nat.le_of_ble_eq_true rfl) (Nat.le_of_ble_eq_true rfl) ⟨rfl, ⟨rfl, by rw [so_sort, tr_sort, if_pos hlt, if_pos hlt, List.append_nil]; exact H.tke, so_fr.rf⟩⟩
set_option maxRecDepth 100000 in
theorem c_squeeze (l : Launch) {n : Nat} {h : pm_H} {L : Nat → rw_T} {ts : List Int32} (H : so_L n h L ts) {b0 m0 : Nat} (hb : b0 + m0 ≤ 76) : bM0 l yX5_squeeze cX5_squeeze 9 none 2 [.ref 15, .int (nI b0), .int (nI m0)] n h (fun r h' => r = none ∧ so_L n h' (nw_sqs rw_wb b0 m0 (so_k m0) L) (tk (ts ++ tr_sqs b0 m0 (so_k m0))) ∧ so_fr h h') := by
  refine pm_enter rfl (Nat.le_of_ble_eq_true rfl) (fun G K Z => ?_)
  refine pm_ic1 K dX5_squeeze_0 (q := 1) rfl ?_
  refine pm_istore_n K dX5_squeeze_1 (q := 2) rfl rfl (by decide) rfl ?_
  have outer : ∀ (g k : Nat) (h2 : pm_H) (x4 x5 x6 x7 x8 : Option Value), k + g = 8 → (∀ j, j < k → 2 ^ j < m0) → so_L n h2 (nw_sqs rw_wb b0 m0 k L) (tk (ts ++ tr_sqs b0 m0 k)) → so_fr h h2 → G 0 0 2 [some (.ref 15), some (.int (nI b0)), some (.int (nI m0)), some (.int (nI (2 ^ k))), x4, x5, x6, x7, x8] [] n h2 := by
    intro g
    induction g with
    | zero =>
      intro k h2 x4 x5 x6 x7 x8 hk hj
      exfalso
      have := hj 7 (by omega)
      omega
    | succ g ih =>
      intro k h2 x4 x5 x6 x7 x8 hk hj HL hF
      have hp0 : 0 < 2 ^ k := Nat.two_pow_pos k
      have hk8 : 2 ^ k ≤ 2 ^ 7 := Nat.pow_le_pow_right (by omega) (by omega)
      refine pm_iload_n K dX5_squeeze_2 (q := 3) rfl rfl rfl ?_
      refine pm_iload_n K dX5_squeeze_3 (q := 4) rfl rfl rfl ?_
      refine pm_icmp_ge K dX5_squeeze_4 (tgt := 114) (q := 7) rfl rfl (fun hx => ?_) (fun hx => ?_)
      · have hle : m0 ≤ 2 ^ k := (nI_leI (by omega) (by omega)).mp hx
        rw [← so_k_eq hj hle] at HL
        exact pm_vret Z dX5_squeeze_114 rfl (Nat.le_of_ble_eq_true rfl) (Nat.le_of_ble_eq_true rfl) ⟨rfl, ⟨rfl, HL, hF⟩⟩
      · have hlt : 2 ^ k < m0 := Nat.lt_of_not_le (fun z => hx ((nI_leI (by omega) (by omega)).mpr z))
        refine pm_iload_n K dX5_squeeze_7 (q := 8) rfl rfl rfl ?_
        refine pm_bipush (v := nI 76) K dX5_squeeze_8 (q := 10) rfl (by decide) ?_
        refine pm_icmp_ge K dX5_squeeze_10 (tgt := 114) (q := 13) rfl rfl (fun z => absurd z (nI_ge (by omega) (by decide))) (fun _ => ?_)
        refine pm_iload_n K dX5_squeeze_13 (q := 14) rfl rfl rfl ?_
        refine pm_istore K dX5_squeeze_14 (q := 16) rfl (by decide) rfl ?_
        have inner : ∀ (j m : Nat) (h3 : pm_H) (x5 x6 x7 x8 : Option Value), m + j = m0 - 2 ^ k → so_L n h3 (nw_sq rw_wb b0 (2 ^ k) m (nw_sqs rw_wb b0 m0 k L)) (tk (ts ++ (tr_sqs b0 m0 k ++ tr_sq b0 (2 ^ k) m))) → so_fr h h3 → G 0 0 16 [some (.ref 15), some (.int (nI b0)), some (.int (nI m0)), some (.int (nI (2 ^ k))), some (.int (nI (m + 2 ^ k))), x5, x6, x7, x8] [] n h3 := by
          intro j
          induction j with
          | zero =>
            intro m h3 x5 x6 x7 x8 hm HL3 hF3
            refine pm_iload K dX5_squeeze_16 (q := 18) rfl rfl ?_
            refine pm_iload_n K dX5_squeeze_18 (q := 19) rfl rfl rfl ?_
            refine pm_icmp_ge K dX5_squeeze_19 (tgt := 107) (q := 22) rfl rfl (fun _ => ?_) (fun z => absurd z (fun z => z (nI_le (by omega) (by omega))))
            have em : m = m0 - 2 ^ k := by omega
            subst em
            have e2 : nI (2 ^ k) * 2 = nI (2 ^ (k + 1)) := by rw [Nat.pow_succ]; exact pk_mul _ 2
            refine pm_iload_n K dX5_squeeze_107 (q := 108) rfl rfl rfl ?_
            refine pm_ic2 K dX5_squeeze_108 (q := 109) rfl ?_
            refine pm_imul K dX5_squeeze_109 (q := 110) rfl ?_
            rw [e2]
            refine pm_istore_n K dX5_squeeze_110 (q := 111) rfl rfl (by decide) rfl ?_
            refine pm_goto K dX5_squeeze_111 (q := 2) rfl ?_
            exact ih (k + 1) h3 _ _ _ _ _ (by omega) (fun j hj2 => by rcases Nat.lt_succ_iff_lt_or_eq.mp hj2 with z | rfl; exact hj j z; exact hlt) HL3 hF3
          | succ j ihj =>
            intro m h3 x5 x6 x7 x8 hm HL3 hF3
            refine pm_iload K dX5_squeeze_16 (q := 18) rfl rfl ?_
            refine pm_iload_n K dX5_squeeze_18 (q := 19) rfl rfl rfl ?_
            refine pm_icmp_ge K dX5_squeeze_19 (tgt := 107) (q := 22) rfl rfl (fun z => absurd z (nI_ge (by omega) (by omega))) (fun _ => ?_)
            obtain ⟨ix, R, HA, hi, hL⟩ := HL3
            have g0 := HA.1
            have gx := HA.2.2.2.2.1 (b0 + m) (by omega)
            have gy := HA.2.2.2.2.1 (b0 + (m + 2 ^ k)) (by omega)
            have es : nI (b0 + (m + 2 ^ k)) - nI (2 ^ k) = nI (b0 + m) := by rw [pk_sub (by omega)]; congr 1; omega
            refine pm_iload_n K dX5_squeeze_22 (q := 23) rfl rfl rfl ?_
            refine pm_iload K dX5_squeeze_23 (q := 25) rfl rfl ?_
            refine pm_iadd K dX5_squeeze_25 (q := 26) rfl ?_
            rw [nI_add]
            refine pm_istore K dX5_squeeze_26 (q := 28) rfl (by decide) rfl ?_
            refine pm_aload_n K dX5_squeeze_28 (q := 29) rfl rfl rfl ?_
            refine pm_iload K dX5_squeeze_29 (q := 31) rfl rfl ?_
            refine pm_iload_n K dX5_squeeze_31 (q := 32) rfl rfl rfl ?_
            refine pm_isub K dX5_squeeze_32 (q := 33) rfl ?_
            rw [es]
            refine pm_callV0 K gw_ok wcX5_34 (c_read l HA (p := b0 + m) (by omega)) rfl (by have := HA.1; omega) HA.2.1 rfl rfl (Nat.le_of_ble_eq_true rfl) (by decide) dX5_squeeze_33 (q := 36) rfl (fun r1 h1 hp => ?_)
            obtain ⟨rfl, H1, F1⟩ := hp
            refine pm_astore K dX5_squeeze_36 (q := 38) rfl (by decide) rfl ?_
            refine pm_aload_n K dX5_squeeze_38 (q := 39) rfl rfl rfl ?_
            refine pm_iload K dX5_squeeze_39 (q := 41) rfl rfl ?_
            refine pm_callV0 K gw_ok wcX5_34 (c_read l H1 (p := b0 + (m + 2 ^ k)) (by omega)) rfl (by have := H1.1; omega) H1.2.1 rfl rfl (Nat.le_of_ble_eq_true rfl) (by decide) dX5_squeeze_41 (q := 44) rfl (fun r2 h2x hp => ?_)
            obtain ⟨rfl, H2, F2⟩ := hp
            refine pm_astore K dX5_squeeze_44 (q := 46) rfl (by decide) rfl ?_
            refine pm_aload K dX5_squeeze_46 (q := 48) rfl rfl ?_
            refine pm_get K inX3 rfl (k := 11) (by decide) wlX5_106 rfl (by omega) (H2.row gy) rfl dX5_squeeze_48 (q := 51) rfl ?_
            refine pm_iload_n K dX5_squeeze_51 (q := 52) rfl rfl rfl ?_
            refine pm_iand K dX5_squeeze_52 (q := 53) rfl ?_
            refine pm_if_eq K dX5_squeeze_53 (tgt := 60) (q := 56) rfl rfl (fun hw => ?_) (fun hw => ?_)
            · refine pm_ic0 K dX5_squeeze_60 (q := 61) rfl ?_
              refine pm_istore K dX5_squeeze_61 (q := 63) rfl (by decide) rfl ?_
              refine pm_aload_n K dX5_squeeze_63 (q := 64) rfl rfl rfl ?_
              refine pm_iload K dX5_squeeze_64 (q := 66) rfl rfl ?_
              refine pm_iload_n K dX5_squeeze_66 (q := 67) rfl rfl rfl ?_
              refine pm_isub K dX5_squeeze_67 (q := 68) rfl ?_
              rw [es]
              refine pm_iload K dX5_squeeze_68 (q := 70) rfl rfl ?_
              refine pm_if_eq K dX5_squeeze_70 (tgt := 78) (q := 73) rfl rfl (fun _ => ?_) (fun z => absurd z (fun z => z rfl))
              refine pm_aload K dX5_squeeze_78 (q := 80) rfl rfl ?_
              refine pm_callV0 K gw_ok wcX5_41 (c_write l H2 (p := b0 + m) (by omega) gx) rfl (by have := H2.1; omega) H2.2.1 rfl rfl (Nat.le_of_ble_eq_true rfl) (by decide) dX5_squeeze_80 (q := 83) rfl (fun r4 h4x hp => ?_)
              obtain ⟨rfl, H3, F3⟩ := hp
              refine pm_aload_n K dX5_squeeze_83 (q := 84) rfl rfl rfl ?_
              refine pm_iload K dX5_squeeze_84 (q := 86) rfl rfl ?_
              refine pm_iload K dX5_squeeze_86 (q := 88) rfl rfl ?_
              refine pm_if_eq K dX5_squeeze_88 (tgt := 96) (q := 91) rfl rfl (fun _ => ?_) (fun z => absurd z (fun z => z rfl))
              refine pm_aload K dX5_squeeze_96 (q := 98) rfl rfl ?_
              refine pm_callV0 K gw_ok wcX5_41 (c_write l H3 (p := b0 + (m + 2 ^ k)) (by omega) gy) rfl (by have := H3.1; omega) H3.2.1 rfl rfl (Nat.le_of_ble_eq_true rfl) (by decide) dX5_squeeze_98 (q := 101) rfl (fun r5 h5x hp => ?_)
              obtain ⟨rfl, H4, F4⟩ := hp
              refine pm_inc K dX5_squeeze_101 (q := 104) rfl rfl (by decide) rfl ?_
              refine pm_goto K dX5_squeeze_104 (q := 16) rfl ?_
              rw [show m + 2 ^ k + 1 = m + 1 + 2 ^ k by omega]
              refine ihj (m + 1) h5x _ _ _ _ (by omega) ?_ (fun q hq => by rw [F4 q (by omega), F3 q (by omega), F2 q (by omega) (by omega), F1 q (by omega) (by omega), hF3 q hq])
              simp only [tk_app, List.append_assoc, List.cons_append, List.nil_append] at H4
              rw [so_id, so_id] at H4
              rw [nw_sq_no (by rw [hL _ (by omega)]; exact so_and0.mp hw), tr_sq_s]
              exact ⟨ix, R, H4, hi, hL⟩
            · refine pm_ic1 K dX5_squeeze_56 (q := 57) rfl ?_
              refine pm_goto K dX5_squeeze_57 (q := 61) rfl ?_
              refine pm_istore K dX5_squeeze_61 (q := 63) rfl (by decide) rfl ?_
              refine pm_aload_n K dX5_squeeze_63 (q := 64) rfl rfl rfl ?_
              refine pm_iload K dX5_squeeze_64 (q := 66) rfl rfl ?_
              refine pm_iload_n K dX5_squeeze_66 (q := 67) rfl rfl rfl ?_
              refine pm_isub K dX5_squeeze_67 (q := 68) rfl ?_
              rw [es]
              refine pm_iload K dX5_squeeze_68 (q := 70) rfl rfl ?_
              refine pm_if_eq K dX5_squeeze_70 (tgt := 78) (q := 73) rfl rfl (fun z => absurd z (by decide)) (fun _ => ?_)
              refine pm_aload K dX5_squeeze_73 (q := 75) rfl rfl ?_
              refine pm_goto K dX5_squeeze_75 (q := 80) rfl ?_
              refine pm_callV0 K gw_ok wcX5_41 (c_write l H2 (p := b0 + m) (by omega) gy) rfl (by have := H2.1; omega) H2.2.1 rfl rfl (Nat.le_of_ble_eq_true rfl) (by decide) dX5_squeeze_80 (q := 83) rfl (fun r4 h4x hp => ?_)
              obtain ⟨rfl, H3, F3⟩ := hp
              refine pm_aload_n K dX5_squeeze_83 (q := 84) rfl rfl rfl ?_
              refine pm_iload K dX5_squeeze_84 (q := 86) rfl rfl ?_
              refine pm_iload K dX5_squeeze_86 (q := 88) rfl rfl ?_
              refine pm_if_eq K dX5_squeeze_88 (tgt := 96) (q := 91) rfl rfl (fun z => absurd z (by decide)) (fun _ => ?_)
              refine pm_aload K dX5_squeeze_91 (q := 93) rfl rfl ?_
              refine pm_goto K dX5_squeeze_93 (q := 98) rfl ?_
              refine pm_callV0 K gw_ok wcX5_41 (c_write l H3 (p := b0 + (m + 2 ^ k)) (by omega) gx) rfl (by have := H3.1; omega) H3.2.1 rfl rfl (Nat.le_of_ble_eq_true rfl) (by decide) dX5_squeeze_98 (q := 101) rfl (fun r5 h5x hp => ?_)
              obtain ⟨rfl, H4, F4⟩ := hp
              refine pm_inc K dX5_squeeze_101 (q := 104) rfl rfl (by decide) rfl ?_
              refine pm_goto K dX5_squeeze_104 (q := 16) rfl ?_
              rw [show m + 2 ^ k + 1 = m + 1 + 2 ^ k by omega]
              refine ihj (m + 1) h5x _ _ _ _ (by omega) ?_ (fun q hq => by rw [F4 q (by omega), F3 q (by omega), F2 q (by omega) (by omega), F1 q (by omega) (by omega), hF3 q hq])
              simp only [tk_app, List.append_assoc, List.cons_append, List.nil_append] at H4
              rw [nw_sq_yes (by rw [hL _ (by omega)]; exact fun z => hw (so_and0.mpr z)), tr_sq_s]
              exact so_L.sw H4 hi hL (by omega) (by omega)
        have := inner (m0 - 2 ^ k) 0 h2 x5 x6 x7 x8 (by omega) (by rw [tr_sq, List.append_nil]; exact HL) hF
        rw [Nat.zero_add] at this
        exact this
  have := outer 8 0 h none none none none none (by omega) (fun j hj => absurd hj (Nat.not_lt_zero _)) (by rw [tr_sqs, List.append_nil]; exact H.tke) so_fr.rf
  exact this
set_option maxRecDepth 100000 in
theorem c_spread (l : Launch) {n : Nat} {h : pm_H} {L : Nat → rw_T} {ts : List Int32} (H : so_L n h L ts) {b0 m0 : Nat} (hb : b0 + m0 ≤ 76) (hm1 : 1 ≤ m0) : bM0 l yX5_spread cX5_spread 9 none 2 [.ref 15, .int (nI b0), .int (nI m0)] n h (fun r h' => r = none ∧ so_L n h' (nw_sds rw_wf b0 m0 (so_t m0 + 1) L) (tk (ts ++ tr_sds b0 m0 (so_t m0 + 1))) ∧ so_fr h h') := by
  refine pm_enter rfl (Nat.le_of_ble_eq_true rfl) (fun G K Z => ?_)
  have htm : 2 ^ so_t m0 ≤ m0 := so_t_le hm1
  obtain ⟨LF, hLF⟩ : ∃ z, z = nw_sds rw_wf b0 m0 (so_t m0 + 1) L := ⟨_, rfl⟩
  obtain ⟨tsF, htF⟩ : ∃ z, z = tk (ts ++ tr_sds b0 m0 (so_t m0 + 1)) := ⟨_, rfl⟩
  rw [← hLF, ← htF] at Z
  refine pm_iload_n K dX5_spread_0 (q := 1) rfl rfl rfl ?_
  refine pm_callS0 K gw_ok wcX5_95 (c_widest l (m0 := m0) (by omega)) rfl rfl (Nat.le_of_ble_eq_true rfl) (by decide) dX5_spread_1 (q := 4) rfl (fun r2 h2 hq2 => ?_)
  obtain ⟨rfl, hh⟩ := hq2
  rw [hh]
  refine pm_istore_n K dX5_spread_4 (q := 5) rfl rfl (by decide) rfl ?_
  generalize so_t m0 = t at htm hLF htF ⊢
  have outer : ∀ (k : Nat) (L1 : Nat → rw_T) (h2 : pm_H) (ts1 : List Int32) (x4 x5 x6 x7 x8 : Option Value), k ≤ t + 1 → so_L n h2 L1 ts1 → so_fr h h2 → nw_sds rw_wf b0 m0 k L1 = LF → tk (ts1 ++ tr_sds b0 m0 k) = tsF → G 0 0 5 [some (.ref 15), some (.int (nI b0)), some (.int (nI m0)), some (.int (so_pw k)), x4, x5, x6, x7, x8] [] n h2 := by
    intro k
    induction k with
    | zero =>
      intro L1 h2 ts1 x4 x5 x6 x7 x8 hk HL hF e1 e2
      refine pm_iload_n K dX5_spread_5 (q := 6) rfl rfl rfl ?_
      refine pm_if_le K dX5_spread_6 (tgt := 112) (q := 9) rfl rfl (fun _ => ?_) (fun z => absurd z (fun z => z (by decide)))
      have e1 : L1 = LF := e1
      subst e1
      rw [tr_sds, List.append_nil] at e2
      subst e2
      exact pm_vret Z dX5_spread_112 rfl (Nat.le_of_ble_eq_true rfl) (Nat.le_of_ble_eq_true rfl) ⟨rfl, ⟨rfl, HL.tke, hF⟩⟩
    | succ k ih =>
      intro L1 h2 ts1 x4 x5 x6 x7 x8 hk HL hF e1 e2
      have hpk : 2 ^ k ≤ 2 ^ t := Nat.pow_le_pow_right (by omega) (by omega)
      have hp0 : 0 < 2 ^ k := Nat.two_pow_pos k
      rw [so_pw_s]
      refine pm_iload_n K dX5_spread_5 (q := 6) rfl rfl rfl ?_
      refine pm_if_le K dX5_spread_6 (tgt := 112) (q := 9) rfl rfl (fun z => absurd z (nI_nle hp0 (by omega))) (fun _ => ?_)
      refine pm_iload_n K dX5_spread_9 (q := 10) rfl rfl rfl ?_
      refine pm_ic1 K dX5_spread_10 (q := 11) rfl ?_
      refine pm_isub K dX5_spread_11 (q := 12) rfl ?_
      rw [show nI m0 - 1 = nI (m0 - 1) from pk_sub (b := 1) hm1]
      refine pm_istore K dX5_spread_12 (q := 14) rfl (by decide) rfl ?_
      have inner : ∀ (j m : Nat) (h3 : pm_H) (x5 x6 x7 x8 : Option Value), m + j = m0 - 2 ^ k → so_L n h3 (nw_sd rw_wf b0 m0 (2 ^ k) m L1) (tk (ts1 ++ tr_sd b0 m0 (2 ^ k) m)) → so_fr h h3 → G 0 0 14 [some (.ref 15), some (.int (nI b0)), some (.int (nI m0)), some (.int (nI (2 ^ k))), some (.int (nI (m0 - 1 - m))), x5, x6, x7, x8] [] n h3 := by
        intro j
        induction j with
        | zero =>
          intro m h3 x5 x6 x7 x8 hm HL3 hF3
          refine pm_iload K dX5_spread_14 (q := 16) rfl rfl ?_
          refine pm_iload_n K dX5_spread_16 (q := 17) rfl rfl rfl ?_
          refine pm_icmp_lt K dX5_spread_17 (tgt := 105) (q := 20) rfl rfl (fun _ => ?_) (fun z => absurd z (fun z => z (nI_lt (by omega) (by omega))))
          have em : m = m0 - 2 ^ k := by omega
          subst em
          refine pm_iload_n K dX5_spread_105 (q := 106) rfl rfl rfl ?_
          refine pm_ic2 K dX5_spread_106 (q := 107) rfl ?_
          refine pm_idiv K dX5_spread_107 (q := 108) rfl (by decide) ?_
          rw [so_half (by omega)]
          refine pm_istore_n K dX5_spread_108 (q := 109) rfl rfl (by decide) rfl ?_
          refine pm_goto K dX5_spread_109 (q := 5) rfl ?_
          exact ih _ h3 _ _ _ _ _ _ (by omega) HL3 hF3 e1 (by rw [tk_app, List.append_assoc]; exact e2)
        | succ j ihj =>
          intro m h3 x5 x6 x7 x8 hm HL3 hF3
          refine pm_iload K dX5_spread_14 (q := 16) rfl rfl ?_
          refine pm_iload_n K dX5_spread_16 (q := 17) rfl rfl rfl ?_
          refine pm_icmp_lt K dX5_spread_17 (tgt := 105) (q := 20) rfl rfl (fun z => absurd z (nI_nlt (by omega) (by omega))) (fun _ => ?_)
          obtain ⟨ix, R, HA, hi, hL⟩ := HL3
          have g0 := HA.1
          have gx := HA.2.2.2.2.1 (b0 + (m0 - 1 - m - 2 ^ k)) (by omega)
          have gy := HA.2.2.2.2.1 (b0 + (m0 - 1 - m)) (by omega)
          have es : nI (b0 + (m0 - 1 - m)) - nI (2 ^ k) = nI (b0 + (m0 - 1 - m - 2 ^ k)) := by rw [pk_sub (by omega)]; congr 1; omega
          refine pm_iload_n K dX5_spread_20 (q := 21) rfl rfl rfl ?_
          refine pm_iload K dX5_spread_21 (q := 23) rfl rfl ?_
          refine pm_iadd K dX5_spread_23 (q := 24) rfl ?_
          rw [nI_add]
          refine pm_istore K dX5_spread_24 (q := 26) rfl (by decide) rfl ?_
          refine pm_aload_n K dX5_spread_26 (q := 27) rfl rfl rfl ?_
          refine pm_iload K dX5_spread_27 (q := 29) rfl rfl ?_
          refine pm_iload_n K dX5_spread_29 (q := 30) rfl rfl rfl ?_
          refine pm_isub K dX5_spread_30 (q := 31) rfl ?_
          rw [es]
          refine pm_callV0 K gw_ok wcX5_34 (c_read l HA (p := b0 + (m0 - 1 - m - 2 ^ k)) (by omega)) rfl (by have := HA.1; omega) HA.2.1 rfl rfl (Nat.le_of_ble_eq_true rfl) (by decide) dX5_spread_31 (q := 34) rfl (fun r1 h1 hp => ?_)
          obtain ⟨rfl, H1, F1⟩ := hp
          refine pm_astore K dX5_spread_34 (q := 36) rfl (by decide) rfl ?_
          refine pm_aload_n K dX5_spread_36 (q := 37) rfl rfl rfl ?_
          refine pm_iload K dX5_spread_37 (q := 39) rfl rfl ?_
          refine pm_callV0 K gw_ok wcX5_34 (c_read l H1 (p := b0 + (m0 - 1 - m)) (by omega)) rfl (by have := H1.1; omega) H1.2.1 rfl rfl (Nat.le_of_ble_eq_true rfl) (by decide) dX5_spread_39 (q := 42) rfl (fun r2 h2x hp => ?_)
          obtain ⟨rfl, H2, F2⟩ := hp
          refine pm_astore K dX5_spread_42 (q := 44) rfl (by decide) rfl ?_
          refine pm_aload K dX5_spread_44 (q := 46) rfl rfl ?_
          refine pm_get K inX3 rfl (k := 12) (by decide) wlX5_109 rfl (by omega) (H2.row gx) rfl dX5_spread_46 (q := 49) rfl ?_
          refine pm_iload_n K dX5_spread_49 (q := 50) rfl rfl rfl ?_
          refine pm_iand K dX5_spread_50 (q := 51) rfl ?_
          refine pm_if_eq K dX5_spread_51 (tgt := 58) (q := 54) rfl rfl (fun hw => ?_) (fun hw => ?_)
          · refine pm_ic0 K dX5_spread_58 (q := 59) rfl ?_
            refine pm_istore K dX5_spread_59 (q := 61) rfl (by decide) rfl ?_
            refine pm_aload_n K dX5_spread_61 (q := 62) rfl rfl rfl ?_
            refine pm_iload K dX5_spread_62 (q := 64) rfl rfl ?_
            refine pm_iload_n K dX5_spread_64 (q := 65) rfl rfl rfl ?_
            refine pm_isub K dX5_spread_65 (q := 66) rfl ?_
            rw [es]
            refine pm_iload K dX5_spread_66 (q := 68) rfl rfl ?_
            refine pm_if_eq K dX5_spread_68 (tgt := 76) (q := 71) rfl rfl (fun _ => ?_) (fun z => absurd z (fun z => z rfl))
            refine pm_aload K dX5_spread_76 (q := 78) rfl rfl ?_
            refine pm_callV0 K gw_ok wcX5_41 (c_write l H2 (p := b0 + (m0 - 1 - m - 2 ^ k)) (by omega) gx) rfl (by have := H2.1; omega) H2.2.1 rfl rfl (Nat.le_of_ble_eq_true rfl) (by decide) dX5_spread_78 (q := 81) rfl (fun r4 h4x hp => ?_)
            obtain ⟨rfl, H3, F3⟩ := hp
            refine pm_aload_n K dX5_spread_81 (q := 82) rfl rfl rfl ?_
            refine pm_iload K dX5_spread_82 (q := 84) rfl rfl ?_
            refine pm_iload K dX5_spread_84 (q := 86) rfl rfl ?_
            refine pm_if_eq K dX5_spread_86 (tgt := 94) (q := 89) rfl rfl (fun _ => ?_) (fun z => absurd z (fun z => z rfl))
            refine pm_aload K dX5_spread_94 (q := 96) rfl rfl ?_
            refine pm_callV0 K gw_ok wcX5_41 (c_write l H3 (p := b0 + (m0 - 1 - m)) (by omega) gy) rfl (by have := H3.1; omega) H3.2.1 rfl rfl (Nat.le_of_ble_eq_true rfl) (by decide) dX5_spread_96 (q := 99) rfl (fun r5 h5x hp => ?_)
            obtain ⟨rfl, H4, F4⟩ := hp
            refine pm_iinc (v := nI (m0 - 1 - (m + 1))) K dX5_spread_99 (q := 102) rfl rfl (by rw [show m0 - 1 - m = m0 - 1 - (m + 1) + 1 by omega, ← pk_m1 (m0 - 1 - (m + 1))]; congr 1) (by decide) rfl ?_
            refine pm_goto K dX5_spread_102 (q := 14) rfl ?_
            refine ihj (m + 1) h5x _ _ _ _ (by omega) ?_ (fun q hq => by rw [F4 q (by omega), F3 q (by omega), F2 q (by omega) (by omega), F1 q (by omega) (by omega), hF3 q hq])
            simp only [tk_app, List.append_assoc, List.cons_append, List.nil_append] at H4
            rw [so_id, so_id] at H4
            rw [nw_sd_no (by rw [hL _ (by omega)]; exact so_and0.mp hw), tr_sd_s]
            exact ⟨ix, R, H4, hi, hL⟩
          · refine pm_ic1 K dX5_spread_54 (q := 55) rfl ?_
            refine pm_goto K dX5_spread_55 (q := 59) rfl ?_
            refine pm_istore K dX5_spread_59 (q := 61) rfl (by decide) rfl ?_
            refine pm_aload_n K dX5_spread_61 (q := 62) rfl rfl rfl ?_
            refine pm_iload K dX5_spread_62 (q := 64) rfl rfl ?_
            refine pm_iload_n K dX5_spread_64 (q := 65) rfl rfl rfl ?_
            refine pm_isub K dX5_spread_65 (q := 66) rfl ?_
            rw [es]
            refine pm_iload K dX5_spread_66 (q := 68) rfl rfl ?_
            refine pm_if_eq K dX5_spread_68 (tgt := 76) (q := 71) rfl rfl (fun z => absurd z (by decide)) (fun _ => ?_)
            refine pm_aload K dX5_spread_71 (q := 73) rfl rfl ?_
            refine pm_goto K dX5_spread_73 (q := 78) rfl ?_
            refine pm_callV0 K gw_ok wcX5_41 (c_write l H2 (p := b0 + (m0 - 1 - m - 2 ^ k)) (by omega) gy) rfl (by have := H2.1; omega) H2.2.1 rfl rfl (Nat.le_of_ble_eq_true rfl) (by decide) dX5_spread_78 (q := 81) rfl (fun r4 h4x hp => ?_)
            obtain ⟨rfl, H3, F3⟩ := hp
            refine pm_aload_n K dX5_spread_81 (q := 82) rfl rfl rfl ?_
            refine pm_iload K dX5_spread_82 (q := 84) rfl rfl ?_
            refine pm_iload K dX5_spread_84 (q := 86) rfl rfl ?_
            refine pm_if_eq K dX5_spread_86 (tgt := 94) (q := 89) rfl rfl (fun z => absurd z (by decide)) (fun _ => ?_)
            refine pm_aload K dX5_spread_89 (q := 91) rfl rfl ?_
            refine pm_goto K dX5_spread_91 (q := 96) rfl ?_
            refine pm_callV0 K gw_ok wcX5_41 (c_write l H3 (p := b0 + (m0 - 1 - m)) (by omega) gx) rfl (by have := H3.1; omega) H3.2.1 rfl rfl (Nat.le_of_ble_eq_true rfl) (by decide) dX5_spread_96 (q := 99) rfl (fun r5 h5x hp => ?_)
            obtain ⟨rfl, H4, F4⟩ := hp
            refine pm_iinc (v := nI (m0 - 1 - (m + 1))) K dX5_spread_99 (q := 102) rfl rfl (by rw [show m0 - 1 - m = m0 - 1 - (m + 1) + 1 by omega, ← pk_m1 (m0 - 1 - (m + 1))]; congr 1) (by decide) rfl ?_
            refine pm_goto K dX5_spread_102 (q := 14) rfl ?_
            refine ihj (m + 1) h5x _ _ _ _ (by omega) ?_ (fun q hq => by rw [F4 q (by omega), F3 q (by omega), F2 q (by omega) (by omega), F1 q (by omega) (by omega), hF3 q hq])
            simp only [tk_app, List.append_assoc, List.cons_append, List.nil_append] at H4
            rw [nw_sd_yes (by rw [hL _ (by omega)]; exact fun z => hw (so_and0.mpr z)), tr_sd_s]
            exact so_L.sw H4 hi hL (by omega) (by omega)
      have := inner (m0 - 2 ^ k) 0 h2 x5 x6 x7 x8 (by omega) (by rw [tr_sd, List.append_nil]; exact HL.tke) hF
      exact this
  have := outer (t + 1) L h ts none none none none none (by omega) H so_fr.rf hLF.symm htF.symm
  rw [so_pw_s] at this
  exact this
