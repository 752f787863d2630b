/-! The join's copies: where they come to lie. -/
theorem ms_mono (c : Nat → Nat) {p q : Nat} (h : p ≤ q) : ms_st c p ≤ ms_st c q := by
  induction q with
  | zero => rw [show p = 0 by omega]; exact Nat.le_refl _
  | succ q ih =>
    by_cases e : p = q + 1
    · rw [e]; exact Nat.le_refl _
    · rw [ms_st]
      exact Nat.le_trans (ih (by omega)) (Nat.le_add_right _ _)
theorem ms_ge (c : Nat → Nat) : ∀ p, (nw_mk (ms_v c) p).length ≤ ms_st c p
  | 0 => Nat.le_refl _
  | p + 1 => by
    have ih := ms_ge c p
    rw [ms_st]
    cases hv : ms_v c p with
    | false => rw [nw_mk_f hv]; omega
    | true =>
      have := of_decide_eq_true hv
      rw [nw_mk_t hv]; omega
theorem ms_gap (c : Nat → Nat) {p q : Nat} (h : p ≤ q) : ms_st c p - (nw_mk (ms_v c) p).length ≤ ms_st c q - (nw_mk (ms_v c) q).length := by
  induction q with
  | zero => rw [show p = 0 by omega]; exact Nat.le_refl _
  | succ q ih =>
    by_cases e : p = q + 1
    · rw [e]; exact Nat.le_refl _
    · have := ih (by omega)
      have hg := ms_ge c q
      rw [ms_st]
      cases hv : ms_v c q with
      | false => rw [nw_mk_f hv]; omega
      | true =>
        have := of_decide_eq_true hv
        rw [nw_mk_t hv]; omega
theorem so_k_lt {m j : Nat} (h : j < so_k m) : 2 ^ j ≤ m := by
  unfold so_k at h
  by_cases e : m ≤ 1
  · rw [if_pos e] at h; omega
  · rw [if_neg e] at h
    have h1 : 2 ^ j ≤ 2 ^ so_t m := Nat.pow_le_pow_right (by omega) (by omega)
    have := (so_t_sp (n := m) (by omega)).1
    omega
theorem so_t_up {m : Nat} (h : 1 ≤ m) : m ≤ 2 ^ (so_t m + 1) := by
  by_cases e : 2 ≤ m
  · exact (so_t_sp e).2
  · have : m = 1 := by omega
    subst this
    exact Nat.one_le_two_pow
theorem nw_Pm.sd {α : Type} {b n : Nat} {L : Nat → α} {w : α → Nat} {d : Nat} : ∀ m, m + d ≤ n → nw_Pm b n L (nw_sd w b n d m L)
  | 0, _ => nw_Pm.rf
  | m + 1, h => by
    unfold nw_sd
    split
    · exact nw_Pm.sd m (by omega)
    · exact (nw_Pm.sd m (by omega)).tr (nw_Pm.sw (by omega) (by omega))
theorem nw_Pm.sds {α : Type} {b n : Nat} {w : α → Nat} : ∀ (k : Nat) (L : Nat → α), (∀ j, j < k → 2 ^ j ≤ n) → nw_Pm b n L (nw_sds w b n k L)
  | 0, _, _ => nw_Pm.rf
  | k + 1, L, h => by
    unfold nw_sds
    have := h k (by omega)
    exact (nw_Pm.sd _ (by omega)).tr (nw_Pm.sds k _ (fun j hj => h j (by omega)))
theorem so_map_off {b m : Nat} {F : Nat → rw_T → rw_T} {M : Nat → rw_T} {p : Nat} (h : p < m) : so_map b m F M (b + p) = F p (M (b + p)) := by
  unfold so_map
  rw [if_pos (by omega), show b + p - b = p by omega]
theorem so_map_no {b m : Nat} {F : Nat → rw_T → rw_T} {M : Nat → rw_T} {i : Nat} (h : i < b ∨ b + m ≤ i) : so_map b m F M i = M i := by
  unfold so_map
  rw [if_neg (by omega)]
def ex_1 (b m : Nat) (c : Nat → Nat) (M : Nat → rw_T) : Nat → rw_T := so_map b m (ms_F c) M
def ex_3 (b m P : Nat) (c : Nat → Nat) (M : Nat → rw_T) : Nat → rw_T := nw_sds rw_wf b (max m P) (so_t (max m P) + 1) (nw_sqs rw_wb b m (so_k m) (ex_1 b m c M))
def ex_4 (b m P : Nat) (c : Nat → Nat) (sr : rw_T) (M : Nat → rw_T) : Nat → rw_T := so_map b P (fc_F (ex_3 b m P c M) b sr) (ex_3 b m P c M)
section EXR
variable {b m P : Nat} {c : Nat → Nat} {sr : rw_T} {M : Nat → rw_T}
theorem ex_out (hP : 1 ≤ P) {k : Nat} (h : k < b ∨ b + max m P ≤ k) : ex_4 b m P c sr M k = M k := by
  have h1 : m ≤ max m P := Nat.le_max_left _ _
  have h2 : P ≤ max m P := Nat.le_max_right _ _
  unfold ex_4
  rw [so_map_no (by omega)]
  unfold ex_3
  rw [(nw_Pm.sds (b := b) (n := max m P) (w := rw_wf) (so_t (max m P) + 1) (nw_sqs rw_wb b m (so_k m) (ex_1 b m c M)) (fun j hj => ?_)).2 k h, (nw_Pm.sqs (b := b) (n := m) (L := ex_1 b m c M) (w := rw_wb) (so_k m) (fun j hj => so_k_lt hj)).2 k (by omega)]
  · unfold ex_1
    exact so_map_no (by omega)
  · have h3 : 2 ^ j ≤ 2 ^ so_t (max m P) := Nat.pow_le_pow_right (by omega) (by omega)
    have h4 := so_t_le (n := max m P) (by omega)
    omega
theorem ex_rows (hm : m ≤ 76) (hP : 1 ≤ P) (hP2 : P ≤ 76) (hst : ms_st c m = P) (hdead : ∀ i, m ≤ i → i < max m P → rw_dead (M (b + i))) : (∀ p, p < m → 0 < c p → ex_3 b m P c M (b + ms_st c p) = ex_1 b m c M (b + p)) ∧ ∀ q, q < max m P → (∀ p, p < m → 0 < c p → ms_st c p ≠ q) → rw_dead (ex_3 b m P c M (b + q)) := by
  have hx1 : m ≤ max m P := Nat.le_max_left _ _
  have hx2 : P ≤ max m P := Nat.le_max_right _ _
  have hE1 : ∀ p, p < m → ex_1 b m c M (b + p) = ms_F c p (M (b + p)) := fun p hp => so_map_off hp
  obtain ⟨hs1, hs2⟩ := nw_sq_rows (w := rw_wb) (dead := rw_dead) (b := b) (n := m) (k := so_k m) (L := ex_1 b m c M) (live := ms_v c) (so_k_le m) (fun x hx => rw_dead_wb hx) (fun p hp hl => by
    rw [hE1 p hp, ms_F, if_pos hl]
    exact rw_keep_wb (f := M (b + p)) (nw_mk_le (ms_v c) p) (by omega)) (fun p hp hl => by
    rw [hE1 p hp, ms_F, if_neg (by rw [hl]; decide)]
    exact rw_dead_disc _)
  have hout : ∀ k, b + m ≤ k → nw_sqs rw_wb b m (so_k m) (ex_1 b m c M) k = M k := fun k hk => by
    rw [(nw_Pm.sqs (b := b) (n := m) (L := ex_1 b m c M) (w := rw_wb) (so_k m) (fun j hj => so_k_lt hj)).2 k (by omega)]
    exact so_map_no (by omega)
  obtain ⟨pos, hpos⟩ : ∃ f : Nat → Nat, ∀ j, f j = (nw_mk (ms_v c) m).getD j 0 := ⟨_, fun _ => rfl⟩
  have hget : ∀ j, j < (nw_mk (ms_v c) m).length → (nw_mk (ms_v c) m)[j]? = some (pos j) := fun j hj => by
    rw [hpos, List.getD_eq_getElem?_getD, List.getElem?_eq_getElem hj]
    rfl
  have hfa : ∀ j, j < (nw_mk (ms_v c) m).length → pos j < m ∧ 0 < c (pos j) ∧ (nw_mk (ms_v c) (pos j)).length = j := fun j hj => by
    obtain ⟨a1, a2, a3⟩ := nw_mk_get (ms_v c) m j _ (hget j hj)
    exact ⟨a1, of_decide_eq_true a2, a3⟩
  have hlt : ∀ j, j < (nw_mk (ms_v c) m).length → j ≤ ms_st c (pos j) ∧ ms_st c (pos j) < P := fun j hj => by
    obtain ⟨a1, a2, a3⟩ := hfa j hj
    have g1 := ms_ge c (pos j)
    have g2 := ms_mono c (p := pos j + 1) (q := m) (by omega)
    rw [ms_st] at g2
    omega
  have hH : nw_H b (max m P) (nw_mk (ms_v c) m).length (fun j => ex_1 b m c M (b + pos j)) rw_dead (fun j => j) (nw_sqs rw_wb b m (so_k m) (ex_1 b m c M)) := by
    constructor
    · intro j hj
      exact hs1 j _ (hget j hj)
    · intro i hi hno
      have hge : (nw_mk (ms_v c) m).length ≤ i := by
        rcases Nat.lt_or_ge i (nw_mk (ms_v c) m).length with h | h
        · exact absurd rfl (hno i h)
        · exact h
      by_cases h : i < m
      · exact hs2 i h hge
      · rw [hout (b + i) (by omega)]
        exact hdead i (by omega) hi
  have hr := nw_spread (w := rw_wf) (W := fun j => ms_st c (pos j) - j) (n := max m P) (k := so_t (max m P) + 1) (fun j hj => ?_) (fun x hx => ?_) (fun i j hij hj => ?_) (fun j hj => ?_) (so_t_up (by omega)) hH
  · constructor
    · intro p hp hc
      obtain ⟨j, hj⟩ := List.mem_iff_getElem?.mp (nw_mk_mem.mpr ⟨hp, decide_eq_true hc⟩ : p ∈ nw_mk (ms_v c) m)
      have hjl := (List.getElem?_eq_some_iff.mp hj).1
      have e := Option.some.inj ((hget j hjl).symm.trans hj)
      have h1 : ex_3 b m P c M (b + (j + (ms_st c (pos j) - j))) = ex_1 b m c M (b + pos j) := hr.1 j hjl
      have h2 := (hlt j hjl).1
      rw [show j + (ms_st c (pos j) - j) = ms_st c (pos j) by omega, e] at h1
      exact h1
    · intro q hq hno
      refine hr.2 q hq (fun j hj => ?_)
      obtain ⟨a1, a2, a3⟩ := hfa j hj
      have h2 := (hlt j hj).1
      show j + (ms_st c (pos j) - j) ≠ q
      rw [show j + (ms_st c (pos j) - j) = ms_st c (pos j) by omega]
      exact hno (pos j) a1 a2
  · obtain ⟨a1, a2, a3⟩ := hfa j hj
    have h2 := hlt j hj
    show rw_wf (ex_1 b m c M (b + pos j)) = ms_st c (pos j) - j
    rw [hE1 _ a1, ms_F, if_pos (show ms_v c (pos j) = true from decide_eq_true a2)]
    show (nI (ms_st c (pos j)) - nI (nw_mk (ms_v c) (pos j)).length).toBitVec.toNat = _
    rw [a3, pk_sub h2.1, pk_tn (by omega)]
  · unfold rw_wf
    rw [hx.2.2]
    rfl
  · obtain ⟨a1, a2, a3⟩ := hfa j hj
    obtain ⟨b1, b2, b3⟩ := hfa i (by omega)
    show ms_st c (pos i) - i ≤ ms_st c (pos j) - j
    have hpp : pos i ≤ pos j := by
      by_cases e : i = j
      · rw [e]; exact Nat.le_refl _
      · exact Nat.le_of_lt (nw_mk_lt (ms_v c) (n := m) (by omega) (hget i (by omega)) (hget j hj))
    have := ms_gap c hpp
    rw [a3, b3] at this
    exact this
  · have h2 := hlt j hj
    show j + (ms_st c (pos j) - j) < max m P
    omega
/-- place st p + i holds the i-th copy of row p -/
theorem ex_copy (hm : m ≤ 76) (hP : 1 ≤ P) (hP2 : P ≤ 76) (hst : ms_st c m = P) (hdead : ∀ i, m ≤ i → i < max m P → rw_dead (M (b + i))) {p : Nat} (hp : p < m) : ∀ i, i < c p → ex_4 b m P c sr M (b + (ms_st c p + i)) = rw_sort (M (b + p) 3) (nI i) 0 (ms_F c p (M (b + p))) := by
  obtain ⟨h1, h2⟩ := ex_rows hm hP hP2 hst hdead
  have hx2 : P ≤ max m P := Nat.le_max_right _ _
  have hE1 : ex_1 b m c M (b + p) = ms_F c p (M (b + p)) := so_map_off hp
  have hle : ms_st c p + c p ≤ P := by
    have := ms_mono c (p := p + 1) (q := m) (by omega)
    rw [ms_st] at this
    omega
  have hfc : ∀ i, i < c p → fc_a (ex_3 b m P c M) b sr (ms_st c p + i + 1) = (ms_F c p (M (b + p)), i) := by
    intro i
    induction i with
    | zero =>
      intro hi
      rw [Nat.add_zero, fc_a, h1 p hp hi, hE1, if_neg]
      rw [ms_F, if_pos (show ms_v c p = true from decide_eq_true hi)]
      show ¬ (1 : Int32) = 0
      decide
    | succ i ih =>
      intro hi
      have hd := h2 (ms_st c p + (i + 1)) (by omega) (fun p' hp' hc' => by
        rcases Nat.lt_or_ge p p' with h | h
        · have := ms_mono c (p := p + 1) (q := p') (by omega)
          rw [ms_st] at this
          omega
        · have := ms_mono c (p := p') (q := p) h
          omega)
      rw [fc_a, if_pos hd.1, show ms_st c p + (i + 1) = ms_st c p + i + 1 by omega, ih (by omega)]
  intro i hi
  unfold ex_4
  rw [so_map_off (by omega), fc_F, hfc i hi]
  show rw_sort (ms_F c p (M (b + p)) 3) (nI i) 0 _ = _
  have e3 : ms_F c p (M (b + p)) 3 = M (b + p) 3 := by
    unfold ms_F
    split <;> rfl
  rw [e3]
end EXR
theorem ex_list {β : Type} (c : Nat → Nat) (Y : Nat → β) (Z : Nat → Nat → β) : ∀ m, (∀ p, p < m → ∀ i, i < c p → Y (ms_st c p + i) = Z p i) → (List.range (ms_st c m)).map Y = (List.range m).flatMap (fun p => (List.range (c p)).map (Z p))
  | 0, _ => rfl
  | m + 1, h => by
    have ih := ex_list c Y Z m (fun p hp => h p (by omega))
    rw [ms_st, List.range_add, List.map_append, ih, List.range_succ, List.flatMap_append]
    congr 1
    rw [List.map_map, List.flatMap_singleton]
    apply List.map_congr_left
    intro i hi
    exact h m (by omega) i (List.mem_range.mp hi)
