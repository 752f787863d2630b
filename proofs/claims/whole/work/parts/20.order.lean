/-! The sort puts rows in order and keeps them. -/
theorem rw_lt_iff (f g : rw_T) : rw_lt f g = true ↔ (f 7).toInt < (g 7).toInt ∨ (f 7).toInt = (g 7).toInt ∧ ((f 8).toInt < (g 8).toInt ∨ (f 8).toInt = (g 8).toInt ∧ (f 9).toInt < (g 9).toInt) := by
  have e7 : g 7 = f 7 ↔ (g 7).toInt = (f 7).toInt := Int32.toInt_inj.symm
  have e8 : g 8 = f 8 ↔ (g 8).toInt = (f 8).toInt := Int32.toInt_inj.symm
  unfold rw_lt rw_gt
  by_cases h7 : g 7 = f 7
  · rw [if_pos h7]
    have h7' := e7.mp h7
    by_cases h8 : g 8 = f 8
    · have h8' := e8.mp h8
      rw [if_pos h8, decide_eq_true_iff, Int32.lt_iff_toInt_lt]
      omega
    · have h8' : ¬ (g 8).toInt = (f 8).toInt := fun z => h8 (e8.mpr z)
      rw [if_neg h8, decide_eq_true_iff, Int32.lt_iff_toInt_lt]
      omega
  · have h7' : ¬ (g 7).toInt = (f 7).toInt := fun z => h7 (e7.mpr z)
    rw [if_neg h7, decide_eq_true_iff, Int32.lt_iff_toInt_lt]
    omega
theorem rw_lt_no (f g : rw_T) : rw_lt f g = false ↔ ¬ ((f 7).toInt < (g 7).toInt ∨ (f 7).toInt = (g 7).toInt ∧ ((f 8).toInt < (g 8).toInt ∨ (f 8).toInt = (g 8).toInt ∧ (f 9).toInt < (g 9).toInt)) := by
  rw [← rw_lt_iff, Bool.not_eq_true]
theorem so_sort_sp (b m : Nat) (L : Nat → rw_T) : nw_Pm b m L (so_sort b m L) ∧ ∀ i, i + 1 < m → rw_lt (so_sort b m L (b + (i + 1))) (so_sort b m L (b + i)) = false := by
  unfold so_sort
  by_cases h : m < 2
  · rw [if_pos h]
    exact ⟨nw_Pm.rf, fun i hi => absurd hi (by omega)⟩
  · rw [if_neg h]
    obtain ⟨h1, h2⟩ := so_t_sp (n := m) (by omega)
    refine ⟨nw_Pm.out h1 _ _ (Nat.le_refl _), fun i hi => nw_sorts (fun a => ?_) (fun a b c h1 h2 => ?_) (fun a b c h1 h2 => ?_) h2 L i hi⟩
    · rw [rw_lt_no]; omega
    · rw [rw_lt_iff] at h1 h2 ⊢; omega
    · rw [rw_lt_no] at h1
      rw [rw_lt_iff] at h2 ⊢
      omega
theorem so_sort_le (b m : Nat) (L : Nat → rw_T) : ∀ (k i : Nat), i + k < m → rw_lt (so_sort b m L (b + (i + k))) (so_sort b m L (b + i)) = false
  | 0, i, h => by rw [rw_lt_no]; simp only [Nat.add_zero]; omega
  | k + 1, i, h => by
    have h1 := so_sort_le b m L k i (by omega)
    have h2 := (so_sort_sp b m L).2 (i + k) (by omega)
    rw [rw_lt_no] at h1 h2 ⊢
    rw [show i + (k + 1) = i + k + 1 by omega]
    omega
theorem so_sort_pw (b m : Nat) (L : Nat → rw_T) : (nw_ls b m (so_sort b m L)).Pairwise (fun x y => rw_lt y x = false) := by
  rw [List.pairwise_iff_getElem]
  intro i j hi hj hij
  rw [nw_ls_len] at hi hj
  have e1 := nw_ls_get (b := b) (so_sort b m L) hi
  have e2 := nw_ls_get (b := b) (so_sort b m L) hj
  rw [List.getElem?_eq_getElem (by rw [nw_ls_len]; exact hi)] at e1
  rw [List.getElem?_eq_getElem (by rw [nw_ls_len]; exact hj)] at e2
  rw [Option.some.inj e1, Option.some.inj e2]
  have := so_sort_le b m L (j - i) i (by omega)
  rw [show i + (j - i) = j by omega] at this
  exact this
/-- rows by their columns -/
def bg_le (x y : bg_T) : Prop := x.1.toInt < y.1.toInt ∨ x.1.toInt = y.1.toInt ∧ (x.2.1.toInt < y.2.1.toInt ∨ x.2.1.toInt = y.2.1.toInt ∧ x.2.2.toInt ≤ y.2.2.toInt)
theorem bg_le_anti {x y : bg_T} (h1 : bg_le x y) (h2 : bg_le y x) : x = y := by
  unfold bg_le at h1 h2
  have a : x.1 = y.1 := Int32.toInt_inj.mp (by omega)
  have b : x.2.1 = y.2.1 := Int32.toInt_inj.mp (by omega)
  have c : x.2.2 = y.2.2 := Int32.toInt_inj.mp (by omega)
  obtain ⟨x1, x2, x3⟩ := x
  obtain ⟨y1, y2, y3⟩ := y
  simp only at a b c
  rw [a, b, c]
/-- laid by their columns and sorted: the same rows, in order -/
def so_lays (l : List bg_T) (L : Nat → rw_T) : Nat → rw_T := so_map 0 l.length (fun r f => so_lay1 (l.getD r (0, 0, 0)) f) L
theorem so_lays_at {l : List bg_T} {L : Nat → rw_T} {i : Nat} (h : i < l.length) : so_lays l L i = so_lay1 (l.getD i (0, 0, 0)) (L i) := by
  unfold so_lays so_map
  rw [if_pos (by omega), Nat.sub_zero]
theorem so_lays_c3 (l : List bg_T) (L : Nat → rw_T) : (nw_ls 0 l.length (so_lays l L)).map rw_c3 = l := by
  apply List.ext_getElem?
  intro i
  rw [List.getElem?_map]
  by_cases h : i < l.length
  · rw [nw_ls_get _ h, Nat.zero_add, so_lays_at h, Option.map_some, List.getD_eq_getElem?_getD, List.getElem?_eq_getElem h]
    rfl
  · rw [List.getElem?_eq_none (by rw [nw_ls_len]; omega), List.getElem?_eq_none (by omega)]
    rfl
theorem so_order (l : List bg_T) (L : Nat → rw_T) : ((nw_ls 0 l.length (so_sort 0 l.length (so_lays l L))).map rw_c3).Perm l ∧ ((nw_ls 0 l.length (so_sort 0 l.length (so_lays l L))).map rw_c3).Pairwise bg_le := by
  have hp := (so_sort_sp 0 l.length (so_lays l L)).1.1
  constructor
  · have := hp.map rw_c3
    rw [so_lays_c3] at this
    exact this
  · have hk : ∀ f ∈ nw_ls 0 l.length (so_sort 0 l.length (so_lays l L)), f 7 = f 0 ∧ f 8 = f 1 ∧ f 9 = f 2 := by
      intro f hf
      have hf := hp.mem_iff.mp hf
      obtain ⟨i, hi, rfl⟩ := nw_ls_mem.mp hf
      rw [Nat.zero_add, so_lays_at hi]
      exact ⟨rfl, rfl, rfl⟩
    rw [List.pairwise_map]
    refine (so_sort_pw 0 l.length (so_lays l L)).imp_of_mem (fun hx hy h => ?_)
    obtain ⟨a1, a2, a3⟩ := hk _ hx
    obtain ⟨b1, b2, b3⟩ := hk _ hy
    rw [rw_lt_no, a1, a2, a3, b1, b2, b3] at h
    unfold bg_le rw_c3
    simp only
    omega
