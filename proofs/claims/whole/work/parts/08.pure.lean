/-! What a network keeps: rows in the places b .. b + n - 1 only change places; squeezing brings the marked ones to the front. -/
def nw_ls {α : Type} (b n : Nat) (L : Nat → α) : List α := (List.range n).map (fun i => L (b + i))
theorem nw_ls_len {α : Type} (b n : Nat) (L : Nat → α) : (nw_ls b n L).length = n := by simp [nw_ls]
theorem nw_ls_get {α : Type} {b n i : Nat} (L : Nat → α) (h : i < n) : (nw_ls b n L)[i]? = some (L (b + i)) := by
  simp [nw_ls, List.getElem?_map, List.getElem?_range h]
theorem nw_ls_succ {α : Type} (b n : Nat) (L : Nat → α) : nw_ls b (n + 1) L = nw_ls b n L ++ [L (b + n)] := by
  simp [nw_ls, List.range_succ]
theorem nw_ls_congr {α : Type} {b n : Nat} {L L' : Nat → α} (h : ∀ i, i < n → L (b + i) = L' (b + i)) : nw_ls b n L = nw_ls b n L' := by
  unfold nw_ls
  exact List.map_congr_left (fun i hi => h i (List.mem_range.mp hi))
theorem nw_ls_mem {α : Type} {b n : Nat} {L : Nat → α} {x : α} : x ∈ nw_ls b n L ↔ ∃ i, i < n ∧ L (b + i) = x := by
  simp [nw_ls]
def nw_Pm {α : Type} (b n : Nat) (L L' : Nat → α) : Prop := (nw_ls b n L').Perm (nw_ls b n L) ∧ ∀ k, (k < b ∨ b + n ≤ k) → L' k = L k
section NWP
variable {α : Type} {b n : Nat} {L L' L'' : Nat → α}
theorem nw_Pm.rf : nw_Pm b n L L := ⟨List.Perm.refl _, fun _ _ => rfl⟩
theorem nw_Pm.tr (h1 : nw_Pm b n L L') (h2 : nw_Pm b n L' L'') : nw_Pm b n L L'' := ⟨h2.1.trans h1.1, fun k hk => (h2.2 k hk).trans (h1.2 k hk)⟩
theorem nw_Pm.sw {i j : Nat} (hi : i < n) (hj : j < n) : nw_Pm b n L (nw_sw (b + i) (b + j) L) := by
  constructor
  · have hl : (nw_ls b n L).length = n := nw_ls_len b n L
    have hI : i < (nw_ls b n L).length := by omega
    have hJ : j < (nw_ls b n L).length := by omega
    have hgi : (nw_ls b n L)[i] = L (b + i) := by
      have := nw_ls_get (b := b) L hi
      rw [List.getElem?_eq_getElem hI] at this
      exact Option.some.inj this
    have hgj : (nw_ls b n L)[j] = L (b + j) := by
      have := nw_ls_get (b := b) L hj
      rw [List.getElem?_eq_getElem hJ] at this
      exact Option.some.inj this
    have e : nw_ls b n (nw_sw (b + i) (b + j) L) = ((nw_ls b n L).set i (nw_ls b n L)[j]).set j (nw_ls b n L)[i] := by
      apply List.ext_getElem?
      intro k
      rw [hgi, hgj]
      by_cases hk : k < n
      · rw [nw_ls_get _ hk, List.getElem?_set, List.getElem?_set]
        simp only [List.length_set, hl, nw_ls_get _ hk, nw_sw]
        by_cases h1 : k = i
        · subst h1
          by_cases h2 : j = k
          · subst h2; simp [hk]
          · simp [hk, h2]
        · by_cases h2 : k = j
          · subst h2
            simp [hk, h1]
          · have h3 : ¬ j = k := fun z => h2 z.symm
            have h4 : ¬ i = k := fun z => h1 z.symm
            simp [h1, h2, h3, h4]
      · rw [List.getElem?_eq_none (by rw [nw_ls_len]; omega), List.getElem?_eq_none (by simp [hl]; omega)]
    rw [e]
    exact List.set_set_perm hI hJ
  · intro k hk
    simp only [nw_sw]
    rw [if_neg (by omega), if_neg (by omega)]
theorem nw_Pm.cx {lt : α → α → Bool} {i j : Nat} (hi : i < n) (hj : j < n) : nw_Pm b n L (nw_cx lt (b + i) (b + j) L) := by
  unfold nw_cx
  split
  · exact nw_Pm.sw hi hj
  · exact nw_Pm.rf
theorem nw_Pm.ps {lt : α → α → Bool} {p r d : Nat} : ∀ m, m + d ≤ n → nw_Pm b n L (nw_ps lt b p r d m L)
  | 0, _ => nw_Pm.rf
  | m + 1, h => by
    unfold nw_ps
    split
    · refine (nw_Pm.ps (lt := lt) (p := p) (r := r) (d := d) m (by omega)).tr ?_
      rw [Nat.add_assoc]
      exact nw_Pm.cx (by omega) (by omega)
    · exact nw_Pm.ps (d := d) m (by omega)
theorem nw_Pm.in_ {lt : α → α → Bool} {u : Nat} : ∀ (k : Nat) (L : Nat → α), 2 ^ (u + k) < n + 2 ^ u → nw_Pm b n L (nw_in lt b n u k L)
  | 0, L, _ => nw_Pm.rf
  | k + 1, L, h => by
    unfold nw_in
    have h1 : 2 ^ (u + k) ≤ 2 ^ (u + k + 1) := Nat.pow_le_pow_right (by omega) (by omega)
    have h2 : u + (k + 1) = u + k + 1 := by omega
    rw [h2] at h
    exact (nw_Pm.ps _ (by omega)).tr (nw_Pm.in_ k _ (by omega))
theorem nw_Pm.out {lt : α → α → Bool} {t : Nat} (ht : 2 ^ t < n) : ∀ (k : Nat) (L : Nat → α), k ≤ t + 1 → nw_Pm b n L (nw_out lt b n t k L)
  | 0, L, _ => nw_Pm.rf
  | k + 1, L, h => by
    unfold nw_out
    have h1 : 2 ^ k ≤ 2 ^ t := Nat.pow_le_pow_right (by omega) (by omega)
    refine (nw_Pm.ps _ (by omega)).tr ((nw_Pm.in_ _ _ ?_).tr (nw_Pm.out ht k _ (by omega)))
    rw [show k + (t - k) = t by omega]
    have := Nat.two_pow_pos k
    omega
theorem nw_Pm.sq {w : α → Nat} {d : Nat} : ∀ m, m + d ≤ n → nw_Pm b n L (nw_sq w b d m L)
  | 0, _ => nw_Pm.rf
  | m + 1, h => by
    unfold nw_sq
    split
    · exact nw_Pm.sq m (by omega)
    · exact (nw_Pm.sq m (by omega)).tr (nw_Pm.sw (by omega) (by omega))
theorem nw_Pm.sqs {w : α → Nat} : ∀ k, (∀ j, j < k → 2 ^ j ≤ n) → nw_Pm b n L (nw_sqs w b n k L)
  | 0, _ => nw_Pm.rf
  | k + 1, h => by
    unfold nw_sqs
    have := h k (by omega)
    exact (nw_Pm.sqs k (fun j hj => h j (by omega))).tr (nw_Pm.sq _ (by omega))
end NWP
/-! the marked places, in their order -/
def nw_mk (live : Nat → Bool) (n : Nat) : List Nat := (List.range n).filter live
theorem nw_mk_succ (live : Nat → Bool) (n : Nat) : nw_mk live (n + 1) = nw_mk live n ++ (if live n = true then [n] else []) := by
  unfold nw_mk
  rw [List.range_succ, List.filter_append]
  congr 1
  by_cases h : live n = true <;> simp [h]
theorem nw_mk_le (live : Nat → Bool) (n : Nat) : (nw_mk live n).length ≤ n := by
  have := List.length_filter_le live (List.range n)
  rw [List.length_range] at this
  exact this
theorem nw_mk_mem {live : Nat → Bool} {n p : Nat} : p ∈ nw_mk live n ↔ p < n ∧ live p = true := by
  unfold nw_mk
  rw [List.mem_filter, List.mem_range]
/-- the j-th marked place: marked, below n, with j marked ones ahead of it -/
theorem nw_mk_get (live : Nat → Bool) : ∀ (n j : Nat) (p : Nat), (nw_mk live n)[j]? = some p → p < n ∧ live p = true ∧ (nw_mk live p).length = j
  | 0, j, p, h => by simp [nw_mk] at h
  | n + 1, j, p, h => by
    rw [nw_mk_succ] at h
    by_cases hj : j < (nw_mk live n).length
    · rw [List.getElem?_append_left hj] at h
      obtain ⟨h1, h2, h3⟩ := nw_mk_get live n j p h
      exact ⟨by omega, h2, h3⟩
    · rw [List.getElem?_append_right (by omega)] at h
      by_cases hl : live n = true
      · rw [if_pos hl] at h
        have hlt := (List.getElem?_eq_some_iff.mp h).1
        rw [List.length_singleton] at hlt
        have h0 : j - (nw_mk live n).length = 0 := by omega
        rw [h0] at h
        cases h
        exact ⟨by omega, hl, by omega⟩
      · rw [if_neg hl] at h
        simp at h
theorem nw_mk_lt (live : Nat → Bool) {n i j p q : Nat} (hij : i < j) (hi : (nw_mk live n)[i]? = some p) (hj : (nw_mk live n)[j]? = some q) : p < q := by
  have hp : (nw_mk live n).Pairwise (· < ·) := List.Pairwise.filter live List.pairwise_lt_range
  have h1 := (List.getElem?_eq_some_iff.mp hi)
  have h2 := (List.getElem?_eq_some_iff.mp hj)
  have := List.pairwise_iff_getElem.mp hp i j h1.1 h2.1 hij
  rw [h1.2, h2.2] at this
  exact this
/-- squeezing: the row at the j-th marked place comes to place j; behind them all are dead -/
theorem nw_sq_rows {α : Type} {w : α → Nat} {dead : α → Prop} {b n k : Nat} {L : Nat → α} {live : Nat → Bool} (hk : n ≤ 2 ^ k) (hd0 : ∀ x, dead x → w x = 0)
    (hl : ∀ p, p < n → live p = true → w (L (b + p)) = p - (nw_mk live p).length) (hd : ∀ p, p < n → live p = false → dead (L (b + p))) :
    (∀ j p, (nw_mk live n)[j]? = some p → nw_sqs w b n k L (b + j) = L (b + p)) ∧ ∀ i, i < n → (nw_mk live n).length ≤ i → dead (nw_sqs w b n k L (b + i)) := by
  obtain ⟨pos, hpos⟩ : ∃ f : Nat → Nat, ∀ j, f j = (nw_mk live n).getD j 0 := ⟨_, fun _ => rfl⟩
  have hget : ∀ j, j < (nw_mk live n).length → (nw_mk live n)[j]? = some (pos j) := fun j hj => by
    rw [hpos, List.getD_eq_getElem?_getD, List.getElem?_eq_getElem hj]
    rfl
  have hge : ∀ j, j < (nw_mk live n).length → j ≤ pos j := fun j hj => by
    have h3 := (nw_mk_get live n j _ (hget j hj)).2.2
    have := nw_mk_le live (pos j)
    omega
  have hstep : ∀ i j, i ≤ j → j < (nw_mk live n).length → pos i - i ≤ pos j - j := by
    intro i j hij
    induction j with
    | zero => intro _; have : i = 0 := by omega
              subst this; exact Nat.le_refl _
    | succ j ih =>
      intro hj
      by_cases h : i = j + 1
      · subst h; exact Nat.le_refl _
      · have h1 := ih (by omega) (by omega)
        have h2 := nw_mk_lt live (n := n) (i := j) (j := j + 1) (by omega) (hget j (by omega)) (hget (j + 1) hj)
        have h3 := hge j (by omega)
        omega
  have hH : nw_H b n (nw_mk live n).length (fun j => L (b + pos j)) dead (fun j => j + (pos j - j)) L := by
    constructor
    · intro j hj
      have := hge j hj
      show L (b + (j + (pos j - j))) = _
      rw [show j + (pos j - j) = pos j by omega]
    · intro i hi hno
      refine hd i hi ?_
      cases hv : live i with
      | false => rfl
      | true =>
        exfalso
        obtain ⟨j, hj⟩ := List.mem_iff_getElem?.mp (nw_mk_mem.mpr ⟨hi, hv⟩ : i ∈ nw_mk live n)
        have hjl : j < (nw_mk live n).length := (List.getElem?_eq_some_iff.mp hj).1
        have e := (hget j hjl).symm.trans hj
        have e := Option.some.inj e
        have := hge j hjl
        exact hno j hjl (by show j + (pos j - j) = i; omega)
  have hr := nw_squeeze (w := w) (W := fun j => pos j - j) (k := k) (fun j hj => ?_) hd0 hstep (fun j hj => ?_) hk hH
  · constructor
    · intro j p hp
      have hjl : j < (nw_mk live n).length := (List.getElem?_eq_some_iff.mp hp).1
      have e := Option.some.inj ((hget j hjl).symm.trans hp)
      have : nw_sqs w b n k L (b + j) = L (b + pos j) := hr.1 j hjl
      rw [e] at this
      exact this
    · intro i hi hle
      exact hr.2 i hi (fun j hj => by show j ≠ i; omega)
  · have h3 := nw_mk_get live n j _ (hget j hj)
    show w (L (b + pos j)) = pos j - j
    rw [hl _ h3.1 h3.2.1, h3.2.2]
  · have h3 := nw_mk_get live n j _ (hget j hj)
    have := hge j hj
    show j + (pos j - j) < n
    omega
