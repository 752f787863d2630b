/-! The join's counts: what the two scans bring to each row, and the number of pairs. -/
def ct2 (M : Nat → rw_T) : Nat → Int32 → Nat × Nat
  | 0, _ => (0, 0)
  | p + 1, k => if M p 3 = k then (if M p 4 = 0 then ((ct2 M p k).1 + 1, (ct2 M p k).2) else ((ct2 M p k).1, (ct2 M p k).2 + 1)) else ct2 M p k
theorem ct2_yes {M : Nat → rw_T} {p : Nat} {k : Int32} (h : M p 3 = k) : ct2 M (p + 1) k = if M p 4 = 0 then ((ct2 M p k).1 + 1, (ct2 M p k).2) else ((ct2 M p k).1, (ct2 M p k).2 + 1) := if_pos h
theorem ct2_no {M : Nat → rw_T} {p : Nat} {k : Int32} (h : ¬ M p 3 = k) : ct2 M (p + 1) k = ct2 M p k := if_neg h
theorem ct2_none {M : Nat → rw_T} {k : Int32} : ∀ {p : Nat}, (∀ q, q < p → ¬ M q 3 = k) → ct2 M p k = (0, 0)
  | 0, _ => rfl
  | p + 1, h => by
    rw [ct2_no (h p (by omega))]
    exact ct2_none (fun q hq => h q (by omega))
theorem ct2_stay {M : Nat → rw_T} {k : Int32} {p : Nat} : ∀ {m : Nat}, p ≤ m → (∀ q, p ≤ q → q < m → ¬ M q 3 = k) → ct2 M m k = ct2 M p k
  | 0, h, _ => by rw [show p = 0 by omega]
  | m + 1, h, hq => by
    by_cases e : p = m + 1
    · rw [e]
    · rw [ct2_no (hq m (by omega) (by omega))]
      exact ct2_stay (by omega) (fun q h1 h2 => hq q h1 (by omega))
section CNT
variable {M : Nat → rw_T} {m : Nat}
theorem cf_ct (hs : ∀ i j, i ≤ j → j < m → (M i 3).toInt ≤ (M j 3).toInt) : ∀ p, p < m → cf_a M (p + 1) = (M p 3, ct2 M (p + 1) (M p 3))
  | 0, h => by
    rw [cf_a_s, cf_s, if_pos (Or.inl rfl), cf_t, ct2_yes rfl]
    split <;> rfl
  | p + 1, h => by
    have ih := cf_ct hs p (by omega)
    rw [cf_a_s, ct2_yes rfl]
    by_cases e : M (p + 1) 3 = M p 3
    · rw [cf_s, if_neg (by rw [ih]; rintro (z | z); omega; exact z e), cf_t, ih, e]
      split <;> rfl
    · have hz : ∀ q, q < p + 1 → ¬ M q 3 = M (p + 1) 3 := fun q hq z => by
        have h1 := hs q p (by omega) (by omega)
        have h2 := hs p (p + 1) (by omega) h
        rw [z] at h1
        exact e (Int32.toInt_inj.mp (by omega))
      rw [cf_s, if_pos (by rw [ih]; exact Or.inr e), cf_t, ct2_none hz]
      split <;> rfl
theorem kl_stay (hs : ∀ i j, i ≤ j → j < m → (M i 3).toInt ≤ (M j 3).toInt) {p : Nat} (hp : p < m) (hl : kl_last M m p = true) : ct2 M m (M p 3) = ct2 M (p + 1) (M p 3) := by
  refine ct2_stay (by omega) (fun q h1 h2 z => ?_)
  rcases of_decide_eq_true hl with hz | hz
  · omega
  · have a1 := hs p (p + 1) (by omega) (by omega)
    have a2 := hs (p + 1) q h1 h2
    rw [z] at a2
    exact hz (Int32.toInt_inj.mp (by omega))
def cn_g (M : Nat → rw_T) (m q : Nat) : Nat := if kl_last M m q = true then (ct2 M m (M q 3)).1 * (ct2 M m (M q 3)).2 else 0
def sg (g : Nat → Nat) : Nat → Nat
  | 0 => 0
  | p + 1 => sg g p + g p
theorem cb_ct {N : Nat → rw_T} (hs : ∀ i j, i ≤ j → j < m → (M i 3).toInt ≤ (M j 3).toInt) (hN : ∀ p, p < m → N p 3 = M p 3 ∧ N p 5 = nI (ct2 M (p + 1) (M p 3)).1 ∧ N p 6 = nI (ct2 M (p + 1) (M p 3)).2) : ∀ j k, k + j + 1 = m → (cb_a N m (m - k)).1 = M k 3 ∧ (cb_a N m (m - k)).2.1 = nI (ct2 M m (M k 3)).1 ∧ (cb_a N m (m - k)).2.2.1 = nI (ct2 M m (M k 3)).2 ∧ ∃ s, (cb_a N m (m - k)).2.2.2 = nI s ∧ s + sg (cn_g M m) k = sg (cn_g M m) m
  | 0, k, h => by
    obtain ⟨a1, a2, a3⟩ := hN k (by omega)
    have hl : kl_last M m k = true := decide_eq_true (Or.inl (by omega))
    rw [cb_new (by omega) (Or.inl (by omega)), show m - (k + 1) = 0 by omega]
    have e := kl_stay hs (by omega) hl
    refine ⟨a1, by rw [e]; exact a2, by rw [e]; exact a3, (ct2 M m (M k 3)).1 * (ct2 M m (M k 3)).2, ?_, ?_⟩
    · show (0 : Int32) + N k 5 * N k 6 = _
      rw [a2, a3, pk_mul, e]
      exact Int32.zero_add _
    · have : sg (cn_g M m) m = sg (cn_g M m) (k + 1) := by rw [show m = k + 1 by omega]
      rw [this, sg, cn_g, if_pos hl]
      omega
  | j + 1, k, h => by
    obtain ⟨i1, i2, i3, s, i4, i5⟩ := cb_ct hs hN j (k + 1) (by omega)
    obtain ⟨a1, a2, a3⟩ := hN k (by omega)
    rw [sg] at i5
    by_cases e : M k 3 = M (k + 1) 3
    · have hl : kl_last M m k = false := decide_eq_false (by rintro (z | z); omega; exact z e)
      rw [cb_old (by omega) (by rw [i1, a1]; rintro (z | z); omega; exact z e)]
      refine ⟨by rw [i1, e], by rw [i2, e], by rw [i3, e], s, i4, ?_⟩
      rw [cn_g, if_neg (by rw [hl]; decide)] at i5
      omega
    · have hl : kl_last M m k = true := decide_eq_true (Or.inr e)
      have e2 := kl_stay hs (by omega) hl
      rw [cb_new (by omega) (Or.inr (by rw [i1, a1]; exact e))]
      refine ⟨a1, by rw [e2]; exact a2, by rw [e2]; exact a3, s + (ct2 M m (M k 3)).1 * (ct2 M m (M k 3)).2, ?_, ?_⟩
      · show (cb_a N m (m - (k + 1))).2.2.2 + N k 5 * N k 6 = _
        rw [i4, a2, a3, pk_mul, e2, nI_add]
      · rw [cn_g, if_pos hl] at i5
        omega
/-- pairs by groups, pairs by left rows -/
def cn_v (M : Nat → rw_T) (m q : Nat) : Nat := if M q 4 = 0 then (ct2 M m (M q 3)).2 else 0
theorem cn_uv (hs : ∀ i j, i ≤ j → j < m → (M i 3).toInt ≤ (M j 3).toInt) : ∀ p, p < m → sg (cn_v M m) (p + 1) = sg (cn_g M m) (p + 1) + (if kl_last M m p = true then 0 else (ct2 M (p + 1) (M p 3)).1 * (ct2 M m (M p 3)).2) := by
  have step : ∀ p, p < m → ∀ a, (ct2 M (p + 1) (M p 3)).1 = a + (if M p 4 = 0 then 1 else 0) → ∀ u, u + cn_v M m p + a * (ct2 M m (M p 3)).2 = u + cn_g M m p + (if kl_last M m p = true then 0 else (ct2 M (p + 1) (M p 3)).1 * (ct2 M m (M p 3)).2) := by
    intro p hp a ha u
    have e1 : cn_v M m p + a * (ct2 M m (M p 3)).2 = (ct2 M (p + 1) (M p 3)).1 * (ct2 M m (M p 3)).2 := by
      rw [ha, cn_v]
      by_cases h : M p 4 = 0
      · rw [if_pos h, if_pos h, Nat.add_mul, Nat.one_mul]; omega
      · rw [if_neg h, if_neg h, Nat.add_zero]; omega
    rw [Nat.add_assoc, e1, cn_g]
    by_cases hl : kl_last M m p = true
    · rw [if_pos hl, if_pos hl, kl_stay hs hp hl]
      omega
    · rw [if_neg hl, if_neg hl]
      omega
  intro p
  induction p with
  | zero =>
    intro hp
    have := step 0 hp 0 (by rw [ct2_yes rfl]; split <;> rfl) 0
    rw [sg, sg, sg, sg]
    simpa using this
  | succ p ih =>
    intro hp
    have ih := ih (by omega)
    have s1 : sg (cn_v M m) (p + 1 + 1) = sg (cn_v M m) (p + 1) + cn_v M m (p + 1) := rfl
    have s2 : sg (cn_g M m) (p + 1 + 1) = sg (cn_g M m) (p + 1) + cn_g M m (p + 1) := rfl
    rw [s1, s2, ih]
    by_cases e : M (p + 1) 3 = M p 3
    · have hl : ¬ kl_last M m p = true := fun z => by rcases of_decide_eq_true z with z | z; omega; exact z e.symm
      rw [if_neg hl]
      have := step (p + 1) hp (ct2 M (p + 1) (M p 3)).1 (by rw [ct2_yes rfl, e]; split <;> rfl) (sg (cn_g M m) (p + 1))
      rw [e] at this ⊢
      omega
    · have hl : kl_last M m p = true := decide_eq_true (Or.inr (fun z => e z.symm))
      rw [if_pos hl]
      have hz : ∀ q, q < p + 1 → ¬ M q 3 = M (p + 1) 3 := fun q hq z => by
        have h1 := hs q p (by omega) (by omega)
        have h2 := hs p (p + 1) (by omega) hp
        rw [z] at h1
        exact e (Int32.toInt_inj.mp (by omega))
      have := step (p + 1) hp 0 (by rw [ct2_yes rfl, ct2_none hz]; split <;> rfl) (sg (cn_g M m) (p + 1))
      simpa using this
theorem cn_pairs (hs : ∀ i j, i ≤ j → j < m → (M i 3).toInt ≤ (M j 3).toInt) : sg (cn_v M m) m = sg (cn_g M m) m := by
  cases m with
  | zero => rfl
  | succ k =>
    have := cn_uv hs k (by omega)
    have hl : kl_last M (k + 1) k = true := decide_eq_true (Or.inl rfl)
    rw [if_pos hl, Nat.add_zero] at this
    exact this
end CNT
