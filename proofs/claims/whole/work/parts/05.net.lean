/-! Networks over rows by places. The sort is Batcher's merge exchange for any n; its proof: 0-1 principle, then for each kind of places modulo p the numbers of zeros among its even and odd members. -/
def nw_sw {α : Type} (i j : Nat) (L : Nat → α) : Nat → α := fun k => if k = i then L j else if k = j then L i else L k
def nw_cx {α : Type} (lt : α → α → Bool) (i j : Nat) (L : Nat → α) : Nat → α := if lt (L j) (L i) = true then nw_sw i j L else L
/-- the first m steps of a pass: (i, i + d) for i below m with (i and p) = r -/
def nw_ps {α : Type} (lt : α → α → Bool) (b p r d : Nat) : Nat → (Nat → α) → (Nat → α)
  | 0, L => L
  | m + 1, L => if m &&& p = r then nw_cx lt (b + m) (b + m + d) (nw_ps lt b p r d m L) else nw_ps lt b p r d m L
/-- behind the first pass of p = 2^u: q = 2^(u+k), .., 2^(u+1) -/
def nw_in {α : Type} (lt : α → α → Bool) (b n u : Nat) : Nat → (Nat → α) → (Nat → α)
  | 0, L => L
  | k + 1, L => nw_in lt b n u k (nw_ps lt b (2 ^ u) (2 ^ u) (2 ^ (u + k + 1) - 2 ^ u) (n - (2 ^ (u + k + 1) - 2 ^ u)) L)
/-- p = 2^(k-1), .., 1, with 2^t the greatest -/
def nw_out {α : Type} (lt : α → α → Bool) (b n t : Nat) : Nat → (Nat → α) → (Nat → α)
  | 0, L => L
  | k + 1, L => nw_out lt b n t k (nw_in lt b n k (t - k) (nw_ps lt b (2 ^ k) 0 (2 ^ k) (n - 2 ^ k) L))
def nw_bl (a b : Bool) : Bool := !a && b
def nw_im {α : Type} (g : α → Bool) (L : Nat → α) : Nat → Bool := fun k => g (L k)
section NWM
variable {α : Type} {lt : α → α → Bool} {g : α → Bool}
theorem nw_cx_map (h1 : ∀ a b, lt a b = true → g a = true → g b = true) (h2 : ∀ a b, lt a b = false → g b = true → g a = true) (i j : Nat) (L : Nat → α) : nw_im g (nw_cx lt i j L) = nw_cx nw_bl i j (nw_im g L) := by
  funext k
  unfold nw_cx nw_im
  cases hl : lt (L j) (L i) with
  | true =>
    have a1 := h1 _ _ hl
    cases hi : g (L i) <;> cases hj : g (L j)
    · simp [nw_bl, nw_sw, hi, hj]; split <;> simp_all; split <;> simp_all
    · rw [hj] at a1; rw [hi] at a1; simp at a1
    · simp [nw_bl, nw_sw, hi, hj]; split <;> simp_all; split <;> simp_all
    · simp [nw_bl, nw_sw, hi, hj]; split <;> simp_all; split <;> simp_all
  | false =>
    have a2 := h2 _ _ hl
    cases hi : g (L i) <;> cases hj : g (L j)
    · simp [nw_bl, hi, hj]
    · simp [nw_bl, hi, hj]
    · rw [hi, hj] at a2; simp at a2
    · simp [nw_bl, hi, hj]
theorem nw_ps_map (h1 : ∀ a b, lt a b = true → g a = true → g b = true) (h2 : ∀ a b, lt a b = false → g b = true → g a = true) (b p r d m : Nat) (L : Nat → α) : nw_im g (nw_ps lt b p r d m L) = nw_ps nw_bl b p r d m (nw_im g L) := by
  induction m with
  | zero => rfl
  | succ m ih =>
    simp only [nw_ps]
    split
    · rw [nw_cx_map h1 h2, ih]
    · exact ih
theorem nw_in_map (h1 : ∀ a b, lt a b = true → g a = true → g b = true) (h2 : ∀ a b, lt a b = false → g b = true → g a = true) (b n u k : Nat) (L : Nat → α) : nw_im g (nw_in lt b n u k L) = nw_in nw_bl b n u k (nw_im g L) := by
  induction k generalizing L with
  | zero => rfl
  | succ k ih =>
    simp only [nw_in]
    rw [ih, nw_ps_map h1 h2]
theorem nw_out_map (h1 : ∀ a b, lt a b = true → g a = true → g b = true) (h2 : ∀ a b, lt a b = false → g b = true → g a = true) (b n t k : Nat) (L : Nat → α) : nw_im g (nw_out lt b n t k L) = nw_out nw_bl b n t k (nw_im g L) := by
  induction k generalizing L with
  | zero => rfl
  | succ k ih =>
    simp only [nw_out]
    rw [ih, nw_in_map h1 h2, nw_ps_map h1 h2]
end NWM
/-- a pass over zeros and ones, whose pairs are apart: each pair is put in order, nothing else changes -/
theorem nw_ps_b (b p r d : Nat) (hdis : ∀ i j, i &&& p = r → j &&& p = r → i + d ≠ j) (Z : Nat → Bool) (m : Nat) :
    (∀ i, i < m → i &&& p = r → nw_ps nw_bl b p r d m Z (b + i) = (Z (b + i) && Z (b + i + d)) ∧ nw_ps nw_bl b p r d m Z (b + i + d) = (Z (b + i) || Z (b + i + d))) ∧
    (∀ k, (∀ i, i < m → i &&& p = r → k ≠ b + i ∧ k ≠ b + i + d) → nw_ps nw_bl b p r d m Z k = Z k) := by
  induction m with
  | zero => exact ⟨fun i h => absurd h (Nat.not_lt_zero i), fun k _ => rfl⟩
  | succ m ih =>
    obtain ⟨ih1, ih2⟩ := ih
    by_cases hm : m &&& p = r
    · have e : nw_ps nw_bl b p r d (m + 1) Z = nw_cx nw_bl (b + m) (b + m + d) (nw_ps nw_bl b p r d m Z) := by simp only [nw_ps]; rw [if_pos hm]
      have f1 : nw_ps nw_bl b p r d m Z (b + m) = Z (b + m) := ih2 _ (fun i hi hr => ⟨by omega, by have := hdis i m hr hm; omega⟩)
      have f2 : nw_ps nw_bl b p r d m Z (b + m + d) = Z (b + m + d) := ih2 _ (fun i hi hr => ⟨by have := hdis m i hm hr; omega, by omega⟩)
      have hd0 : d ≠ 0 := fun h0 => hdis m m hm hm (by omega)
      have c1 : nw_cx nw_bl (b + m) (b + m + d) (nw_ps nw_bl b p r d m Z) (b + m) = (Z (b + m) && Z (b + m + d)) := by
        unfold nw_cx
        rw [f1, f2]
        cases h1 : Z (b + m) <;> cases h2 : Z (b + m + d) <;> simp [nw_bl, nw_sw, f1, f2, h1, h2]
      have c2 : nw_cx nw_bl (b + m) (b + m + d) (nw_ps nw_bl b p r d m Z) (b + m + d) = (Z (b + m) || Z (b + m + d)) := by
        unfold nw_cx
        rw [f1, f2]
        cases h1 : Z (b + m) <;> cases h2 : Z (b + m + d) <;> simp [nw_bl, nw_sw, f1, f2, h1, h2, hd0]
      have c3 : ∀ k, k ≠ b + m → k ≠ b + m + d → nw_cx nw_bl (b + m) (b + m + d) (nw_ps nw_bl b p r d m Z) k = nw_ps nw_bl b p r d m Z k := by
        intro k hk1 hk2
        unfold nw_cx
        split
        · simp [nw_sw, hk1, hk2]
        · rfl
      rw [e]
      refine ⟨fun i hi hr => ?_, fun k hk => ?_⟩
      · by_cases him : i = m
        · subst him
          exact ⟨c1, c2⟩
        · have hi' : i < m := by omega
          have g1 := hdis i m hr hm
          have g2 := hdis m i hm hr
          rw [c3 (b + i) (by omega) (by omega), c3 (b + i + d) (by omega) (by omega)]
          exact ih1 i hi' hr
      · have hkm := hk m (Nat.lt_succ_self m) hm
        rw [c3 k hkm.1 hkm.2]
        exact ih2 k (fun i hi hr => hk i (by omega) hr)
    · have e : nw_ps nw_bl b p r d (m + 1) Z = nw_ps nw_bl b p r d m Z := by simp only [nw_ps]; rw [if_neg hm]
      rw [e]
      refine ⟨fun i hi hr => ?_, fun k hk => ih2 k (fun i hi hr => hk i (by omega) hr)⟩
      have : i ≠ m := fun h => hm (h ▸ hr)
      exact ih1 i (by omega) hr
/-- zeros of a kind: its evens e, its odds o, where they are (dE, dO); z0 and z1 zeros lead them -/
def nw_Z (dE dO : Nat → Prop) (e o : Nat → Bool) (z0 z1 : Nat) : Prop :=
  (∀ a, dE a → (e a = false ↔ a < z0)) ∧ (∀ a, dO a → (o a = false ↔ a < z1)) ∧ (∀ a, a < z0 → dE a) ∧ (∀ a, a < z1 → dO a)
/-- the first pass: even a against odd a -/
theorem nw_Z_first {dE dO : Nat → Prop} {e o e' o' : Nat → Bool} {z0 z1 : Nat} (hEO : ∀ a, dO a → dE a) (hZ : nw_Z dE dO e o z0 z1)
    (h1 : ∀ a, dO a → e' a = (e a && o a) ∧ o' a = (e a || o a)) (h2 : ∀ a, ¬ dO a → e' a = e a) : nw_Z dE dO e' o' (max z0 z1) (min z0 z1) := by
  obtain ⟨a1, a2, a3, a4⟩ := hZ
  refine ⟨fun a ha => ?_, fun a ha => ?_, fun a ha => ?_, fun a ha => ?_⟩
  · by_cases hO : dO a
    · have q1 := a1 a ha
      have q2 := a2 a hO
      rw [(h1 a hO).1, Bool.and_eq_false_iff, q1, q2]
      omega
    · rw [h2 a hO, a1 a ha]
      have : ¬ a < z1 := fun q => hO (a4 a q)
      omega
  · have q1 := a1 a (hEO a ha)
    have q2 := a2 a ha
    rw [(h1 a ha).2, Bool.or_eq_false_iff, q1, q2]
    omega
  · by_cases h : a < z0
    · exact a3 a h
    · exact hEO a (a4 a (by omega))
  · exact a4 a (by omega)
/-- a later pass: odd a against even a + w -/
theorem nw_Z_next {dE dO : Nat → Prop} {e o e' o' : Nat → Bool} {z0 z1 w : Nat} (hw : 0 < w) (hE : ∀ a, dE (a + 1) → dO a) (hdn : ∀ a b, a ≤ b → dE b → dE a) (hdn' : ∀ a b, a ≤ b → dO b → dO a) (hZ : nw_Z dE dO e o z0 z1) (hge : z1 ≤ z0)
    (h1 : ∀ a, dE (a + w) → e' (a + w) = (o a || e (a + w)) ∧ o' a = (o a && e (a + w))) (h2 : ∀ a, a < w → e' a = e a) (h3 : ∀ a, ¬ dE (a + w) → o' a = o a) : nw_Z dE dO e' o' (min z0 (z1 + w)) (max z1 (z0 - w)) := by
  obtain ⟨a1, a2, a3, a4⟩ := hZ
  have hO : ∀ a, dE (a + w) → dO a := fun a h => hE a (hdn _ _ (by omega) h)
  refine ⟨fun a ha => ?_, fun a ha => ?_, fun a ha => ?_, fun a ha => ?_⟩
  · by_cases haw : a < w
    · rw [h2 a haw, a1 a ha]
      omega
    · obtain ⟨x, rfl⟩ : ∃ x, a = x + w := ⟨a - w, by omega⟩
      rw [(h1 x ha).1, Bool.or_eq_false_iff, a2 x (hO x ha), a1 _ ha]
      omega
  · by_cases hx : dE (a + w)
    · rw [(h1 a hx).2, Bool.and_eq_false_iff, a2 a ha, a1 _ hx]
      omega
    · rw [h3 a hx, a2 a ha]
      have : ¬ a + w < z0 := fun q => hx (a3 _ q)
      omega
  · exact a3 a (by omega)
  · by_cases h : a < z1
    · exact a4 a h
    · exact hO a (a3 _ (by omega))
theorem nw_bit (u i : Nat) : i &&& 2 ^ u = if i / 2 ^ u % 2 = 1 then 2 ^ u else 0 := by
  apply Nat.eq_of_testBit_eq
  intro j
  rw [Nat.testBit_and, Nat.testBit_two_pow]
  by_cases hj : u = j
  · subst hj
    rw [Nat.testBit_eq_decide_div_mod_eq (x := i)]
    split
    · rename_i h; simp [h]
    · rename_i h; simp [h]
  · split
    · rw [Nat.testBit_two_pow]; simp [hj]
    · simp [hj]
theorem nw_bit0 {u i : Nat} : i &&& 2 ^ u = 0 ↔ i / 2 ^ u % 2 = 0 := by
  rw [nw_bit]
  have := Nat.two_pow_pos u
  split <;> omega
theorem nw_bit1 {u i : Nat} : i &&& 2 ^ u = 2 ^ u ↔ i / 2 ^ u % 2 = 1 := by
  rw [nw_bit]
  have := Nat.two_pow_pos u
  split <;> omega
/-- the place of a kind's even, odd member -/
theorem nw_ev {u c : Nat} (hc : c < 2 ^ u) (a : Nat) : (c + 2 ^ (u + 1) * a) / 2 ^ u = 2 * a := by
  rw [show c + 2 ^ (u + 1) * a = c + 2 ^ u * (2 * a) by rw [Nat.pow_succ, Nat.mul_assoc], Nat.add_mul_div_left _ _ (Nat.two_pow_pos u), Nat.div_eq_of_lt hc, Nat.zero_add]
theorem nw_od {u c : Nat} (hc : c < 2 ^ u) (a : Nat) : (c + 2 ^ u + 2 ^ (u + 1) * a) / 2 ^ u = 2 * a + 1 := by
  rw [show c + 2 ^ u + 2 ^ (u + 1) * a = c + 2 ^ u * (2 * a + 1) by rw [Nat.pow_succ, Nat.mul_assoc, Nat.mul_add, Nat.mul_one]; omega, Nat.add_mul_div_left _ _ (Nat.two_pow_pos u), Nat.div_eq_of_lt hc, Nat.zero_add]
/-- kind c, of the places b + .. below n, of p = 2^u: its members are in Z as z0 and z1 say -/
def nw_K (b n u : Nat) (Z : Nat → Bool) (c z0 z1 : Nat) : Prop :=
  nw_Z (fun a => c + 2 ^ (u + 1) * a < n) (fun a => c + 2 ^ u + 2 ^ (u + 1) * a < n) (fun a => Z (b + (c + 2 ^ (u + 1) * a))) (fun a => Z (b + (c + 2 ^ u + 2 ^ (u + 1) * a))) z0 z1
theorem nw_dis0 (u : Nat) : ∀ i j, i &&& 2 ^ u = 0 → j &&& 2 ^ u = 0 → i + 2 ^ u ≠ j := by
  intro i j hi hj h
  rw [nw_bit0] at hi hj
  rw [← h, Nat.add_div_right _ (Nat.two_pow_pos u)] at hj
  omega
theorem nw_dis1 (u k : Nat) : ∀ i j, i &&& 2 ^ u = 2 ^ u → j &&& 2 ^ u = 2 ^ u → i + (2 ^ (u + k + 1) - 2 ^ u) ≠ j := by
  intro i j hi hj h
  rw [nw_bit1] at hi hj
  have hP := Nat.two_pow_pos u
  have e : 2 ^ (u + k + 1) = 2 ^ u * (2 * 2 ^ k) := by rw [show u + k + 1 = u + (k + 1) by omega, Nat.pow_add, Nat.pow_succ, Nat.mul_comm (2 ^ k) 2]
  have hk := Nat.two_pow_pos k
  have hle : 2 ^ u ≤ 2 ^ u * (2 * 2 ^ k) := Nat.le_mul_of_pos_right _ (by omega)
  have hj2 : j + 2 ^ u = i + 2 ^ u * (2 * 2 ^ k) := by rw [← h, e]; omega
  have h1 : (j + 2 ^ u) / 2 ^ u = j / 2 ^ u + 1 := Nat.add_div_right _ hP
  have h2 : (i + 2 ^ u * (2 * 2 ^ k)) / 2 ^ u = i / 2 ^ u + 2 * 2 ^ k := Nat.add_mul_div_left _ _ hP
  rw [hj2, h2] at h1
  omega
/-- zeros lead: their number -/
theorem nw_count {dE : Nat → Prop} {e : Nat → Bool} {N : Nat} (hN : ¬ dE N) (hdn : ∀ a b, a ≤ b → dE b → dE a) (hup : ∀ a, dE (a + 1) → e a = true → e (a + 1) = true) : ∃ z, (∀ a, dE a → (e a = false ↔ a < z)) ∧ ∀ a, a < z → dE a := by
  obtain ⟨z, hz, hl⟩ := pk_least (fun k => ¬ (dE k ∧ e k = false)) ⟨N, fun h => hN h.1⟩
  have hlow : ∀ a, a < z → dE a ∧ e a = false := fun a ha => Classical.not_not.mp (hl a ha)
  refine ⟨z, fun a ha => ⟨fun h => ?_, fun h => (hlow a h).2⟩, fun a ha => (hlow a ha).1⟩
  apply Nat.lt_of_not_le
  intro hza
  have ez : e z = true := by
    cases h1 : e z with
    | true => rfl
    | false => exact absurd ⟨hdn z a hza ha, h1⟩ hz
  have up : ∀ x, z + x ≤ a → e (z + x) = true := by
    intro x
    induction x with
    | zero => intro _; exact ez
    | succ x ih => intro hx; exact hup (z + x) (hdn _ a hx ha) (ih (by omega))
  have := up (a - z) (by omega)
  rw [show z + (a - z) = a by omega, h] at this
  cases this
def nw_So (b n u : Nat) (Z : Nat → Bool) : Prop := ∀ i, i + 2 ^ u < n → Z (b + i) = true → Z (b + (i + 2 ^ u)) = true
theorem nw_K_of {b n u c : Nat} {Z : Nat → Bool} (hS : nw_So b n (u + 1) Z) : ∃ z0 z1, nw_K b n u Z c z0 z1 := by
  have hM := Nat.two_pow_pos (u + 1)
  have hbig : ∀ x, n ≤ x + 2 ^ (u + 1) * n := fun x => Nat.le_trans (Nat.le_mul_of_pos_left n hM) (Nat.le_add_left _ _)
  obtain ⟨z0, p1, p2⟩ := nw_count (dE := fun a => c + 2 ^ (u + 1) * a < n) (e := fun a => Z (b + (c + 2 ^ (u + 1) * a))) (N := n) (by have := hbig c; omega) (fun a a' h h' => by have := Nat.mul_le_mul_left (2 ^ (u + 1)) h; omega) (fun a h1 h2 => by
    have := hS (c + 2 ^ (u + 1) * a) (by rw [Nat.mul_succ] at h1; omega) h2
    have e : c + 2 ^ (u + 1) * (a + 1) = c + 2 ^ (u + 1) * a + 2 ^ (u + 1) := by rw [Nat.mul_succ]; omega
    show Z (b + (c + 2 ^ (u + 1) * (a + 1))) = true
    rw [e]; exact this)
  obtain ⟨z1, p3, p4⟩ := nw_count (dE := fun a => c + 2 ^ u + 2 ^ (u + 1) * a < n) (e := fun a => Z (b + (c + 2 ^ u + 2 ^ (u + 1) * a))) (N := n) (by have := hbig (c + 2 ^ u); omega) (fun a a' h h' => by have := Nat.mul_le_mul_left (2 ^ (u + 1)) h; omega) (fun a h1 h2 => by
    have := hS (c + 2 ^ u + 2 ^ (u + 1) * a) (by rw [Nat.mul_succ] at h1; omega) h2
    have e : c + 2 ^ u + 2 ^ (u + 1) * (a + 1) = c + 2 ^ u + 2 ^ (u + 1) * a + 2 ^ (u + 1) := by rw [Nat.mul_succ]; omega
    show Z (b + (c + 2 ^ u + 2 ^ (u + 1) * (a + 1))) = true
    rw [e]; exact this)
  exact ⟨z0, z1, p1, p3, p2, p4⟩
theorem nw_M2 (u : Nat) : 2 ^ (u + 1) = 2 ^ u + 2 ^ u := by rw [Nat.pow_succ]; omega
theorem nw_K_first {b n u c z0 z1 : Nat} {Z : Nat → Bool} (hc : c < 2 ^ u) (h : nw_K b n u Z c z0 z1) : nw_K b n u (nw_ps nw_bl b (2 ^ u) 0 (2 ^ u) (n - 2 ^ u) Z) c (max z0 z1) (min z0 z1) := by
  have hp := nw_ps_b b (2 ^ u) 0 (2 ^ u) (nw_dis0 u) Z (n - 2 ^ u)
  have hM := nw_M2 u
  refine nw_Z_first (fun a h => by omega) h (fun a ha => ?_) (fun a ha => ?_)
  · have q := hp.1 (c + 2 ^ (u + 1) * a) (by omega) (nw_bit0.mpr (by rw [nw_ev hc]; omega))
    have e1 : b + (c + 2 ^ u + 2 ^ (u + 1) * a) = b + (c + 2 ^ (u + 1) * a) + 2 ^ u := by omega
    show _ ∧ _
    rw [e1]
    exact q
  · refine hp.2 _ (fun i hi hr => ⟨fun h0 => ha (by omega), fun h0 => ?_⟩)
    exact nw_dis0 u i (c + 2 ^ (u + 1) * a) hr (nw_bit0.mpr (by rw [nw_ev hc]; omega)) (by omega)
theorem nw_K_next {b n u k c z0 z1 : Nat} {Z : Nat → Bool} (hc : c < 2 ^ u) (h : nw_K b n u Z c z0 z1) (hge : z1 ≤ z0) : nw_K b n u (nw_ps nw_bl b (2 ^ u) (2 ^ u) (2 ^ (u + k + 1) - 2 ^ u) (n - (2 ^ (u + k + 1) - 2 ^ u)) Z) c (min z0 (z1 + 2 ^ k)) (max z1 (z0 - 2 ^ k)) := by
  have hp := nw_ps_b b (2 ^ u) (2 ^ u) (2 ^ (u + k + 1) - 2 ^ u) (nw_dis1 u k) Z (n - (2 ^ (u + k + 1) - 2 ^ u))
  have hM := nw_M2 u
  have hk := Nat.two_pow_pos k
  have hP := Nat.two_pow_pos u
  have eq1 : 2 ^ (u + k + 1) = 2 ^ (u + 1) * 2 ^ k := by rw [show u + k + 1 = u + 1 + k by omega, Nat.pow_add]
  have hle : 2 ^ (u + 1) ≤ 2 ^ (u + 1) * 2 ^ k := Nat.le_mul_of_pos_right _ hk
  have hmul : ∀ a, 2 ^ (u + 1) * (a + 2 ^ k) = 2 ^ (u + 1) * a + 2 ^ (u + 1) * 2 ^ k := fun a => Nat.mul_add _ _ _
  refine nw_Z_next hk (fun a h => by have e : 2 ^ (u + 1) * (a + 1) = 2 ^ (u + 1) * a + 2 ^ (u + 1) := Nat.mul_succ _ _; omega) (fun a a' h h' => by have := Nat.mul_le_mul_left (2 ^ (u + 1)) h; omega) (fun a a' h h' => by have := Nat.mul_le_mul_left (2 ^ (u + 1)) h; omega) h hge (fun a ha => ?_) (fun a ha => ?_) (fun a ha => ?_)
  · have q := hp.1 (c + 2 ^ u + 2 ^ (u + 1) * a) (by have := hmul a; omega) (nw_bit1.mpr (by rw [nw_od hc]; omega))
    have e1 : b + (c + 2 ^ (u + 1) * (a + 2 ^ k)) = b + (c + 2 ^ u + 2 ^ (u + 1) * a) + (2 ^ (u + k + 1) - 2 ^ u) := by have := hmul a; omega
    show _ ∧ _
    rw [e1]
    exact ⟨q.2, q.1⟩
  · refine hp.2 _ (fun i hi hr => ⟨fun h0 => ?_, fun h0 => ?_⟩)
    · rw [nw_bit1] at hr
      have : i = c + 2 ^ (u + 1) * a := by omega
      rw [this, nw_ev hc] at hr
      omega
    · have h1 : 2 ^ (u + 1) * (a + 1) ≤ 2 ^ (u + 1) * 2 ^ k := Nat.mul_le_mul_left _ ha
      rw [Nat.mul_succ] at h1
      omega
  · refine hp.2 _ (fun i hi hr => ⟨fun h0 => ha (by have := hmul a; omega), fun h0 => ?_⟩)
    exact nw_dis1 u k i (c + 2 ^ u + 2 ^ (u + 1) * a) hr (nw_bit1.mpr (by rw [nw_od hc]; omega)) (by omega)
theorem nw_in_K {b n u c : Nat} (hc : c < 2 ^ u) : ∀ (k z0 z1 : Nat) (Z : Nat → Bool), nw_K b n u Z c z0 z1 → z1 ≤ z0 → z0 ≤ z1 + 2 ^ k → ∃ y0 y1, nw_K b n u (nw_in nw_bl b n u k Z) c y0 y1 ∧ y1 ≤ y0 ∧ y0 ≤ y1 + 1
  | 0, z0, z1, Z, h, h1, h2 => ⟨z0, z1, h, h1, by simpa using h2⟩
  | k + 1, z0, z1, Z, h, h1, h2 => by
    have q := nw_K_next (k := k) hc h h1
    have e : 2 ^ (k + 1) = 2 ^ k + 2 ^ k := nw_M2 k
    exact nw_in_K hc k _ _ _ q (by omega) (by omega)
theorem nw_stage {b n u t : Nat} {Z : Nat → Bool} (hn : n ≤ 2 ^ (t + 1)) (hu : u ≤ t) (hS : nw_So b n (u + 1) Z) : nw_So b n u (nw_in nw_bl b n u (t - u) (nw_ps nw_bl b (2 ^ u) 0 (2 ^ u) (n - 2 ^ u) Z)) := by
  have hP := Nat.two_pow_pos u
  have hM := nw_M2 u
  intro i hi ht
  obtain ⟨z0, z1, hK⟩ := nw_K_of (c := i % 2 ^ u) hS
  have hc : i % 2 ^ u < 2 ^ u := Nat.mod_lt _ hP
  have hK1 := nw_K_first hc hK
  have hb : max z0 z1 ≤ 2 ^ (t - u) := by
    apply Nat.le_of_not_lt
    intro hgt
    have h5 : i % 2 ^ u + 2 ^ (u + 1) * 2 ^ (t - u) < n := hK1.2.2.1 _ hgt
    rw [← Nat.pow_add, show u + 1 + (t - u) = t + 1 by omega] at h5
    omega
  obtain ⟨y0, y1, hY, g1, g2⟩ := nw_in_K hc (t - u) _ _ _ hK1 (by omega) (by omega)
  obtain ⟨k1, k2, -, -⟩ := hY
  have hdiv := Nat.div_add_mod i (2 ^ u)
  by_cases hpar : i / 2 ^ u % 2 = 0
  · obtain ⟨a, ha⟩ : ∃ a, i / 2 ^ u = 2 * a := ⟨i / 2 ^ u / 2, by omega⟩
    have e1 : i = i % 2 ^ u + 2 ^ (u + 1) * a := by
      rw [ha, ← Nat.mul_assoc] at hdiv
      rw [Nat.pow_succ]; omega
    have e2 : i + 2 ^ u = i % 2 ^ u + 2 ^ u + 2 ^ (u + 1) * a := by omega
    have q1 := k1 a (by show i % 2 ^ u + 2 ^ (u + 1) * a < n; omega)
    have q2 := k2 a (by show i % 2 ^ u + 2 ^ u + 2 ^ (u + 1) * a < n; omega)
    dsimp only at q1 q2
    rw [← e1, ht] at q1
    rw [← e2] at q2
    cases h9 : nw_in nw_bl b n u (t - u) (nw_ps nw_bl b (2 ^ u) 0 (2 ^ u) (n - 2 ^ u) Z) (b + (i + 2 ^ u)) with
    | true => rfl
    | false =>
      rw [h9] at q2
      simp at q1 q2
      omega
  · obtain ⟨a, ha⟩ : ∃ a, i / 2 ^ u = 2 * a + 1 := ⟨i / 2 ^ u / 2, by omega⟩
    have e1 : i = i % 2 ^ u + 2 ^ u + 2 ^ (u + 1) * a := by
      rw [ha, Nat.mul_add, ← Nat.mul_assoc, Nat.mul_one] at hdiv
      rw [Nat.pow_succ]; omega
    have e2 : i + 2 ^ u = i % 2 ^ u + 2 ^ (u + 1) * (a + 1) := by rw [Nat.mul_succ]; omega
    have q1 := k2 a (by show i % 2 ^ u + 2 ^ u + 2 ^ (u + 1) * a < n; omega)
    have q2 := k1 (a + 1) (by show i % 2 ^ u + 2 ^ (u + 1) * (a + 1) < n; omega)
    dsimp only at q1 q2
    rw [← e1, ht] at q1
    rw [← e2] at q2
    cases h9 : nw_in nw_bl b n u (t - u) (nw_ps nw_bl b (2 ^ u) 0 (2 ^ u) (n - 2 ^ u) Z) (b + (i + 2 ^ u)) with
    | true => rfl
    | false =>
      rw [h9] at q2
      simp at q1 q2
      omega
theorem nw_out_So {b n t : Nat} (hn : n ≤ 2 ^ (t + 1)) : ∀ (k : Nat) (Z : Nat → Bool), k ≤ t + 1 → nw_So b n k Z → nw_So b n 0 (nw_out nw_bl b n t k Z)
  | 0, Z, _, h => h
  | k + 1, Z, hk, h => nw_out_So hn k _ (by omega) (nw_stage hn (by omega) h)
/-- the sort sorts: no row behind its next one -/
theorem nw_sorts {α : Type} {lt : α → α → Bool} (hirr : ∀ a, lt a a = false) (htr : ∀ a b c, lt a b = true → lt b c = true → lt a c = true) (hng : ∀ a b c, lt a b = false → lt c b = true → lt c a = true) {b n t : Nat} (hn : n ≤ 2 ^ (t + 1)) (L : Nat → α) (i : Nat) (hi : i + 1 < n) : lt (nw_out lt b n t (t + 1) L (b + (i + 1))) (nw_out lt b n t (t + 1) L (b + i)) = false := by
  cases h : lt (nw_out lt b n t (t + 1) L (b + (i + 1))) (nw_out lt b n t (t + 1) L (b + i)) with
  | false => rfl
  | true =>
    exfalso
    generalize hy : nw_out lt b n t (t + 1) L (b + (i + 1)) = y at h
    have hm := nw_out_map (lt := lt) (g := fun x => lt y x) (fun a b' h1 h2 => htr y a b' h2 h1) (fun a b' h1 h2 => hng a b' y h1 h2) b n t (t + 1) L
    have hs := nw_out_So (b := b) hn (t + 1) (nw_im (fun x => lt y x) L) (Nat.le_refl _) (fun i hi => absurd hi (by omega))
    rw [← hm] at hs
    have := hs i (by simpa using hi) h
    simp only [nw_im, Nat.pow_zero] at this
    rw [hy, hirr] at this
    cases this
