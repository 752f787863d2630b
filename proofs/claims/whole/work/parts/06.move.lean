/-! Squeeze and spread: rows R 0 .. R (r - 1) move among dead ones. R j lies at pos j. -/
/-- the first m steps of a squeezing pass of distance d: (i - d, i) for i = d, d + 1, .. ; the row at i goes back if its number has the bit -/
def nw_sq {α : Type} (w : α → Nat) (b d : Nat) : Nat → (Nat → α) → (Nat → α)
  | 0, L => L
  | m + 1, L => if w (nw_sq w b d m L (b + (m + d))) &&& d = 0 then nw_sq w b d m L else nw_sw (b + m) (b + (m + d)) (nw_sq w b d m L)
/-- the first k passes, of distances 1, 2, .. -/
def nw_sqs {α : Type} (w : α → Nat) (b n : Nat) : Nat → (Nat → α) → (Nat → α)
  | 0, L => L
  | k + 1, L => nw_sq w b (2 ^ k) (n - 2 ^ k) (nw_sqs w b n k L)
/-- the first m steps of a spreading pass of distance d over n places: (i - d, i) for i = n - 1, n - 2, ..; the row at i - d goes forth if its number has the bit -/
def nw_sd {α : Type} (w : α → Nat) (b n d : Nat) : Nat → (Nat → α) → (Nat → α)
  | 0, L => L
  | m + 1, L => if w (nw_sd w b n d m L (b + (n - 1 - m - d))) &&& d = 0 then nw_sd w b n d m L else nw_sw (b + (n - 1 - m - d)) (b + (n - 1 - m)) (nw_sd w b n d m L)
/-- passes of distances 2^(k-1), .., 1 -/
def nw_sds {α : Type} (w : α → Nat) (b n : Nat) : Nat → (Nat → α) → (Nat → α)
  | 0, L => L
  | k + 1, L => nw_sds w b n k (nw_sd w b n (2 ^ k) (n - 2 ^ k) L)
def nw_H {α : Type} (b N r : Nat) (R : Nat → α) (dead : α → Prop) (pos : Nat → Nat) (L : Nat → α) : Prop :=
  (∀ j, j < r → L (b + pos j) = R j) ∧ ∀ i, i < N → (∀ j, j < r → pos j ≠ i) → dead (L (b + i))
section NWH
variable {α : Type} {b N r : Nat} {R : Nat → α} {dead : α → Prop} {pos pos' : Nat → Nat} {L : Nat → α}
theorem nw_H.to (hH : nw_H b N r R dead pos L) (hp : ∀ j, j < r → pos' j = pos j) : nw_H b N r R dead pos' L :=
  ⟨fun j hj => by rw [hp j hj]; exact hH.1 j hj, fun i hi h => hH.2 i hi (fun j hj => by rw [← hp j hj]; exact h j hj)⟩
theorem nw_sw_l (i j : Nat) (L : Nat → α) : nw_sw i j L i = L j := by simp [nw_sw]
theorem nw_sw_r (i j : Nat) (L : Nat → α) : nw_sw i j L j = L i := by
  unfold nw_sw
  by_cases h : j = i
  · subst h; simp
  · simp [h]
theorem nw_sw_n {i j k : Nat} (L : Nat → α) (h1 : k ≠ i) (h2 : k ≠ j) : nw_sw i j L k = L k := by simp [nw_sw, h1, h2]
/-- the row at x goes to the free place y -/
theorem nw_H.mv (hH : nw_H b N r R dead pos L) {j0 x y : Nat} {L' : Nat → α} (hj : j0 < r) (hx : pos j0 = x) (hxy : x ≠ y) (hyN : y < N) (hy : ∀ j, j < r → pos j ≠ y) (hinj : ∀ i j, i < r → j < r → pos i = pos j → i = j) (hp : ∀ j, j < r → pos' j = if j = j0 then y else pos j) (e1 : L' (b + x) = L (b + y)) (e2 : L' (b + y) = L (b + x)) (e3 : ∀ i, i ≠ x → i ≠ y → L' (b + i) = L (b + i)) : nw_H b N r R dead pos' L' := by
  refine ⟨fun j hjr => ?_, fun i hi h => ?_⟩
  · rw [hp j hjr]
    by_cases h0 : j = j0
    · subst h0
      rw [if_pos rfl, e2, ← hx]
      exact hH.1 j hjr
    · rw [if_neg h0, e3 _ (fun q => h0 (hinj j j0 hjr hj (q.trans hx.symm))) (hy j hjr)]
      exact hH.1 j hjr
  · by_cases hix : i = x
    · subst hix
      rw [e1]
      exact hH.2 y hyN hy
    · have hiy : i ≠ y := fun q => h j0 hj (by rw [hp j0 hj, if_pos rfl, q])
      rw [e3 i hix hiy]
      refine hH.2 i hi (fun j hjr q => ?_)
      by_cases h0 : j = j0
      · subst h0
        exact hix (q.symm.trans hx)
      · exact h j hjr (by rw [hp j hjr, if_neg h0, q])
theorem nw_inj {f : Nat → Nat} {r : Nat} (h : ∀ i j, i < j → j < r → f i < f j) : ∀ i j, i < r → j < r → f i = f j → i = j := by
  intro i j hi hj e
  rcases Nat.lt_trichotomy i j with q | q | q
  · have := h i j q hj; omega
  · exact q
  · have := h j i q hi; omega
theorem nw_add_lt {D i j a c : Nat} (h : i < j) (hq : a ≤ c) : i + D * a < j + D * c := by
  have := Nat.mul_le_mul_left D hq
  omega
/-- one pass of a squeeze: the bit k of each row's way is gone -/
theorem nw_sq_H {w : α → Nat} {W : Nat → Nat} {n k : Nat} (hR : ∀ j, j < r → w (R j) = W j) (hdead : ∀ x, dead x → w x = 0) (hmono : ∀ i j, i ≤ j → j < r → W i ≤ W j) (hN : ∀ j, j < r → j + W j < n) (hH : nw_H b n r R dead (fun j => j + 2 ^ k * (W j / 2 ^ k)) L) : nw_H b n r R dead (fun j => j + 2 ^ (k + 1) * (W j / 2 ^ (k + 1))) (nw_sq w b (2 ^ k) (n - 2 ^ k) L) := by
  have hD := Nat.two_pow_pos k
  have hq : ∀ i j, i < j → j < r → W i / 2 ^ k ≤ W j / 2 ^ k := fun i j hij hj => Nat.div_le_div_right (hmono i j (by omega) hj)
  have hB : ∀ j, 2 ^ (k + 1) * (W j / 2 ^ (k + 1)) = 2 ^ k * (2 * (W j / 2 ^ k / 2)) := fun j => by rw [Nat.div_div_eq_div_mul, Nat.pow_succ, Nat.mul_assoc]
  have hle : ∀ j, 2 ^ k * (2 * (W j / 2 ^ k / 2)) ≤ 2 ^ k * (W j / 2 ^ k) := fun j => Nat.mul_le_mul_left _ (by omega)
  have hWle : ∀ j, 2 ^ k * (W j / 2 ^ k) ≤ W j := fun j => Nat.mul_div_le _ _
  have key : ∀ m, m ≤ n - 2 ^ k → nw_H b n r R dead (fun j => if j + 2 ^ k * (W j / 2 ^ k) < 2 ^ k + m then j + 2 ^ k * (2 * (W j / 2 ^ k / 2)) else j + 2 ^ k * (W j / 2 ^ k)) (nw_sq w b (2 ^ k) m L) := by
    intro m
    induction m with
    | zero =>
      intro _
      refine hH.to (fun j hj => ?_)
      split
      · rename_i h0
        have : W j / 2 ^ k = 0 := by
          apply Nat.eq_zero_of_not_pos
          intro hp
          have := Nat.mul_le_mul_left (2 ^ k) hp
          omega
        rw [this]
      · rfl
    | succ m ih =>
      intro hm
      have ihm := ih (by omega)
      generalize hL1 : nw_sq w b (2 ^ k) m L = L1 at ihm
      have hstep : nw_sq w b (2 ^ k) (m + 1) L = if w (L1 (b + (m + 2 ^ k))) &&& 2 ^ k = 0 then L1 else nw_sw (b + m) (b + (m + 2 ^ k)) L1 := by rw [← hL1]; rfl
      by_cases hex : ∃ j, j < r ∧ j + 2 ^ k * (W j / 2 ^ k) = m + 2 ^ k
      · obtain ⟨j0, hj0, hp0⟩ := hex
        have hrow : L1 (b + (m + 2 ^ k)) = R j0 := by
          have := ihm.1 j0 hj0
          dsimp only at this
          rw [if_neg (by omega), hp0] at this
          exact this
        have hothers : ∀ j, j < r → j ≠ j0 → ¬ (j + 2 ^ k * (W j / 2 ^ k) = m + 2 ^ k) := by
          intro j hj hne he
          rcases Nat.lt_or_gt_of_ne hne with q | q
          · have := nw_add_lt (D := 2 ^ k) q (hq j j0 q hj0); omega
          · have := nw_add_lt (D := 2 ^ k) q (hq j0 j q hj); omega
        rw [hstep, hrow, hR j0 hj0]
        by_cases hbit : W j0 / 2 ^ k % 2 = 0
        · rw [if_pos (nw_bit0.mpr hbit)]
          refine ihm.to (fun j hj => ?_)
          by_cases hjj : j = j0
          · subst hjj
            rw [if_pos (by omega), if_neg (by omega), show 2 * (W j / 2 ^ k / 2) = W j / 2 ^ k by omega]
          · have := hothers j hj hjj
            by_cases hlt : j + 2 ^ k * (W j / 2 ^ k) < 2 ^ k + m
            · rw [if_pos hlt, if_pos (by omega)]
            · rw [if_neg hlt, if_neg (by omega)]
        · rw [if_neg (fun q => hbit (nw_bit0.mp q))]
          have hto : j0 + 2 ^ k * (2 * (W j0 / 2 ^ k / 2)) = m := by
            have e1 : W j0 / 2 ^ k = 2 * (W j0 / 2 ^ k / 2) + 1 := by omega
            have e2 : 2 ^ k * (W j0 / 2 ^ k) = 2 ^ k * (2 * (W j0 / 2 ^ k / 2)) + 2 ^ k := by
              rw [show 2 ^ k * (W j0 / 2 ^ k) = 2 ^ k * (2 * (W j0 / 2 ^ k / 2) + 1) by rw [← e1], Nat.mul_succ]
            omega
          refine ihm.mv (j0 := j0) (x := m + 2 ^ k) (y := m) hj0 (by (try dsimp only); rw [if_neg (by omega), hp0]) (by omega) (by omega) (fun j hj he => ?_) (nw_inj (fun i j hij hj => ?_)) (fun j hj => ?_) (nw_sw_r _ _ _) (nw_sw_l _ _ _) (fun i h1 h2 => nw_sw_n _ (by omega) (by omega))
          · try dsimp only at he
            by_cases hjj : j = j0
            · subst hjj
              rw [if_neg (by omega)] at he
              omega
            · split at he
              · rcases Nat.lt_or_gt_of_ne hjj with q | q
                · have := nw_add_lt (D := 2 ^ k) q (show 2 * (W j / 2 ^ k / 2) ≤ 2 * (W j0 / 2 ^ k / 2) by have := hq j j0 q hj0; omega); omega
                · have := nw_add_lt (D := 2 ^ k) q (show 2 * (W j0 / 2 ^ k / 2) ≤ 2 * (W j / 2 ^ k / 2) by have := hq j0 j q hj; omega); omega
              · omega
          · try dsimp only
            have a1 := nw_add_lt (D := 2 ^ k) hij (hq i j hij hj)
            have a2 := nw_add_lt (D := 2 ^ k) hij (show 2 * (W i / 2 ^ k / 2) ≤ 2 * (W j / 2 ^ k / 2) by have := hq i j hij hj; omega)
            have a3 := hle i
            split <;> split <;> omega
          · try dsimp only
            by_cases hjj : j = j0
            · subst hjj
              rw [if_pos rfl, if_pos (by omega), hto]
            · have := hothers j hj hjj
              rw [if_neg hjj]
              by_cases hlt : j + 2 ^ k * (W j / 2 ^ k) < 2 ^ k + m
              · rw [if_pos hlt, if_pos (by omega)]
              · rw [if_neg hlt, if_neg (by omega)]
      · have hdd : dead (L1 (b + (m + 2 ^ k))) := by
          refine ihm.2 _ (by omega) (fun j hj he => ?_)
          dsimp only at he
          split at he
          · have := hle j; omega
          · exact hex ⟨j, hj, he⟩
        rw [hstep, hdead _ hdd, Nat.zero_and, if_pos rfl]
        refine ihm.to (fun j hj => ?_)
        have : ¬ (j + 2 ^ k * (W j / 2 ^ k) = m + 2 ^ k) := fun q => hex ⟨j, hj, q⟩
        by_cases hlt : j + 2 ^ k * (W j / 2 ^ k) < 2 ^ k + m
        · rw [if_pos hlt, if_pos (by omega)]
        · rw [if_neg hlt, if_neg (by omega)]
  refine (key (n - 2 ^ k) (Nat.le_refl _)).to (fun j hj => ?_)
  have h1 := hN j hj
  have h2 := hWle j
  try dsimp only
  rw [if_pos (by omega), hB]
theorem nw_sqs_H {w : α → Nat} {W : Nat → Nat} {n : Nat} (hR : ∀ j, j < r → w (R j) = W j) (hdead : ∀ x, dead x → w x = 0) (hmono : ∀ i j, i ≤ j → j < r → W i ≤ W j) (hN : ∀ j, j < r → j + W j < n) (hH : nw_H b n r R dead (fun j => j + W j) L) (k : Nat) : nw_H b n r R dead (fun j => j + 2 ^ k * (W j / 2 ^ k)) (nw_sqs w b n k L) := by
  induction k with
  | zero => exact hH.to (fun j _ => by simp)
  | succ k ih => exact nw_sq_H hR hdead hmono hN ih
/-- a squeeze brings R j to place j -/
theorem nw_squeeze {w : α → Nat} {W : Nat → Nat} {n k : Nat} (hR : ∀ j, j < r → w (R j) = W j) (hdead : ∀ x, dead x → w x = 0) (hmono : ∀ i j, i ≤ j → j < r → W i ≤ W j) (hN : ∀ j, j < r → j + W j < n) (hk : n ≤ 2 ^ k) (hH : nw_H b n r R dead (fun j => j + W j) L) : nw_H b n r R dead (fun j => j) (nw_sqs w b n k L) := by
  refine (nw_sqs_H hR hdead hmono hN hH k).to (fun j hj => ?_)
  have := hN j hj
  rw [Nat.div_eq_of_lt (by omega)]
  rfl
/-- one pass of a spread: the bit k of each row's way is done -/
theorem nw_sd_H {w : α → Nat} {W : Nat → Nat} {n k : Nat} (hR : ∀ j, j < r → w (R j) = W j) (hdead : ∀ x, dead x → w x = 0) (hmono : ∀ i j, i ≤ j → j < r → W i ≤ W j) (hN : ∀ j, j < r → j + W j < n) (hH : nw_H b n r R dead (fun j => j + 2 ^ (k + 1) * (W j / 2 ^ (k + 1))) L) : nw_H b n r R dead (fun j => j + 2 ^ k * (W j / 2 ^ k)) (nw_sd w b n (2 ^ k) (n - 2 ^ k) L) := by
  have hD := Nat.two_pow_pos k
  have hq : ∀ i j, i < j → j < r → W i / 2 ^ k ≤ W j / 2 ^ k := fun i j hij hj => Nat.div_le_div_right (hmono i j (by omega) hj)
  have hB : ∀ j, 2 ^ (k + 1) * (W j / 2 ^ (k + 1)) = 2 ^ k * (2 * (W j / 2 ^ k / 2)) := fun j => by rw [Nat.div_div_eq_div_mul, Nat.pow_succ, Nat.mul_assoc]
  have hle : ∀ j, 2 ^ k * (2 * (W j / 2 ^ k / 2)) ≤ 2 ^ k * (W j / 2 ^ k) := fun j => Nat.mul_le_mul_left _ (by omega)
  have hWle : ∀ j, 2 ^ k * (W j / 2 ^ k) ≤ W j := fun j => Nat.mul_div_le _ _
  have hodd : ∀ j, ¬ W j / 2 ^ k % 2 = 0 → 2 ^ k * (W j / 2 ^ k) = 2 ^ k * (2 * (W j / 2 ^ k / 2)) + 2 ^ k := by
    intro j hj
    have e1 : W j / 2 ^ k = 2 * (W j / 2 ^ k / 2) + 1 := by omega
    rw [show 2 ^ k * (W j / 2 ^ k) = 2 ^ k * (2 * (W j / 2 ^ k / 2) + 1) by rw [← e1], Nat.mul_succ]
  have heven : ∀ j, W j / 2 ^ k % 2 = 0 → 2 * (W j / 2 ^ k / 2) = W j / 2 ^ k := fun j hj => by omega
  have key : ∀ m, m ≤ n - 2 ^ k → nw_H b n r R dead (fun j => if n ≤ j + 2 ^ k * (2 * (W j / 2 ^ k / 2)) + 2 ^ k + m then j + 2 ^ k * (W j / 2 ^ k) else j + 2 ^ k * (2 * (W j / 2 ^ k / 2))) (nw_sd w b n (2 ^ k) m L) := by
    intro m
    induction m with
    | zero =>
      intro _
      refine hH.to (fun j hj => ?_)
      rw [hB]
      split
      · rename_i h0
        by_cases hbit : W j / 2 ^ k % 2 = 0
        · rw [heven j hbit]
        · have := hodd j hbit
          have := hWle j
          have := hN j hj
          omega
      · rfl
    | succ m ih =>
      intro hm
      have ihm := ih (by omega)
      generalize hL1 : nw_sd w b n (2 ^ k) m L = L1 at ihm
      have hstep : nw_sd w b n (2 ^ k) (m + 1) L = if w (L1 (b + (n - 1 - m - 2 ^ k))) &&& 2 ^ k = 0 then L1 else nw_sw (b + (n - 1 - m - 2 ^ k)) (b + (n - 1 - m)) L1 := by rw [← hL1]; rfl
      by_cases hex : ∃ j, j < r ∧ j + 2 ^ k * (2 * (W j / 2 ^ k / 2)) = n - 1 - m - 2 ^ k
      · obtain ⟨j0, hj0, hp0⟩ := hex
        have hrow : L1 (b + (n - 1 - m - 2 ^ k)) = R j0 := by
          have := ihm.1 j0 hj0
          dsimp only at this
          rw [if_neg (by omega), hp0] at this
          exact this
        have hothers : ∀ j, j < r → j ≠ j0 → ¬ (j + 2 ^ k * (2 * (W j / 2 ^ k / 2)) = n - 1 - m - 2 ^ k) := by
          intro j hj hne he
          rcases Nat.lt_or_gt_of_ne hne with q | q
          · have := nw_add_lt (D := 2 ^ k) q (show 2 * (W j / 2 ^ k / 2) ≤ 2 * (W j0 / 2 ^ k / 2) by have := hq j j0 q hj0; omega); omega
          · have := nw_add_lt (D := 2 ^ k) q (show 2 * (W j0 / 2 ^ k / 2) ≤ 2 * (W j / 2 ^ k / 2) by have := hq j0 j q hj; omega); omega
        rw [hstep, hrow, hR j0 hj0]
        by_cases hbit : W j0 / 2 ^ k % 2 = 0
        · rw [if_pos (nw_bit0.mpr hbit)]
          refine ihm.to (fun j hj => ?_)
          by_cases hjj : j = j0
          · subst hjj
            rw [if_pos (by omega), if_neg (by omega), heven j hbit]
          · have := hothers j hj hjj
            by_cases hlt : n ≤ j + 2 ^ k * (2 * (W j / 2 ^ k / 2)) + 2 ^ k + m
            · rw [if_pos hlt, if_pos (by omega)]
            · rw [if_neg hlt, if_neg (by omega)]
        · rw [if_neg (fun q => hbit (nw_bit0.mp q))]
          have ho := hodd j0 hbit
          refine ihm.mv (j0 := j0) (x := n - 1 - m - 2 ^ k) (y := n - 1 - m) hj0 (by (try dsimp only); rw [if_neg (by omega), hp0]) (by omega) (by omega) (fun j hj he => ?_) (nw_inj (fun i j hij hj => ?_)) (fun j hj => ?_) (nw_sw_l _ _ _) (nw_sw_r _ _ _) (fun i h1 h2 => nw_sw_n _ (by omega) (by omega))
          · try dsimp only at he
            by_cases hjj : j = j0
            · subst hjj
              rw [if_neg (by omega)] at he
              omega
            · split at he
              · rcases Nat.lt_or_gt_of_ne hjj with q | q
                · have := nw_add_lt (D := 2 ^ k) q (hq j j0 q hj0); omega
                · have := nw_add_lt (D := 2 ^ k) q (hq j0 j q hj); omega
              · omega
          · try dsimp only
            have a1 := nw_add_lt (D := 2 ^ k) hij (hq i j hij hj)
            have a2 := nw_add_lt (D := 2 ^ k) hij (show 2 * (W i / 2 ^ k / 2) ≤ 2 * (W j / 2 ^ k / 2) by have := hq i j hij hj; omega)
            have a3 := hle j
            split <;> split <;> omega
          · try dsimp only
            by_cases hjj : j = j0
            · subst hjj
              rw [if_pos rfl, if_pos (by omega)]
              omega
            · have := hothers j hj hjj
              rw [if_neg hjj]
              by_cases hlt : n ≤ j + 2 ^ k * (2 * (W j / 2 ^ k / 2)) + 2 ^ k + m
              · rw [if_pos hlt, if_pos (by omega)]
              · rw [if_neg hlt, if_neg (by omega)]
      · have hdd : dead (L1 (b + (n - 1 - m - 2 ^ k))) := by
          refine ihm.2 _ (by omega) (fun j hj he => ?_)
          dsimp only at he
          split at he
          · have := hle j; omega
          · exact hex ⟨j, hj, he⟩
        rw [hstep, hdead _ hdd, Nat.zero_and, if_pos rfl]
        refine ihm.to (fun j hj => ?_)
        have : ¬ (j + 2 ^ k * (2 * (W j / 2 ^ k / 2)) = n - 1 - m - 2 ^ k) := fun q => hex ⟨j, hj, q⟩
        by_cases hlt : n ≤ j + 2 ^ k * (2 * (W j / 2 ^ k / 2)) + 2 ^ k + m
        · rw [if_pos hlt, if_pos (by omega)]
        · rw [if_neg hlt, if_neg (by omega)]
  refine (key (n - 2 ^ k) (Nat.le_refl _)).to (fun j hj => ?_)
  have h1 := hN j hj
  have h2 := hWle j
  try dsimp only
  by_cases hn : 2 ^ k ≤ n
  · rw [if_pos (by omega)]
  · split
    · rfl
    · have hz : W j / 2 ^ k = 0 := Nat.div_eq_of_lt (by omega)
      rw [hz]
/-- a spread brings R j from place j to place j + W j -/
theorem nw_sds_H {w : α → Nat} {W : Nat → Nat} {n : Nat} (hR : ∀ j, j < r → w (R j) = W j) (hdead : ∀ x, dead x → w x = 0) (hmono : ∀ i j, i ≤ j → j < r → W i ≤ W j) (hN : ∀ j, j < r → j + W j < n) : ∀ (k : Nat) (L : Nat → α), nw_H b n r R dead (fun j => j + 2 ^ k * (W j / 2 ^ k)) L → nw_H b n r R dead (fun j => j + W j) (nw_sds w b n k L)
  | 0, L, hH => hH.to (fun j _ => by simp)
  | k + 1, L, hH => nw_sds_H hR hdead hmono hN k _ (nw_sd_H hR hdead hmono hN hH)
theorem nw_spread {w : α → Nat} {W : Nat → Nat} {n k : Nat} (hR : ∀ j, j < r → w (R j) = W j) (hdead : ∀ x, dead x → w x = 0) (hmono : ∀ i j, i ≤ j → j < r → W i ≤ W j) (hN : ∀ j, j < r → j + W j < n) (hk : n ≤ 2 ^ k) (hH : nw_H b n r R dead (fun j => j) L) : nw_H b n r R dead (fun j => j + W j) (nw_sds w b n k L) := by
  refine nw_sds_H hR hdead hmono hN k L (hH.to (fun j hj => ?_))
  have := hN j hj
  rw [Nat.div_eq_of_lt (by omega)]
  rfl
end NWH
