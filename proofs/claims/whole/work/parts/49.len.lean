/-! How long a trace is; the reference's parts and the system's trace. -/
def n_ps (p r : Nat) : Nat → Nat
  | 0 => 0
  | m + 1 => n_ps p r m + (if m &&& p = r then 4 else 0)
theorem l_ps (b p r d m : Nat) : (tr_ps b p r d m).length = n_ps p r m := by
  induction m with
  | zero => rfl
  | succ m ih =>
    rw [n_ps]
    by_cases h : m &&& p = r
    · rw [tr_ps_yes h, if_pos h, List.length_append, ih]; rfl
    · rw [tr_ps_no h, if_neg h, ih]; rfl
def n_in (n u : Nat) : Nat → Nat
  | 0 => 0
  | k + 1 => n_ps (2 ^ u) (2 ^ u) (n - (2 ^ (u + k + 1) - 2 ^ u)) + n_in n u k
def n_out (n t : Nat) : Nat → Nat
  | 0 => 0
  | k + 1 => n_ps (2 ^ k) 0 (n - 2 ^ k) + (n_in n k (t - k) + n_out n t k)
def n_sort (m : Nat) : Nat := if m < 2 then 0 else n_out m (so_t m) (so_t m + 1)
def n_sqs (n : Nat) : Nat → Nat
  | 0 => 0
  | k + 1 => n_sqs n k + 4 * (n - 2 ^ k)
def n_sds (n : Nat) : Nat → Nat
  | 0 => 0
  | k + 1 => 4 * (n - 2 ^ k) + n_sds n k
theorem l_in (b n u k : Nat) : (tr_in b n u k).length = n_in n u k := by
  induction k with
  | zero => rfl
  | succ k ih => rw [tr_in, List.length_append, l_ps, ih]; rfl
theorem l_out (b n t k : Nat) : (tr_out b n t k).length = n_out n t k := by
  induction k with
  | zero => rfl
  | succ k ih => rw [tr_out, List.length_append, List.length_append, l_ps, l_in, ih]; rfl
theorem l_sort (b m : Nat) : (tr_sort b m).length = n_sort m := by
  unfold tr_sort n_sort
  by_cases h : m < 2
  · rw [if_pos h, if_pos h]; rfl
  · rw [if_neg h, if_neg h, l_out]
theorem l_sqs (b n k : Nat) : (tr_sqs b n k).length = n_sqs n k := by
  induction k with
  | zero => rfl
  | succ k ih => rw [tr_sqs, List.length_append, len_sq, ih]; rfl
theorem l_sds (b n k : Nat) : (tr_sds b n k).length = n_sds n k := by
  induction k with
  | zero => rfl
  | succ k ih => rw [tr_sds, List.length_append, len_sd, ih]; rfl
theorem b_sort24 : ∀ m, m < 25 → n_sort m ≤ 508 := by decide +kernel
theorem b_sort36 : ∀ m, m < 37 → n_sort m ≤ 964 := by decide +kernel
theorem b_sqs24 : ∀ m, m < 25 → n_sqs m (so_k m) ≤ 356 := by decide +kernel
theorem b_sqs36 : ∀ m, m < 37 → n_sqs m (so_k m) ≤ 612 := by decide +kernel
theorem b_sds24 : ∀ m, m < 25 → n_sds m (so_t m + 1) ≤ 356 := by decide +kernel
theorem b_sds36 : ∀ m, m < 37 → n_sds m (so_t m + 1) ≤ 612 := by decide +kernel
theorem l_side (b m P : Nat) : (tr_side b m P).length = 2 * m + (n_sqs m (so_k m) + (n_sds (max m P) (so_t (max m P) + 1) + 2 * P)) := by
  unfold tr_side
  rw [List.length_append, List.length_append, List.length_append, len_sc, len_sc, l_sqs, l_sds]
theorem l_join24 {k : Nat} (hk : k ≤ 24) (P : Nat) : (tr_join k P).length ≤ 3356 := by
  unfold tr_join
  rw [List.length_append, List.length_append, List.length_append, List.length_append, l_sort, len_sc, len_bk]
  have h1 := b_sort24 k (by omega)
  have h2 := b_sqs24 k (by omega)
  by_cases h : 1 ≤ P ∧ P ≤ 24
  · rw [if_pos h, List.length_append, List.length_append, List.length_append, List.length_append, l_sort, len_cp, len_ap, l_side, l_side]
    have h3 := b_sort24 P (by omega)
    have h4 := b_sds24 (max k P) (by omega)
    omega
  · rw [if_neg h, List.length_nil]
    omega
theorem l_join36 {k : Nat} (hk : k ≤ 36) (P : Nat) : (tr_join k P).length ≤ 5412 := by
  unfold tr_join
  rw [List.length_append, List.length_append, List.length_append, List.length_append, l_sort, len_sc, len_bk]
  have h1 := b_sort36 k (by omega)
  have h2 := b_sqs36 k (by omega)
  by_cases h : 1 ≤ P ∧ P ≤ 24
  · rw [if_pos h, List.length_append, List.length_append, List.length_append, List.length_append, l_sort, len_cp, len_ap, l_side, l_side]
    have h3 := b_sort24 P (by omega)
    have h4 := b_sds36 (max k P) (by omega)
    omega
  · rw [if_neg h, List.length_nil]
    omega
theorem l_ap {n : Nat} (h : n ≤ 24) : (ap_t n).length ≤ 960 := by
  unfold ap_t
  rw [List.length_append, List.length_append, l_sort, len_sc, l_sqs]
  have h1 := b_sort24 n (by omega)
  have h2 := b_sqs24 n (by omega)
  omega
theorem l_p0 {n : Nat} (h : n ≤ 24) : (pl_0 n).length ≤ 960 := by
  unfold pl_0
  rw [List.length_append, len_sc, l_sqs]
  have h2 := b_sqs24 n (by omega)
  omega
theorem l_p3 {n : Nat} (h : n ≤ 24) : (pl_3 n).length ≤ 960 := by
  unfold pl_3
  rw [List.length_append, List.length_append, List.length_append, l_sort, len_sc, len_bk, l_sqs]
  have h1 := b_sort24 n (by omega)
  have h2 := b_sqs24 n (by omega)
  omega
/-- a part's accesses, as the system notes them and as the reference counts them -/
theorem pt_sp {s : Nat → Int32} {T : Nat → List bg_T} (hs : st_k s) (hT : ∀ t, t < 3 → (T t).length ≤ 12) {n : Nat} (hn : n ≤ 24) (m : Nat) : pt_ok (s 0, nI n, (if s 0 = 4 then nI (T (s 1).toNatClampNeg).length else 0), (if m ≤ 24 then nI m else -1)) (sp_tr (s 0) n (T (s 1).toNatClampNeg).length m) ∧ (sp_tr (s 0) n (T (s 1).toNatClampNeg).length m).length ≤ (if n ≤ 12 then 3356 else 5412) := by
  rcases hs with ⟨h, -⟩ | ⟨h, -⟩ | h | ⟨h, -⟩ | ⟨h, ht, -⟩
  · rw [h]
    refine ⟨⟨0, n, 0, _, rfl, hn, by omega, Or.inl ⟨rfl, rfl⟩⟩, ?_⟩
    have : (sp_tr 0 n (T (s 1).toNatClampNeg).length m).length ≤ 960 := l_p0 hn
    split <;> omega
  · rw [h]
    refine ⟨⟨1, n, 0, _, rfl, hn, by omega, Or.inr (Or.inl ⟨rfl, rfl⟩)⟩, ?_⟩
    have : (sp_tr 1 n (T (s 1).toNatClampNeg).length m).length = 2 * n := len_sc 0 n
    split <;> omega
  · rw [h]
    refine ⟨⟨2, n, 0, _, rfl, hn, by omega, Or.inr (Or.inr (Or.inl ⟨rfl, rfl⟩))⟩, ?_⟩
    have : (sp_tr 2 n (T (s 1).toNatClampNeg).length m).length ≤ 960 := l_ap hn
    split <;> omega
  · rw [h]
    refine ⟨⟨3, n, 0, _, rfl, hn, by omega, Or.inr (Or.inr (Or.inr (Or.inl ⟨rfl, rfl⟩)))⟩, ?_⟩
    have : (sp_tr 3 n (T (s 1).toNatClampNeg).length m).length ≤ 960 := l_p3 hn
    split <;> omega
  · obtain ⟨j, hj, ej⟩ := tb_ok ht
    have eu : (T (s 1).toNatClampNeg).length ≤ 12 := by rw [ej, nI_clamp (by omega)]; exact hT j hj
    rw [h, if_pos rfl]
    have e4 : sp_tr 4 n (T (s 1).toNatClampNeg).length m = tr_join (n + (T (s 1).toNatClampNeg).length) m := rfl
    rw [e4]
    refine ⟨⟨4, n, (T (s 1).toNatClampNeg).length, _, rfl, hn, by omega, Or.inr (Or.inr (Or.inr (Or.inr (Or.inl ⟨rfl, m, ?_, rfl⟩))))⟩, ?_⟩
    · by_cases h1 : 1 ≤ m ∧ m ≤ 24
      · exact Or.inl ⟨h1.1, h1.2, if_pos h1.2⟩
      · refine Or.inr ⟨h1, ?_⟩
        by_cases h2 : m ≤ 24
        · rw [if_pos h2, show m = 0 by omega]; decide
        · rw [if_neg h2]; decide
    · by_cases h12 : n ≤ 12
      · rw [if_pos h12]; exact l_join24 (by omega) m
      · rw [if_neg h12]; exact l_join36 (by omega) m
theorem rn_p_at (T : Nat → List bg_T) (S : Nat → Nat → Int32) (j : Nat) {s k : Nat} (h : k < s) : (rn_p T S j s)[k]? = some (S k 0, nI (rn_L T S j k).length, (if S k 0 = 4 then nI (T (S k 1).toNatClampNeg).length else 0), (if (rn_L T S j (k + 1)).length ≤ 24 then nI (rn_L T S j (k + 1)).length else -1)) := by
  induction s with
  | zero => omega
  | succ s ih =>
    rw [rn_p]
    by_cases e : k = s
    · subst e
      rw [List.getElem?_append_right (by rw [rn_p_len]; exact Nat.le_refl _), rn_p_len, Nat.sub_self]
      rfl
    · rw [List.getElem?_append_left (by rw [rn_p_len]; omega)]
      exact ih (by omega)
section RUN
variable {T : Nat → List bg_T} {S : Nat → Nat → Int32} {j : Nat}
theorem rn_le (hj : j < 3) (hT : ∀ t, t < 3 → (T t).length ≤ 12) {s : Nat} (hle : ∀ i, i < s → (rn_L T S j (i + 1)).length ≤ 24) : (rn_L T S j s).length ≤ 24 := by
  cases s with
  | zero => have := hT j hj; show (T j).length ≤ 24; omega
  | succ s => exact hle s (by omega)
/-- the parts of s steps (all but the last with room) tell the trace of these steps -/
theorem rn_rel (hj : j < 3) (hT : ∀ t, t < 3 → (T t).length ≤ 12) {s : Nat} (hst : ∀ i, i < s → st_k (S i)) (hle : ∀ i, i + 1 < s → (rn_L T S j (i + 1)).length ≤ 24) (la : Nat) : tr_rel (rn_p T S j s) la (rn_t T S j s ++ tr_sort 0 la) := by
  refine ⟨rn_t T S j, rfl, fun k hk => ?_, by rw [rn_p_len]⟩
  rw [rn_p_len] at hk
  exact ⟨_, _, rn_p_at T S j hk, (pt_sp (hst k hk) hT (rn_le hj hT (fun i hi => hle i (by omega))) _).1, rfl⟩
theorem rn_len (hj : j < 3) (hT : ∀ t, t < 3 → (T t).length ≤ 12) {s : Nat} (hs3 : s ≤ 3) (hst : ∀ i, i < s → st_k (S i)) (hle : ∀ i, i + 1 < s → (rn_L T S j (i + 1)).length ≤ 24) : (rn_t T S j s).length ≤ 14180 := by
  have h : ∀ k, k ≤ s → (rn_t T S j k).length ≤ (if k = 0 then 0 else 3356 + 5412 * (k - 1)) := by
    intro k
    induction k with
    | zero => intro _; exact Nat.le_refl _
    | succ k ih =>
      intro hk
      have h1 := ih (by omega)
      have h2 := (pt_sp (hst k (by omega)) hT (rn_le (T := T) (S := S) (j := j) hj hT (s := k) (fun i hi => hle i (by omega))) (rn_L T S j (k + 1)).length).2
      rw [rn_t, List.length_append]
      by_cases e : k = 0
      · subst e
        rw [if_pos (show (rn_L T S j 0).length ≤ 12 from hT j hj)] at h2
        rw [if_pos rfl] at h1
        rw [if_neg (by omega)]
        omega
      · rw [if_neg e] at h1
        rw [if_neg (by omega)]
        have : (sp_tr (S k 0) (rn_L T S j k).length (T (S k 1).toNatClampNeg).length (rn_L T S j (k + 1)).length).length ≤ 5412 := by
          split at h2 <;> omega
        omega
  have := h s (Nat.le_refl _)
  split at this <;> omega
end RUN
theorem tk_id {l : List Int32} (h : l.length ≤ 14688) : tk l = l := List.take_of_length_le h
/-! Two tables that hold the same rows. -/
theorem fm_perm {α β : Type} {f g : α → List β} {l : List α} (h : ∀ a, (f a).Perm (g a)) : (l.flatMap f).Perm (l.flatMap g) := by
  induction l with
  | nil => exact List.Perm.refl _
  | cons a l ih => rw [List.flatMap_cons, List.flatMap_cons]; exact (h a).append ih
theorem sp_permT {T T' : Nat → List bg_T} (hT : ∀ t, t < 3 → (T t).Perm (T' t)) {s : Nat → Int32} (hs : st_k s) (l : List bg_T) : (sp T s l).Perm (sp T' s l) := by
  rcases hs with ⟨h, -⟩ | ⟨h, -⟩ | h | ⟨h, -⟩ | ⟨h, ht, -⟩
  · rw [sp_0 h, sp_0 h]
  · rw [sp_1 h, sp_1 h]
  · rw [sp_2 h, sp_2 h]
  · rw [sp_3 h, sp_3 h]
  · rw [sp_4 h, sp_4 h]
    obtain ⟨j, hj, ej⟩ := tb_ok ht
    rw [ej, nI_clamp (by omega)]
    unfold jn_naive
    exact fm_perm (fun a => (((hT j hj).map _).filter _).map _)
theorem rn_perm {T T' : Nat → List bg_T} (hT : ∀ t, t < 3 → (T t).Perm (T' t)) {S : Nat → Nat → Int32} {j : Nat} (hj : j < 3) {s : Nat} (hst : ∀ i, i < s → st_k (S i)) : (rn_L T S j s).Perm (rn_L T' S j s) := by
  induction s with
  | zero => exact hT j hj
  | succ s ih => exact (sp_perm T (S s) (ih (fun i hi => hst i (by omega)))).trans (sp_permT hT (hst s (by omega)) _)
theorem rn_teq {T T' : Nat → List bg_T} (hT : ∀ t, t < 3 → (T t).Perm (T' t)) {S : Nat → Nat → Int32} {j : Nat} (hj : j < 3) {s : Nat} (hst : ∀ i, i < s → st_k (S i)) : rn_t T S j s = rn_t T' S j s := by
  induction s with
  | zero => rfl
  | succ s ih =>
    have e1 := (rn_perm hT hj (S := S) (s := s) (fun i hi => hst i (by omega))).length_eq
    have e2 := (rn_perm hT hj (S := S) (s := s + 1) hst).length_eq
    have key : sp_tr (S s 0) (rn_L T S j s).length (T (S s 1).toNatClampNeg).length (rn_L T S j (s + 1)).length = sp_tr (S s 0) (rn_L T' S j s).length (T' (S s 1).toNatClampNeg).length (rn_L T' S j (s + 1)).length := by
      rw [e1, e2]
      rcases hst s (by omega) with ⟨h, -⟩ | ⟨h, -⟩ | h | ⟨h, -⟩ | ⟨h, ht, -⟩
      · rw [h]; rfl
      · rw [h]; rfl
      · rw [h]; rfl
      · rw [h]; rfl
      · obtain ⟨t, ht3, et⟩ := tb_ok ht
        rw [et, nI_clamp (by omega), (hT t ht3).length_eq]
    rw [rn_t, rn_t, ih (fun i hi => hst i (by omega)), key]
