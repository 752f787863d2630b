/-! Why the joined rows are the pairs: the left side's copies G, the right side's copies S with the numbers of their copies, sorted by (key, number). -/
abbrev jn_L : Type := Int32 × Nat
def jn_le (x y : jn_L) : Prop := x.1 < y.1 ∨ (x.1 = y.1 ∧ x.2 ≤ y.2)
def jn_ct {α : Type} (k : α → Int32) (l : List α) (q : Int32) : Nat := (l.filter (fun a => k a == q)).length
/-- each row's key, and its number among its key's rows -/
def jn_lab {α : Type} (k : α → Int32) : (Int32 → Nat) → List α → List jn_L
  | _, [] => []
  | f, a :: l => (k a, f (k a)) :: jn_lab k (fun q => if q = k a then f q + 1 else f q) l
section JN
variable {α β γ : Type} {k : α → Int32}
theorem jn_ct_cons (a : α) (l : List α) (q : Int32) : jn_ct k (a :: l) q = (if q = k a then 1 else 0) + jn_ct k l q := by
  unfold jn_ct
  by_cases h : q = k a
  · subst h; simp; omega
  · have : (k a == q) = false := by simpa using fun e => h e.symm
    simp [List.filter_cons, this, h]
theorem jn_lab_count : ∀ (l : List α) (f : Int32 → Nat) (q : Int32) (c : Nat), (jn_lab k f l).count (q, c) = if f q ≤ c ∧ c < f q + jn_ct k l q then 1 else 0
  | [], f, q, c => by
    show ([] : List jn_L).count (q, c) = if f q ≤ c ∧ c < f q + 0 then 1 else 0
    rw [if_neg (by omega)]
    rfl
  | a :: l, f, q, c => by
    rw [jn_lab, List.count_cons, jn_lab_count l, jn_ct_cons]
    by_cases h : q = k a
    · subst h
      by_cases h2 : f (k a) = c
      · subst h2
        simp
        rw [if_neg (by omega), if_pos (by omega)]
      · have : ((k a, f (k a)) == (k a, c)) = false := by simpa using h2
        rw [this]
        have e : (f (k a) + 1 ≤ c ∧ c < f (k a) + 1 + jn_ct k l (k a)) ↔ (f (k a) ≤ c ∧ c < f (k a) + (1 + jn_ct k l (k a))) := by omega
        simp only [if_true, e, Bool.false_eq_true, if_false, Nat.add_zero]
    · have : ((k a, f (k a)) == (q, c)) = false := by simpa using fun e => absurd e.symm h
      rw [this]
      simp [h]
theorem jn_lab_mem : ∀ (l : List α) (f : Int32 → Nat) (x : jn_L), x ∈ jn_lab k f l → f x.1 ≤ x.2 ∧ ∃ b ∈ l, k b = x.1
  | [], f, x, h => by cases h
  | a :: l, f, x, h => by
    rw [jn_lab] at h
    rcases List.mem_cons.mp h with rfl | h
    · exact ⟨Nat.le_refl _, a, List.mem_cons_self, rfl⟩
    · obtain ⟨h1, b, hb, hk⟩ := jn_lab_mem l _ x h
      refine ⟨?_, b, List.mem_cons_of_mem _ hb, hk⟩
      try dsimp only at h1
      split at h1 <;> omega
theorem jn_lab_sorted : ∀ (l : List α) (f : Int32 → Nat), l.Pairwise (fun a b => k a ≤ k b) → (jn_lab k f l).Pairwise jn_le
  | [], f, _ => by rw [jn_lab]; exact List.Pairwise.nil
  | a :: l, f, h => by
    rw [jn_lab]
    rw [List.pairwise_cons] at h ⊢
    refine ⟨fun x hx => ?_, jn_lab_sorted l _ h.2⟩
    obtain ⟨h1, b, hb, hk⟩ := jn_lab_mem l _ x hx
    have h2 := h.1 b hb
    rw [hk] at h2
    try dsimp only at h1
    by_cases he : k a = x.1
    · refine Or.inr ⟨he, ?_⟩
      rw [if_pos he.symm] at h1
      rw [he]
      omega
    · exact Or.inl (Int32.lt_of_le_of_ne h2 he)
/-- what the labels name -/
theorem jn_lab_get : ∀ (l pre : List α) (f : Int32 → Nat), (∀ q, f q = jn_ct k pre q) → (jn_lab k f l).map (fun x => (x.1, ((pre ++ l).filter (fun a => k a == x.1))[x.2]?)) = l.map (fun a => (k a, some a))
  | [], pre, f, hf => rfl
  | a :: l, pre, f, hf => by
    rw [jn_lab, List.map_cons, List.map_cons]
    have e : pre ++ a :: l = (pre ++ [a]) ++ l := by simp
    congr 1
    · rw [List.filter_append, List.filter_cons, if_pos (by simp), hf]
      simp [jn_ct]
    · rw [e]
      refine jn_lab_get l (pre ++ [a]) _ (fun q => ?_)
      unfold jn_ct
      rw [List.filter_append, List.length_append]
      by_cases h : q = k a
      · subst h
        simp [hf, jn_ct]
      · have : (k a == q) = false := by simpa using fun e => h e.symm
        simp [h, hf, jn_ct, List.filter_cons, this]
theorem jn_count_rep (R : Int32 → Nat) (q : Int32) (c : Nat) : ∀ l : List jn_L, (l.flatMap (fun x => List.replicate (R x.1) x)).count (q, c) = l.count (q, c) * R q
  | [] => by simp
  | x :: l => by
    rw [List.flatMap_cons, List.count_append, jn_count_rep R q c l, List.count_cons, List.count_replicate]
    by_cases h : x = (q, c)
    · subst h
      simp [Nat.add_mul]
      omega
    · have : (x == (q, c)) = false := by simpa using h
      simp [this]
theorem jn_count_range (q : Int32) (n : Nat) (r : Int32) (c : Nat) : ((List.range n).map (fun c => (r, c))).count (q, c) = if r = q ∧ c < n then 1 else 0 := by
  induction n with
  | zero => simp
  | succ n ih =>
    rw [List.range_succ, List.map_append, List.count_append, ih]
    by_cases h : r = q
    · subst h
      by_cases h2 : n = c
      · subst h2; simp
      · have : ((r, n) == (r, c)) = false := by simpa using h2
        have e : c < n ↔ c < n + 1 := by omega
        simp [List.count_cons, this, e]
    · have : ((r, n) == (q, c)) = false := by simpa using fun e => absurd e h
      simp [List.count_cons, this, h]
theorem jn_count_S (kB : β → Int32) (Lf : Int32 → Nat) (q : Int32) (c : Nat) : ∀ B : List β, ((B.flatMap (fun r => (List.range (Lf (kB r))).map (fun c => (r, c)))).map (fun s => (kB s.1, s.2))).count (q, c) = if c < Lf q then jn_ct kB B q else 0
  | [] => by simp [jn_ct]
  | r :: B => by
    rw [List.flatMap_cons, List.map_append, List.count_append, jn_count_S kB Lf q c B, List.map_map, jn_ct_cons]
    have e : ((List.range (Lf (kB r))).map ((fun s : β × Nat => (kB s.1, s.2)) ∘ fun c => (r, c))) = (List.range (Lf (kB r))).map (fun c => (kB r, c)) := rfl
    rw [e, jn_count_range]
    by_cases h : kB r = q
    · subst h
      by_cases h2 : c < Lf (kB r) <;> simp [h2]
    · have h' : ¬ q = kB r := fun e => h e.symm
      simp [h, h']
theorem jn_le_trans {x y z : jn_L} (h1 : jn_le x y) (h2 : jn_le y z) : jn_le x z := by
  unfold jn_le at *
  rcases h1 with h1 | ⟨h1, h1'⟩ <;> rcases h2 with h2 | ⟨h2, h2'⟩
  · exact Or.inl (Int32.lt_trans h1 h2)
  · exact Or.inl (h2 ▸ h1)
  · exact Or.inl (h1 ▸ h2)
  · exact Or.inr ⟨h1.trans h2, by omega⟩
theorem jn_rep_sorted (R : Int32 → Nat) : ∀ l : List jn_L, l.Pairwise jn_le → (l.flatMap (fun x => List.replicate (R x.1) x)).Pairwise jn_le
  | [], _ => by simp
  | x :: l, h => by
    rw [List.pairwise_cons] at h
    rw [List.flatMap_cons, List.pairwise_append]
    refine ⟨?_, jn_rep_sorted R l h.2, fun a ha b hb => ?_⟩
    · rw [List.pairwise_replicate]
      exact Or.inr (Or.inr ⟨rfl, Nat.le_refl _⟩)
    · rw [List.eq_of_mem_replicate ha]
      obtain ⟨y, hy, hb⟩ := List.mem_flatMap.mp hb
      rw [List.eq_of_mem_replicate hb]
      exact h.1 y hy
/-- the join: left rows A in the order of their keys, as often as they have partners, beside the right rows' copies S' sorted by key and number -/
theorem jn_pairs {kB : β → Int32} (f : α → β → γ) {A : List α} {B : List β} {S' : List (β × Nat)} (hA : A.Pairwise (fun a b => k a ≤ k b)) (hp : S'.Perm (B.flatMap (fun r => (List.range (jn_ct k A (kB r))).map (fun c => (r, c))))) (hs : (S'.map (fun s => (kB s.1, s.2))).Pairwise jn_le) :
    (List.zipWith (fun a s => f a s.1) (A.flatMap (fun a => List.replicate (jn_ct kB B (k a)) a)) S').Perm (B.flatMap (fun r => (A.filter (fun a => k a == kB r)).map (fun a => f a r))) := by
  have hK : S'.map (fun s => (kB s.1, s.2)) = (jn_lab k (fun _ => 0) A).flatMap (fun x => List.replicate (jn_ct kB B x.1) x) := by
    refine List.Perm.eq_of_pairwise (le := jn_le) (fun a b _ _ h1 h2 => ?_) hs (jn_rep_sorted _ _ (jn_lab_sorted A _ hA)) ((hp.map _).trans (List.perm_iff_count.mpr (fun x => ?_)))
    · rcases h1 with h1 | ⟨h1, h1'⟩ <;> rcases h2 with h2 | ⟨h2, h2'⟩
      · exact absurd (Int32.lt_trans h1 h2) (Int32.lt_irrefl)
      · rw [h2] at h1; exact absurd h1 Int32.lt_irrefl
      · rw [h1] at h2; exact absurd h2 Int32.lt_irrefl
      · exact Prod.ext h1 (by omega)
    · obtain ⟨q, c⟩ := x
      rw [jn_count_S, jn_count_rep, jn_lab_count]
      simp only [Nat.zero_le, true_and, Nat.zero_add]
      split <;> simp
  have hG : (A.flatMap (fun a => List.replicate (jn_ct kB B (k a)) a)).map some = S'.map (fun s => (A.filter (fun a => k a == kB s.1))[s.2]?) := by
    have h1 := jn_lab_get (k := k) A [] (fun _ => 0) (fun q => by simp [jn_ct])
    have h2 := congrArg (fun l => l.flatMap (fun y : Int32 × Option α => List.replicate (jn_ct kB B y.1) y.2)) h1
    simp only [List.flatMap_map, List.nil_append] at h2
    have h3 : (A.flatMap (fun a => List.replicate (jn_ct kB B (k a)) a)).map some = A.flatMap (fun a => List.replicate (jn_ct kB B (k a)) (some a)) := by
      rw [List.map_flatMap]; simp
    have h4 : S'.map (fun s => (A.filter (fun a => k a == kB s.1))[s.2]?) = (S'.map (fun s => (kB s.1, s.2))).map (fun x => (A.filter (fun a => k a == x.1))[x.2]?) := by
      rw [List.map_map]; rfl
    rw [h3, h4, hK, List.map_flatMap, ← h2]
    simp
  have hz : (List.zipWith (fun a s => f a s.1) (A.flatMap (fun a => List.replicate (jn_ct kB B (k a)) a)) S').map some = S'.map (fun s => ((A.filter (fun a => k a == kB s.1))[s.2]?).map (fun a => f a s.1)) := by
    have e1 : (List.zipWith (fun a s => f a s.1) (A.flatMap (fun a => List.replicate (jn_ct kB B (k a)) a)) S').map some = List.zipWith (fun (o : Option α) (s : β × Nat) => o.map (fun a => f a s.1)) ((A.flatMap (fun a => List.replicate (jn_ct kB B (k a)) a)).map some) S' := by
      rw [List.map_zipWith, List.zipWith_map_left]; rfl
    rw [e1, hG, List.zipWith_map_left, List.zipWith_self]
  have hfin : (List.zipWith (fun a s => f a s.1) (A.flatMap (fun a => List.replicate (jn_ct kB B (k a)) a)) S').map some |>.Perm ((B.flatMap (fun r => (A.filter (fun a => k a == kB r)).map (fun a => f a r))).map some) := by
    rw [hz]
    refine (hp.map _).trans (List.Perm.of_eq ?_)
    rw [List.map_flatMap, List.map_flatMap]
    congr 1
    funext r
    rw [List.map_map, List.map_map]
    apply List.ext_getElem?
    intro i
    rw [List.getElem?_map, List.getElem?_map]
    unfold jn_ct
    by_cases hi : i < (A.filter (fun a => k a == kB r)).length
    · rw [List.getElem?_range hi, List.getElem?_eq_getElem hi]
      simp [hi]
    · rw [List.getElem?_eq_none (by simpa using hi), List.getElem?_eq_none (by simpa using hi)]
      rfl
  have := hfin.filterMap id
  have e : (id ∘ some : γ → Option γ) = some := rfl
  rw [List.filterMap_map, List.filterMap_map, e, List.filterMap_some, List.filterMap_some] at this
  exact this
end JN
