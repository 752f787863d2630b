/-! The join: its pairs are those of the two lots of rows. -/
abbrev jn_T : Type := Int32 × Int32 × Int32
def pj (f : rw_T) : jn_T := (f 3, f 1, f 2)
def jQ (f : rw_T) : jn_T × Int32 := (pj f, f 4)
def jn_f (a r : jn_T) : bg_T := (a.1, a.2.1 + r.2.1, a.2.2 + r.2.2)
theorem ms_split (c : Nat → Nat) : ∀ {m q : Nat}, q < ms_st c m → ∃ p, p < m ∧ ∃ i, i < c p ∧ q = ms_st c p + i
  | 0, q, h => absurd h (Nat.not_lt_zero _)
  | m + 1, q, h => by
    rw [ms_st] at h
    by_cases e : q < ms_st c m
    · obtain ⟨p, hp, i, hi, hq⟩ := ms_split c e
      exact ⟨p, by omega, i, hi, hq⟩
    · exact ⟨m, by omega, q - ms_st c m, by omega, by omega⟩
theorem jn_ct_app {α : Type} (k : α → Int32) (l l' : List α) (q : Int32) : jn_ct k (l ++ l') q = jn_ct k l q + jn_ct k l' q := by
  unfold jn_ct
  rw [List.filter_append, List.length_append]
theorem jn_ct_perm {α : Type} (k : α → Int32) {l l' : List α} (h : l.Perm l') (q : Int32) : jn_ct k l q = jn_ct k l' q := (h.filter _).length_eq
theorem jn_flif {α β : Type} (P : α → Bool) (g : α → List β) : ∀ l : List α, l.flatMap (fun a => if P a = true then g a else []) = (l.filter P).flatMap g
  | [] => rfl
  | a :: l => by
    rw [List.flatMap_cons, jn_flif P g l, List.filter_cons]
    by_cases h : P a = true
    · rw [if_pos h, if_pos h, List.flatMap_cons]
    · rw [if_neg h, if_neg h]
      rfl
theorem jn_fl1 {α β : Type} (g : α → β) : ∀ l : List α, l.flatMap (fun r => [g r]) = l.map g
  | [] => rfl
  | a :: l => by
    rw [List.flatMap_cons, jn_fl1 g l]
    rfl
theorem jn_psum {l l' : List Nat} (h : l.Perm l') : l.sum = l'.sum := by
  induction h with
  | nil => rfl
  | cons x _ ih => rw [List.sum_cons, List.sum_cons, ih]
  | swap x y l => rw [List.sum_cons, List.sum_cons, List.sum_cons, List.sum_cons]; omega
  | trans _ _ ih1 ih2 => exact ih1.trans ih2
theorem jn_flapp {α β : Type} (g h : α → List β) : ∀ l : List α, (l.flatMap (fun a => g a ++ h a)).Perm (l.flatMap g ++ l.flatMap h)
  | [] => List.Perm.refl _
  | a :: l => by
    rw [List.flatMap_cons, List.flatMap_cons, List.flatMap_cons]
    have ih := jn_flapp g h l
    refine (List.Perm.append_left _ ih).trans ?_
    rw [List.append_assoc, List.append_assoc]
    refine List.Perm.append_left _ ?_
    rw [← List.append_assoc, ← List.append_assoc]
    exact List.Perm.append_right _ List.perm_append_comm
theorem jn_swap {α β γ : Type} (P : α → β → Bool) (f : α → β → γ) (B : List β) : ∀ A : List α, (A.flatMap (fun a => (B.filter (fun r => P a r)).map (f a))).Perm (B.flatMap (fun r => (A.filter (fun a => P a r)).map (fun a => f a r)))
  | [] => by
    have : B.flatMap (fun r => (([] : List α).filter (fun a => P a r)).map (fun a => f a r)) = [] := by
      induction B with
      | nil => rfl
      | cons b B ih => rw [List.flatMap_cons, ih]; rfl
    rw [this]
    exact List.Perm.refl _
  | a :: A => by
    rw [List.flatMap_cons]
    have e : (fun r => ((a :: A).filter (fun a => P a r)).map (fun a => f a r)) = fun r => (if P a r = true then [f a r] else []) ++ (A.filter (fun a => P a r)).map (fun a => f a r) := by
      funext r
      rw [List.filter_cons]
      split <;> rfl
    rw [e]
    refine List.Perm.trans ?_ (jn_flapp _ _ B).symm
    have e2 : B.flatMap (fun r => if P a r = true then [f a r] else []) = (B.filter (fun r => P a r)).map (f a) := by
      rw [jn_flif (fun r => P a r) (fun r => [f a r])]
      exact jn_fl1 _ _
    rw [e2]
    exact List.Perm.append_left _ (jn_swap P f B A)
def jn_naive (A B : List jn_T) : List bg_T := A.flatMap (fun a => (B.filter (fun r => a.1 == r.1)).map (jn_f a))
theorem jn_naive_perm {A A' B B' : List jn_T} (hA : A.Perm A') (hB : B.Perm B') : (jn_naive A B).Perm (jn_naive A' B') := by
  unfold jn_naive
  refine (hA.flatMap_right _).trans ?_
  clear hA
  induction A' with
  | nil => exact List.Perm.refl _
  | cons a A ih =>
    rw [List.flatMap_cons, List.flatMap_cons]
    exact List.Perm.append ((hB.filter _).map _) ih
theorem jn_naive_len (A B : List jn_T) : (jn_naive A B).length = (A.map (fun a => jn_ct (fun r : jn_T => r.1) B a.1)).sum := by
  unfold jn_naive
  rw [List.length_flatMap]
  congr 1
  apply List.map_congr_left
  intro a _
  rw [List.length_map]
  unfold jn_ct
  congr 1
  apply List.filter_congr
  intro r _
  exact Bool.beq_comm
theorem jn_naive_len2 (A B : List jn_T) : (jn_naive A B).length = (B.map (fun r => jn_ct (fun a : jn_T => a.1) A r.1)).sum := by
  unfold jn_naive
  rw [(jn_swap (fun (a r : jn_T) => a.1 == r.1) jn_f B A).length_eq, List.length_flatMap]
  congr 1
  apply List.map_congr_left
  intro r _
  rw [List.length_map]
  rfl
theorem ms_sum (c : Nat → Nat) : ∀ m, ms_st c m = ((List.range m).map c).sum
  | 0 => rfl
  | m + 1 => by
    rw [ms_st, ms_sum c m, List.range_succ, List.map_append, List.sum_append]
    simp
theorem sg_sum (c : Nat → Nat) : ∀ m, sg c m = ((List.range m).map c).sum
  | 0 => rfl
  | m + 1 => by
    rw [sg, sg_sum c m, List.range_succ, List.map_append, List.sum_append]
    simp
/-- the left, the right ones among rows with their side -/
def jn_l (D : List (jn_T × Int32)) : List jn_T := (D.filter (fun u => decide (u.2 = 0))).map (fun u => u.1)
def jn_r (D : List (jn_T × Int32)) : List jn_T := (D.filter (fun u => !(decide (u.2 = 0)))).map (fun u => u.1)
theorem jn_l_app (D E : List (jn_T × Int32)) : jn_l (D ++ E) = jn_l D ++ jn_l E := by
  unfold jn_l
  rw [List.filter_append, List.map_append]
theorem jn_r_app (D E : List (jn_T × Int32)) : jn_r (D ++ E) = jn_r D ++ jn_r E := by
  unfold jn_r
  rw [List.filter_append, List.map_append]
theorem jn_lC (A B : List jn_T) : jn_l (A.map (fun t => (t, (0 : Int32))) ++ B.map (fun t => (t, (1 : Int32)))) = A := by
  rw [jn_l_app]
  unfold jn_l
  rw [List.filter_map, List.filter_map, List.map_map, List.map_map]
  have f1 : A.filter ((fun u : jn_T × Int32 => decide (u.2 = 0)) ∘ fun t => (t, (0 : Int32))) = A := List.filter_eq_self.mpr (fun _ _ => rfl)
  have f0 : B.filter ((fun u : jn_T × Int32 => decide (u.2 = 0)) ∘ fun t => (t, (1 : Int32))) = [] := List.filter_eq_nil_iff.mpr (fun _ _ => by show ¬ decide ((1 : Int32) = 0) = true; decide)
  rw [f1, f0, List.map_nil, List.append_nil]
  exact List.map_id' A
theorem jn_rC (A B : List jn_T) : jn_r (A.map (fun t => (t, (0 : Int32))) ++ B.map (fun t => (t, (1 : Int32)))) = B := by
  rw [jn_r_app]
  unfold jn_r
  rw [List.filter_map, List.filter_map, List.map_map, List.map_map]
  have f1 : B.filter ((fun u : jn_T × Int32 => !(decide (u.2 = 0))) ∘ fun t => (t, (1 : Int32))) = B := List.filter_eq_self.mpr (fun _ _ => rfl)
  have f0 : A.filter ((fun u : jn_T × Int32 => !(decide (u.2 = 0))) ∘ fun t => (t, (0 : Int32))) = [] := List.filter_eq_nil_iff.mpr (fun _ _ => by show ¬ (!(decide ((0 : Int32) = 0))) = true; decide)
  rw [f1, f0, List.map_nil, List.nil_append]
  exact List.map_id' B
theorem ct2_list (M : Nat → rw_T) (k : Int32) : ∀ m, ct2 M m k = (jn_ct (fun a : jn_T => a.1) (jn_l ((List.range m).map (fun p => jQ (M p)))) k, jn_ct (fun a : jn_T => a.1) (jn_r ((List.range m).map (fun p => jQ (M p)))) k)
  | 0 => rfl
  | m + 1 => by
    have ih := ct2_list M k m
    rw [List.range_succ, List.map_append, jn_l_app, jn_r_app, jn_ct_app, jn_ct_app]
    have e : ct2 M (m + 1) k = ((ct2 M m k).1 + jn_ct (fun a : jn_T => a.1) (jn_l [jQ (M m)]) k, (ct2 M m k).2 + jn_ct (fun a : jn_T => a.1) (jn_r [jQ (M m)]) k) := by
      by_cases h : M m 3 = k
      · rw [ct2_yes h]
        by_cases h4 : M m 4 = 0
        · rw [if_pos h4]
          simp [jn_l, jn_r, jQ, pj, jn_ct, h, h4]
        · rw [if_neg h4]
          simp [jn_l, jn_r, jQ, pj, jn_ct, h, h4]
      · rw [ct2_no h]
        have hb : (M m 3 == k) = false := by simpa using h
        by_cases h4 : M m 4 = 0
        · simp [jn_l, jn_r, jQ, pj, jn_ct, hb, h4]
        · simp [jn_l, jn_r, jQ, pj, jn_ct, hb, h4]
    rw [e, ih]
    rfl
