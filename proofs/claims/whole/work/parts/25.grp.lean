/-! Groups and batches of rows in order: what the scans bring. -/
def gs (ky v : Nat → Int32) : Nat → Int32 → Int32 × Nat
  | 0, _ => (0, 0)
  | p + 1, k => if ky p = k then ((gs ky v p k).1 + v p, (gs ky v p k).2 + 1) else gs ky v p k
theorem gs_yes {ky v : Nat → Int32} {k : Int32} {p : Nat} (h : ky p = k) : gs ky v (p + 1) k = ((gs ky v p k).1 + v p, (gs ky v p k).2 + 1) := if_pos h
theorem gs_no {ky v : Nat → Int32} {k : Int32} : ∀ {p : Nat}, (∀ q, q < p → ¬ ky q = k) → gs ky v p k = (0, 0)
  | 0, _ => rfl
  | p + 1, h => by
    rw [gs, if_neg (h p (by omega))]
    exact gs_no (fun q hq => h q (by omega))
theorem gs_stay {ky v : Nat → Int32} {k : Int32} {p : Nat} : ∀ {m : Nat}, p ≤ m → (∀ q, p ≤ q → q < m → ¬ ky q = k) → gs ky v m k = gs ky v p k
  | 0, h, _ => by rw [show p = 0 by omega]
  | m + 1, h, hq => by
    by_cases e : p = m + 1
    · rw [e]
    · rw [gs, if_neg (hq m (by omega) (by omega))]
      exact gs_stay (by omega) (fun q h1 h2 => hq q h1 (by omega))
theorem ga_gs {M : Nat → rw_T} {sc : Int32} {m : Nat} (hs : ∀ i j, i ≤ j → j < m → (M i 3).toInt ≤ (M j 3).toInt) : ∀ p, p < m → (ga_a M sc (p + 1)).2 = (M p 3, gs (fun q => M q 3) (fun q => rw_col sc (M q)) (p + 1) (M p 3))
  | 0, h => by
    rw [ga_new (Or.inl rfl), gs, if_pos rfl, gs]
  | p + 1, h => by
    have ih := ga_gs (sc := sc) hs p (by omega)
    by_cases e : M (p + 1) 3 = M p 3
    · have hno : ¬ (p + 1 = 0 ∨ ¬ M (p + 1) 3 = (ga_a M sc (p + 1)).2.1) := by
        rw [ih]
        rintro (z | z)
        · omega
        · exact z e
      rw [ga_old hno, gs_yes (p := p + 1) rfl]
      show ((ga_a M sc (p + 1)).2.1, (ga_a M sc (p + 1)).2.2.1 + _, (ga_a M sc (p + 1)).2.2.2 + 1) = _
      rw [ih, e]
    · have hno : p + 1 = 0 ∨ ¬ M (p + 1) 3 = (ga_a M sc (p + 1)).2.1 := by
        rw [ih]
        exact Or.inr e
      have hz : ∀ q, q < p + 1 → ¬ M q 3 = M (p + 1) 3 := fun q hq z => by
        have h1 := hs q p (by omega) (by omega)
        have h2 := hs p (p + 1) (by omega) h
        rw [z] at h1
        exact e (Int32.toInt_inj.mp (by omega))
      rw [ga_new hno, gs, if_pos rfl, gs_no hz]
/-- groups are counted as the last ones of each are -/
theorem ga_rank {M : Nat → rw_T} {sc : Int32} {m : Nat} (hs : ∀ i j, i ≤ j → j < m → (M i 3).toInt ≤ (M j 3).toInt) : ∀ p, p < m → (ga_a M sc (p + 1)).1 = (nw_mk (kl_last M m) p).length + 1
  | 0, h => by
    rw [ga_new (Or.inl rfl)]
    rfl
  | p + 1, h => by
    have ih := ga_rank (sc := sc) hs p (by omega)
    have ig := ga_gs (sc := sc) hs p (by omega)
    by_cases e : M (p + 1) 3 = M p 3
    · have hno : ¬ (p + 1 = 0 ∨ ¬ M (p + 1) 3 = (ga_a M sc (p + 1)).2.1) := by
        rw [ig]
        rintro (z | z)
        · omega
        · exact z e
      rw [ga_old hno, ih, nw_mk_f]
      exact decide_eq_false (by rintro (z | z); omega; exact z e.symm)
    · have hno : p + 1 = 0 ∨ ¬ M (p + 1) 3 = (ga_a M sc (p + 1)).2.1 := by
        rw [ig]
        exact Or.inr e
      rw [ga_new hno, nw_mk_t]
      · show (ga_a M sc (p + 1)).1 + 1 = _
        rw [ih]
      · exact decide_eq_true (Or.inr (fun z => e z.symm))
theorem ga_all {M : Nat → rw_T} {sc : Int32} {m : Nat} (hs : ∀ i j, i ≤ j → j < m → (M i 3).toInt ≤ (M j 3).toInt) : (ga_a M sc m).1 = (nw_mk (kl_last M m) m).length := by
  cases m with
  | zero => rfl
  | succ m =>
    rw [ga_rank hs m (by omega), nw_mk_t]
    exact decide_eq_true (Or.inl rfl)
def gsl (g a : Int32) (l : List bg_T) (k : Int32) : Int32 × Nat := l.foldl (fun s t => if bg_col g t = k then (s.1 + bg_col a t, s.2 + 1) else s) (0, 0)
theorem gsl_perm {g a : Int32} {l l' : List bg_T} (h : l.Perm l') (k : Int32) : gsl g a l k = gsl g a l' k := by
  unfold gsl
  refine h.foldl_eq' (fun x _ y _ z => ?_) _
  by_cases h1 : bg_col g x = k <;> by_cases h2 : bg_col g y = k <;> simp [h1, h2]
  rw [Int32.add_assoc, Int32.add_comm (bg_col a x), ← Int32.add_assoc]
theorem gsl_gs (g a : Int32) (c : Nat → bg_T) (k : Int32) : ∀ m, gsl g a ((List.range m).map c) k = gs (fun q => bg_col g (c q)) (fun q => bg_col a (c q)) m k
  | 0 => rfl
  | m + 1 => by
    have ih := gsl_gs g a c k m
    unfold gsl at ih ⊢
    rw [List.range_succ, List.map_append, List.foldl_append, ih]
    show (if bg_col g (c m) = k then _ else _) = gs _ _ (m + 1) k
    rw [gs]
def gp_ok (g a : Int32) (l l1 : List bg_T) : Prop := (l1.map (fun t => t.1)).Nodup ∧ ∀ t, t ∈ l1 ↔ ∃ u ∈ l, t = (bg_col g u, (gsl g a l (bg_col g u)).1, nI (gsl g a l (bg_col g u)).2)
theorem gp_rows {M : Nat → rw_T} {g a : Int32} {m : Nat} {l : List bg_T} (hs : ∀ i j, i ≤ j → j < m → (M i 3).toInt ≤ (M j 3).toInt) (hk : ∀ p, p < m → M p 3 = bg_col g (rw_c3 (M p))) (hp : ((List.range m).map (fun p => rw_c3 (M p))).Perm l) :
    gp_ok g a l ((nw_mk (kl_last M m) m).map (fun p => ((ga_a M a (p + 1)).2.1, (ga_a M a (p + 1)).2.2.1, nI (ga_a M a (p + 1)).2.2.2))) := by
  have hgs : ∀ p, gs (fun q => bg_col g (rw_c3 (M q))) (fun q => bg_col a (rw_c3 (M q))) m p = gsl g a l p := fun p => by
    rw [← gsl_perm hp, gsl_gs]
  have hg2 : ∀ k p, p ≤ m → gs (fun q => M q 3) (fun q => rw_col a (M q)) p k = gs (fun q => bg_col g (rw_c3 (M q))) (fun q => bg_col a (rw_c3 (M q))) p k := by
    intro k p
    induction p with
    | zero => intro _; rfl
    | succ p ih =>
      intro h
      rw [gs, gs, ih (by omega), hk p (by omega)]
      rfl
  have hval : ∀ p, p < m → kl_last M m p = true → ((ga_a M a (p + 1)).2.1, (ga_a M a (p + 1)).2.2.1, nI (ga_a M a (p + 1)).2.2.2) = (M p 3, (gsl g a l (M p 3)).1, nI (gsl g a l (M p 3)).2) := fun p h hl => by
    rw [ga_gs hs p h, ← hgs, ← hg2 _ m (Nat.le_refl _), gs_stay (p := p + 1) (m := m) (by omega)]
    intro q h1 h2 z
    rcases of_decide_eq_true hl with hz | hz
    · omega
    · have a1 := hs p (p + 1) (by omega) (by omega)
      have a2 := hs (p + 1) q h1 h2
      rw [z] at a2
      exact hz (Int32.toInt_inj.mp (by omega))
  have hmap : (nw_mk (kl_last M m) m).map (fun p => ((ga_a M a (p + 1)).2.1, (ga_a M a (p + 1)).2.2.1, nI (ga_a M a (p + 1)).2.2.2)) = (nw_mk (kl_last M m) m).map (fun p => (M p 3, (gsl g a l (M p 3)).1, nI (gsl g a l (M p 3)).2)) := by
    apply List.map_congr_left
    intro p hp
    obtain ⟨h1, h2⟩ := nw_mk_mem.mp hp
    exact hval p h1 h2
  rw [hmap]
  constructor
  · rw [List.map_map, List.Nodup, List.pairwise_map]
    have hlt : (nw_mk (kl_last M m) m).Pairwise (· < ·) := List.Pairwise.filter _ List.pairwise_lt_range
    refine hlt.imp_of_mem (fun {x y} hx hy hxy he => ?_)
    have hx' := nw_mk_mem.mp hx
    have hy' := nw_mk_mem.mp hy
    have he : M x 3 = M y 3 := he
    rcases of_decide_eq_true hx'.2 with hz | hz
    · omega
    · have a1 := hs x (x + 1) (by omega) (by omega)
      have a2 := hs (x + 1) y (by omega) (by omega)
      rw [← he] at a2
      exact hz (Int32.toInt_inj.mp (by omega))
  · intro t
    constructor
    · intro h
      obtain ⟨p, hp2, rfl⟩ := List.mem_map.mp h
      obtain ⟨h1, h2⟩ := nw_mk_mem.mp hp2
      refine ⟨rw_c3 (M p), hp.mem_iff.mp (List.mem_map.mpr ⟨p, List.mem_range.mpr h1, rfl⟩), ?_⟩
      rw [hk p h1]
    · rintro ⟨u, hu, rfl⟩
      obtain ⟨p, hp2, rfl⟩ := List.mem_map.mp (hp.mem_iff.mpr hu)
      have h1 := List.mem_range.mp hp2
      rw [← hk p h1]
      clear hu hp2
      obtain ⟨d, hd⟩ : ∃ d, p + d + 1 = m := ⟨m - p - 1, by omega⟩
      induction d generalizing p with
      | zero => exact List.mem_map.mpr ⟨p, nw_mk_mem.mpr ⟨h1, decide_eq_true (Or.inl (by omega))⟩, rfl⟩
      | succ d ih =>
        by_cases e : M p 3 = M (p + 1) 3
        · rw [e]
          exact ih (p + 1) (by omega) (by omega)
        · exact List.mem_map.mpr ⟨p, nw_mk_mem.mpr ⟨h1, decide_eq_true (Or.inr e)⟩, rfl⟩
/-- has a row been dropped, and which number last -/
def ud_a (M : Nat → rw_T) : Nat → Bool × Int32
  | 0 => (false, 0)
  | p + 1 => if M p 4 = 0 then (true, M p 3) else ud_a M p
def ud_live (M : Nat → rw_T) (p : Nat) : Bool := decide (M p 4 = 2) || !((ud_a M (p + 1)).1 && decide (M p 3 = (ud_a M (p + 1)).2))
theorem ud_sp (M : Nat → rw_T) : ∀ p, ((ud_a M p).1 = true → ∃ q, q < p ∧ M q 4 = 0 ∧ M q 3 = (ud_a M p).2 ∧ ∀ q', q' < p → M q' 4 = 0 → q' ≤ q) ∧ ((ud_a M p).1 = false → ∀ q, q < p → ¬ M q 4 = 0)
  | 0 => ⟨fun h => (by cases h), fun _ q hq => absurd hq (Nat.not_lt_zero _)⟩
  | p + 1 => by
    obtain ⟨h1, h2⟩ := ud_sp M p
    rw [ud_a]
    by_cases e : M p 4 = 0
    · rw [if_pos e]
      exact ⟨fun _ => ⟨p, by omega, e, rfl, fun q' hq' _ => by omega⟩, fun z => by cases z⟩
    · rw [if_neg e]
      refine ⟨fun z => ?_, fun z q hq => ?_⟩
      · obtain ⟨q, a1, a2, a3, a4⟩ := h1 z
        refine ⟨q, by omega, a2, a3, fun q' hq' hz => ?_⟩
        by_cases eq : q' = p
        · exact absurd (eq ▸ hz) e
        · exact a4 q' (by omega) hz
      · by_cases eq : q = p
        · rw [eq]; exact e
        · exact h2 z q (by omega)
def ud_P (X : List rw_T) (f : rw_T) : Bool := decide (f 4 = 2) || (decide (f 4 = 1) && !(X.any (fun g => decide (g 4 = 0 ∧ g 3 = f 3))))
theorem ud_ok {M : Nat → rw_T} {m : Nat} (hs : ∀ i j, i ≤ j → j < m → (M i 3).toInt < (M j 3).toInt ∨ (M i 3).toInt = (M j 3).toInt ∧ (M i 4).toInt ≤ (M j 4).toInt) (hd : ∀ p, p < m → M p 4 = 0 ∨ M p 4 = 1 ∨ M p 4 = 2) (p : Nat) (hp : p < m) : ud_live M p = ud_P (nw_ls 0 m M) (M p) := by
  unfold ud_live ud_P
  have hany : (nw_ls 0 m M).any (fun g => decide (g 4 = 0 ∧ g 3 = M p 3)) = true ↔ ∃ q, q < m ∧ M q 4 = 0 ∧ M q 3 = M p 3 := by
    rw [List.any_eq_true]
    constructor
    · rintro ⟨f, hf, h⟩
      obtain ⟨q, hq, rfl⟩ := nw_ls_mem.mp hf
      rw [Nat.zero_add] at h
      exact ⟨q, hq, of_decide_eq_true h⟩
    · rintro ⟨q, hq, h⟩
      exact ⟨M q, nw_ls_mem.mpr ⟨q, hq, by rw [Nat.zero_add]⟩, decide_eq_true h⟩
  rcases hd p hp with e | e | e
  · rw [ud_a, if_pos e, e]
    simp
  · have e0 : ¬ M p 4 = 0 := by rw [e]; decide
    rw [ud_a, if_neg e0, e]
    have hkey : ((ud_a M p).1 && decide (M p 3 = (ud_a M p).2)) = (nw_ls 0 m M).any (fun g => decide (g 4 = 0 ∧ g 3 = M p 3)) := by
      rw [Bool.eq_iff_iff, hany, Bool.and_eq_true, decide_eq_true_iff]
      constructor
      · rintro ⟨h1, h2⟩
        obtain ⟨q, a1, a2, a3, -⟩ := (ud_sp M p).1 h1
        exact ⟨q, by omega, a2, by rw [a3, h2]⟩
      · rintro ⟨q, h1, h2, h3⟩
        have hqp : q < p := by
          rcases Nat.lt_or_ge q p with h | h
          · exact h
          · exfalso
            have := hs p q h h1
            rw [h3, h2, e] at this
            have z0 : (0 : Int32).toInt = 0 := rfl
            have z1 : (1 : Int32).toInt = 1 := rfl
            omega
        cases hb : (ud_a M p).1 with
        | false => exact absurd h2 ((ud_sp M p).2 hb q hqp)
        | true =>
          obtain ⟨q', a1, a2, a3, a4⟩ := (ud_sp M p).1 hb
          have b1 := a4 q hqp h2
          have c1 := hs q q' b1 (by omega)
          have c2 := hs q' p (by omega) hp
          rw [h3] at c1
          refine ⟨rfl, ?_⟩
          rw [← a3]
          exact Int32.toInt_inj.mp (by omega)
    rw [hkey]
    simp
  · rw [e]
    simp
