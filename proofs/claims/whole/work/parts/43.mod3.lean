/-! The reference: a step. -/
def ro (g : Nat → Int32) (A : Nat → Nat → Int32) (l : List bg_T) : Prop := g 13 = nI l.length ∧ l.length ≤ 24 ∧ ls3 (A 8) 0 l
def ta (A : Nat → Nat → Int32) (T : Nat → List bg_T) : Prop := ∀ t, t < 3 → (T t).length ≤ 12 ∧ A 1 t = nI (T t).length ∧ ls3 (A 0) (36 * t) (T t)
theorem ro.gf {g g' : Nat → Int32} {A A' : Nat → Nat → Int32} {l : List bg_T} (R : ro g A l) (F : gf [15] [9] g A g' A') : ro g' A' l := ⟨(F.1 13 (by decide)).trans R.1, R.2.1, by rw [F.2 8 (by decide)]; exact R.2.2⟩
theorem ta.gf {g g' : Nat → Int32} {A A' : Nat → Nat → Int32} {T : Nat → List bg_T} (B : ta A T) (F : gf [15] [9] g A g' A') : ta A' T := fun t ht => by rw [F.2 0 (by decide), F.2 1 (by decide)]; exact B t ht
theorem ro_col {g : Nat → Int32} {A : Nat → Nat → Int32} {l : List bg_T} (R : ro g A l) {k c : Nat} (hk : k < l.length) (hc : c < 3) : A 8 (3 * k + c) = bg_col (nI c) (l.getD k (0, 0, 0)) := by
  have := ls3_col R.2.2 hk hc
  rw [Nat.zero_add] at this
  exact this
def fsb (p : Nat → Bool) (k : Nat) : Bool := (List.range k).all (fun q => !(p q))
theorem fsb_s (p : Nat → Bool) (k : Nat) : fsb p (k + 1) = (fsb p k && !(p k)) := by
  unfold fsb
  rw [List.range_succ, List.all_append]
  simp
def sm1 (cc c : Nat) (x y : bg_T) : Bool := decide (cc ≠ 3 ∧ c ≠ cc) || decide (bg_col (nI c) x = bg_col (nI c) y)
def sm (cc : Nat) (x y : bg_T) : Bool := true && sm1 cc 0 x y && sm1 cc 1 x y && sm1 cc 2 x y
theorem sm1_o {cc c : Nat} {x y : bg_T} (h : cc ≠ 3 ∧ c ≠ cc) : sm1 cc c x y = true := by rw [sm1, decide_eq_true h]; rfl
theorem sm1_t {cc c : Nat} {x y : bg_T} (h : bg_col (nI c) x = bg_col (nI c) y) : sm1 cc c x y = true := by rw [sm1, decide_eq_true h, Bool.or_true]
theorem sm1_f {cc c : Nat} {x y : bg_T} (hs : ¬ (cc ≠ 3 ∧ c ≠ cc)) (h : ¬ bg_col (nI c) x = bg_col (nI c) y) : sm1 cc c x y = false := by rw [sm1, decide_eq_false h, decide_eq_false hs]; rfl
theorem sm_3 (l : List bg_T) (k : Nat) : fsb (fun q => sm 3 (l.getD q (0, 0, 0)) (l.getD k (0, 0, 0))) k = fs (fun q => l.getD q (0, 0, 0)) k := by
  unfold fsb fs
  congr 1
  funext q
  congr 1
  show sm 3 (l.getD q (0, 0, 0)) (l.getD k (0, 0, 0)) = decide (l.getD q (0, 0, 0) = l.getD k (0, 0, 0))
  generalize l.getD q (0, 0, 0) = x
  generalize l.getD k (0, 0, 0) = y
  obtain ⟨x0, x1, x2⟩ := x
  obtain ⟨y0, y1, y2⟩ := y
  have e0 : sm1 3 0 (x0, x1, x2) (y0, y1, y2) = decide (x0 = y0) := rfl
  have e1 : sm1 3 1 (x0, x1, x2) (y0, y1, y2) = decide (x1 = y1) := rfl
  have e2 : sm1 3 2 (x0, x1, x2) (y0, y1, y2) = decide (x2 = y2) := rfl
  rw [sm, e0, e1, e2]
  simp only [Prod.mk.injEq, Bool.decide_and, Bool.true_and, Bool.and_assoc]
theorem sm_c {c : Nat} (hc : c < 3) {l : List bg_T} {k : Nat} : fsb (fun q => sm c (l.getD q (0, 0, 0)) (l.getD k (0, 0, 0))) k = fs (fun q => bg_col (nI c) (l.getD q (0, 0, 0))) k := by
  unfold fsb fs
  congr 1
  funext q
  congr 1
  show sm c (l.getD q (0, 0, 0)) (l.getD k (0, 0, 0)) = decide (bg_col (nI c) (l.getD q (0, 0, 0)) = bg_col (nI c) (l.getD k (0, 0, 0)))
  generalize l.getD q (0, 0, 0) = x
  generalize l.getD k (0, 0, 0) = y
  rcases (show c = 0 ∨ c = 1 ∨ c = 2 by omega) with rfl | rfl | rfl
  · rw [sm, sm1_o (c := 1) (by decide), sm1_o (c := 2) (by decide), Bool.and_true, Bool.and_true, Bool.true_and]; rfl
  · rw [sm, sm1_o (c := 0) (by decide), sm1_o (c := 2) (by decide), Bool.and_true, Bool.true_and, Bool.true_and]; rfl
  · rw [sm, sm1_o (c := 0) (by decide), sm1_o (c := 1) (by decide), Bool.true_and, Bool.true_and, Bool.true_and]; rfl
theorem take_s {l : List bg_T} {q : Nat} (hq : q < l.length) : l.take (q + 1) = l.take q ++ [l.getD q (0, 0, 0)] := by
  rw [List.take_succ, List.getD_eq_getElem?_getD, List.getElem?_eq_getElem hq]
  rfl
theorem gsl_s {g a : Int32} {l : List bg_T} {ky : Int32} {q : Nat} (hq : q < l.length) : gsl g a (l.take (q + 1)) ky = if bg_col g (l.getD q (0, 0, 0)) = ky then ((gsl g a (l.take q) ky).1 + bg_col a (l.getD q (0, 0, 0)), (gsl g a (l.take q) ky).2 + 1) else gsl g a (l.take q) ky := by
  rw [take_s hq]
  unfold gsl
  rw [List.foldl_append]
  rfl
def jw (a : jn_T) (y : Int32) (l : List bg_T) : List bg_T := ((l.map (kx y)).filter (fun r => a.1 == r.1)).map (jn_f a)
theorem jw_le (a : jn_T) (y : Int32) (l : List bg_T) : (jw a y l).length ≤ l.length := by
  unfold jw
  rw [List.length_map]
  refine Nat.le_trans (List.length_filter_le _ _) ?_
  rw [List.length_map]
  exact Nat.le_refl _
theorem jw_n {a : bg_T} {x y : Int32} {l : List bg_T} {i : Nat} (hi : i < l.length) (h : ¬ bg_col x a = bg_col y (l.getD i (0, 0, 0))) : jw (kx x a) y (l.take (i + 1)) = jw (kx x a) y (l.take i) := by
  unfold jw
  rw [take_s hi, List.map_append, List.filter_append, List.map_append]
  have : ((kx x a).1 == (kx y (l.getD i (0, 0, 0))).1) = false := beq_eq_false_iff_ne.mpr h
  rw [List.map_singleton, List.filter_cons_of_neg (by rw [this]; decide), List.filter_nil, List.map_nil, List.append_nil]
theorem jw_t {a : bg_T} {x y : Int32} {l : List bg_T} {i : Nat} (hi : i < l.length) (h : bg_col x a = bg_col y (l.getD i (0, 0, 0))) : jw (kx x a) y (l.take (i + 1)) = jw (kx x a) y (l.take i) ++ [(bg_col x a, a.2.1 + (l.getD i (0, 0, 0)).2.1, a.2.2 + (l.getD i (0, 0, 0)).2.2)] := by
  unfold jw
  rw [take_s hi, List.map_append, List.filter_append, List.map_append]
  have : ((kx x a).1 == (kx y (l.getD i (0, 0, 0))).1) = true := beq_iff_eq.mpr h
  rw [List.map_singleton, List.filter_cons, if_pos this, List.filter_nil]
  rfl
def st_k (s : Nat → Int32) : Prop := (s 0 = 0 ∧ tb (s 1) = true) ∨ (s 0 = 1 ∧ tb (s 1) = true ∧ tb (s 2) = true ∧ tb (s 3) = true) ∨ s 0 = 2 ∨ (s 0 = 3 ∧ tb (s 1) = true ∧ tb (s 2) = true) ∨ (s 0 = 4 ∧ tb (s 1) = true ∧ tb (s 2) = true ∧ tb (s 3) = true)
theorem st_k.ok {s : Nat → Int32} (h : st_k s) : st_ok s := by
  rcases h with h | h | h | h | h
  · exact Or.inl h.1
  · exact Or.inr (Or.inl h.1)
  · exact Or.inr (Or.inr (Or.inl h))
  · exact Or.inr (Or.inr (Or.inr (Or.inl h.1)))
  · exact Or.inr (Or.inr (Or.inr (Or.inr ⟨h.1, h.2.1⟩)))
/-- what row k gives -/
def w1 (T : Nat → List bg_T) (s : Nat → Int32) (l : List bg_T) (k : Nat) : List bg_T := if s 0 = 0 then (if op_m (bg_col (s 1) (l.getD k (0, 0, 0))) (s 2) (s 3) = true then [l.getD k (0, 0, 0)] else []) else if s 0 = 1 then [(bg_col (s 1) (l.getD k (0, 0, 0)), bg_col (s 2) (l.getD k (0, 0, 0)), bg_col (s 3) (l.getD k (0, 0, 0)))] else if s 0 = 2 then (if fs (fun q => l.getD q (0, 0, 0)) k = true then [l.getD k (0, 0, 0)] else []) else if s 0 = 3 then (if fs (fun q => bg_col (s 1) (l.getD q (0, 0, 0))) k = true then [gp1 (s 1) (s 2) l (bg_col (s 1) (l.getD k (0, 0, 0)))] else []) else jw (kx (s 2) (l.getD k (0, 0, 0))) (s 3) (T (s 1).toNatClampNeg)
section W1
variable {T : Nat → List bg_T} {s : Nat → Int32} {l : List bg_T} {k : Nat}
theorem w1_0 (h : s 0 = 0) : w1 T s l k = if op_m (bg_col (s 1) (l.getD k (0, 0, 0))) (s 2) (s 3) = true then [l.getD k (0, 0, 0)] else [] := if_pos h
theorem w1_1 (h : s 0 = 1) : w1 T s l k = [(bg_col (s 1) (l.getD k (0, 0, 0)), bg_col (s 2) (l.getD k (0, 0, 0)), bg_col (s 3) (l.getD k (0, 0, 0)))] := by
  unfold w1; rw [h]; rfl
theorem w1_2 (h : s 0 = 2) : w1 T s l k = if fs (fun q => l.getD q (0, 0, 0)) k = true then [l.getD k (0, 0, 0)] else [] := by
  unfold w1; rw [h]; rfl
theorem w1_3 (h : s 0 = 3) : w1 T s l k = if fs (fun q => bg_col (s 1) (l.getD q (0, 0, 0))) k = true then [gp1 (s 1) (s 2) l (bg_col (s 1) (l.getD k (0, 0, 0)))] else [] := by
  unfold w1; rw [h]; rfl
theorem w1_4 (h : s 0 = 4) : w1 T s l k = jw (kx (s 2) (l.getD k (0, 0, 0))) (s 3) (T (s 1).toNatClampNeg) := by
  unfold w1; rw [h]; rfl
theorem w1_s : (List.range (k + 1)).flatMap (w1 T s l) = (List.range k).flatMap (w1 T s l) ++ w1 T s l k := by
  rw [List.range_succ, List.flatMap_append, List.flatMap_singleton]
end W1
theorem fm_if {α β : Type} (p : α → Bool) (f : α → β) (L : List α) : L.flatMap (fun k => if p k = true then [f k] else []) = (L.filter p).map f := by
  induction L with
  | nil => rfl
  | cons a L ih =>
    rw [List.flatMap_cons, ih]
    cases h : p a
    · rw [List.filter_cons_of_neg (by rw [h]; decide)]; rfl
    · rw [List.filter_cons_of_pos h]; rfl
theorem w1_sp (T : Nat → List bg_T) {s : Nat → Int32} (l : List bg_T) (h : st_ok s) : (List.range l.length).flatMap (w1 T s l) = sp T s l := by
  have hm := mk_getD l (0, 0, 0)
  rcases h with h | h | h | h | ⟨h, -⟩
  · rw [sp_0 h]
    have e : w1 T s l = fun k => if op_m (bg_col (s 1) (l.getD k (0, 0, 0))) (s 2) (s 3) = true then [l.getD k (0, 0, 0)] else [] := funext (fun k => w1_0 h)
    rw [e, fm_if (fun k => op_m (bg_col (s 1) (l.getD k (0, 0, 0))) (s 2) (s 3)) (fun k => l.getD k (0, 0, 0))]
    conv => rhs; rw [← hm]
    rw [List.filter_map]
    rfl
  · rw [sp_1 h]
    have e : w1 T s l = fun k => [(bg_col (s 1) (l.getD k (0, 0, 0)), bg_col (s 2) (l.getD k (0, 0, 0)), bg_col (s 3) (l.getD k (0, 0, 0)))] := funext (fun k => w1_1 h)
    rw [e, ← List.map_eq_flatMap]
    conv => rhs; rw [← hm]
    rw [List.map_map]
    rfl
  · rw [sp_2 h]
    have e : w1 T s l = fun k => if fs (fun q => l.getD q (0, 0, 0)) k = true then [l.getD k (0, 0, 0)] else [] := funext (fun k => w1_2 h)
    rw [e, fm_if (fs (fun q => l.getD q (0, 0, 0))) (fun k => l.getD k (0, 0, 0))]
    rfl
  · rw [sp_3 h]
    have e : w1 T s l = fun k => if fs (fun q => bg_col (s 1) (l.getD q (0, 0, 0))) k = true then [gp1 (s 1) (s 2) l (bg_col (s 1) (l.getD k (0, 0, 0)))] else [] := funext (fun k => w1_3 h)
    rw [e, fm_if (fs (fun q => bg_col (s 1) (l.getD q (0, 0, 0)))) (fun k => gp1 (s 1) (s 2) l (bg_col (s 1) (l.getD k (0, 0, 0))))]
    rfl
  · rw [sp_4 h]
    have e : w1 T s l = fun k => jw (kx (s 2) (l.getD k (0, 0, 0))) (s 3) (T (s 1).toNatClampNeg) := funext (fun k => w1_4 h)
    rw [e]
    unfold jn_naive jw
    conv => rhs; rw [← hm]
    rw [List.map_map, List.flatMap_map]
    rfl
theorem w1_len (T : Nat → List bg_T) (s : Nat → Int32) (l : List bg_T) (hs : st_k s) (k : Nat) (hT : ∀ t, t < 3 → (T t).length ≤ 12) : ((List.range k).flatMap (w1 T s l)).length ≤ 12 * k := by
  have h1 : ∀ q, (w1 T s l q).length ≤ 12 := fun q => by
    rcases hs with ⟨h, -⟩ | ⟨h, -⟩ | h | ⟨h, -⟩ | ⟨h, ht, -⟩
    · rw [w1_0 h]; split <;> exact Nat.le_of_ble_eq_true rfl
    · rw [w1_1 h]; exact Nat.le_of_ble_eq_true rfl
    · rw [w1_2 h]; split <;> exact Nat.le_of_ble_eq_true rfl
    · rw [w1_3 h]; split <;> exact Nat.le_of_ble_eq_true rfl
    · rw [w1_4 h]
      obtain ⟨j, hj, e⟩ := tb_ok ht
      rw [e, nI_clamp (by omega)]
      exact Nat.le_trans (jw_le _ _ _) (hT j hj)
  induction k with
  | zero => exact Nat.le_refl _
  | succ k ih => rw [w1_s, List.length_append]; have := h1 k; omega
set_option maxRecDepth 100000 in
theorem m_first (l : Launch) {n : Nat} {h : pm_H} {g : Nat → Int32} {A : Nat → Nat → Int32} (M : mo_at n h g A) {lo : List bg_T} (R : ro g A lo) {k cc : Nat} (hk : k < lo.length) (hcc : cc ≤ 3) : bM0 l yX7_first cX7_first 7 (some (.boolean)) 0 [.ref 112, .int (nI k), .int (nI cc)] n h (fun r h' => r = some (.int (b2i (fsb (fun q => sm cc (lo.getD q (0, 0, 0)) (lo.getD k (0, 0, 0))) k))) ∧ h' = h) := by
  refine pm_enter rfl (Nat.le_of_ble_eq_true rfl) (fun G K Z => ?_)
  have hl := R.2.1
  have inn : ∀ (q c : Nat) (b : Bool) (x3 : Option Value), q < k → c < 3 → G 0 0 17 [some (.ref 112), some (.int (nI k)), some (.int (nI cc)), x3, some (.int (nI q)), some (.int (b2i (b && sm1 cc c (lo.getD q (0, 0, 0)) (lo.getD k (0, 0, 0))))), some (.int (nI (c + 1)))] [] n h → G 0 0 17 [some (.ref 112), some (.int (nI k)), some (.int (nI cc)), x3, some (.int (nI q)), some (.int (b2i b)), some (.int (nI c))] [] n h := by
    intro q c b x3 hq hc kk
    refine pm_iload K dX7_first_17 (q := 19) rfl rfl ?_
    refine pm_ic3 K dX7_first_19 (q := 20) rfl ?_
    refine pm_icmp_ge K dX7_first_20 (tgt := 78) (q := 23) rfl rfl (fun z => absurd ((kleI (a := 3) (b := c) rfl rfl (by omega) (by omega)).mp z) (by omega)) (fun _ => ?_)
    cases b
    · refine pm_iload K dX7_first_23 (q := 25) rfl rfl ?_
      refine pm_if_eq K dX7_first_25 (tgt := 69) (q := 28) rfl rfl (fun _ => ?_) (fun z => absurd z (fun z => z rfl))
      refine pm_ic0 K dX7_first_69 (q := 70) rfl ?_
      refine pm_istore K dX7_first_70 (q := 72) rfl (by decide) rfl ?_
      refine pm_inc K dX7_first_72 (q := 75) rfl rfl (by decide) rfl ?_
      refine pm_goto K dX7_first_75 (q := 17) rfl ?_
      exact kk
    · refine pm_iload K dX7_first_23 (q := 25) rfl rfl ?_
      refine pm_if_eq K dX7_first_25 (tgt := 69) (q := 28) rfl rfl (fun z => absurd z (by decide)) (fun _ => ?_)
      rw [Bool.true_and] at kk
      refine pm_iload_n K dX7_first_28 (q := 29) rfl rfl rfl ?_
      refine pm_ic3 K dX7_first_29 (q := 30) rfl ?_
      refine pm_icmp_eq K dX7_first_30 (tgt := 39) (q := 33) rfl rfl (fun z => ?_) (fun z => ?_)
      · have h3 : cc = 3 := (keqI (a := cc) (b := 3) rfl rfl (by omega) (by omega)).mp z
        have hs : ¬ (cc ≠ 3 ∧ c ≠ cc) := by omega
        refine pm_aload_n K dX7_first_39 (q := 40) rfl rfl rfl ?_
        refine pm_get K inX7 rfl (k := 12) (by decide) wlX7_35 rfl (by have := M.1; omega) M.2.1 rfl dX7_first_40 (q := 43) rfl ?_
        refine pm_ic3 K dX7_first_43 (q := 44) rfl ?_
        refine pm_iload K dX7_first_44 (q := 46) rfl rfl ?_
        refine pm_imul K dX7_first_46 (q := 47) rfl ?_
        refine pm_top (y := nI (3 * q)) (kmul (a := 3) (b := q) rfl rfl) ?_
        refine pm_iload K dX7_first_47 (q := 49) rfl rfl ?_
        refine pm_iadd K dX7_first_49 (q := 50) rfl ?_
        refine pm_top (y := nI (3 * q + c)) (kadd (a := 3 * q) (b := c) rfl rfl) ?_
        refine mo_iald (j := 8) K M (by decide) (by decide) (show 3 * q + c < 72 by omega) dX7_first_50 (q := 51) rfl ?_
        refine pm_top (y := bg_col (nI c) (lo.getD q (0, 0, 0))) (ro_col R (by omega) hc) ?_
        refine pm_aload_n K dX7_first_51 (q := 52) rfl rfl rfl ?_
        refine pm_get K inX7 rfl (k := 12) (by decide) wlX7_35 rfl (by have := M.1; omega) M.2.1 rfl dX7_first_52 (q := 55) rfl ?_
        refine pm_ic3 K dX7_first_55 (q := 56) rfl ?_
        refine pm_iload_n K dX7_first_56 (q := 57) rfl rfl rfl ?_
        refine pm_imul K dX7_first_57 (q := 58) rfl ?_
        refine pm_top (y := nI (3 * k)) (kmul (a := 3) (b := k) rfl rfl) ?_
        refine pm_iload K dX7_first_58 (q := 60) rfl rfl ?_
        refine pm_iadd K dX7_first_60 (q := 61) rfl ?_
        refine pm_top (y := nI (3 * k + c)) (kadd (a := 3 * k) (b := c) rfl rfl) ?_
        refine mo_iald (j := 8) K M (by decide) (by decide) (show 3 * k + c < 72 by omega) dX7_first_61 (q := 62) rfl ?_
        refine pm_top (y := bg_col (nI c) (lo.getD k (0, 0, 0))) (ro_col R (by omega) hc) ?_
        refine pm_icmp_ne K dX7_first_62 (tgt := 69) (q := 65) rfl rfl (fun hx => ?_) (fun hx => ?_)
        · rw [sm1_f hs hx] at kk
          refine pm_ic0 K dX7_first_69 (q := 70) rfl ?_
          refine pm_istore K dX7_first_70 (q := 72) rfl (by decide) rfl ?_
          refine pm_inc K dX7_first_72 (q := 75) rfl rfl (by decide) rfl ?_
          refine pm_goto K dX7_first_75 (q := 17) rfl ?_
          exact kk
        · rw [sm1_t hx] at kk
          refine pm_ic1 K dX7_first_65 (q := 66) rfl ?_
          refine pm_goto K dX7_first_66 (q := 70) rfl ?_
          refine pm_istore K dX7_first_70 (q := 72) rfl (by decide) rfl ?_
          refine pm_inc K dX7_first_72 (q := 75) rfl rfl (by decide) rfl ?_
          refine pm_goto K dX7_first_75 (q := 17) rfl ?_
          exact kk
      · have h3 : ¬ cc = 3 := fun y => z ((keqI (a := cc) (b := 3) rfl rfl (by omega) (by omega)).mpr y)
        refine pm_iload K dX7_first_33 (q := 35) rfl rfl ?_
        refine pm_iload_n K dX7_first_35 (q := 36) rfl rfl rfl ?_
        refine pm_icmp_ne K dX7_first_36 (tgt := 65) (q := 39) rfl rfl (fun z => ?_) (fun z => ?_)
        · have h4 : ¬ c = cc := fun y => z ((keqI (a := c) (b := cc) rfl rfl (by omega) (by omega)).mpr y)
          have hs : cc ≠ 3 ∧ c ≠ cc := ⟨h3, h4⟩
          rw [sm1_o hs] at kk
          refine pm_ic1 K dX7_first_65 (q := 66) rfl ?_
          refine pm_goto K dX7_first_66 (q := 70) rfl ?_
          refine pm_istore K dX7_first_70 (q := 72) rfl (by decide) rfl ?_
          refine pm_inc K dX7_first_72 (q := 75) rfl rfl (by decide) rfl ?_
          refine pm_goto K dX7_first_75 (q := 17) rfl ?_
          exact kk
        · have h4 : c = cc := (keqI (a := c) (b := cc) rfl rfl (by omega) (by omega)).mp z
          have hs : ¬ (cc ≠ 3 ∧ c ≠ cc) := by omega
          refine pm_aload_n K dX7_first_39 (q := 40) rfl rfl rfl ?_
          refine pm_get K inX7 rfl (k := 12) (by decide) wlX7_35 rfl (by have := M.1; omega) M.2.1 rfl dX7_first_40 (q := 43) rfl ?_
          refine pm_ic3 K dX7_first_43 (q := 44) rfl ?_
          refine pm_iload K dX7_first_44 (q := 46) rfl rfl ?_
          refine pm_imul K dX7_first_46 (q := 47) rfl ?_
          refine pm_top (y := nI (3 * q)) (kmul (a := 3) (b := q) rfl rfl) ?_
          refine pm_iload K dX7_first_47 (q := 49) rfl rfl ?_
          refine pm_iadd K dX7_first_49 (q := 50) rfl ?_
          refine pm_top (y := nI (3 * q + c)) (kadd (a := 3 * q) (b := c) rfl rfl) ?_
          refine mo_iald (j := 8) K M (by decide) (by decide) (show 3 * q + c < 72 by omega) dX7_first_50 (q := 51) rfl ?_
          refine pm_top (y := bg_col (nI c) (lo.getD q (0, 0, 0))) (ro_col R (by omega) hc) ?_
          refine pm_aload_n K dX7_first_51 (q := 52) rfl rfl rfl ?_
          refine pm_get K inX7 rfl (k := 12) (by decide) wlX7_35 rfl (by have := M.1; omega) M.2.1 rfl dX7_first_52 (q := 55) rfl ?_
          refine pm_ic3 K dX7_first_55 (q := 56) rfl ?_
          refine pm_iload_n K dX7_first_56 (q := 57) rfl rfl rfl ?_
          refine pm_imul K dX7_first_57 (q := 58) rfl ?_
          refine pm_top (y := nI (3 * k)) (kmul (a := 3) (b := k) rfl rfl) ?_
          refine pm_iload K dX7_first_58 (q := 60) rfl rfl ?_
          refine pm_iadd K dX7_first_60 (q := 61) rfl ?_
          refine pm_top (y := nI (3 * k + c)) (kadd (a := 3 * k) (b := c) rfl rfl) ?_
          refine mo_iald (j := 8) K M (by decide) (by decide) (show 3 * k + c < 72 by omega) dX7_first_61 (q := 62) rfl ?_
          refine pm_top (y := bg_col (nI c) (lo.getD k (0, 0, 0))) (ro_col R (by omega) hc) ?_
          refine pm_icmp_ne K dX7_first_62 (tgt := 69) (q := 65) rfl rfl (fun hx => ?_) (fun hx => ?_)
          · rw [sm1_f hs hx] at kk
            refine pm_ic0 K dX7_first_69 (q := 70) rfl ?_
            refine pm_istore K dX7_first_70 (q := 72) rfl (by decide) rfl ?_
            refine pm_inc K dX7_first_72 (q := 75) rfl rfl (by decide) rfl ?_
            refine pm_goto K dX7_first_75 (q := 17) rfl ?_
            exact kk
          · rw [sm1_t hx] at kk
            refine pm_ic1 K dX7_first_65 (q := 66) rfl ?_
            refine pm_goto K dX7_first_66 (q := 70) rfl ?_
            refine pm_istore K dX7_first_70 (q := 72) rfl (by decide) rfl ?_
            refine pm_inc K dX7_first_72 (q := 75) rfl rfl (by decide) rfl ?_
            refine pm_goto K dX7_first_75 (q := 17) rfl ?_
            exact kk
  refine pm_ic1 K dX7_first_0 (q := 1) rfl ?_
  refine pm_istore_n K dX7_first_1 (q := 2) rfl rfl (by decide) rfl ?_
  refine pm_ic0 K dX7_first_2 (q := 3) rfl ?_
  refine pm_istore K dX7_first_3 (q := 5) rfl (by decide) rfl ?_
  have loop : ∀ (m q : Nat) (x5 x6 : Option Value), q + m = k → G 0 0 5 [some (.ref 112), some (.int (nI k)), some (.int (nI cc)), some (.int (b2i (fsb (fun q => sm cc (lo.getD q (0, 0, 0)) (lo.getD k (0, 0, 0))) q))), some (.int (nI q)), x5, x6] [] n h := by
    intro m
    induction m with
    | zero =>
      intro q x5 x6 hm
      refine pm_iload K dX7_first_5 (q := 7) rfl rfl ?_
      refine pm_iload_n K dX7_first_7 (q := 8) rfl rfl rfl ?_
      refine pm_icmp_ge K dX7_first_8 (tgt := 99) (q := 11) rfl rfl (fun _ => ?_) (fun z => absurd ((kleI (a := k) (b := q) rfl rfl (by omega) (by omega)).mpr (by omega)) z)
      have eq : q = k := by omega
      subst eq
      refine pm_iload_n K dX7_first_99 (q := 100) rfl rfl rfl ?_
      exact pm_iret Z dX7_first_100 rfl (b2i_nar _) (Nat.le_of_ble_eq_true rfl) (Nat.le_of_ble_eq_true rfl) ⟨rfl, ⟨rfl, rfl⟩⟩
    | succ m ih =>
      intro q x5 x6 hm
      refine pm_iload K dX7_first_5 (q := 7) rfl rfl ?_
      refine pm_iload_n K dX7_first_7 (q := 8) rfl rfl rfl ?_
      refine pm_icmp_ge K dX7_first_8 (tgt := 99) (q := 11) rfl rfl (fun z => absurd ((kleI (a := k) (b := q) rfl rfl (by omega) (by omega)).mp z) (by omega)) (fun _ => ?_)
      refine pm_ic1 K dX7_first_11 (q := 12) rfl ?_
      refine pm_istore K dX7_first_12 (q := 14) rfl (by decide) rfl ?_
      refine pm_ic0 K dX7_first_14 (q := 15) rfl ?_
      refine pm_istore K dX7_first_15 (q := 17) rfl (by decide) rfl ?_
      refine inn q 0 true _ (by omega) (by decide) ?_
      refine inn q 1 _ _ (by omega) (by decide) ?_
      refine inn q 2 _ _ (by omega) (by decide) ?_
      refine pm_iload K dX7_first_17 (q := 19) rfl rfl ?_
      refine pm_ic3 K dX7_first_19 (q := 20) rfl ?_
      refine pm_icmp_ge K dX7_first_20 (tgt := 78) (q := 23) rfl rfl (fun _ => ?_) (fun z => absurd ((kleI (a := 3) (b := 3) rfl rfl (by omega) (by omega)).mpr (by omega)) z)
      have en : ∀ b, (true && sm1 cc 0 (lo.getD q (0, 0, 0)) (lo.getD k (0, 0, 0)) && sm1 cc 1 (lo.getD q (0, 0, 0)) (lo.getD k (0, 0, 0)) && sm1 cc 2 (lo.getD q (0, 0, 0)) (lo.getD k (0, 0, 0))) = b → fsb (fun q => sm cc (lo.getD q (0, 0, 0)) (lo.getD k (0, 0, 0))) (q + 1) = (fsb (fun q => sm cc (lo.getD q (0, 0, 0)) (lo.getD k (0, 0, 0))) q && !b) := fun b hb => by
        rw [fsb_s, sm, ← hb]
      cases hb : (true && sm1 cc 0 (lo.getD q (0, 0, 0)) (lo.getD k (0, 0, 0)) && sm1 cc 1 (lo.getD q (0, 0, 0)) (lo.getD k (0, 0, 0)) && sm1 cc 2 (lo.getD q (0, 0, 0)) (lo.getD k (0, 0, 0)))
      · have e2 := en _ hb
        have := ih (q + 1) (some (.int (b2i false))) (some (.int (nI 3))) (by omega)
        rw [e2] at this
        cases hf : fsb (fun q => sm cc (lo.getD q (0, 0, 0)) (lo.getD k (0, 0, 0))) q
        · rw [hf] at this
          refine pm_iload_n K dX7_first_78 (q := 79) rfl rfl rfl ?_
          refine pm_if_eq K dX7_first_79 (tgt := 91) (q := 82) rfl rfl (fun _ => ?_) (fun z => absurd z (fun z => z rfl))
          refine pm_ic0 K dX7_first_91 (q := 92) rfl ?_
          refine pm_istore_n K dX7_first_92 (q := 93) rfl rfl (by decide) rfl ?_
          refine pm_inc K dX7_first_93 (q := 96) rfl rfl (by decide) rfl ?_
          refine pm_goto K dX7_first_96 (q := 5) rfl ?_
          exact this
        · rw [hf] at this
          refine pm_iload_n K dX7_first_78 (q := 79) rfl rfl rfl ?_
          refine pm_if_eq K dX7_first_79 (tgt := 91) (q := 82) rfl rfl (fun z => absurd z (by decide)) (fun _ => ?_)
          refine pm_iload K dX7_first_82 (q := 84) rfl rfl ?_
          refine pm_if_ne K dX7_first_84 (tgt := 91) (q := 87) rfl rfl (fun z => absurd z (fun z => z rfl)) (fun _ => ?_)
          refine pm_ic1 K dX7_first_87 (q := 88) rfl ?_
          refine pm_goto K dX7_first_88 (q := 92) rfl ?_
          refine pm_istore_n K dX7_first_92 (q := 93) rfl rfl (by decide) rfl ?_
          refine pm_inc K dX7_first_93 (q := 96) rfl rfl (by decide) rfl ?_
          refine pm_goto K dX7_first_96 (q := 5) rfl ?_
          exact this
      · have e2 := en _ hb
        have := ih (q + 1) (some (.int (b2i true))) (some (.int (nI 3))) (by omega)
        rw [e2] at this
        cases hf : fsb (fun q => sm cc (lo.getD q (0, 0, 0)) (lo.getD k (0, 0, 0))) q
        · rw [hf] at this
          refine pm_iload_n K dX7_first_78 (q := 79) rfl rfl rfl ?_
          refine pm_if_eq K dX7_first_79 (tgt := 91) (q := 82) rfl rfl (fun _ => ?_) (fun z => absurd z (fun z => z rfl))
          refine pm_ic0 K dX7_first_91 (q := 92) rfl ?_
          refine pm_istore_n K dX7_first_92 (q := 93) rfl rfl (by decide) rfl ?_
          refine pm_inc K dX7_first_93 (q := 96) rfl rfl (by decide) rfl ?_
          refine pm_goto K dX7_first_96 (q := 5) rfl ?_
          exact this
        · rw [hf] at this
          refine pm_iload_n K dX7_first_78 (q := 79) rfl rfl rfl ?_
          refine pm_if_eq K dX7_first_79 (tgt := 91) (q := 82) rfl rfl (fun z => absurd z (by decide)) (fun _ => ?_)
          refine pm_iload K dX7_first_82 (q := 84) rfl rfl ?_
          refine pm_if_ne K dX7_first_84 (tgt := 91) (q := 87) rfl rfl (fun _ => ?_) (fun z => absurd z (fun z => absurd z (by decide)))
          refine pm_ic0 K dX7_first_91 (q := 92) rfl ?_
          refine pm_istore_n K dX7_first_92 (q := 93) rfl rfl (by decide) rfl ?_
          refine pm_inc K dX7_first_93 (q := 96) rfl rfl (by decide) rfl ?_
          refine pm_goto K dX7_first_96 (q := 5) rfl ?_
          exact this
  exact loop k 0 none none (by omega)
set_option maxRecDepth 100000 in
theorem m_groupOf (l : Launch) {n : Nat} {h : pm_H} {g : Nat → Int32} {A : Nat → Nat → Int32} (M : mo_at n h g A) {lo : List bg_T} (R : ro g A lo) {lg : List bg_T} (hg : gi g A lg) (hb : lg.length < 1000) {k gc a : Nat} (hk : k < lo.length) (hgc : gc < 3) (ha : a < 3) : bM0 l yX7_groupOf cX7_groupOf 7 none 1 [.ref 112, .int (nI k), .int (nI gc), .int (nI a)] n h (fun r h' => r = none ∧ ∃ g' A', mo_at n h' g' A' ∧ gi g' A' (lg ++ [gp1 (nI gc) (nI a) lo (bg_col (nI gc) (lo.getD k (0, 0, 0)))]) ∧ gf [15] [9] g A g' A' ∧ mo_fr h h') := by
  refine pm_enter rfl (Nat.le_of_ble_eq_true rfl) (fun G K Z => ?_)
  have hl := R.2.1
  obtain ⟨ky, hky⟩ : ∃ z, z = bg_col (nI gc) (lo.getD k (0, 0, 0)) := ⟨_, rfl⟩
  refine pm_ic0 K dX7_groupOf_0 (q := 1) rfl ?_
  refine pm_istore K dX7_groupOf_1 (q := 3) rfl (by decide) rfl ?_
  refine pm_ic0 K dX7_groupOf_3 (q := 4) rfl ?_
  refine pm_istore K dX7_groupOf_4 (q := 6) rfl (by decide) rfl ?_
  refine pm_ic0 K dX7_groupOf_6 (q := 7) rfl ?_
  refine pm_istore K dX7_groupOf_7 (q := 9) rfl (by decide) rfl ?_
  have loop : ∀ (m q : Nat), q + m = lo.length → G 0 0 9 [some (.ref 112), some (.int (nI k)), some (.int (nI gc)), some (.int (nI a)), some (.int (gsl (nI gc) (nI a) (lo.take q) ky).1), some (.int (nI (gsl (nI gc) (nI a) (lo.take q) ky).2)), some (.int (nI q))] [] n h := by
    intro m
    induction m with
    | zero =>
      intro q hm
      refine pm_iload K dX7_groupOf_9 (q := 11) rfl rfl ?_
      refine pm_aload_n K dX7_groupOf_11 (q := 12) rfl rfl rfl ?_
      refine pm_get K inX7 rfl (k := 13) (by decide) wlX7_78 rfl (by have := M.1; omega) M.2.1 rfl dX7_groupOf_12 (q := 15) rfl ?_
      refine pm_top (y := nI (lo.length)) (R.1) ?_
      refine pm_icmp_ge K dX7_groupOf_15 (tgt := 67) (q := 18) rfl rfl (fun _ => ?_) (fun z => absurd ((kleI (a := lo.length) (b := q) rfl rfl (by omega) (by omega)).mpr (by omega)) z)
      have eq : q = lo.length := by omega
      subst eq
      rw [List.take_length]
      refine pm_aload_n K dX7_groupOf_67 (q := 68) rfl rfl rfl ?_
      refine pm_aload_n K dX7_groupOf_68 (q := 69) rfl rfl rfl ?_
      refine pm_get K inX7 rfl (k := 12) (by decide) wlX7_35 rfl (by have := M.1; omega) M.2.1 rfl dX7_groupOf_69 (q := 72) rfl ?_
      refine pm_ic3 K dX7_groupOf_72 (q := 73) rfl ?_
      refine pm_iload_n K dX7_groupOf_73 (q := 74) rfl rfl rfl ?_
      refine pm_imul K dX7_groupOf_74 (q := 75) rfl ?_
      refine pm_top (y := nI (3 * k)) (kmul (a := 3) (b := k) rfl rfl) ?_
      refine pm_iload_n K dX7_groupOf_75 (q := 76) rfl rfl rfl ?_
      refine pm_iadd K dX7_groupOf_76 (q := 77) rfl ?_
      refine pm_top (y := nI (3 * k + gc)) (kadd (a := 3 * k) (b := gc) rfl rfl) ?_
      refine mo_iald (j := 8) K M (by decide) (by decide) (show 3 * k + gc < 72 by omega) dX7_groupOf_77 (q := 78) rfl ?_
      refine pm_top (y := ky) ((ro_col R hk hgc).trans hky.symm) ?_
      refine pm_iload K dX7_groupOf_78 (q := 80) rfl rfl ?_
      refine pm_iload K dX7_groupOf_80 (q := 82) rfl rfl ?_
      refine pm_callV0 K gw_ok wcX7_81 (m_give l M hg hb ky (gsl (nI gc) (nI a) lo ky).1 (nI (gsl (nI gc) (nI a) lo ky).2)) rfl (by have := M.1; omega) M.2.1 rfl rfl (Nat.le_of_ble_eq_true rfl) (by decide) dX7_groupOf_82 (q := 85) rfl (fun r2 h2 hp => ?_)
      obtain ⟨rfl, P⟩ := hp
      exact pm_vret Z dX7_groupOf_85 rfl (Nat.le_of_ble_eq_true rfl) (Nat.le_of_ble_eq_true rfl) ⟨rfl, ⟨rfl, by rw [← hky]; exact P⟩⟩
    | succ m ih =>
      intro q hm
      refine pm_iload K dX7_groupOf_9 (q := 11) rfl rfl ?_
      refine pm_aload_n K dX7_groupOf_11 (q := 12) rfl rfl rfl ?_
      refine pm_get K inX7 rfl (k := 13) (by decide) wlX7_78 rfl (by have := M.1; omega) M.2.1 rfl dX7_groupOf_12 (q := 15) rfl ?_
      refine pm_top (y := nI (lo.length)) (R.1) ?_
      refine pm_icmp_ge K dX7_groupOf_15 (tgt := 67) (q := 18) rfl rfl (fun z => absurd ((kleI (a := lo.length) (b := q) rfl rfl (by omega) (by omega)).mp z) (by omega)) (fun _ => ?_)
      have hs : gsl (nI gc) (nI a) (lo.take (q + 1)) ky = if bg_col (nI gc) (lo.getD q (0, 0, 0)) = ky then ((gsl (nI gc) (nI a) (lo.take q) ky).1 + bg_col (nI a) (lo.getD q (0, 0, 0)), (gsl (nI gc) (nI a) (lo.take q) ky).2 + 1) else gsl (nI gc) (nI a) (lo.take q) ky := gsl_s (by omega)
      have := ih (q + 1) (by omega)
      refine pm_aload_n K dX7_groupOf_18 (q := 19) rfl rfl rfl ?_
      refine pm_get K inX7 rfl (k := 12) (by decide) wlX7_35 rfl (by have := M.1; omega) M.2.1 rfl dX7_groupOf_19 (q := 22) rfl ?_
      refine pm_ic3 K dX7_groupOf_22 (q := 23) rfl ?_
      refine pm_iload K dX7_groupOf_23 (q := 25) rfl rfl ?_
      refine pm_imul K dX7_groupOf_25 (q := 26) rfl ?_
      refine pm_top (y := nI (3 * q)) (kmul (a := 3) (b := q) rfl rfl) ?_
      refine pm_iload_n K dX7_groupOf_26 (q := 27) rfl rfl rfl ?_
      refine pm_iadd K dX7_groupOf_27 (q := 28) rfl ?_
      refine pm_top (y := nI (3 * q + gc)) (kadd (a := 3 * q) (b := gc) rfl rfl) ?_
      refine mo_iald (j := 8) K M (by decide) (by decide) (show 3 * q + gc < 72 by omega) dX7_groupOf_28 (q := 29) rfl ?_
      refine pm_top (y := bg_col (nI gc) (lo.getD q (0, 0, 0))) (ro_col R (by omega) hgc) ?_
      refine pm_aload_n K dX7_groupOf_29 (q := 30) rfl rfl rfl ?_
      refine pm_get K inX7 rfl (k := 12) (by decide) wlX7_35 rfl (by have := M.1; omega) M.2.1 rfl dX7_groupOf_30 (q := 33) rfl ?_
      refine pm_ic3 K dX7_groupOf_33 (q := 34) rfl ?_
      refine pm_iload_n K dX7_groupOf_34 (q := 35) rfl rfl rfl ?_
      refine pm_imul K dX7_groupOf_35 (q := 36) rfl ?_
      refine pm_top (y := nI (3 * k)) (kmul (a := 3) (b := k) rfl rfl) ?_
      refine pm_iload_n K dX7_groupOf_36 (q := 37) rfl rfl rfl ?_
      refine pm_iadd K dX7_groupOf_37 (q := 38) rfl ?_
      refine pm_top (y := nI (3 * k + gc)) (kadd (a := 3 * k) (b := gc) rfl rfl) ?_
      refine mo_iald (j := 8) K M (by decide) (by decide) (show 3 * k + gc < 72 by omega) dX7_groupOf_38 (q := 39) rfl ?_
      refine pm_top (y := ky) ((ro_col R hk hgc).trans hky.symm) ?_
      refine pm_icmp_ne K dX7_groupOf_39 (tgt := 61) (q := 42) rfl rfl (fun hx => ?_) (fun hx => ?_)
      · rw [hs, if_neg hx] at this
        refine pm_inc K dX7_groupOf_61 (q := 64) rfl rfl (by decide) rfl ?_
        refine pm_goto K dX7_groupOf_64 (q := 9) rfl ?_
        exact this
      · rw [hs, if_pos hx] at this
        refine pm_iload K dX7_groupOf_42 (q := 44) rfl rfl ?_
        refine pm_aload_n K dX7_groupOf_44 (q := 45) rfl rfl rfl ?_
        refine pm_get K inX7 rfl (k := 12) (by decide) wlX7_35 rfl (by have := M.1; omega) M.2.1 rfl dX7_groupOf_45 (q := 48) rfl ?_
        refine pm_ic3 K dX7_groupOf_48 (q := 49) rfl ?_
        refine pm_iload K dX7_groupOf_49 (q := 51) rfl rfl ?_
        refine pm_imul K dX7_groupOf_51 (q := 52) rfl ?_
        refine pm_top (y := nI (3 * q)) (kmul (a := 3) (b := q) rfl rfl) ?_
        refine pm_iload_n K dX7_groupOf_52 (q := 53) rfl rfl rfl ?_
        refine pm_iadd K dX7_groupOf_53 (q := 54) rfl ?_
        refine pm_top (y := nI (3 * q + a)) (kadd (a := 3 * q) (b := a) rfl rfl) ?_
        refine mo_iald (j := 8) K M (by decide) (by decide) (show 3 * q + a < 72 by omega) dX7_groupOf_54 (q := 55) rfl ?_
        refine pm_top (y := bg_col (nI a) (lo.getD q (0, 0, 0))) (ro_col R (by omega) ha) ?_
        refine pm_iadd K dX7_groupOf_55 (q := 56) rfl ?_
        refine pm_istore K dX7_groupOf_56 (q := 58) rfl (by decide) rfl ?_
        refine pm_inc K dX7_groupOf_58 (q := 61) rfl rfl (by decide) rfl ?_
        refine pm_inc K dX7_groupOf_61 (q := 64) rfl rfl (by decide) rfl ?_
        refine pm_goto K dX7_groupOf_64 (q := 9) rfl ?_
        exact this
  exact loop lo.length 0 (by omega)
set_option maxRecDepth 100000 in
theorem m_joinWith (l : Launch) {n : Nat} {h : pm_H} {g : Nat → Int32} {A : Nat → Nat → Int32} (M : mo_at n h g A) {lo : List bg_T} (R : ro g A lo) {T : Nat → List bg_T} (B : ta A T) {lg : List bg_T} (hg : gi g A lg) (hb : lg.length + 12 < 1000) {k t x y : Nat} (hk : k < lo.length) (ht : t < 3) (hx : x < 3) (hy : y < 3) : bM0 l yX7_joinWith cX7_joinWith 6 none 1 [.ref 112, .int (nI k), .int (nI t), .int (nI x), .int (nI y)] n h (fun r h' => r = none ∧ ∃ g' A', mo_at n h' g' A' ∧ gi g' A' (lg ++ jw (kx (nI x) (lo.getD k (0, 0, 0))) (nI y) (T t)) ∧ gf [15] [9] g A g' A' ∧ mo_fr h h') := by
  refine pm_enter rfl (Nat.le_of_ble_eq_true rfl) (fun G K Z => ?_)
  have hl := R.2.1
  have hT := (B t ht).1
  refine pm_bipush (v := 36) K dX7_joinWith_0 (q := 2) rfl (by decide) ?_
  refine pm_iload_n K dX7_joinWith_2 (q := 3) rfl rfl rfl ?_
  refine pm_imul K dX7_joinWith_3 (q := 4) rfl ?_
  refine pm_top (y := nI (36 * t)) (kmul (a := 36) (b := t) rfl rfl) ?_
  refine pm_istore K dX7_joinWith_4 (q := 6) rfl (by decide) rfl ?_
  have loop : ∀ (m i : Nat) (h1 : pm_H) (g1 : Nat → Int32) (A1 : Nat → Nat → Int32), i + m = (T t).length → mo_at n h1 g1 A1 → gi g1 A1 (lg ++ jw (kx (nI x) (lo.getD k (0, 0, 0))) (nI y) ((T t).take i)) → gf [15] [9] g A g1 A1 → mo_fr h h1 → G 0 0 6 [some (.ref 112), some (.int (nI k)), some (.int (nI t)), some (.int (nI x)), some (.int (nI y)), some (.int (nI (36 * t + 3 * i)))] [] n h1 := by
    intro m
    induction m with
    | zero =>
      intro i h1 g1 A1 hm M1 hg1 F1 hf1
      have R1 := R.gf F1
      have B1 := B.gf F1
      refine pm_iload K dX7_joinWith_6 (q := 8) rfl rfl ?_
      refine pm_bipush (v := 36) K dX7_joinWith_8 (q := 10) rfl (by decide) ?_
      refine pm_iload_n K dX7_joinWith_10 (q := 11) rfl rfl rfl ?_
      refine pm_imul K dX7_joinWith_11 (q := 12) rfl ?_
      refine pm_top (y := nI (36 * t)) (kmul (a := 36) (b := t) rfl rfl) ?_
      refine pm_ic3 K dX7_joinWith_12 (q := 13) rfl ?_
      refine pm_aload_n K dX7_joinWith_13 (q := 14) rfl rfl rfl ?_
      refine pm_get K inX7 rfl (k := 1) (by decide) wlX7_13 rfl (by have := M1.1; omega) M1.2.1 rfl dX7_joinWith_14 (q := 17) rfl ?_
      refine pm_iload_n K dX7_joinWith_17 (q := 18) rfl rfl rfl ?_
      refine mo_iald (j := 1) K M1 (by decide) (by decide) (show t < 3 by omega) dX7_joinWith_18 (q := 19) rfl ?_
      refine pm_top (y := nI ((T t).length)) ((B1 t ht).2.1) ?_
      refine pm_imul K dX7_joinWith_19 (q := 20) rfl ?_
      refine pm_top (y := nI (3 * ((T t).length))) (kmul (a := 3) (b := (T t).length) rfl rfl) ?_
      refine pm_iadd K dX7_joinWith_20 (q := 21) rfl ?_
      refine pm_top (y := nI (36 * t + (3 * ((T t).length)))) (kadd (a := 36 * t) (b := 3 * ((T t).length)) rfl rfl) ?_
      refine pm_icmp_ge K dX7_joinWith_21 (tgt := 107) (q := 24) rfl rfl (fun _ => ?_) (fun z => absurd ((kleI (a := 36 * t + (3 * ((T t).length))) (b := 36 * t + 3 * i) rfl rfl (by omega) (by omega)).mpr (by omega)) z)
      have ei : i = (T t).length := by omega
      subst ei
      rw [List.take_length] at hg1
      exact pm_vret Z dX7_joinWith_107 rfl (Nat.le_of_ble_eq_true rfl) (Nat.le_of_ble_eq_true rfl) ⟨rfl, ⟨rfl, g1, A1, M1, hg1, F1, hf1⟩⟩
    | succ m ih =>
      intro i h1 g1 A1 hm M1 hg1 F1 hf1
      have R1 := R.gf F1
      have B1 := B.gf F1
      refine pm_iload K dX7_joinWith_6 (q := 8) rfl rfl ?_
      refine pm_bipush (v := 36) K dX7_joinWith_8 (q := 10) rfl (by decide) ?_
      refine pm_iload_n K dX7_joinWith_10 (q := 11) rfl rfl rfl ?_
      refine pm_imul K dX7_joinWith_11 (q := 12) rfl ?_
      refine pm_top (y := nI (36 * t)) (kmul (a := 36) (b := t) rfl rfl) ?_
      refine pm_ic3 K dX7_joinWith_12 (q := 13) rfl ?_
      refine pm_aload_n K dX7_joinWith_13 (q := 14) rfl rfl rfl ?_
      refine pm_get K inX7 rfl (k := 1) (by decide) wlX7_13 rfl (by have := M1.1; omega) M1.2.1 rfl dX7_joinWith_14 (q := 17) rfl ?_
      refine pm_iload_n K dX7_joinWith_17 (q := 18) rfl rfl rfl ?_
      refine mo_iald (j := 1) K M1 (by decide) (by decide) (show t < 3 by omega) dX7_joinWith_18 (q := 19) rfl ?_
      refine pm_top (y := nI ((T t).length)) ((B1 t ht).2.1) ?_
      refine pm_imul K dX7_joinWith_19 (q := 20) rfl ?_
      refine pm_top (y := nI (3 * ((T t).length))) (kmul (a := 3) (b := (T t).length) rfl rfl) ?_
      refine pm_iadd K dX7_joinWith_20 (q := 21) rfl ?_
      refine pm_top (y := nI (36 * t + (3 * ((T t).length)))) (kadd (a := 36 * t) (b := 3 * ((T t).length)) rfl rfl) ?_
      refine pm_icmp_ge K dX7_joinWith_21 (tgt := 107) (q := 24) rfl rfl (fun z => absurd ((kleI (a := 36 * t + (3 * ((T t).length))) (b := 36 * t + 3 * i) rfl rfl (by omega) (by omega)).mp z) (by omega)) (fun _ => ?_)
      have hu := ls3_at (B1 t ht).2.2 (show i < (T t).length by omega)
      have huc := ls3_col (B1 t ht).2.2 (show i < (T t).length by omega) hy
      have hr := ls3_at R1.2.2 hk
      rw [Nat.zero_add] at hr
      refine pm_aload_n K dX7_joinWith_24 (q := 25) rfl rfl rfl ?_
      refine pm_get K inX7 rfl (k := 12) (by decide) wlX7_35 rfl (by have := M1.1; omega) M1.2.1 rfl dX7_joinWith_25 (q := 28) rfl ?_
      refine pm_ic3 K dX7_joinWith_28 (q := 29) rfl ?_
      refine pm_iload_n K dX7_joinWith_29 (q := 30) rfl rfl rfl ?_
      refine pm_imul K dX7_joinWith_30 (q := 31) rfl ?_
      refine pm_top (y := nI (3 * k)) (kmul (a := 3) (b := k) rfl rfl) ?_
      refine pm_iload_n K dX7_joinWith_31 (q := 32) rfl rfl rfl ?_
      refine pm_iadd K dX7_joinWith_32 (q := 33) rfl ?_
      refine pm_top (y := nI (3 * k + x)) (kadd (a := 3 * k) (b := x) rfl rfl) ?_
      refine mo_iald (j := 8) K M1 (by decide) (by decide) (show 3 * k + x < 72 by omega) dX7_joinWith_33 (q := 34) rfl ?_
      refine pm_top (y := bg_col (nI x) (lo.getD k (0, 0, 0))) (ro_col R1 hk hx) ?_
      refine pm_aload_n K dX7_joinWith_34 (q := 35) rfl rfl rfl ?_
      refine pm_get K inX7 rfl (k := 0) (by decide) wlX7_7 rfl (by have := M1.1; omega) M1.2.1 rfl dX7_joinWith_35 (q := 38) rfl ?_
      refine pm_iload K dX7_joinWith_38 (q := 40) rfl rfl ?_
      refine pm_iload K dX7_joinWith_40 (q := 42) rfl rfl ?_
      refine pm_iadd K dX7_joinWith_42 (q := 43) rfl ?_
      refine pm_top (y := nI (36 * t + 3 * i + y)) (kadd (a := 36 * t + 3 * i) (b := y) rfl rfl) ?_
      refine mo_iald (j := 0) K M1 (by decide) (by decide) (show 36 * t + 3 * i + y < 108 by omega) dX7_joinWith_43 (q := 44) rfl ?_
      refine pm_top (y := bg_col (nI y) ((T t).getD i (0, 0, 0))) (huc) ?_
      refine pm_icmp_ne K dX7_joinWith_44 (tgt := 101) (q := 47) rfl rfl (fun he => ?_) (fun he => ?_)
      · refine pm_iinc (v := nI (36 * t + 3 * i + 3)) K dX7_joinWith_101 (q := 104) rfl rfl (kadd (a := 36 * t + 3 * i) (b := 3) rfl rfl) (by decide) rfl ?_
        refine pm_goto K dX7_joinWith_104 (q := 6) rfl ?_
        exact ih (i + 1) h1 g1 A1 (by omega) M1 (by rw [jw_n (by omega) he]; exact hg1) F1 hf1
      · have hle := jw_le (kx (nI x) (lo.getD k (0, 0, 0))) (nI y) ((T t).take i)
        rw [List.length_take] at hle
        refine pm_aload_n K dX7_joinWith_47 (q := 48) rfl rfl rfl ?_
        refine pm_aload_n K dX7_joinWith_48 (q := 49) rfl rfl rfl ?_
        refine pm_get K inX7 rfl (k := 12) (by decide) wlX7_35 rfl (by have := M1.1; omega) M1.2.1 rfl dX7_joinWith_49 (q := 52) rfl ?_
        refine pm_ic3 K dX7_joinWith_52 (q := 53) rfl ?_
        refine pm_iload_n K dX7_joinWith_53 (q := 54) rfl rfl rfl ?_
        refine pm_imul K dX7_joinWith_54 (q := 55) rfl ?_
        refine pm_top (y := nI (3 * k)) (kmul (a := 3) (b := k) rfl rfl) ?_
        refine pm_iload_n K dX7_joinWith_55 (q := 56) rfl rfl rfl ?_
        refine pm_iadd K dX7_joinWith_56 (q := 57) rfl ?_
        refine pm_top (y := nI (3 * k + x)) (kadd (a := 3 * k) (b := x) rfl rfl) ?_
        refine mo_iald (j := 8) K M1 (by decide) (by decide) (show 3 * k + x < 72 by omega) dX7_joinWith_57 (q := 58) rfl ?_
        refine pm_top (y := bg_col (nI x) (lo.getD k (0, 0, 0))) (ro_col R1 hk hx) ?_
        refine pm_aload_n K dX7_joinWith_58 (q := 59) rfl rfl rfl ?_
        refine pm_get K inX7 rfl (k := 12) (by decide) wlX7_35 rfl (by have := M1.1; omega) M1.2.1 rfl dX7_joinWith_59 (q := 62) rfl ?_
        refine pm_ic3 K dX7_joinWith_62 (q := 63) rfl ?_
        refine pm_iload_n K dX7_joinWith_63 (q := 64) rfl rfl rfl ?_
        refine pm_imul K dX7_joinWith_64 (q := 65) rfl ?_
        refine pm_top (y := nI (3 * k)) (kmul (a := 3) (b := k) rfl rfl) ?_
        refine pm_ic1 K dX7_joinWith_65 (q := 66) rfl ?_
        refine pm_iadd K dX7_joinWith_66 (q := 67) rfl ?_
        refine pm_top (y := nI (3 * k + 1)) (kadd (a := 3 * k) (b := 1) rfl rfl) ?_
        refine mo_iald (j := 8) K M1 (by decide) (by decide) (show 3 * k + 1 < 72 by omega) dX7_joinWith_67 (q := 68) rfl ?_
        refine pm_top (y := (lo.getD k (0, 0, 0)).2.1) (hr.2.1) ?_
        refine pm_aload_n K dX7_joinWith_68 (q := 69) rfl rfl rfl ?_
        refine pm_get K inX7 rfl (k := 0) (by decide) wlX7_7 rfl (by have := M1.1; omega) M1.2.1 rfl dX7_joinWith_69 (q := 72) rfl ?_
        refine pm_iload K dX7_joinWith_72 (q := 74) rfl rfl ?_
        refine pm_ic1 K dX7_joinWith_74 (q := 75) rfl ?_
        refine pm_iadd K dX7_joinWith_75 (q := 76) rfl ?_
        refine pm_top (y := nI (36 * t + 3 * i + 1)) (kadd (a := 36 * t + 3 * i) (b := 1) rfl rfl) ?_
        refine mo_iald (j := 0) K M1 (by decide) (by decide) (show 36 * t + 3 * i + 1 < 108 by omega) dX7_joinWith_76 (q := 77) rfl ?_
        refine pm_top (y := ((T t).getD i (0, 0, 0)).2.1) (hu.2.1) ?_
        refine pm_iadd K dX7_joinWith_77 (q := 78) rfl ?_
        refine pm_aload_n K dX7_joinWith_78 (q := 79) rfl rfl rfl ?_
        refine pm_get K inX7 rfl (k := 12) (by decide) wlX7_35 rfl (by have := M1.1; omega) M1.2.1 rfl dX7_joinWith_79 (q := 82) rfl ?_
        refine pm_ic3 K dX7_joinWith_82 (q := 83) rfl ?_
        refine pm_iload_n K dX7_joinWith_83 (q := 84) rfl rfl rfl ?_
        refine pm_imul K dX7_joinWith_84 (q := 85) rfl ?_
        refine pm_top (y := nI (3 * k)) (kmul (a := 3) (b := k) rfl rfl) ?_
        refine pm_ic2 K dX7_joinWith_85 (q := 86) rfl ?_
        refine pm_iadd K dX7_joinWith_86 (q := 87) rfl ?_
        refine pm_top (y := nI (3 * k + 2)) (kadd (a := 3 * k) (b := 2) rfl rfl) ?_
        refine mo_iald (j := 8) K M1 (by decide) (by decide) (show 3 * k + 2 < 72 by omega) dX7_joinWith_87 (q := 88) rfl ?_
        refine pm_top (y := (lo.getD k (0, 0, 0)).2.2) (hr.2.2) ?_
        refine pm_aload_n K dX7_joinWith_88 (q := 89) rfl rfl rfl ?_
        refine pm_get K inX7 rfl (k := 0) (by decide) wlX7_7 rfl (by have := M1.1; omega) M1.2.1 rfl dX7_joinWith_89 (q := 92) rfl ?_
        refine pm_iload K dX7_joinWith_92 (q := 94) rfl rfl ?_
        refine pm_ic2 K dX7_joinWith_94 (q := 95) rfl ?_
        refine pm_iadd K dX7_joinWith_95 (q := 96) rfl ?_
        refine pm_top (y := nI (36 * t + 3 * i + 2)) (kadd (a := 36 * t + 3 * i) (b := 2) rfl rfl) ?_
        refine mo_iald (j := 0) K M1 (by decide) (by decide) (show 36 * t + 3 * i + 2 < 108 by omega) dX7_joinWith_96 (q := 97) rfl ?_
        refine pm_top (y := ((T t).getD i (0, 0, 0)).2.2) (hu.2.2) ?_
        refine pm_iadd K dX7_joinWith_97 (q := 98) rfl ?_
        refine pm_callV0 K gw_ok wcX7_81 (m_give l M1 hg1 (by rw [List.length_append]; omega) (bg_col (nI x) (lo.getD k (0, 0, 0))) ((lo.getD k (0, 0, 0)).2.1 + ((T t).getD i (0, 0, 0)).2.1) ((lo.getD k (0, 0, 0)).2.2 + ((T t).getD i (0, 0, 0)).2.2)) rfl (by have := M1.1; omega) M1.2.1 rfl rfl (Nat.le_of_ble_eq_true rfl) (by decide) dX7_joinWith_98 (q := 101) rfl (fun r2 h2 hp => ?_)
        obtain ⟨rfl, g2, A2, M2, hg2, F2, hf2⟩ := hp
        refine pm_iinc (v := nI (36 * t + 3 * i + 3)) K dX7_joinWith_101 (q := 104) rfl rfl (kadd (a := 36 * t + 3 * i) (b := 3) rfl rfl) (by decide) rfl ?_
        refine pm_goto K dX7_joinWith_104 (q := 6) rfl ?_
        exact ih (i + 1) h2 g2 A2 (by omega) M2 (by rw [jw_t (by omega) he, ← List.append_assoc]; exact hg2) (F1.tr F2) (hf1.tr hf2)
  exact loop (T t).length 0 h g A (by omega) M (by rw [List.take_zero]; exact (List.append_nil lg).symm ▸ hg) gf.rf mo_fr.rf
set_option maxRecDepth 100000 in
theorem m_work (l : Launch) {n : Nat} {h : pm_H} {g : Nat → Int32} {A : Nat → Nat → Int32} (M : mo_at n h g A) {lo : List bg_T} (R : ro g A lo) {T : Nat → List bg_T} (B : ta A T) {s : Nat} {S : Nat → Int32} (hs : s < 3) (hS : A 2 s = S 0 ∧ A 3 s = S 1 ∧ A 4 s = S 2 ∧ A 5 s = S 3) (hst : st_k S) : bM0 l yX7_work cX7_work 6 none 2 [.ref 112, .int (nI s)] n h (fun r h' => r = none ∧ ∃ g' A', mo_at n h' g' A' ∧ gi g' A' (sp T S lo) ∧ gf [15] [9] g A g' A' ∧ mo_fr h h') := by
  refine pm_enter rfl (Nat.le_of_ble_eq_true rfl) (fun G K Z => ?_)
  have hl := R.2.1
  refine pm_aload_n K dX7_work_0 (q := 1) rfl rfl rfl ?_
  refine pm_get K inX7 rfl (k := 6) (by decide) wlX7_19 rfl (by have := M.1; omega) M.2.1 rfl dX7_work_1 (q := 4) rfl ?_
  refine pm_iload_n K dX7_work_4 (q := 5) rfl rfl rfl ?_
  refine mo_iald (j := 3) K M (by decide) (by decide) (show s < 3 by omega) dX7_work_5 (q := 6) rfl ?_
  refine pm_top (y := S 1) (hS.2.1) ?_
  refine pm_istore_n K dX7_work_6 (q := 7) rfl rfl (by decide) rfl ?_
  refine pm_aload_n K dX7_work_7 (q := 8) rfl rfl rfl ?_
  refine pm_get K inX7 rfl (k := 7) (by decide) wlX7_22 rfl (by have := M.1; omega) M.2.1 rfl dX7_work_8 (q := 11) rfl ?_
  refine pm_iload_n K dX7_work_11 (q := 12) rfl rfl rfl ?_
  refine mo_iald (j := 4) K M (by decide) (by decide) (show s < 3 by omega) dX7_work_12 (q := 13) rfl ?_
  refine pm_top (y := S 2) (hS.2.2.1) ?_
  refine pm_istore_n K dX7_work_13 (q := 14) rfl rfl (by decide) rfl ?_
  refine pm_aload_n K dX7_work_14 (q := 15) rfl rfl rfl ?_
  refine pm_get K inX7 rfl (k := 8) (by decide) wlX7_25 rfl (by have := M.1; omega) M.2.1 rfl dX7_work_15 (q := 18) rfl ?_
  refine pm_iload_n K dX7_work_18 (q := 19) rfl rfl rfl ?_
  refine mo_iald (j := 5) K M (by decide) (by decide) (show s < 3 by omega) dX7_work_19 (q := 20) rfl ?_
  refine pm_top (y := S 3) (hS.2.2.2) ?_
  refine pm_istore K dX7_work_20 (q := 22) rfl (by decide) rfl ?_
  refine pm_aload_n K dX7_work_22 (q := 23) rfl rfl rfl ?_
  refine pm_ic0 K dX7_work_23 (q := 24) rfl ?_
  refine mo_put (k := 15) K M (by decide) wlX7_75 dX7_work_24 (q := 27) rfl (fun hm1 M1 Fm1 => ?_)
  refine pm_ic0 K dX7_work_27 (q := 28) rfl ?_
  refine pm_istore K dX7_work_28 (q := 30) rfl (by decide) rfl ?_
  have hgi : gi (upd g 15 (nI 0)) A [] := ⟨rfl, fun k hk => absurd hk (Nat.not_lt_zero _)⟩
  have hgf0 : gf [15] [9] g A (upd g 15 (nI 0)) A := gf.rf.up (by decide) _
  have hstk := hst
  rcases hst with ⟨k0, v1⟩ | ⟨k0, v1, v2, v3⟩ | k0 | ⟨k0, v1, v2⟩ | ⟨k0, v1, v2, v3⟩
  · obtain ⟨c1, hc1, e1⟩ := tb_ok v1
    rw [e1]
    have loop : ∀ (m k : Nat) (h1 : pm_H) (g1 : Nat → Int32) (A1 : Nat → Nat → Int32), k + m = lo.length → mo_at n h1 g1 A1 → gi g1 A1 ((List.range k).flatMap (w1 T S lo)) → gf [15] [9] g A g1 A1 → mo_fr h h1 → G 0 0 30 [some (.ref 112), some (.int (nI s)), some (.int (nI c1)), some (.int (S 2)), some (.int (S 3)), some (.int (nI k))] [] n h1 := by
      intro m
      induction m with
      | zero =>
        intro k h1 g1 A1 hm M1 hg1 F1 hf1
        have R1 := R.gf F1
        have B1 := B.gf F1
        have hwl := w1_len T S lo hstk k (fun t ht => (B t ht).1)
        refine pm_iload K dX7_work_30 (q := 32) rfl rfl ?_
        refine pm_aload_n K dX7_work_32 (q := 33) rfl rfl rfl ?_
        refine pm_get K inX7 rfl (k := 13) (by decide) wlX7_78 rfl (by have := M1.1; omega) M1.2.1 rfl dX7_work_33 (q := 36) rfl ?_
        refine pm_top (y := nI (lo.length)) ((F1.1 13 (by decide)).trans R.1) ?_
        refine pm_icmp_ge K dX7_work_36 (tgt := 226) (q := 39) rfl rfl (fun _ => ?_) (fun z => absurd ((kleI (a := lo.length) (b := k) rfl rfl (by omega) (by omega)).mpr (by omega)) z)
        have ek : k = lo.length := by omega
        subst ek
        exact pm_vret Z dX7_work_226 rfl (Nat.le_of_ble_eq_true rfl) (Nat.le_of_ble_eq_true rfl) ⟨rfl, ⟨rfl, g1, A1, M1, by rw [← w1_sp T lo hstk.ok]; exact hg1, F1, hf1⟩⟩
      | succ m ih =>
        intro k h1 g1 A1 hm M1 hg1 F1 hf1
        have R1 := R.gf F1
        have B1 := B.gf F1
        have hwl := w1_len T S lo hstk k (fun t ht => (B t ht).1)
        refine pm_iload K dX7_work_30 (q := 32) rfl rfl ?_
        refine pm_aload_n K dX7_work_32 (q := 33) rfl rfl rfl ?_
        refine pm_get K inX7 rfl (k := 13) (by decide) wlX7_78 rfl (by have := M1.1; omega) M1.2.1 rfl dX7_work_33 (q := 36) rfl ?_
        refine pm_top (y := nI (lo.length)) ((F1.1 13 (by decide)).trans R.1) ?_
        refine pm_icmp_ge K dX7_work_36 (tgt := 226) (q := 39) rfl rfl (fun z => absurd ((kleI (a := lo.length) (b := k) rfl rfl (by omega) (by omega)).mp z) (by omega)) (fun _ => ?_)
        have hr := ls3_at R1.2.2 (show k < lo.length by omega)
        rw [Nat.zero_add] at hr
        refine pm_aload_n K dX7_work_39 (q := 40) rfl rfl rfl ?_
        refine pm_get K inX7 rfl (k := 5) (by decide) wlX7_16 rfl (by have := M1.1; omega) M1.2.1 rfl dX7_work_40 (q := 43) rfl ?_
        refine pm_iload_n K dX7_work_43 (q := 44) rfl rfl rfl ?_
        refine mo_iald (j := 2) K M1 (by decide) (by decide) (show s < 3 by omega) dX7_work_44 (q := 45) rfl ?_
        refine pm_top (y := nI (0)) (((congrFun (F1.2 2 (by decide)) s).trans (hS.1.trans k0))) ?_
        refine pm_if_ne K dX7_work_45 (tgt := 69) (q := 48) rfl rfl (fun z => absurd ((keqI (a := 0) (b := 0) rfl rfl (by omega) (by omega)).mpr (by omega)) z) (fun _ => ?_)
        refine pm_aload_n K dX7_work_48 (q := 49) rfl rfl rfl ?_
        refine pm_aload_n K dX7_work_49 (q := 50) rfl rfl rfl ?_
        refine pm_get K inX7 rfl (k := 12) (by decide) wlX7_35 rfl (by have := M1.1; omega) M1.2.1 rfl dX7_work_50 (q := 53) rfl ?_
        refine pm_ic3 K dX7_work_53 (q := 54) rfl ?_
        refine pm_iload K dX7_work_54 (q := 56) rfl rfl ?_
        refine pm_imul K dX7_work_56 (q := 57) rfl ?_
        refine pm_top (y := nI (3 * k)) (kmul (a := 3) (b := k) rfl rfl) ?_
        refine pm_iload_n K dX7_work_57 (q := 58) rfl rfl rfl ?_
        refine pm_iadd K dX7_work_58 (q := 59) rfl ?_
        refine pm_top (y := nI (3 * k + c1)) (kadd (a := 3 * k) (b := c1) rfl rfl) ?_
        refine mo_iald (j := 8) K M1 (by decide) (by decide) (show 3 * k + c1 < 72 by omega) dX7_work_59 (q := 60) rfl ?_
        refine pm_top (y := bg_col (nI c1) (lo.getD k (0, 0, 0))) (ro_col R1 (by omega) hc1) ?_
        refine pm_iload_n K dX7_work_60 (q := 61) rfl rfl rfl ?_
        refine pm_iload K dX7_work_61 (q := 63) rfl rfl ?_
        refine pm_callV0 K gw_ok wcX7_85 (m_passes l M1 (bg_col (nI c1) (lo.getD k (0, 0, 0))) (S 2) (S 3)) rfl (by have := M1.1; omega) M1.2.1 rfl rfl (Nat.le_of_ble_eq_true rfl) (by decide) dX7_work_63 (q := 66) rfl (fun r9 h9 hp => ?_)
        obtain ⟨rfl, e9⟩ := hp
        rw [e9]
        cases hv : op_m (bg_col (nI c1) (lo.getD k (0, 0, 0))) (S 2) (S 3)
        · refine pm_if_ne K dX7_work_66 (tgt := 89) (q := 69) rfl rfl (fun z => absurd z (fun z => z rfl)) (fun _ => ?_)
          refine pm_aload_n K dX7_work_69 (q := 70) rfl rfl rfl ?_
          refine pm_get K inX7 rfl (k := 5) (by decide) wlX7_16 rfl (by have := M1.1; omega) M1.2.1 rfl dX7_work_70 (q := 73) rfl ?_
          refine pm_iload_n K dX7_work_73 (q := 74) rfl rfl rfl ?_
          refine mo_iald (j := 2) K M1 (by decide) (by decide) (show s < 3 by omega) dX7_work_74 (q := 75) rfl ?_
          refine pm_top (y := nI (0)) (((congrFun (F1.2 2 (by decide)) s).trans (hS.1.trans k0))) ?_
          refine pm_ic2 K dX7_work_75 (q := 76) rfl ?_
          refine pm_icmp_ne K dX7_work_76 (tgt := 124) (q := 79) rfl rfl (fun _ => ?_) (fun z => absurd ((keqI (a := 0) (b := 2) rfl rfl (by omega) (by omega)).mp z) (by omega))
          refine pm_aload_n K dX7_work_124 (q := 125) rfl rfl rfl ?_
          refine pm_get K inX7 rfl (k := 5) (by decide) wlX7_16 rfl (by have := M1.1; omega) M1.2.1 rfl dX7_work_125 (q := 128) rfl ?_
          refine pm_iload_n K dX7_work_128 (q := 129) rfl rfl rfl ?_
          refine mo_iald (j := 2) K M1 (by decide) (by decide) (show s < 3 by omega) dX7_work_129 (q := 130) rfl ?_
          refine pm_top (y := nI (0)) (((congrFun (F1.2 2 (by decide)) s).trans (hS.1.trans k0))) ?_
          refine pm_ic1 K dX7_work_130 (q := 131) rfl ?_
          refine pm_icmp_ne K dX7_work_131 (tgt := 172) (q := 134) rfl rfl (fun _ => ?_) (fun z => absurd ((keqI (a := 0) (b := 1) rfl rfl (by omega) (by omega)).mp z) (by omega))
          refine pm_aload_n K dX7_work_172 (q := 173) rfl rfl rfl ?_
          refine pm_get K inX7 rfl (k := 5) (by decide) wlX7_16 rfl (by have := M1.1; omega) M1.2.1 rfl dX7_work_173 (q := 176) rfl ?_
          refine pm_iload_n K dX7_work_176 (q := 177) rfl rfl rfl ?_
          refine mo_iald (j := 2) K M1 (by decide) (by decide) (show s < 3 by omega) dX7_work_177 (q := 178) rfl ?_
          refine pm_top (y := nI (0)) (((congrFun (F1.2 2 (by decide)) s).trans (hS.1.trans k0))) ?_
          refine pm_ic3 K dX7_work_178 (q := 179) rfl ?_
          refine pm_icmp_ne K dX7_work_179 (tgt := 200) (q := 182) rfl rfl (fun _ => ?_) (fun z => absurd ((keqI (a := 0) (b := 3) rfl rfl (by omega) (by omega)).mp z) (by omega))
          refine pm_aload_n K dX7_work_200 (q := 201) rfl rfl rfl ?_
          refine pm_get K inX7 rfl (k := 5) (by decide) wlX7_16 rfl (by have := M1.1; omega) M1.2.1 rfl dX7_work_201 (q := 204) rfl ?_
          refine pm_iload_n K dX7_work_204 (q := 205) rfl rfl rfl ?_
          refine mo_iald (j := 2) K M1 (by decide) (by decide) (show s < 3 by omega) dX7_work_205 (q := 206) rfl ?_
          refine pm_top (y := nI (0)) (((congrFun (F1.2 2 (by decide)) s).trans (hS.1.trans k0))) ?_
          refine pm_ic4 K dX7_work_206 (q := 207) rfl ?_
          refine pm_icmp_ne K dX7_work_207 (tgt := 220) (q := 210) rfl rfl (fun _ => ?_) (fun z => absurd ((keqI (a := 0) (b := 4) rfl rfl (by omega) (by omega)).mp z) (by omega))
          refine pm_inc K dX7_work_220 (q := 223) rfl rfl (by decide) rfl ?_
          refine pm_goto K dX7_work_223 (q := 30) rfl ?_
          exact ih (k + 1) h1 g1 A1 (by omega) M1 (by rw [w1_s, w1_0 k0, e1, hv, if_neg (by decide), List.append_nil]; exact hg1) F1 hf1
        · refine pm_if_ne K dX7_work_66 (tgt := 89) (q := 69) rfl rfl (fun _ => ?_) (fun z => absurd z (fun z => absurd z (by decide)))
          refine pm_aload_n K dX7_work_89 (q := 90) rfl rfl rfl ?_
          refine pm_aload_n K dX7_work_90 (q := 91) rfl rfl rfl ?_
          refine pm_get K inX7 rfl (k := 12) (by decide) wlX7_35 rfl (by have := M1.1; omega) M1.2.1 rfl dX7_work_91 (q := 94) rfl ?_
          refine pm_ic3 K dX7_work_94 (q := 95) rfl ?_
          refine pm_iload K dX7_work_95 (q := 97) rfl rfl ?_
          refine pm_imul K dX7_work_97 (q := 98) rfl ?_
          refine pm_top (y := nI (3 * k)) (kmul (a := 3) (b := k) rfl rfl) ?_
          refine mo_iald (j := 8) K M1 (by decide) (by decide) (show 3 * k < 72 by omega) dX7_work_98 (q := 99) rfl ?_
          refine pm_top (y := (lo.getD k (0, 0, 0)).1) (hr.1) ?_
          refine pm_aload_n K dX7_work_99 (q := 100) rfl rfl rfl ?_
          refine pm_get K inX7 rfl (k := 12) (by decide) wlX7_35 rfl (by have := M1.1; omega) M1.2.1 rfl dX7_work_100 (q := 103) rfl ?_
          refine pm_ic3 K dX7_work_103 (q := 104) rfl ?_
          refine pm_iload K dX7_work_104 (q := 106) rfl rfl ?_
          refine pm_imul K dX7_work_106 (q := 107) rfl ?_
          refine pm_top (y := nI (3 * k)) (kmul (a := 3) (b := k) rfl rfl) ?_
          refine pm_ic1 K dX7_work_107 (q := 108) rfl ?_
          refine pm_iadd K dX7_work_108 (q := 109) rfl ?_
          refine pm_top (y := nI (3 * k + 1)) (kadd (a := 3 * k) (b := 1) rfl rfl) ?_
          refine mo_iald (j := 8) K M1 (by decide) (by decide) (show 3 * k + 1 < 72 by omega) dX7_work_109 (q := 110) rfl ?_
          refine pm_top (y := (lo.getD k (0, 0, 0)).2.1) (hr.2.1) ?_
          refine pm_aload_n K dX7_work_110 (q := 111) rfl rfl rfl ?_
          refine pm_get K inX7 rfl (k := 12) (by decide) wlX7_35 rfl (by have := M1.1; omega) M1.2.1 rfl dX7_work_111 (q := 114) rfl ?_
          refine pm_ic3 K dX7_work_114 (q := 115) rfl ?_
          refine pm_iload K dX7_work_115 (q := 117) rfl rfl ?_
          refine pm_imul K dX7_work_117 (q := 118) rfl ?_
          refine pm_top (y := nI (3 * k)) (kmul (a := 3) (b := k) rfl rfl) ?_
          refine pm_ic2 K dX7_work_118 (q := 119) rfl ?_
          refine pm_iadd K dX7_work_119 (q := 120) rfl ?_
          refine pm_top (y := nI (3 * k + 2)) (kadd (a := 3 * k) (b := 2) rfl rfl) ?_
          refine mo_iald (j := 8) K M1 (by decide) (by decide) (show 3 * k + 2 < 72 by omega) dX7_work_120 (q := 121) rfl ?_
          refine pm_top (y := (lo.getD k (0, 0, 0)).2.2) (hr.2.2) ?_
          refine pm_callV0 K gw_ok wcX7_81 (m_give l M1 hg1 (by omega) (lo.getD k (0, 0, 0)).1 (lo.getD k (0, 0, 0)).2.1 (lo.getD k (0, 0, 0)).2.2) rfl (by have := M1.1; omega) M1.2.1 rfl rfl (Nat.le_of_ble_eq_true rfl) (by decide) dX7_work_121 (q := 124) rfl (fun r2 h2 hp => ?_)
          obtain ⟨rfl, g2, A2, M2, hg2, F2, hf2⟩ := hp
          refine pm_aload_n K dX7_work_124 (q := 125) rfl rfl rfl ?_
          refine pm_get K inX7 rfl (k := 5) (by decide) wlX7_16 rfl (by have := M2.1; omega) M2.2.1 rfl dX7_work_125 (q := 128) rfl ?_
          refine pm_iload_n K dX7_work_128 (q := 129) rfl rfl rfl ?_
          refine mo_iald (j := 2) K M2 (by decide) (by decide) (show s < 3 by omega) dX7_work_129 (q := 130) rfl ?_
          refine pm_top (y := nI (0)) (((congrFun (F2.2 2 (by decide)) s).trans ((congrFun (F1.2 2 (by decide)) s).trans (hS.1.trans k0)))) ?_
          refine pm_ic1 K dX7_work_130 (q := 131) rfl ?_
          refine pm_icmp_ne K dX7_work_131 (tgt := 172) (q := 134) rfl rfl (fun _ => ?_) (fun z => absurd ((keqI (a := 0) (b := 1) rfl rfl (by omega) (by omega)).mp z) (by omega))
          refine pm_aload_n K dX7_work_172 (q := 173) rfl rfl rfl ?_
          refine pm_get K inX7 rfl (k := 5) (by decide) wlX7_16 rfl (by have := M2.1; omega) M2.2.1 rfl dX7_work_173 (q := 176) rfl ?_
          refine pm_iload_n K dX7_work_176 (q := 177) rfl rfl rfl ?_
          refine mo_iald (j := 2) K M2 (by decide) (by decide) (show s < 3 by omega) dX7_work_177 (q := 178) rfl ?_
          refine pm_top (y := nI (0)) (((congrFun (F2.2 2 (by decide)) s).trans ((congrFun (F1.2 2 (by decide)) s).trans (hS.1.trans k0)))) ?_
          refine pm_ic3 K dX7_work_178 (q := 179) rfl ?_
          refine pm_icmp_ne K dX7_work_179 (tgt := 200) (q := 182) rfl rfl (fun _ => ?_) (fun z => absurd ((keqI (a := 0) (b := 3) rfl rfl (by omega) (by omega)).mp z) (by omega))
          refine pm_aload_n K dX7_work_200 (q := 201) rfl rfl rfl ?_
          refine pm_get K inX7 rfl (k := 5) (by decide) wlX7_16 rfl (by have := M2.1; omega) M2.2.1 rfl dX7_work_201 (q := 204) rfl ?_
          refine pm_iload_n K dX7_work_204 (q := 205) rfl rfl rfl ?_
          refine mo_iald (j := 2) K M2 (by decide) (by decide) (show s < 3 by omega) dX7_work_205 (q := 206) rfl ?_
          refine pm_top (y := nI (0)) (((congrFun (F2.2 2 (by decide)) s).trans ((congrFun (F1.2 2 (by decide)) s).trans (hS.1.trans k0)))) ?_
          refine pm_ic4 K dX7_work_206 (q := 207) rfl ?_
          refine pm_icmp_ne K dX7_work_207 (tgt := 220) (q := 210) rfl rfl (fun _ => ?_) (fun z => absurd ((keqI (a := 0) (b := 4) rfl rfl (by omega) (by omega)).mp z) (by omega))
          refine pm_inc K dX7_work_220 (q := 223) rfl rfl (by decide) rfl ?_
          refine pm_goto K dX7_work_223 (q := 30) rfl ?_
          exact ih (k + 1) h2 g2 A2 (by omega) M2 (by rw [w1_s, w1_0 k0, e1, hv, if_pos rfl]; exact hg2) (F1.tr F2) (hf1.tr hf2)
    exact loop lo.length 0 _ _ _ (by omega) M1 hgi hgf0 Fm1
  · obtain ⟨c1, hc1, e1⟩ := tb_ok v1
    obtain ⟨c2, hc2, e2⟩ := tb_ok v2
    obtain ⟨c3, hc3, e3⟩ := tb_ok v3
    rw [e1, e2, e3]
    have loop : ∀ (m k : Nat) (h1 : pm_H) (g1 : Nat → Int32) (A1 : Nat → Nat → Int32), k + m = lo.length → mo_at n h1 g1 A1 → gi g1 A1 ((List.range k).flatMap (w1 T S lo)) → gf [15] [9] g A g1 A1 → mo_fr h h1 → G 0 0 30 [some (.ref 112), some (.int (nI s)), some (.int (nI c1)), some (.int (nI c2)), some (.int (nI c3)), some (.int (nI k))] [] n h1 := by
      intro m
      induction m with
      | zero =>
        intro k h1 g1 A1 hm M1 hg1 F1 hf1
        have R1 := R.gf F1
        have B1 := B.gf F1
        have hwl := w1_len T S lo hstk k (fun t ht => (B t ht).1)
        refine pm_iload K dX7_work_30 (q := 32) rfl rfl ?_
        refine pm_aload_n K dX7_work_32 (q := 33) rfl rfl rfl ?_
        refine pm_get K inX7 rfl (k := 13) (by decide) wlX7_78 rfl (by have := M1.1; omega) M1.2.1 rfl dX7_work_33 (q := 36) rfl ?_
        refine pm_top (y := nI (lo.length)) ((F1.1 13 (by decide)).trans R.1) ?_
        refine pm_icmp_ge K dX7_work_36 (tgt := 226) (q := 39) rfl rfl (fun _ => ?_) (fun z => absurd ((kleI (a := lo.length) (b := k) rfl rfl (by omega) (by omega)).mpr (by omega)) z)
        have ek : k = lo.length := by omega
        subst ek
        exact pm_vret Z dX7_work_226 rfl (Nat.le_of_ble_eq_true rfl) (Nat.le_of_ble_eq_true rfl) ⟨rfl, ⟨rfl, g1, A1, M1, by rw [← w1_sp T lo hstk.ok]; exact hg1, F1, hf1⟩⟩
      | succ m ih =>
        intro k h1 g1 A1 hm M1 hg1 F1 hf1
        have R1 := R.gf F1
        have B1 := B.gf F1
        have hwl := w1_len T S lo hstk k (fun t ht => (B t ht).1)
        refine pm_iload K dX7_work_30 (q := 32) rfl rfl ?_
        refine pm_aload_n K dX7_work_32 (q := 33) rfl rfl rfl ?_
        refine pm_get K inX7 rfl (k := 13) (by decide) wlX7_78 rfl (by have := M1.1; omega) M1.2.1 rfl dX7_work_33 (q := 36) rfl ?_
        refine pm_top (y := nI (lo.length)) ((F1.1 13 (by decide)).trans R.1) ?_
        refine pm_icmp_ge K dX7_work_36 (tgt := 226) (q := 39) rfl rfl (fun z => absurd ((kleI (a := lo.length) (b := k) rfl rfl (by omega) (by omega)).mp z) (by omega)) (fun _ => ?_)
        have hr := ls3_at R1.2.2 (show k < lo.length by omega)
        rw [Nat.zero_add] at hr
        refine pm_aload_n K dX7_work_39 (q := 40) rfl rfl rfl ?_
        refine pm_get K inX7 rfl (k := 5) (by decide) wlX7_16 rfl (by have := M1.1; omega) M1.2.1 rfl dX7_work_40 (q := 43) rfl ?_
        refine pm_iload_n K dX7_work_43 (q := 44) rfl rfl rfl ?_
        refine mo_iald (j := 2) K M1 (by decide) (by decide) (show s < 3 by omega) dX7_work_44 (q := 45) rfl ?_
        refine pm_top (y := nI (1)) (((congrFun (F1.2 2 (by decide)) s).trans (hS.1.trans k0))) ?_
        refine pm_if_ne K dX7_work_45 (tgt := 69) (q := 48) rfl rfl (fun _ => ?_) (fun z => absurd ((keqI (a := 1) (b := 0) rfl rfl (by omega) (by omega)).mp z) (by omega))
        refine pm_aload_n K dX7_work_69 (q := 70) rfl rfl rfl ?_
        refine pm_get K inX7 rfl (k := 5) (by decide) wlX7_16 rfl (by have := M1.1; omega) M1.2.1 rfl dX7_work_70 (q := 73) rfl ?_
        refine pm_iload_n K dX7_work_73 (q := 74) rfl rfl rfl ?_
        refine mo_iald (j := 2) K M1 (by decide) (by decide) (show s < 3 by omega) dX7_work_74 (q := 75) rfl ?_
        refine pm_top (y := nI (1)) (((congrFun (F1.2 2 (by decide)) s).trans (hS.1.trans k0))) ?_
        refine pm_ic2 K dX7_work_75 (q := 76) rfl ?_
        refine pm_icmp_ne K dX7_work_76 (tgt := 124) (q := 79) rfl rfl (fun _ => ?_) (fun z => absurd ((keqI (a := 1) (b := 2) rfl rfl (by omega) (by omega)).mp z) (by omega))
        refine pm_aload_n K dX7_work_124 (q := 125) rfl rfl rfl ?_
        refine pm_get K inX7 rfl (k := 5) (by decide) wlX7_16 rfl (by have := M1.1; omega) M1.2.1 rfl dX7_work_125 (q := 128) rfl ?_
        refine pm_iload_n K dX7_work_128 (q := 129) rfl rfl rfl ?_
        refine mo_iald (j := 2) K M1 (by decide) (by decide) (show s < 3 by omega) dX7_work_129 (q := 130) rfl ?_
        refine pm_top (y := nI (1)) (((congrFun (F1.2 2 (by decide)) s).trans (hS.1.trans k0))) ?_
        refine pm_ic1 K dX7_work_130 (q := 131) rfl ?_
        refine pm_icmp_ne K dX7_work_131 (tgt := 172) (q := 134) rfl rfl (fun z => absurd ((keqI (a := 1) (b := 1) rfl rfl (by omega) (by omega)).mpr (by omega)) z) (fun _ => ?_)
        refine pm_aload_n K dX7_work_134 (q := 135) rfl rfl rfl ?_
        refine pm_aload_n K dX7_work_135 (q := 136) rfl rfl rfl ?_
        refine pm_get K inX7 rfl (k := 12) (by decide) wlX7_35 rfl (by have := M1.1; omega) M1.2.1 rfl dX7_work_136 (q := 139) rfl ?_
        refine pm_ic3 K dX7_work_139 (q := 140) rfl ?_
        refine pm_iload K dX7_work_140 (q := 142) rfl rfl ?_
        refine pm_imul K dX7_work_142 (q := 143) rfl ?_
        refine pm_top (y := nI (3 * k)) (kmul (a := 3) (b := k) rfl rfl) ?_
        refine pm_iload_n K dX7_work_143 (q := 144) rfl rfl rfl ?_
        refine pm_iadd K dX7_work_144 (q := 145) rfl ?_
        refine pm_top (y := nI (3 * k + c1)) (kadd (a := 3 * k) (b := c1) rfl rfl) ?_
        refine mo_iald (j := 8) K M1 (by decide) (by decide) (show 3 * k + c1 < 72 by omega) dX7_work_145 (q := 146) rfl ?_
        refine pm_top (y := bg_col (nI c1) (lo.getD k (0, 0, 0))) (ro_col R1 (by omega) hc1) ?_
        refine pm_aload_n K dX7_work_146 (q := 147) rfl rfl rfl ?_
        refine pm_get K inX7 rfl (k := 12) (by decide) wlX7_35 rfl (by have := M1.1; omega) M1.2.1 rfl dX7_work_147 (q := 150) rfl ?_
        refine pm_ic3 K dX7_work_150 (q := 151) rfl ?_
        refine pm_iload K dX7_work_151 (q := 153) rfl rfl ?_
        refine pm_imul K dX7_work_153 (q := 154) rfl ?_
        refine pm_top (y := nI (3 * k)) (kmul (a := 3) (b := k) rfl rfl) ?_
        refine pm_iload_n K dX7_work_154 (q := 155) rfl rfl rfl ?_
        refine pm_iadd K dX7_work_155 (q := 156) rfl ?_
        refine pm_top (y := nI (3 * k + c2)) (kadd (a := 3 * k) (b := c2) rfl rfl) ?_
        refine mo_iald (j := 8) K M1 (by decide) (by decide) (show 3 * k + c2 < 72 by omega) dX7_work_156 (q := 157) rfl ?_
        refine pm_top (y := bg_col (nI c2) (lo.getD k (0, 0, 0))) (ro_col R1 (by omega) hc2) ?_
        refine pm_aload_n K dX7_work_157 (q := 158) rfl rfl rfl ?_
        refine pm_get K inX7 rfl (k := 12) (by decide) wlX7_35 rfl (by have := M1.1; omega) M1.2.1 rfl dX7_work_158 (q := 161) rfl ?_
        refine pm_ic3 K dX7_work_161 (q := 162) rfl ?_
        refine pm_iload K dX7_work_162 (q := 164) rfl rfl ?_
        refine pm_imul K dX7_work_164 (q := 165) rfl ?_
        refine pm_top (y := nI (3 * k)) (kmul (a := 3) (b := k) rfl rfl) ?_
        refine pm_iload K dX7_work_165 (q := 167) rfl rfl ?_
        refine pm_iadd K dX7_work_167 (q := 168) rfl ?_
        refine pm_top (y := nI (3 * k + c3)) (kadd (a := 3 * k) (b := c3) rfl rfl) ?_
        refine mo_iald (j := 8) K M1 (by decide) (by decide) (show 3 * k + c3 < 72 by omega) dX7_work_168 (q := 169) rfl ?_
        refine pm_top (y := bg_col (nI c3) (lo.getD k (0, 0, 0))) (ro_col R1 (by omega) hc3) ?_
        refine pm_callV0 K gw_ok wcX7_81 (m_give l M1 hg1 (by omega) (bg_col (nI c1) (lo.getD k (0, 0, 0))) (bg_col (nI c2) (lo.getD k (0, 0, 0))) (bg_col (nI c3) (lo.getD k (0, 0, 0)))) rfl (by have := M1.1; omega) M1.2.1 rfl rfl (Nat.le_of_ble_eq_true rfl) (by decide) dX7_work_169 (q := 172) rfl (fun r2 h2 hp => ?_)
        obtain ⟨rfl, g2, A2, M2, hg2, F2, hf2⟩ := hp
        refine pm_aload_n K dX7_work_172 (q := 173) rfl rfl rfl ?_
        refine pm_get K inX7 rfl (k := 5) (by decide) wlX7_16 rfl (by have := M2.1; omega) M2.2.1 rfl dX7_work_173 (q := 176) rfl ?_
        refine pm_iload_n K dX7_work_176 (q := 177) rfl rfl rfl ?_
        refine mo_iald (j := 2) K M2 (by decide) (by decide) (show s < 3 by omega) dX7_work_177 (q := 178) rfl ?_
        refine pm_top (y := nI (1)) (((congrFun (F2.2 2 (by decide)) s).trans ((congrFun (F1.2 2 (by decide)) s).trans (hS.1.trans k0)))) ?_
        refine pm_ic3 K dX7_work_178 (q := 179) rfl ?_
        refine pm_icmp_ne K dX7_work_179 (tgt := 200) (q := 182) rfl rfl (fun _ => ?_) (fun z => absurd ((keqI (a := 1) (b := 3) rfl rfl (by omega) (by omega)).mp z) (by omega))
        refine pm_aload_n K dX7_work_200 (q := 201) rfl rfl rfl ?_
        refine pm_get K inX7 rfl (k := 5) (by decide) wlX7_16 rfl (by have := M2.1; omega) M2.2.1 rfl dX7_work_201 (q := 204) rfl ?_
        refine pm_iload_n K dX7_work_204 (q := 205) rfl rfl rfl ?_
        refine mo_iald (j := 2) K M2 (by decide) (by decide) (show s < 3 by omega) dX7_work_205 (q := 206) rfl ?_
        refine pm_top (y := nI (1)) (((congrFun (F2.2 2 (by decide)) s).trans ((congrFun (F1.2 2 (by decide)) s).trans (hS.1.trans k0)))) ?_
        refine pm_ic4 K dX7_work_206 (q := 207) rfl ?_
        refine pm_icmp_ne K dX7_work_207 (tgt := 220) (q := 210) rfl rfl (fun _ => ?_) (fun z => absurd ((keqI (a := 1) (b := 4) rfl rfl (by omega) (by omega)).mp z) (by omega))
        refine pm_inc K dX7_work_220 (q := 223) rfl rfl (by decide) rfl ?_
        refine pm_goto K dX7_work_223 (q := 30) rfl ?_
        exact ih (k + 1) h2 g2 A2 (by omega) M2 (by rw [w1_s, w1_1 k0, e1, e2, e3]; exact hg2) (F1.tr F2) (hf1.tr hf2)
    exact loop lo.length 0 _ _ _ (by omega) M1 hgi hgf0 Fm1
  · have loop : ∀ (m k : Nat) (h1 : pm_H) (g1 : Nat → Int32) (A1 : Nat → Nat → Int32), k + m = lo.length → mo_at n h1 g1 A1 → gi g1 A1 ((List.range k).flatMap (w1 T S lo)) → gf [15] [9] g A g1 A1 → mo_fr h h1 → G 0 0 30 [some (.ref 112), some (.int (nI s)), some (.int (S 1)), some (.int (S 2)), some (.int (S 3)), some (.int (nI k))] [] n h1 := by
      intro m
      induction m with
      | zero =>
        intro k h1 g1 A1 hm M1 hg1 F1 hf1
        have R1 := R.gf F1
        have B1 := B.gf F1
        have hwl := w1_len T S lo hstk k (fun t ht => (B t ht).1)
        refine pm_iload K dX7_work_30 (q := 32) rfl rfl ?_
        refine pm_aload_n K dX7_work_32 (q := 33) rfl rfl rfl ?_
        refine pm_get K inX7 rfl (k := 13) (by decide) wlX7_78 rfl (by have := M1.1; omega) M1.2.1 rfl dX7_work_33 (q := 36) rfl ?_
        refine pm_top (y := nI (lo.length)) ((F1.1 13 (by decide)).trans R.1) ?_
        refine pm_icmp_ge K dX7_work_36 (tgt := 226) (q := 39) rfl rfl (fun _ => ?_) (fun z => absurd ((kleI (a := lo.length) (b := k) rfl rfl (by omega) (by omega)).mpr (by omega)) z)
        have ek : k = lo.length := by omega
        subst ek
        exact pm_vret Z dX7_work_226 rfl (Nat.le_of_ble_eq_true rfl) (Nat.le_of_ble_eq_true rfl) ⟨rfl, ⟨rfl, g1, A1, M1, by rw [← w1_sp T lo hstk.ok]; exact hg1, F1, hf1⟩⟩
      | succ m ih =>
        intro k h1 g1 A1 hm M1 hg1 F1 hf1
        have R1 := R.gf F1
        have B1 := B.gf F1
        have hwl := w1_len T S lo hstk k (fun t ht => (B t ht).1)
        refine pm_iload K dX7_work_30 (q := 32) rfl rfl ?_
        refine pm_aload_n K dX7_work_32 (q := 33) rfl rfl rfl ?_
        refine pm_get K inX7 rfl (k := 13) (by decide) wlX7_78 rfl (by have := M1.1; omega) M1.2.1 rfl dX7_work_33 (q := 36) rfl ?_
        refine pm_top (y := nI (lo.length)) ((F1.1 13 (by decide)).trans R.1) ?_
        refine pm_icmp_ge K dX7_work_36 (tgt := 226) (q := 39) rfl rfl (fun z => absurd ((kleI (a := lo.length) (b := k) rfl rfl (by omega) (by omega)).mp z) (by omega)) (fun _ => ?_)
        have hr := ls3_at R1.2.2 (show k < lo.length by omega)
        rw [Nat.zero_add] at hr
        refine pm_aload_n K dX7_work_39 (q := 40) rfl rfl rfl ?_
        refine pm_get K inX7 rfl (k := 5) (by decide) wlX7_16 rfl (by have := M1.1; omega) M1.2.1 rfl dX7_work_40 (q := 43) rfl ?_
        refine pm_iload_n K dX7_work_43 (q := 44) rfl rfl rfl ?_
        refine mo_iald (j := 2) K M1 (by decide) (by decide) (show s < 3 by omega) dX7_work_44 (q := 45) rfl ?_
        refine pm_top (y := nI (2)) (((congrFun (F1.2 2 (by decide)) s).trans (hS.1.trans k0))) ?_
        refine pm_if_ne K dX7_work_45 (tgt := 69) (q := 48) rfl rfl (fun _ => ?_) (fun z => absurd ((keqI (a := 2) (b := 0) rfl rfl (by omega) (by omega)).mp z) (by omega))
        refine pm_aload_n K dX7_work_69 (q := 70) rfl rfl rfl ?_
        refine pm_get K inX7 rfl (k := 5) (by decide) wlX7_16 rfl (by have := M1.1; omega) M1.2.1 rfl dX7_work_70 (q := 73) rfl ?_
        refine pm_iload_n K dX7_work_73 (q := 74) rfl rfl rfl ?_
        refine mo_iald (j := 2) K M1 (by decide) (by decide) (show s < 3 by omega) dX7_work_74 (q := 75) rfl ?_
        refine pm_top (y := nI (2)) (((congrFun (F1.2 2 (by decide)) s).trans (hS.1.trans k0))) ?_
        refine pm_ic2 K dX7_work_75 (q := 76) rfl ?_
        refine pm_icmp_ne K dX7_work_76 (tgt := 124) (q := 79) rfl rfl (fun z => absurd ((keqI (a := 2) (b := 2) rfl rfl (by omega) (by omega)).mpr (by omega)) z) (fun _ => ?_)
        refine pm_aload_n K dX7_work_79 (q := 80) rfl rfl rfl ?_
        refine pm_iload K dX7_work_80 (q := 82) rfl rfl ?_
        refine pm_ic3 K dX7_work_82 (q := 83) rfl ?_
        refine pm_callV0 K gw_ok wcX7_88 (m_first l M1 R1 (k := k) (cc := 3) (by omega) (by omega)) rfl (by have := M1.1; omega) M1.2.1 rfl rfl (Nat.le_of_ble_eq_true rfl) (by decide) dX7_work_83 (q := 86) rfl (fun r9 h9 hp => ?_)
        obtain ⟨rfl, e9⟩ := hp
        rw [e9, sm_3]
        cases hv : fs (fun q => (lo.getD q (0, 0, 0))) k
        · refine pm_if_eq K dX7_work_86 (tgt := 124) (q := 89) rfl rfl (fun _ => ?_) (fun z => absurd z (fun z => z rfl))
          refine pm_aload_n K dX7_work_124 (q := 125) rfl rfl rfl ?_
          refine pm_get K inX7 rfl (k := 5) (by decide) wlX7_16 rfl (by have := M1.1; omega) M1.2.1 rfl dX7_work_125 (q := 128) rfl ?_
          refine pm_iload_n K dX7_work_128 (q := 129) rfl rfl rfl ?_
          refine mo_iald (j := 2) K M1 (by decide) (by decide) (show s < 3 by omega) dX7_work_129 (q := 130) rfl ?_
          refine pm_top (y := nI (2)) (((congrFun (F1.2 2 (by decide)) s).trans (hS.1.trans k0))) ?_
          refine pm_ic1 K dX7_work_130 (q := 131) rfl ?_
          refine pm_icmp_ne K dX7_work_131 (tgt := 172) (q := 134) rfl rfl (fun _ => ?_) (fun z => absurd ((keqI (a := 2) (b := 1) rfl rfl (by omega) (by omega)).mp z) (by omega))
          refine pm_aload_n K dX7_work_172 (q := 173) rfl rfl rfl ?_
          refine pm_get K inX7 rfl (k := 5) (by decide) wlX7_16 rfl (by have := M1.1; omega) M1.2.1 rfl dX7_work_173 (q := 176) rfl ?_
          refine pm_iload_n K dX7_work_176 (q := 177) rfl rfl rfl ?_
          refine mo_iald (j := 2) K M1 (by decide) (by decide) (show s < 3 by omega) dX7_work_177 (q := 178) rfl ?_
          refine pm_top (y := nI (2)) (((congrFun (F1.2 2 (by decide)) s).trans (hS.1.trans k0))) ?_
          refine pm_ic3 K dX7_work_178 (q := 179) rfl ?_
          refine pm_icmp_ne K dX7_work_179 (tgt := 200) (q := 182) rfl rfl (fun _ => ?_) (fun z => absurd ((keqI (a := 2) (b := 3) rfl rfl (by omega) (by omega)).mp z) (by omega))
          refine pm_aload_n K dX7_work_200 (q := 201) rfl rfl rfl ?_
          refine pm_get K inX7 rfl (k := 5) (by decide) wlX7_16 rfl (by have := M1.1; omega) M1.2.1 rfl dX7_work_201 (q := 204) rfl ?_
          refine pm_iload_n K dX7_work_204 (q := 205) rfl rfl rfl ?_
          refine mo_iald (j := 2) K M1 (by decide) (by decide) (show s < 3 by omega) dX7_work_205 (q := 206) rfl ?_
          refine pm_top (y := nI (2)) (((congrFun (F1.2 2 (by decide)) s).trans (hS.1.trans k0))) ?_
          refine pm_ic4 K dX7_work_206 (q := 207) rfl ?_
          refine pm_icmp_ne K dX7_work_207 (tgt := 220) (q := 210) rfl rfl (fun _ => ?_) (fun z => absurd ((keqI (a := 2) (b := 4) rfl rfl (by omega) (by omega)).mp z) (by omega))
          refine pm_inc K dX7_work_220 (q := 223) rfl rfl (by decide) rfl ?_
          refine pm_goto K dX7_work_223 (q := 30) rfl ?_
          exact ih (k + 1) h1 g1 A1 (by omega) M1 (by rw [w1_s, w1_2 k0, hv, if_neg (by decide), List.append_nil]; exact hg1) F1 hf1
        · refine pm_if_eq K dX7_work_86 (tgt := 124) (q := 89) rfl rfl (fun z => absurd z (by decide)) (fun _ => ?_)
          refine pm_aload_n K dX7_work_89 (q := 90) rfl rfl rfl ?_
          refine pm_aload_n K dX7_work_90 (q := 91) rfl rfl rfl ?_
          refine pm_get K inX7 rfl (k := 12) (by decide) wlX7_35 rfl (by have := M1.1; omega) M1.2.1 rfl dX7_work_91 (q := 94) rfl ?_
          refine pm_ic3 K dX7_work_94 (q := 95) rfl ?_
          refine pm_iload K dX7_work_95 (q := 97) rfl rfl ?_
          refine pm_imul K dX7_work_97 (q := 98) rfl ?_
          refine pm_top (y := nI (3 * k)) (kmul (a := 3) (b := k) rfl rfl) ?_
          refine mo_iald (j := 8) K M1 (by decide) (by decide) (show 3 * k < 72 by omega) dX7_work_98 (q := 99) rfl ?_
          refine pm_top (y := (lo.getD k (0, 0, 0)).1) (hr.1) ?_
          refine pm_aload_n K dX7_work_99 (q := 100) rfl rfl rfl ?_
          refine pm_get K inX7 rfl (k := 12) (by decide) wlX7_35 rfl (by have := M1.1; omega) M1.2.1 rfl dX7_work_100 (q := 103) rfl ?_
          refine pm_ic3 K dX7_work_103 (q := 104) rfl ?_
          refine pm_iload K dX7_work_104 (q := 106) rfl rfl ?_
          refine pm_imul K dX7_work_106 (q := 107) rfl ?_
          refine pm_top (y := nI (3 * k)) (kmul (a := 3) (b := k) rfl rfl) ?_
          refine pm_ic1 K dX7_work_107 (q := 108) rfl ?_
          refine pm_iadd K dX7_work_108 (q := 109) rfl ?_
          refine pm_top (y := nI (3 * k + 1)) (kadd (a := 3 * k) (b := 1) rfl rfl) ?_
          refine mo_iald (j := 8) K M1 (by decide) (by decide) (show 3 * k + 1 < 72 by omega) dX7_work_109 (q := 110) rfl ?_
          refine pm_top (y := (lo.getD k (0, 0, 0)).2.1) (hr.2.1) ?_
          refine pm_aload_n K dX7_work_110 (q := 111) rfl rfl rfl ?_
          refine pm_get K inX7 rfl (k := 12) (by decide) wlX7_35 rfl (by have := M1.1; omega) M1.2.1 rfl dX7_work_111 (q := 114) rfl ?_
          refine pm_ic3 K dX7_work_114 (q := 115) rfl ?_
          refine pm_iload K dX7_work_115 (q := 117) rfl rfl ?_
          refine pm_imul K dX7_work_117 (q := 118) rfl ?_
          refine pm_top (y := nI (3 * k)) (kmul (a := 3) (b := k) rfl rfl) ?_
          refine pm_ic2 K dX7_work_118 (q := 119) rfl ?_
          refine pm_iadd K dX7_work_119 (q := 120) rfl ?_
          refine pm_top (y := nI (3 * k + 2)) (kadd (a := 3 * k) (b := 2) rfl rfl) ?_
          refine mo_iald (j := 8) K M1 (by decide) (by decide) (show 3 * k + 2 < 72 by omega) dX7_work_120 (q := 121) rfl ?_
          refine pm_top (y := (lo.getD k (0, 0, 0)).2.2) (hr.2.2) ?_
          refine pm_callV0 K gw_ok wcX7_81 (m_give l M1 hg1 (by omega) (lo.getD k (0, 0, 0)).1 (lo.getD k (0, 0, 0)).2.1 (lo.getD k (0, 0, 0)).2.2) rfl (by have := M1.1; omega) M1.2.1 rfl rfl (Nat.le_of_ble_eq_true rfl) (by decide) dX7_work_121 (q := 124) rfl (fun r2 h2 hp => ?_)
          obtain ⟨rfl, g2, A2, M2, hg2, F2, hf2⟩ := hp
          refine pm_aload_n K dX7_work_124 (q := 125) rfl rfl rfl ?_
          refine pm_get K inX7 rfl (k := 5) (by decide) wlX7_16 rfl (by have := M2.1; omega) M2.2.1 rfl dX7_work_125 (q := 128) rfl ?_
          refine pm_iload_n K dX7_work_128 (q := 129) rfl rfl rfl ?_
          refine mo_iald (j := 2) K M2 (by decide) (by decide) (show s < 3 by omega) dX7_work_129 (q := 130) rfl ?_
          refine pm_top (y := nI (2)) (((congrFun (F2.2 2 (by decide)) s).trans ((congrFun (F1.2 2 (by decide)) s).trans (hS.1.trans k0)))) ?_
          refine pm_ic1 K dX7_work_130 (q := 131) rfl ?_
          refine pm_icmp_ne K dX7_work_131 (tgt := 172) (q := 134) rfl rfl (fun _ => ?_) (fun z => absurd ((keqI (a := 2) (b := 1) rfl rfl (by omega) (by omega)).mp z) (by omega))
          refine pm_aload_n K dX7_work_172 (q := 173) rfl rfl rfl ?_
          refine pm_get K inX7 rfl (k := 5) (by decide) wlX7_16 rfl (by have := M2.1; omega) M2.2.1 rfl dX7_work_173 (q := 176) rfl ?_
          refine pm_iload_n K dX7_work_176 (q := 177) rfl rfl rfl ?_
          refine mo_iald (j := 2) K M2 (by decide) (by decide) (show s < 3 by omega) dX7_work_177 (q := 178) rfl ?_
          refine pm_top (y := nI (2)) (((congrFun (F2.2 2 (by decide)) s).trans ((congrFun (F1.2 2 (by decide)) s).trans (hS.1.trans k0)))) ?_
          refine pm_ic3 K dX7_work_178 (q := 179) rfl ?_
          refine pm_icmp_ne K dX7_work_179 (tgt := 200) (q := 182) rfl rfl (fun _ => ?_) (fun z => absurd ((keqI (a := 2) (b := 3) rfl rfl (by omega) (by omega)).mp z) (by omega))
          refine pm_aload_n K dX7_work_200 (q := 201) rfl rfl rfl ?_
          refine pm_get K inX7 rfl (k := 5) (by decide) wlX7_16 rfl (by have := M2.1; omega) M2.2.1 rfl dX7_work_201 (q := 204) rfl ?_
          refine pm_iload_n K dX7_work_204 (q := 205) rfl rfl rfl ?_
          refine mo_iald (j := 2) K M2 (by decide) (by decide) (show s < 3 by omega) dX7_work_205 (q := 206) rfl ?_
          refine pm_top (y := nI (2)) (((congrFun (F2.2 2 (by decide)) s).trans ((congrFun (F1.2 2 (by decide)) s).trans (hS.1.trans k0)))) ?_
          refine pm_ic4 K dX7_work_206 (q := 207) rfl ?_
          refine pm_icmp_ne K dX7_work_207 (tgt := 220) (q := 210) rfl rfl (fun _ => ?_) (fun z => absurd ((keqI (a := 2) (b := 4) rfl rfl (by omega) (by omega)).mp z) (by omega))
          refine pm_inc K dX7_work_220 (q := 223) rfl rfl (by decide) rfl ?_
          refine pm_goto K dX7_work_223 (q := 30) rfl ?_
          exact ih (k + 1) h2 g2 A2 (by omega) M2 (by rw [w1_s, w1_2 k0, hv, if_pos rfl]; exact hg2) (F1.tr F2) (hf1.tr hf2)
    exact loop lo.length 0 _ _ _ (by omega) M1 hgi hgf0 Fm1
  · obtain ⟨c1, hc1, e1⟩ := tb_ok v1
    obtain ⟨c2, hc2, e2⟩ := tb_ok v2
    rw [e1, e2]
    have loop : ∀ (m k : Nat) (h1 : pm_H) (g1 : Nat → Int32) (A1 : Nat → Nat → Int32), k + m = lo.length → mo_at n h1 g1 A1 → gi g1 A1 ((List.range k).flatMap (w1 T S lo)) → gf [15] [9] g A g1 A1 → mo_fr h h1 → G 0 0 30 [some (.ref 112), some (.int (nI s)), some (.int (nI c1)), some (.int (nI c2)), some (.int (S 3)), some (.int (nI k))] [] n h1 := by
      intro m
      induction m with
      | zero =>
        intro k h1 g1 A1 hm M1 hg1 F1 hf1
        have R1 := R.gf F1
        have B1 := B.gf F1
        have hwl := w1_len T S lo hstk k (fun t ht => (B t ht).1)
        refine pm_iload K dX7_work_30 (q := 32) rfl rfl ?_
        refine pm_aload_n K dX7_work_32 (q := 33) rfl rfl rfl ?_
        refine pm_get K inX7 rfl (k := 13) (by decide) wlX7_78 rfl (by have := M1.1; omega) M1.2.1 rfl dX7_work_33 (q := 36) rfl ?_
        refine pm_top (y := nI (lo.length)) ((F1.1 13 (by decide)).trans R.1) ?_
        refine pm_icmp_ge K dX7_work_36 (tgt := 226) (q := 39) rfl rfl (fun _ => ?_) (fun z => absurd ((kleI (a := lo.length) (b := k) rfl rfl (by omega) (by omega)).mpr (by omega)) z)
        have ek : k = lo.length := by omega
        subst ek
        exact pm_vret Z dX7_work_226 rfl (Nat.le_of_ble_eq_true rfl) (Nat.le_of_ble_eq_true rfl) ⟨rfl, ⟨rfl, g1, A1, M1, by rw [← w1_sp T lo hstk.ok]; exact hg1, F1, hf1⟩⟩
      | succ m ih =>
        intro k h1 g1 A1 hm M1 hg1 F1 hf1
        have R1 := R.gf F1
        have B1 := B.gf F1
        have hwl := w1_len T S lo hstk k (fun t ht => (B t ht).1)
        refine pm_iload K dX7_work_30 (q := 32) rfl rfl ?_
        refine pm_aload_n K dX7_work_32 (q := 33) rfl rfl rfl ?_
        refine pm_get K inX7 rfl (k := 13) (by decide) wlX7_78 rfl (by have := M1.1; omega) M1.2.1 rfl dX7_work_33 (q := 36) rfl ?_
        refine pm_top (y := nI (lo.length)) ((F1.1 13 (by decide)).trans R.1) ?_
        refine pm_icmp_ge K dX7_work_36 (tgt := 226) (q := 39) rfl rfl (fun z => absurd ((kleI (a := lo.length) (b := k) rfl rfl (by omega) (by omega)).mp z) (by omega)) (fun _ => ?_)
        have hr := ls3_at R1.2.2 (show k < lo.length by omega)
        rw [Nat.zero_add] at hr
        refine pm_aload_n K dX7_work_39 (q := 40) rfl rfl rfl ?_
        refine pm_get K inX7 rfl (k := 5) (by decide) wlX7_16 rfl (by have := M1.1; omega) M1.2.1 rfl dX7_work_40 (q := 43) rfl ?_
        refine pm_iload_n K dX7_work_43 (q := 44) rfl rfl rfl ?_
        refine mo_iald (j := 2) K M1 (by decide) (by decide) (show s < 3 by omega) dX7_work_44 (q := 45) rfl ?_
        refine pm_top (y := nI (3)) (((congrFun (F1.2 2 (by decide)) s).trans (hS.1.trans k0))) ?_
        refine pm_if_ne K dX7_work_45 (tgt := 69) (q := 48) rfl rfl (fun _ => ?_) (fun z => absurd ((keqI (a := 3) (b := 0) rfl rfl (by omega) (by omega)).mp z) (by omega))
        refine pm_aload_n K dX7_work_69 (q := 70) rfl rfl rfl ?_
        refine pm_get K inX7 rfl (k := 5) (by decide) wlX7_16 rfl (by have := M1.1; omega) M1.2.1 rfl dX7_work_70 (q := 73) rfl ?_
        refine pm_iload_n K dX7_work_73 (q := 74) rfl rfl rfl ?_
        refine mo_iald (j := 2) K M1 (by decide) (by decide) (show s < 3 by omega) dX7_work_74 (q := 75) rfl ?_
        refine pm_top (y := nI (3)) (((congrFun (F1.2 2 (by decide)) s).trans (hS.1.trans k0))) ?_
        refine pm_ic2 K dX7_work_75 (q := 76) rfl ?_
        refine pm_icmp_ne K dX7_work_76 (tgt := 124) (q := 79) rfl rfl (fun _ => ?_) (fun z => absurd ((keqI (a := 3) (b := 2) rfl rfl (by omega) (by omega)).mp z) (by omega))
        refine pm_aload_n K dX7_work_124 (q := 125) rfl rfl rfl ?_
        refine pm_get K inX7 rfl (k := 5) (by decide) wlX7_16 rfl (by have := M1.1; omega) M1.2.1 rfl dX7_work_125 (q := 128) rfl ?_
        refine pm_iload_n K dX7_work_128 (q := 129) rfl rfl rfl ?_
        refine mo_iald (j := 2) K M1 (by decide) (by decide) (show s < 3 by omega) dX7_work_129 (q := 130) rfl ?_
        refine pm_top (y := nI (3)) (((congrFun (F1.2 2 (by decide)) s).trans (hS.1.trans k0))) ?_
        refine pm_ic1 K dX7_work_130 (q := 131) rfl ?_
        refine pm_icmp_ne K dX7_work_131 (tgt := 172) (q := 134) rfl rfl (fun _ => ?_) (fun z => absurd ((keqI (a := 3) (b := 1) rfl rfl (by omega) (by omega)).mp z) (by omega))
        refine pm_aload_n K dX7_work_172 (q := 173) rfl rfl rfl ?_
        refine pm_get K inX7 rfl (k := 5) (by decide) wlX7_16 rfl (by have := M1.1; omega) M1.2.1 rfl dX7_work_173 (q := 176) rfl ?_
        refine pm_iload_n K dX7_work_176 (q := 177) rfl rfl rfl ?_
        refine mo_iald (j := 2) K M1 (by decide) (by decide) (show s < 3 by omega) dX7_work_177 (q := 178) rfl ?_
        refine pm_top (y := nI (3)) (((congrFun (F1.2 2 (by decide)) s).trans (hS.1.trans k0))) ?_
        refine pm_ic3 K dX7_work_178 (q := 179) rfl ?_
        refine pm_icmp_ne K dX7_work_179 (tgt := 200) (q := 182) rfl rfl (fun z => absurd ((keqI (a := 3) (b := 3) rfl rfl (by omega) (by omega)).mpr (by omega)) z) (fun _ => ?_)
        refine pm_aload_n K dX7_work_182 (q := 183) rfl rfl rfl ?_
        refine pm_iload K dX7_work_183 (q := 185) rfl rfl ?_
        refine pm_iload_n K dX7_work_185 (q := 186) rfl rfl rfl ?_
        refine pm_callV0 K gw_ok wcX7_88 (m_first l M1 R1 (k := k) (cc := c1) (by omega) (by omega)) rfl (by have := M1.1; omega) M1.2.1 rfl rfl (Nat.le_of_ble_eq_true rfl) (by decide) dX7_work_186 (q := 189) rfl (fun r9 h9 hp => ?_)
        obtain ⟨rfl, e9⟩ := hp
        rw [e9, sm_c hc1]
        cases hv : fs (fun q => bg_col (nI c1) (lo.getD q (0, 0, 0))) k
        · refine pm_if_eq K dX7_work_189 (tgt := 200) (q := 192) rfl rfl (fun _ => ?_) (fun z => absurd z (fun z => z rfl))
          refine pm_aload_n K dX7_work_200 (q := 201) rfl rfl rfl ?_
          refine pm_get K inX7 rfl (k := 5) (by decide) wlX7_16 rfl (by have := M1.1; omega) M1.2.1 rfl dX7_work_201 (q := 204) rfl ?_
          refine pm_iload_n K dX7_work_204 (q := 205) rfl rfl rfl ?_
          refine mo_iald (j := 2) K M1 (by decide) (by decide) (show s < 3 by omega) dX7_work_205 (q := 206) rfl ?_
          refine pm_top (y := nI (3)) (((congrFun (F1.2 2 (by decide)) s).trans (hS.1.trans k0))) ?_
          refine pm_ic4 K dX7_work_206 (q := 207) rfl ?_
          refine pm_icmp_ne K dX7_work_207 (tgt := 220) (q := 210) rfl rfl (fun _ => ?_) (fun z => absurd ((keqI (a := 3) (b := 4) rfl rfl (by omega) (by omega)).mp z) (by omega))
          refine pm_inc K dX7_work_220 (q := 223) rfl rfl (by decide) rfl ?_
          refine pm_goto K dX7_work_223 (q := 30) rfl ?_
          exact ih (k + 1) h1 g1 A1 (by omega) M1 (by rw [w1_s, w1_3 k0, e1, hv, if_neg (by decide), List.append_nil]; exact hg1) F1 hf1
        · refine pm_if_eq K dX7_work_189 (tgt := 200) (q := 192) rfl rfl (fun z => absurd z (by decide)) (fun _ => ?_)
          refine pm_aload_n K dX7_work_192 (q := 193) rfl rfl rfl ?_
          refine pm_iload K dX7_work_193 (q := 195) rfl rfl ?_
          refine pm_iload_n K dX7_work_195 (q := 196) rfl rfl rfl ?_
          refine pm_iload_n K dX7_work_196 (q := 197) rfl rfl rfl ?_
          refine pm_callV0 K gw_ok wcX7_92 (m_groupOf l M1 R1 hg1 (by omega) (k := k) (gc := c1) (a := c2) (by omega) hc1 hc2) rfl (by have := M1.1; omega) M1.2.1 rfl rfl (Nat.le_of_ble_eq_true rfl) (by decide) dX7_work_197 (q := 200) rfl (fun r2 h2 hp => ?_)
          obtain ⟨rfl, g2, A2, M2, hg2, F2, hf2⟩ := hp
          refine pm_aload_n K dX7_work_200 (q := 201) rfl rfl rfl ?_
          refine pm_get K inX7 rfl (k := 5) (by decide) wlX7_16 rfl (by have := M2.1; omega) M2.2.1 rfl dX7_work_201 (q := 204) rfl ?_
          refine pm_iload_n K dX7_work_204 (q := 205) rfl rfl rfl ?_
          refine mo_iald (j := 2) K M2 (by decide) (by decide) (show s < 3 by omega) dX7_work_205 (q := 206) rfl ?_
          refine pm_top (y := nI (3)) (((congrFun (F2.2 2 (by decide)) s).trans ((congrFun (F1.2 2 (by decide)) s).trans (hS.1.trans k0)))) ?_
          refine pm_ic4 K dX7_work_206 (q := 207) rfl ?_
          refine pm_icmp_ne K dX7_work_207 (tgt := 220) (q := 210) rfl rfl (fun _ => ?_) (fun z => absurd ((keqI (a := 3) (b := 4) rfl rfl (by omega) (by omega)).mp z) (by omega))
          refine pm_inc K dX7_work_220 (q := 223) rfl rfl (by decide) rfl ?_
          refine pm_goto K dX7_work_223 (q := 30) rfl ?_
          exact ih (k + 1) h2 g2 A2 (by omega) M2 (by rw [w1_s, w1_3 k0, e1, e2, hv, if_pos rfl]; exact hg2) (F1.tr F2) (hf1.tr hf2)
    exact loop lo.length 0 _ _ _ (by omega) M1 hgi hgf0 Fm1
  · obtain ⟨c1, hc1, e1⟩ := tb_ok v1
    obtain ⟨c2, hc2, e2⟩ := tb_ok v2
    obtain ⟨c3, hc3, e3⟩ := tb_ok v3
    rw [e1, e2, e3]
    have loop : ∀ (m k : Nat) (h1 : pm_H) (g1 : Nat → Int32) (A1 : Nat → Nat → Int32), k + m = lo.length → mo_at n h1 g1 A1 → gi g1 A1 ((List.range k).flatMap (w1 T S lo)) → gf [15] [9] g A g1 A1 → mo_fr h h1 → G 0 0 30 [some (.ref 112), some (.int (nI s)), some (.int (nI c1)), some (.int (nI c2)), some (.int (nI c3)), some (.int (nI k))] [] n h1 := by
      intro m
      induction m with
      | zero =>
        intro k h1 g1 A1 hm M1 hg1 F1 hf1
        have R1 := R.gf F1
        have B1 := B.gf F1
        have hwl := w1_len T S lo hstk k (fun t ht => (B t ht).1)
        refine pm_iload K dX7_work_30 (q := 32) rfl rfl ?_
        refine pm_aload_n K dX7_work_32 (q := 33) rfl rfl rfl ?_
        refine pm_get K inX7 rfl (k := 13) (by decide) wlX7_78 rfl (by have := M1.1; omega) M1.2.1 rfl dX7_work_33 (q := 36) rfl ?_
        refine pm_top (y := nI (lo.length)) ((F1.1 13 (by decide)).trans R.1) ?_
        refine pm_icmp_ge K dX7_work_36 (tgt := 226) (q := 39) rfl rfl (fun _ => ?_) (fun z => absurd ((kleI (a := lo.length) (b := k) rfl rfl (by omega) (by omega)).mpr (by omega)) z)
        have ek : k = lo.length := by omega
        subst ek
        exact pm_vret Z dX7_work_226 rfl (Nat.le_of_ble_eq_true rfl) (Nat.le_of_ble_eq_true rfl) ⟨rfl, ⟨rfl, g1, A1, M1, by rw [← w1_sp T lo hstk.ok]; exact hg1, F1, hf1⟩⟩
      | succ m ih =>
        intro k h1 g1 A1 hm M1 hg1 F1 hf1
        have R1 := R.gf F1
        have B1 := B.gf F1
        have hwl := w1_len T S lo hstk k (fun t ht => (B t ht).1)
        refine pm_iload K dX7_work_30 (q := 32) rfl rfl ?_
        refine pm_aload_n K dX7_work_32 (q := 33) rfl rfl rfl ?_
        refine pm_get K inX7 rfl (k := 13) (by decide) wlX7_78 rfl (by have := M1.1; omega) M1.2.1 rfl dX7_work_33 (q := 36) rfl ?_
        refine pm_top (y := nI (lo.length)) ((F1.1 13 (by decide)).trans R.1) ?_
        refine pm_icmp_ge K dX7_work_36 (tgt := 226) (q := 39) rfl rfl (fun z => absurd ((kleI (a := lo.length) (b := k) rfl rfl (by omega) (by omega)).mp z) (by omega)) (fun _ => ?_)
        have hr := ls3_at R1.2.2 (show k < lo.length by omega)
        rw [Nat.zero_add] at hr
        refine pm_aload_n K dX7_work_39 (q := 40) rfl rfl rfl ?_
        refine pm_get K inX7 rfl (k := 5) (by decide) wlX7_16 rfl (by have := M1.1; omega) M1.2.1 rfl dX7_work_40 (q := 43) rfl ?_
        refine pm_iload_n K dX7_work_43 (q := 44) rfl rfl rfl ?_
        refine mo_iald (j := 2) K M1 (by decide) (by decide) (show s < 3 by omega) dX7_work_44 (q := 45) rfl ?_
        refine pm_top (y := nI (4)) (((congrFun (F1.2 2 (by decide)) s).trans (hS.1.trans k0))) ?_
        refine pm_if_ne K dX7_work_45 (tgt := 69) (q := 48) rfl rfl (fun _ => ?_) (fun z => absurd ((keqI (a := 4) (b := 0) rfl rfl (by omega) (by omega)).mp z) (by omega))
        refine pm_aload_n K dX7_work_69 (q := 70) rfl rfl rfl ?_
        refine pm_get K inX7 rfl (k := 5) (by decide) wlX7_16 rfl (by have := M1.1; omega) M1.2.1 rfl dX7_work_70 (q := 73) rfl ?_
        refine pm_iload_n K dX7_work_73 (q := 74) rfl rfl rfl ?_
        refine mo_iald (j := 2) K M1 (by decide) (by decide) (show s < 3 by omega) dX7_work_74 (q := 75) rfl ?_
        refine pm_top (y := nI (4)) (((congrFun (F1.2 2 (by decide)) s).trans (hS.1.trans k0))) ?_
        refine pm_ic2 K dX7_work_75 (q := 76) rfl ?_
        refine pm_icmp_ne K dX7_work_76 (tgt := 124) (q := 79) rfl rfl (fun _ => ?_) (fun z => absurd ((keqI (a := 4) (b := 2) rfl rfl (by omega) (by omega)).mp z) (by omega))
        refine pm_aload_n K dX7_work_124 (q := 125) rfl rfl rfl ?_
        refine pm_get K inX7 rfl (k := 5) (by decide) wlX7_16 rfl (by have := M1.1; omega) M1.2.1 rfl dX7_work_125 (q := 128) rfl ?_
        refine pm_iload_n K dX7_work_128 (q := 129) rfl rfl rfl ?_
        refine mo_iald (j := 2) K M1 (by decide) (by decide) (show s < 3 by omega) dX7_work_129 (q := 130) rfl ?_
        refine pm_top (y := nI (4)) (((congrFun (F1.2 2 (by decide)) s).trans (hS.1.trans k0))) ?_
        refine pm_ic1 K dX7_work_130 (q := 131) rfl ?_
        refine pm_icmp_ne K dX7_work_131 (tgt := 172) (q := 134) rfl rfl (fun _ => ?_) (fun z => absurd ((keqI (a := 4) (b := 1) rfl rfl (by omega) (by omega)).mp z) (by omega))
        refine pm_aload_n K dX7_work_172 (q := 173) rfl rfl rfl ?_
        refine pm_get K inX7 rfl (k := 5) (by decide) wlX7_16 rfl (by have := M1.1; omega) M1.2.1 rfl dX7_work_173 (q := 176) rfl ?_
        refine pm_iload_n K dX7_work_176 (q := 177) rfl rfl rfl ?_
        refine mo_iald (j := 2) K M1 (by decide) (by decide) (show s < 3 by omega) dX7_work_177 (q := 178) rfl ?_
        refine pm_top (y := nI (4)) (((congrFun (F1.2 2 (by decide)) s).trans (hS.1.trans k0))) ?_
        refine pm_ic3 K dX7_work_178 (q := 179) rfl ?_
        refine pm_icmp_ne K dX7_work_179 (tgt := 200) (q := 182) rfl rfl (fun _ => ?_) (fun z => absurd ((keqI (a := 4) (b := 3) rfl rfl (by omega) (by omega)).mp z) (by omega))
        refine pm_aload_n K dX7_work_200 (q := 201) rfl rfl rfl ?_
        refine pm_get K inX7 rfl (k := 5) (by decide) wlX7_16 rfl (by have := M1.1; omega) M1.2.1 rfl dX7_work_201 (q := 204) rfl ?_
        refine pm_iload_n K dX7_work_204 (q := 205) rfl rfl rfl ?_
        refine mo_iald (j := 2) K M1 (by decide) (by decide) (show s < 3 by omega) dX7_work_205 (q := 206) rfl ?_
        refine pm_top (y := nI (4)) (((congrFun (F1.2 2 (by decide)) s).trans (hS.1.trans k0))) ?_
        refine pm_ic4 K dX7_work_206 (q := 207) rfl ?_
        refine pm_icmp_ne K dX7_work_207 (tgt := 220) (q := 210) rfl rfl (fun z => absurd ((keqI (a := 4) (b := 4) rfl rfl (by omega) (by omega)).mpr (by omega)) z) (fun _ => ?_)
        refine pm_aload_n K dX7_work_210 (q := 211) rfl rfl rfl ?_
        refine pm_iload K dX7_work_211 (q := 213) rfl rfl ?_
        refine pm_iload_n K dX7_work_213 (q := 214) rfl rfl rfl ?_
        refine pm_iload_n K dX7_work_214 (q := 215) rfl rfl rfl ?_
        refine pm_iload K dX7_work_215 (q := 217) rfl rfl ?_
        refine pm_callV0 K gw_ok wcX7_95 (m_joinWith l M1 R1 B1 hg1 (by omega) (k := k) (t := c1) (x := c2) (y := c3) (by omega) hc1 hc2 hc3) rfl (by have := M1.1; omega) M1.2.1 rfl rfl (Nat.le_of_ble_eq_true rfl) (by decide) dX7_work_217 (q := 220) rfl (fun r2 h2 hp => ?_)
        obtain ⟨rfl, g2, A2, M2, hg2, F2, hf2⟩ := hp
        refine pm_inc K dX7_work_220 (q := 223) rfl rfl (by decide) rfl ?_
        refine pm_goto K dX7_work_223 (q := 30) rfl ?_
        exact ih (k + 1) h2 g2 A2 (by omega) M2 (by rw [w1_s, w1_4 k0, e1, e2, e3, nI_clamp (by omega)]; exact hg2) (F1.tr F2) (hf1.tr hf2)
    exact loop lo.length 0 _ _ _ (by omega) M1 hgi hgf0 Fm1
