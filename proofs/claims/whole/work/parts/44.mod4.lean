/-! The reference: its order. -/
def ltb (x y : bg_T) : Bool := if x.1 = y.1 then (if x.2.1 = y.2.1 then decide (x.2.2 < y.2.2) else decide (x.2.1 < y.2.1)) else decide (x.1 < y.1)
def ltp (x y : bg_T) : Prop := x.1.toInt < y.1.toInt ∨ x.1.toInt = y.1.toInt ∧ (x.2.1.toInt < y.2.1.toInt ∨ x.2.1.toInt = y.2.1.toInt ∧ x.2.2.toInt < y.2.2.toInt)
theorem ltb_iff (x y : bg_T) : ltb x y = true ↔ ltp x y := by
  unfold ltb ltp
  by_cases h1 : x.1 = y.1
  · rw [if_pos h1]
    by_cases h2 : x.2.1 = y.2.1
    · rw [if_pos h2, decide_eq_true_iff, Int32.lt_iff_toInt_lt, h1, h2]
      omega
    · rw [if_neg h2, decide_eq_true_iff, Int32.lt_iff_toInt_lt, h1]
      have : ¬ x.2.1.toInt = y.2.1.toInt := fun z => h2 (Int32.toInt_inj.mp z)
      omega
  · rw [if_neg h1, decide_eq_true_iff, Int32.lt_iff_toInt_lt]
    have : ¬ x.1.toInt = y.1.toInt := fun z => h1 (Int32.toInt_inj.mp z)
    omega
def Pj (l : List bg_T) (j k : Nat) : Bool := ltb (l.getD j (0, 0, 0)) (l.getD k (0, 0, 0)) || (decide (j < k) && !(ltb (l.getD k (0, 0, 0)) (l.getD j (0, 0, 0))))
def rk (l : List bg_T) (k : Nat) : Nat := ((List.range l.length).filter (fun j => Pj l j k)).length
theorem rk_s (l : List bg_T) (k j : Nat) : ((List.range (j + 1)).filter (fun j => Pj l j k)).length = if Pj l j k = true then ((List.range j).filter (fun j => Pj l j k)).length + 1 else ((List.range j).filter (fun j => Pj l j k)).length := by
  rw [List.range_succ, List.filter_append, List.length_append]
  by_cases h : Pj l j k = true
  · rw [if_pos h, List.filter_cons, if_pos h]; rfl
  · rw [if_neg h, List.filter_cons, if_neg h]; rfl
theorem Pj_iff (l : List bg_T) (j k : Nat) : Pj l j k = true ↔ ltp (l.getD j (0, 0, 0)) (l.getD k (0, 0, 0)) ∨ (j < k ∧ ¬ ltp (l.getD k (0, 0, 0)) (l.getD j (0, 0, 0))) := by
  unfold Pj
  rw [Bool.or_eq_true, Bool.and_eq_true, decide_eq_true_iff, Bool.not_eq_true', ltb_iff, ← ltb_iff (l.getD k (0, 0, 0)), Bool.not_eq_true]
theorem Pj_as (l : List bg_T) {j k : Nat} (h : Pj l j k = true) : Pj l k j = false := by
  rw [← Bool.not_eq_true, Pj_iff]
  rw [Pj_iff] at h
  unfold ltp at h ⊢
  omega
theorem Pj_tr (l : List bg_T) {i j k : Nat} (h : Pj l i j = true) (h2 : Pj l j k = true) : Pj l i k = true := by
  rw [Pj_iff] at *
  unfold ltp at *
  omega
theorem Pj_to (l : List bg_T) {j k : Nat} (h : j ≠ k) : Pj l j k = true ∨ Pj l k j = true := by
  rw [Pj_iff, Pj_iff]
  unfold ltp
  omega
theorem cnt_at {P : Nat → Nat → Bool} (has : ∀ a b, P a b = true → P b a = false) (L : List Nat) (hL : L.Pairwise (fun a b => P a b = true)) : ∀ (p a : Nat), L[p]? = some a → (L.filter (fun x => P x a)).length = p := by
  induction L with
  | nil => intro p a h; simp at h
  | cons b L ih =>
    obtain ⟨h1, h2⟩ := List.pairwise_cons.mp hL
    intro p a h
    have hirr : ∀ x, P x x = false := fun x => by
      cases e : P x x
      · rfl
      · exact (has x x e).symm.trans e ▸ rfl
    cases p with
    | zero =>
      rw [List.getElem?_cons_zero] at h
      cases h
      rw [List.filter_cons, hirr, if_neg (by decide)]
      rw [List.length_eq_zero_iff, List.filter_eq_nil_iff]
      intro x hx z
      rw [has _ _ (h1 x hx)] at z
      cases z
    | succ p =>
      rw [List.getElem?_cons_succ] at h
      rw [List.filter_cons, h1 a (List.mem_of_getElem? h), if_pos rfl, List.length_cons, ih h2 p a h]
theorem rk_ex (l : List bg_T) : ∃ is : List Nat, is.Perm (List.range l.length) ∧ is.Pairwise (fun a b => Pj l a b = true) := by
  refine ⟨(List.range l.length).mergeSort (fun a b => !(Pj l b a)), List.mergeSort_perm _ _, ?_⟩
  have hs := List.pairwise_mergeSort (le := fun a b => !(Pj l b a)) (fun a b c h1 h2 => ?_) (fun a b => ?_) (List.range l.length)
  · have hn : ((List.range l.length).mergeSort (fun a b => !(Pj l b a))).Nodup := (List.mergeSort_perm _ _).nodup_iff.mpr List.nodup_range
    refine (hs.and hn).imp (fun {a b} h => ?_)
    rcases Pj_to l h.2 with z | z
    · exact z
    · have := h.1
      rw [z] at this
      cases this
  · cases e : Pj l c a
    · rfl
    · by_cases hbc : b = c
      · subst hbc; rw [e] at h1; cases h1
      · rcases Pj_to l hbc with z | z
        · rw [Pj_tr l z e] at h1; cases h1
        · rw [z] at h2; cases h2
  · cases e : Pj l b a
    · rfl
    · rw [Pj_as l e]; rfl
theorem rk_is {l : List bg_T} {is : List Nat} (h1 : is.Perm (List.range l.length)) (h2 : is.Pairwise (fun a b => Pj l a b = true)) {p a : Nat} (h : is[p]? = some a) : rk l a = p := by
  unfold rk
  rw [← (h1.filter _).length_eq]
  exact cnt_at (fun a b => Pj_as l) is h2 p a h
theorem rk_of {l : List bg_T} {is : List Nat} (h1 : is.Perm (List.range l.length)) (h2 : is.Pairwise (fun a b => Pj l a b = true)) {k : Nat} (hk : k < l.length) : is[rk l k]? = some k ∧ rk l k < l.length := by
  obtain ⟨p, hp⟩ := List.mem_iff_getElem?.mp (h1.mem_iff.mpr (List.mem_range.mpr hk))
  have e := rk_is h1 h2 hp
  rw [e]
  refine ⟨hp, ?_⟩
  have := (List.getElem?_eq_some_iff.mp hp).1
  rw [h1.length_eq, List.length_range] at this
  exact this
theorem rk_lt {l : List bg_T} {k : Nat} (hk : k < l.length) : rk l k < l.length := by
  obtain ⟨is, h1, h2⟩ := rk_ex l
  exact (rk_of h1 h2 hk).2
theorem rk_inj {l : List bg_T} {i k : Nat} (hi : i < l.length) (hk : k < l.length) (h : rk l i = rk l k) : i = k := by
  obtain ⟨is, h1, h2⟩ := rk_ex l
  have a := (rk_of h1 h2 hi).1
  rw [h, (rk_of h1 h2 hk).1] at a
  exact (Option.some.inj a).symm
theorem rk_put {l : List bg_T} {k : Nat} (hk : k < l.length) {a b : Nat → Int32} (h : ∀ i, i < k → ∀ c, c < 3 → a (3 * rk l i + c) = b (3 * i + c)) (i : Nat) (hi : i < k + 1) (c : Nat) (hc : c < 3) : upd (upd (upd a (3 * rk l k + 0) (b (3 * k + 0))) (3 * rk l k + 1) (b (3 * k + 1))) (3 * rk l k + 2) (b (3 * k + 2)) (3 * rk l i + c) = b (3 * i + c) := by
  by_cases e : i = k
  · subst e
    rcases (show c = 0 ∨ c = 1 ∨ c = 2 by omega) with rfl | rfl | rfl <;> simp [upd]
  · have hne : ¬ rk l i = rk l k := fun z => e (rk_inj (by omega) hk z)
    simp only [upd]
    rw [if_neg (by omega), if_neg (by omega), if_neg (by omega)]
    exact h i (by omega) c hc
theorem or_res {l : List bg_T} {a b : Nat → Int32} (hb : ls3 b 0 l) (h : ∀ i, i < l.length → ∀ c, c < 3 → a (3 * rk l i + c) = b (3 * i + c)) : ∃ l1, l1.Perm l ∧ l1.Pairwise bg_le ∧ ls3 a 0 l1 := by
  obtain ⟨is, h1, h2⟩ := rk_ex l
  refine ⟨is.map (fun k => l.getD k (0, 0, 0)), ?_, ?_, ?_⟩
  · have := h1.map (fun k => l.getD k (0, 0, 0))
    rw [mk_getD] at this
    exact this
  · rw [List.pairwise_map]
    refine h2.imp (fun {j k} hp => ?_)
    rw [Pj_iff] at hp
    unfold ltp at hp
    unfold bg_le
    omega
  · intro p hp
    rw [List.length_map] at hp
    have e := List.getElem?_eq_getElem hp
    have er := rk_is h1 h2 e
    have hm : is[p] < l.length := List.mem_range.mp (h1.mem_iff.mp (List.getElem_mem hp))
    have hh := h _ hm
    rw [er] at hh
    have h3 := ls3_at hb hm
    rw [Nat.zero_add] at h3
    rw [List.getElem?_map, e, Nat.zero_add, show a (3 * p) = _ from hh 0 (by decide), hh 1 (by decide), hh 2 (by decide)]
    rw [show b (3 * is[p] + 0) = _ from h3.1, h3.2.1, h3.2.2]
    rfl
set_option maxRecDepth 100000 in
theorem m_less (l : Launch) {n : Nat} {h : pm_H} {g : Nat → Int32} {A : Nat → Nat → Int32} (M : mo_at n h g A) {lo : List bg_T} (R : ro g A lo) {k j : Nat} (hk : k < lo.length) (hj : j < lo.length) : bM0 l yX7_less cX7_less 4 (some (.boolean)) 0 [.ref 112, .int (nI k), .int (nI j)] n h (fun r h' => r = some (.int (b2i (ltb (lo.getD k (0, 0, 0)) (lo.getD j (0, 0, 0))))) ∧ h' = h) := by
  refine pm_enter rfl (Nat.le_of_ble_eq_true rfl) (fun G K Z => ?_)
  have hl := R.2.1
  refine pm_ic0 K dX7_less_0 (q := 1) rfl ?_
  refine pm_istore_n K dX7_less_1 (q := 2) rfl rfl (by decide) rfl ?_
  refine pm_iload_n K dX7_less_2 (q := 3) rfl rfl rfl ?_
  refine pm_ic3 K dX7_less_3 (q := 4) rfl ?_
  refine pm_icmp_ge K dX7_less_4 (tgt := 65) (q := 7) rfl rfl (fun z => absurd ((kleI (a := 3) (b := 0) rfl rfl (by omega) (by omega)).mp z) (by omega)) (fun _ => ?_)
  refine pm_aload_n K dX7_less_7 (q := 8) rfl rfl rfl ?_
  refine pm_get K inX7 rfl (k := 12) (by decide) wlX7_35 rfl (by have := M.1; omega) M.2.1 rfl dX7_less_8 (q := 11) rfl ?_
  refine pm_ic3 K dX7_less_11 (q := 12) rfl ?_
  refine pm_iload_n K dX7_less_12 (q := 13) rfl rfl rfl ?_
  refine pm_imul K dX7_less_13 (q := 14) rfl ?_
  refine pm_top (y := nI (3 * k)) (kmul (a := 3) (b := k) rfl rfl) ?_
  refine pm_iload_n K dX7_less_14 (q := 15) rfl rfl rfl ?_
  refine pm_iadd K dX7_less_15 (q := 16) rfl ?_
  refine pm_top (y := nI (3 * k + 0)) (kadd (a := 3 * k) (b := 0) rfl rfl) ?_
  refine mo_iald (j := 8) K M (by decide) (by decide) (show 3 * k + 0 < 72 by omega) dX7_less_16 (q := 17) rfl ?_
  refine pm_top (y := (lo.getD k (0, 0, 0)).1) (ro_col R hk (c := 0) (by decide)) ?_
  refine pm_aload_n K dX7_less_17 (q := 18) rfl rfl rfl ?_
  refine pm_get K inX7 rfl (k := 12) (by decide) wlX7_35 rfl (by have := M.1; omega) M.2.1 rfl dX7_less_18 (q := 21) rfl ?_
  refine pm_ic3 K dX7_less_21 (q := 22) rfl ?_
  refine pm_iload_n K dX7_less_22 (q := 23) rfl rfl rfl ?_
  refine pm_imul K dX7_less_23 (q := 24) rfl ?_
  refine pm_top (y := nI (3 * j)) (kmul (a := 3) (b := j) rfl rfl) ?_
  refine pm_iload_n K dX7_less_24 (q := 25) rfl rfl rfl ?_
  refine pm_iadd K dX7_less_25 (q := 26) rfl ?_
  refine pm_top (y := nI (3 * j + 0)) (kadd (a := 3 * j) (b := 0) rfl rfl) ?_
  refine mo_iald (j := 8) K M (by decide) (by decide) (show 3 * j + 0 < 72 by omega) dX7_less_26 (q := 27) rfl ?_
  refine pm_top (y := (lo.getD j (0, 0, 0)).1) (ro_col R hj (c := 0) (by decide)) ?_
  refine pm_icmp_eq K dX7_less_27 (tgt := 59) (q := 30) rfl rfl (fun q0 => ?_) (fun q0 => ?_)
  · refine pm_iinc (v := nI 1) K dX7_less_59 (q := 62) rfl rfl (kadd (a := 0) (b := 1) rfl rfl) (by decide) rfl ?_
    refine pm_goto K dX7_less_62 (q := 2) rfl ?_
    refine pm_iload_n K dX7_less_2 (q := 3) rfl rfl rfl ?_
    refine pm_ic3 K dX7_less_3 (q := 4) rfl ?_
    refine pm_icmp_ge K dX7_less_4 (tgt := 65) (q := 7) rfl rfl (fun z => absurd ((kleI (a := 3) (b := 1) rfl rfl (by omega) (by omega)).mp z) (by omega)) (fun _ => ?_)
    refine pm_aload_n K dX7_less_7 (q := 8) rfl rfl rfl ?_
    refine pm_get K inX7 rfl (k := 12) (by decide) wlX7_35 rfl (by have := M.1; omega) M.2.1 rfl dX7_less_8 (q := 11) rfl ?_
    refine pm_ic3 K dX7_less_11 (q := 12) rfl ?_
    refine pm_iload_n K dX7_less_12 (q := 13) rfl rfl rfl ?_
    refine pm_imul K dX7_less_13 (q := 14) rfl ?_
    refine pm_top (y := nI (3 * k)) (kmul (a := 3) (b := k) rfl rfl) ?_
    refine pm_iload_n K dX7_less_14 (q := 15) rfl rfl rfl ?_
    refine pm_iadd K dX7_less_15 (q := 16) rfl ?_
    refine pm_top (y := nI (3 * k + 1)) (kadd (a := 3 * k) (b := 1) rfl rfl) ?_
    refine mo_iald (j := 8) K M (by decide) (by decide) (show 3 * k + 1 < 72 by omega) dX7_less_16 (q := 17) rfl ?_
    refine pm_top (y := (lo.getD k (0, 0, 0)).2.1) (ro_col R hk (c := 1) (by decide)) ?_
    refine pm_aload_n K dX7_less_17 (q := 18) rfl rfl rfl ?_
    refine pm_get K inX7 rfl (k := 12) (by decide) wlX7_35 rfl (by have := M.1; omega) M.2.1 rfl dX7_less_18 (q := 21) rfl ?_
    refine pm_ic3 K dX7_less_21 (q := 22) rfl ?_
    refine pm_iload_n K dX7_less_22 (q := 23) rfl rfl rfl ?_
    refine pm_imul K dX7_less_23 (q := 24) rfl ?_
    refine pm_top (y := nI (3 * j)) (kmul (a := 3) (b := j) rfl rfl) ?_
    refine pm_iload_n K dX7_less_24 (q := 25) rfl rfl rfl ?_
    refine pm_iadd K dX7_less_25 (q := 26) rfl ?_
    refine pm_top (y := nI (3 * j + 1)) (kadd (a := 3 * j) (b := 1) rfl rfl) ?_
    refine mo_iald (j := 8) K M (by decide) (by decide) (show 3 * j + 1 < 72 by omega) dX7_less_26 (q := 27) rfl ?_
    refine pm_top (y := (lo.getD j (0, 0, 0)).2.1) (ro_col R hj (c := 1) (by decide)) ?_
    refine pm_icmp_eq K dX7_less_27 (tgt := 59) (q := 30) rfl rfl (fun q1 => ?_) (fun q1 => ?_)
    · refine pm_iinc (v := nI 2) K dX7_less_59 (q := 62) rfl rfl (kadd (a := 1) (b := 1) rfl rfl) (by decide) rfl ?_
      refine pm_goto K dX7_less_62 (q := 2) rfl ?_
      refine pm_iload_n K dX7_less_2 (q := 3) rfl rfl rfl ?_
      refine pm_ic3 K dX7_less_3 (q := 4) rfl ?_
      refine pm_icmp_ge K dX7_less_4 (tgt := 65) (q := 7) rfl rfl (fun z => absurd ((kleI (a := 3) (b := 2) rfl rfl (by omega) (by omega)).mp z) (by omega)) (fun _ => ?_)
      refine pm_aload_n K dX7_less_7 (q := 8) rfl rfl rfl ?_
      refine pm_get K inX7 rfl (k := 12) (by decide) wlX7_35 rfl (by have := M.1; omega) M.2.1 rfl dX7_less_8 (q := 11) rfl ?_
      refine pm_ic3 K dX7_less_11 (q := 12) rfl ?_
      refine pm_iload_n K dX7_less_12 (q := 13) rfl rfl rfl ?_
      refine pm_imul K dX7_less_13 (q := 14) rfl ?_
      refine pm_top (y := nI (3 * k)) (kmul (a := 3) (b := k) rfl rfl) ?_
      refine pm_iload_n K dX7_less_14 (q := 15) rfl rfl rfl ?_
      refine pm_iadd K dX7_less_15 (q := 16) rfl ?_
      refine pm_top (y := nI (3 * k + 2)) (kadd (a := 3 * k) (b := 2) rfl rfl) ?_
      refine mo_iald (j := 8) K M (by decide) (by decide) (show 3 * k + 2 < 72 by omega) dX7_less_16 (q := 17) rfl ?_
      refine pm_top (y := (lo.getD k (0, 0, 0)).2.2) (ro_col R hk (c := 2) (by decide)) ?_
      refine pm_aload_n K dX7_less_17 (q := 18) rfl rfl rfl ?_
      refine pm_get K inX7 rfl (k := 12) (by decide) wlX7_35 rfl (by have := M.1; omega) M.2.1 rfl dX7_less_18 (q := 21) rfl ?_
      refine pm_ic3 K dX7_less_21 (q := 22) rfl ?_
      refine pm_iload_n K dX7_less_22 (q := 23) rfl rfl rfl ?_
      refine pm_imul K dX7_less_23 (q := 24) rfl ?_
      refine pm_top (y := nI (3 * j)) (kmul (a := 3) (b := j) rfl rfl) ?_
      refine pm_iload_n K dX7_less_24 (q := 25) rfl rfl rfl ?_
      refine pm_iadd K dX7_less_25 (q := 26) rfl ?_
      refine pm_top (y := nI (3 * j + 2)) (kadd (a := 3 * j) (b := 2) rfl rfl) ?_
      refine mo_iald (j := 8) K M (by decide) (by decide) (show 3 * j + 2 < 72 by omega) dX7_less_26 (q := 27) rfl ?_
      refine pm_top (y := (lo.getD j (0, 0, 0)).2.2) (ro_col R hj (c := 2) (by decide)) ?_
      refine pm_icmp_eq K dX7_less_27 (tgt := 59) (q := 30) rfl rfl (fun q2 => ?_) (fun q2 => ?_)
      · refine pm_iinc (v := nI 3) K dX7_less_59 (q := 62) rfl rfl (kadd (a := 2) (b := 1) rfl rfl) (by decide) rfl ?_
        refine pm_goto K dX7_less_62 (q := 2) rfl ?_
        refine pm_iload_n K dX7_less_2 (q := 3) rfl rfl rfl ?_
        refine pm_ic3 K dX7_less_3 (q := 4) rfl ?_
        refine pm_icmp_ge K dX7_less_4 (tgt := 65) (q := 7) rfl rfl (fun _ => ?_) (fun z => absurd ((kleI (a := 3) (b := 3) rfl rfl (by omega) (by omega)).mpr (by omega)) z)
        refine pm_ic0 K dX7_less_65 (q := 66) rfl ?_
        exact pm_iret Z dX7_less_66 rfl rfl (Nat.le_of_ble_eq_true rfl) (Nat.le_of_ble_eq_true rfl) ⟨rfl, ⟨congrArg (fun z => some (Value.int z)) (by rw [ltb, if_pos q0, if_pos q1, decide_eq_false (fun z => absurd z (by rw [q2]; exact Int32.lt_irrefl))]; rfl), rfl⟩⟩
      · refine pm_aload_n K dX7_less_30 (q := 31) rfl rfl rfl ?_
        refine pm_get K inX7 rfl (k := 12) (by decide) wlX7_35 rfl (by have := M.1; omega) M.2.1 rfl dX7_less_31 (q := 34) rfl ?_
        refine pm_ic3 K dX7_less_34 (q := 35) rfl ?_
        refine pm_iload_n K dX7_less_35 (q := 36) rfl rfl rfl ?_
        refine pm_imul K dX7_less_36 (q := 37) rfl ?_
        refine pm_top (y := nI (3 * k)) (kmul (a := 3) (b := k) rfl rfl) ?_
        refine pm_iload_n K dX7_less_37 (q := 38) rfl rfl rfl ?_
        refine pm_iadd K dX7_less_38 (q := 39) rfl ?_
        refine pm_top (y := nI (3 * k + 2)) (kadd (a := 3 * k) (b := 2) rfl rfl) ?_
        refine mo_iald (j := 8) K M (by decide) (by decide) (show 3 * k + 2 < 72 by omega) dX7_less_39 (q := 40) rfl ?_
        refine pm_top (y := (lo.getD k (0, 0, 0)).2.2) (ro_col R hk (c := 2) (by decide)) ?_
        refine pm_aload_n K dX7_less_40 (q := 41) rfl rfl rfl ?_
        refine pm_get K inX7 rfl (k := 12) (by decide) wlX7_35 rfl (by have := M.1; omega) M.2.1 rfl dX7_less_41 (q := 44) rfl ?_
        refine pm_ic3 K dX7_less_44 (q := 45) rfl ?_
        refine pm_iload_n K dX7_less_45 (q := 46) rfl rfl rfl ?_
        refine pm_imul K dX7_less_46 (q := 47) rfl ?_
        refine pm_top (y := nI (3 * j)) (kmul (a := 3) (b := j) rfl rfl) ?_
        refine pm_iload_n K dX7_less_47 (q := 48) rfl rfl rfl ?_
        refine pm_iadd K dX7_less_48 (q := 49) rfl ?_
        refine pm_top (y := nI (3 * j + 2)) (kadd (a := 3 * j) (b := 2) rfl rfl) ?_
        refine mo_iald (j := 8) K M (by decide) (by decide) (show 3 * j + 2 < 72 by omega) dX7_less_49 (q := 50) rfl ?_
        refine pm_top (y := (lo.getD j (0, 0, 0)).2.2) (ro_col R hj (c := 2) (by decide)) ?_
        refine pm_icmp_ge K dX7_less_50 (tgt := 57) (q := 53) rfl rfl (fun hx => ?_) (fun hx => ?_)
        · refine pm_ic0 K dX7_less_57 (q := 58) rfl ?_
          exact pm_iret Z dX7_less_58 rfl rfl (Nat.le_of_ble_eq_true rfl) (Nat.le_of_ble_eq_true rfl) ⟨rfl, ⟨congrArg (fun z => some (Value.int z)) (by rw [ltb, if_pos q0, if_pos q1, decide_eq_false (Int32.not_lt.mpr hx)]; rfl), rfl⟩⟩
        · refine pm_ic1 K dX7_less_53 (q := 54) rfl ?_
          refine pm_goto K dX7_less_54 (q := 58) rfl ?_
          exact pm_iret Z dX7_less_58 rfl rfl (Nat.le_of_ble_eq_true rfl) (Nat.le_of_ble_eq_true rfl) ⟨rfl, ⟨congrArg (fun z => some (Value.int z)) (by rw [ltb, if_pos q0, if_pos q1, decide_eq_true (Int32.not_le.mp hx)]; rfl), rfl⟩⟩
    · refine pm_aload_n K dX7_less_30 (q := 31) rfl rfl rfl ?_
      refine pm_get K inX7 rfl (k := 12) (by decide) wlX7_35 rfl (by have := M.1; omega) M.2.1 rfl dX7_less_31 (q := 34) rfl ?_
      refine pm_ic3 K dX7_less_34 (q := 35) rfl ?_
      refine pm_iload_n K dX7_less_35 (q := 36) rfl rfl rfl ?_
      refine pm_imul K dX7_less_36 (q := 37) rfl ?_
      refine pm_top (y := nI (3 * k)) (kmul (a := 3) (b := k) rfl rfl) ?_
      refine pm_iload_n K dX7_less_37 (q := 38) rfl rfl rfl ?_
      refine pm_iadd K dX7_less_38 (q := 39) rfl ?_
      refine pm_top (y := nI (3 * k + 1)) (kadd (a := 3 * k) (b := 1) rfl rfl) ?_
      refine mo_iald (j := 8) K M (by decide) (by decide) (show 3 * k + 1 < 72 by omega) dX7_less_39 (q := 40) rfl ?_
      refine pm_top (y := (lo.getD k (0, 0, 0)).2.1) (ro_col R hk (c := 1) (by decide)) ?_
      refine pm_aload_n K dX7_less_40 (q := 41) rfl rfl rfl ?_
      refine pm_get K inX7 rfl (k := 12) (by decide) wlX7_35 rfl (by have := M.1; omega) M.2.1 rfl dX7_less_41 (q := 44) rfl ?_
      refine pm_ic3 K dX7_less_44 (q := 45) rfl ?_
      refine pm_iload_n K dX7_less_45 (q := 46) rfl rfl rfl ?_
      refine pm_imul K dX7_less_46 (q := 47) rfl ?_
      refine pm_top (y := nI (3 * j)) (kmul (a := 3) (b := j) rfl rfl) ?_
      refine pm_iload_n K dX7_less_47 (q := 48) rfl rfl rfl ?_
      refine pm_iadd K dX7_less_48 (q := 49) rfl ?_
      refine pm_top (y := nI (3 * j + 1)) (kadd (a := 3 * j) (b := 1) rfl rfl) ?_
      refine mo_iald (j := 8) K M (by decide) (by decide) (show 3 * j + 1 < 72 by omega) dX7_less_49 (q := 50) rfl ?_
      refine pm_top (y := (lo.getD j (0, 0, 0)).2.1) (ro_col R hj (c := 1) (by decide)) ?_
      refine pm_icmp_ge K dX7_less_50 (tgt := 57) (q := 53) rfl rfl (fun hx => ?_) (fun hx => ?_)
      · refine pm_ic0 K dX7_less_57 (q := 58) rfl ?_
        exact pm_iret Z dX7_less_58 rfl rfl (Nat.le_of_ble_eq_true rfl) (Nat.le_of_ble_eq_true rfl) ⟨rfl, ⟨congrArg (fun z => some (Value.int z)) (by rw [ltb, if_pos q0, if_neg q1, decide_eq_false (Int32.not_lt.mpr hx)]; rfl), rfl⟩⟩
      · refine pm_ic1 K dX7_less_53 (q := 54) rfl ?_
        refine pm_goto K dX7_less_54 (q := 58) rfl ?_
        exact pm_iret Z dX7_less_58 rfl rfl (Nat.le_of_ble_eq_true rfl) (Nat.le_of_ble_eq_true rfl) ⟨rfl, ⟨congrArg (fun z => some (Value.int z)) (by rw [ltb, if_pos q0, if_neg q1, decide_eq_true (Int32.not_le.mp hx)]; rfl), rfl⟩⟩
  · refine pm_aload_n K dX7_less_30 (q := 31) rfl rfl rfl ?_
    refine pm_get K inX7 rfl (k := 12) (by decide) wlX7_35 rfl (by have := M.1; omega) M.2.1 rfl dX7_less_31 (q := 34) rfl ?_
    refine pm_ic3 K dX7_less_34 (q := 35) rfl ?_
    refine pm_iload_n K dX7_less_35 (q := 36) rfl rfl rfl ?_
    refine pm_imul K dX7_less_36 (q := 37) rfl ?_
    refine pm_top (y := nI (3 * k)) (kmul (a := 3) (b := k) rfl rfl) ?_
    refine pm_iload_n K dX7_less_37 (q := 38) rfl rfl rfl ?_
    refine pm_iadd K dX7_less_38 (q := 39) rfl ?_
    refine pm_top (y := nI (3 * k + 0)) (kadd (a := 3 * k) (b := 0) rfl rfl) ?_
    refine mo_iald (j := 8) K M (by decide) (by decide) (show 3 * k + 0 < 72 by omega) dX7_less_39 (q := 40) rfl ?_
    refine pm_top (y := (lo.getD k (0, 0, 0)).1) (ro_col R hk (c := 0) (by decide)) ?_
    refine pm_aload_n K dX7_less_40 (q := 41) rfl rfl rfl ?_
    refine pm_get K inX7 rfl (k := 12) (by decide) wlX7_35 rfl (by have := M.1; omega) M.2.1 rfl dX7_less_41 (q := 44) rfl ?_
    refine pm_ic3 K dX7_less_44 (q := 45) rfl ?_
    refine pm_iload_n K dX7_less_45 (q := 46) rfl rfl rfl ?_
    refine pm_imul K dX7_less_46 (q := 47) rfl ?_
    refine pm_top (y := nI (3 * j)) (kmul (a := 3) (b := j) rfl rfl) ?_
    refine pm_iload_n K dX7_less_47 (q := 48) rfl rfl rfl ?_
    refine pm_iadd K dX7_less_48 (q := 49) rfl ?_
    refine pm_top (y := nI (3 * j + 0)) (kadd (a := 3 * j) (b := 0) rfl rfl) ?_
    refine mo_iald (j := 8) K M (by decide) (by decide) (show 3 * j + 0 < 72 by omega) dX7_less_49 (q := 50) rfl ?_
    refine pm_top (y := (lo.getD j (0, 0, 0)).1) (ro_col R hj (c := 0) (by decide)) ?_
    refine pm_icmp_ge K dX7_less_50 (tgt := 57) (q := 53) rfl rfl (fun hx => ?_) (fun hx => ?_)
    · refine pm_ic0 K dX7_less_57 (q := 58) rfl ?_
      exact pm_iret Z dX7_less_58 rfl rfl (Nat.le_of_ble_eq_true rfl) (Nat.le_of_ble_eq_true rfl) ⟨rfl, ⟨congrArg (fun z => some (Value.int z)) (by rw [ltb, if_neg q0, decide_eq_false (Int32.not_lt.mpr hx)]; rfl), rfl⟩⟩
    · refine pm_ic1 K dX7_less_53 (q := 54) rfl ?_
      refine pm_goto K dX7_less_54 (q := 58) rfl ?_
      exact pm_iret Z dX7_less_58 rfl rfl (Nat.le_of_ble_eq_true rfl) (Nat.le_of_ble_eq_true rfl) ⟨rfl, ⟨congrArg (fun z => some (Value.int z)) (by rw [ltb, if_neg q0, decide_eq_true (Int32.not_le.mp hx)]; rfl), rfl⟩⟩
set_option maxRecDepth 100000 in
theorem m_order (l : Launch) {n : Nat} {h : pm_H} {g : Nat → Int32} {A : Nat → Nat → Int32} (M : mo_at n h g A) {lo : List bg_T} (R : ro g A lo) : bM0 l yX7_order cX7_order 4 none 1 [.ref 112] n h (fun r h' => r = none ∧ ∃ g' A', mo_at n h' g' A' ∧ gf [17] [10] g A g' A' ∧ g' 17 = nI lo.length ∧ (∀ i, i < lo.length → ∀ c, c < 3 → A' 10 (3 * rk lo i + c) = A 8 (3 * i + c)) ∧ mo_fr h h') := by
  refine pm_enter rfl (Nat.le_of_ble_eq_true rfl) (fun G K Z => ?_)
  have hl := R.2.1
  refine pm_aload_n K dX7_order_0 (q := 1) rfl rfl rfl ?_
  refine pm_aload_n K dX7_order_1 (q := 2) rfl rfl rfl ?_
  refine pm_get K inX7 rfl (k := 13) (by decide) wlX7_78 rfl (by have := M.1; omega) M.2.1 rfl dX7_order_2 (q := 5) rfl ?_
  refine pm_top (y := nI (lo.length)) (R.1) ?_
  refine mo_put (k := 17) K M (by decide) wlX7_102 dX7_order_5 (q := 8) rfl (fun hm1 M1 Fm1 => ?_)
  refine pm_ic0 K dX7_order_8 (q := 9) rfl ?_
  refine pm_istore_n K dX7_order_9 (q := 10) rfl rfl (by decide) rfl ?_
  have loop : ∀ (m k : Nat) (h1 : pm_H) (g1 : Nat → Int32) (A1 : Nat → Nat → Int32) (x2 x3 : Option Value), k + m = lo.length → mo_at n h1 g1 A1 → gf [17] [10] g A g1 A1 → g1 17 = nI lo.length → (∀ i, i < k → ∀ c, c < 3 → A1 10 (3 * rk lo i + c) = A 8 (3 * i + c)) → mo_fr h h1 → G 0 0 10 [some (.ref 112), some (.int (nI k)), x2, x3] [] n h1 := by
    intro m
    induction m with
    | zero =>
      intro k h1 g1 A1 x2 x3 hm M1 F1 g17 hA hf1
      have R1 : ro g1 A1 lo := ⟨(F1.1 13 (by decide)).trans R.1, R.2.1, by rw [F1.2 8 (by decide)]; exact R.2.2⟩
      refine pm_iload_n K dX7_order_10 (q := 11) rfl rfl rfl ?_
      refine pm_aload_n K dX7_order_11 (q := 12) rfl rfl rfl ?_
      refine pm_get K inX7 rfl (k := 13) (by decide) wlX7_78 rfl (by have := M1.1; omega) M1.2.1 rfl dX7_order_12 (q := 15) rfl ?_
      refine pm_top (y := nI (lo.length)) ((F1.1 13 (by decide)).trans R.1) ?_
      refine pm_icmp_ge K dX7_order_15 (tgt := 106) (q := 18) rfl rfl (fun _ => ?_) (fun z => absurd ((kleI (a := lo.length) (b := k) rfl rfl (by omega) (by omega)).mpr (by omega)) z)
      have ek : k = lo.length := by omega
      subst ek
      exact pm_vret Z dX7_order_106 rfl (Nat.le_of_ble_eq_true rfl) (Nat.le_of_ble_eq_true rfl) ⟨rfl, ⟨rfl, g1, A1, M1, F1, g17, hA, hf1⟩⟩
    | succ m ih =>
      intro k h1 g1 A1 x2 x3 hm M1 F1 g17 hA hf1
      have R1 : ro g1 A1 lo := ⟨(F1.1 13 (by decide)).trans R.1, R.2.1, by rw [F1.2 8 (by decide)]; exact R.2.2⟩
      refine pm_iload_n K dX7_order_10 (q := 11) rfl rfl rfl ?_
      refine pm_aload_n K dX7_order_11 (q := 12) rfl rfl rfl ?_
      refine pm_get K inX7 rfl (k := 13) (by decide) wlX7_78 rfl (by have := M1.1; omega) M1.2.1 rfl dX7_order_12 (q := 15) rfl ?_
      refine pm_top (y := nI (lo.length)) ((F1.1 13 (by decide)).trans R.1) ?_
      refine pm_icmp_ge K dX7_order_15 (tgt := 106) (q := 18) rfl rfl (fun z => absurd ((kleI (a := lo.length) (b := k) rfl rfl (by omega) (by omega)).mp z) (by omega)) (fun _ => ?_)
      refine pm_ic0 K dX7_order_18 (q := 19) rfl ?_
      refine pm_istore_n K dX7_order_19 (q := 20) rfl rfl (by decide) rfl ?_
      refine pm_ic0 K dX7_order_20 (q := 21) rfl ?_
      refine pm_istore_n K dX7_order_21 (q := 22) rfl rfl (by decide) rfl ?_
      have hrk := rk_lt (show k < lo.length by omega)
      have inn : ∀ (d j : Nat), j + d = lo.length → G 0 0 22 [some (.ref 112), some (.int (nI k)), some (.int (nI ((List.range j).filter (fun j => Pj lo j k)).length)), some (.int (nI j))] [] n h1 := by
        intro d
        induction d with
        | zero =>
          intro j hd
          refine pm_iload_n K dX7_order_22 (q := 23) rfl rfl rfl ?_
          refine pm_aload_n K dX7_order_23 (q := 24) rfl rfl rfl ?_
          refine pm_get K inX7 rfl (k := 13) (by decide) wlX7_78 rfl (by have := M1.1; omega) M1.2.1 rfl dX7_order_24 (q := 27) rfl ?_
          refine pm_top (y := nI (lo.length)) ((F1.1 13 (by decide)).trans R.1) ?_
          refine pm_icmp_ge K dX7_order_27 (tgt := 67) (q := 30) rfl rfl (fun _ => ?_) (fun z => absurd ((kleI (a := lo.length) (b := j) rfl rfl (by omega) (by omega)).mpr (by omega)) z)
          have ej : j = lo.length := by omega
          subst ej
          rw [show ((List.range lo.length).filter (fun j => Pj lo j k)).length = rk lo k from rfl]
          refine pm_ic0 K dX7_order_67 (q := 68) rfl ?_
          refine pm_istore_n K dX7_order_68 (q := 69) rfl rfl (by decide) rfl ?_
          refine pm_iload_n K dX7_order_69 (q := 70) rfl rfl rfl ?_
          refine pm_ic3 K dX7_order_70 (q := 71) rfl ?_
          refine pm_icmp_ge K dX7_order_71 (tgt := 100) (q := 74) rfl rfl (fun z => absurd ((kleI (a := 3) (b := 0) rfl rfl (by omega) (by omega)).mp z) (by omega)) (fun _ => ?_)
          refine pm_aload_n K dX7_order_74 (q := 75) rfl rfl rfl ?_
          refine pm_get K inX7 rfl (k := 16) (by decide) wlX7_41 rfl (by have := M1.1; omega) M1.2.1 rfl dX7_order_75 (q := 78) rfl ?_
          refine pm_ic3 K dX7_order_78 (q := 79) rfl ?_
          refine pm_iload_n K dX7_order_79 (q := 80) rfl rfl rfl ?_
          refine pm_imul K dX7_order_80 (q := 81) rfl ?_
          refine pm_top (y := nI (3 * (rk lo k))) (kmul (a := 3) (b := rk lo k) rfl rfl) ?_
          refine pm_iload_n K dX7_order_81 (q := 82) rfl rfl rfl ?_
          refine pm_iadd K dX7_order_82 (q := 83) rfl ?_
          refine pm_top (y := nI (3 * (rk lo k) + 0)) (kadd (a := 3 * (rk lo k)) (b := 0) rfl rfl) ?_
          refine pm_aload_n K dX7_order_83 (q := 84) rfl rfl rfl ?_
          refine pm_get K inX7 rfl (k := 12) (by decide) wlX7_35 rfl (by have := M1.1; omega) M1.2.1 rfl dX7_order_84 (q := 87) rfl ?_
          refine pm_ic3 K dX7_order_87 (q := 88) rfl ?_
          refine pm_iload_n K dX7_order_88 (q := 89) rfl rfl rfl ?_
          refine pm_imul K dX7_order_89 (q := 90) rfl ?_
          refine pm_top (y := nI (3 * k)) (kmul (a := 3) (b := k) rfl rfl) ?_
          refine pm_iload_n K dX7_order_90 (q := 91) rfl rfl rfl ?_
          refine pm_iadd K dX7_order_91 (q := 92) rfl ?_
          refine pm_top (y := nI (3 * k + 0)) (kadd (a := 3 * k) (b := 0) rfl rfl) ?_
          refine mo_iald (j := 8) K M1 (by decide) (by decide) (show 3 * k + 0 < 72 by omega) dX7_order_92 (q := 93) rfl ?_
          refine pm_top (y := A 8 (3 * k + 0)) (congrFun (F1.2 8 (by decide)) _) ?_
          refine mo_iast (j := 10) K M1 (by decide) (by decide) (show 3 * (rk lo k) + 0 < 72 by omega) dX7_order_93 (q := 94) rfl (fun hm1 M1 Fm1 => ?_)
          refine pm_iinc (v := nI 1) K dX7_order_94 (q := 97) rfl rfl (kadd (a := 0) (b := 1) rfl rfl) (by decide) rfl ?_
          refine pm_goto K dX7_order_97 (q := 69) rfl ?_
          refine pm_iload_n K dX7_order_69 (q := 70) rfl rfl rfl ?_
          refine pm_ic3 K dX7_order_70 (q := 71) rfl ?_
          refine pm_icmp_ge K dX7_order_71 (tgt := 100) (q := 74) rfl rfl (fun z => absurd ((kleI (a := 3) (b := 1) rfl rfl (by omega) (by omega)).mp z) (by omega)) (fun _ => ?_)
          refine pm_aload_n K dX7_order_74 (q := 75) rfl rfl rfl ?_
          refine pm_get K inX7 rfl (k := 16) (by decide) wlX7_41 rfl (by have := M1.1; omega) M1.2.1 rfl dX7_order_75 (q := 78) rfl ?_
          refine pm_ic3 K dX7_order_78 (q := 79) rfl ?_
          refine pm_iload_n K dX7_order_79 (q := 80) rfl rfl rfl ?_
          refine pm_imul K dX7_order_80 (q := 81) rfl ?_
          refine pm_top (y := nI (3 * (rk lo k))) (kmul (a := 3) (b := rk lo k) rfl rfl) ?_
          refine pm_iload_n K dX7_order_81 (q := 82) rfl rfl rfl ?_
          refine pm_iadd K dX7_order_82 (q := 83) rfl ?_
          refine pm_top (y := nI (3 * (rk lo k) + 1)) (kadd (a := 3 * (rk lo k)) (b := 1) rfl rfl) ?_
          refine pm_aload_n K dX7_order_83 (q := 84) rfl rfl rfl ?_
          refine pm_get K inX7 rfl (k := 12) (by decide) wlX7_35 rfl (by have := M1.1; omega) M1.2.1 rfl dX7_order_84 (q := 87) rfl ?_
          refine pm_ic3 K dX7_order_87 (q := 88) rfl ?_
          refine pm_iload_n K dX7_order_88 (q := 89) rfl rfl rfl ?_
          refine pm_imul K dX7_order_89 (q := 90) rfl ?_
          refine pm_top (y := nI (3 * k)) (kmul (a := 3) (b := k) rfl rfl) ?_
          refine pm_iload_n K dX7_order_90 (q := 91) rfl rfl rfl ?_
          refine pm_iadd K dX7_order_91 (q := 92) rfl ?_
          refine pm_top (y := nI (3 * k + 1)) (kadd (a := 3 * k) (b := 1) rfl rfl) ?_
          refine mo_iald (j := 8) K M1 (by decide) (by decide) (show 3 * k + 1 < 72 by omega) dX7_order_92 (q := 93) rfl ?_
          refine pm_top (y := A 8 (3 * k + 1)) (congrFun (F1.2 8 (by decide)) _) ?_
          refine mo_iast (j := 10) K M1 (by decide) (by decide) (show 3 * (rk lo k) + 1 < 72 by omega) dX7_order_93 (q := 94) rfl (fun hm2 M2 Fm2 => ?_)
          refine pm_iinc (v := nI 2) K dX7_order_94 (q := 97) rfl rfl (kadd (a := 1) (b := 1) rfl rfl) (by decide) rfl ?_
          refine pm_goto K dX7_order_97 (q := 69) rfl ?_
          refine pm_iload_n K dX7_order_69 (q := 70) rfl rfl rfl ?_
          refine pm_ic3 K dX7_order_70 (q := 71) rfl ?_
          refine pm_icmp_ge K dX7_order_71 (tgt := 100) (q := 74) rfl rfl (fun z => absurd ((kleI (a := 3) (b := 2) rfl rfl (by omega) (by omega)).mp z) (by omega)) (fun _ => ?_)
          refine pm_aload_n K dX7_order_74 (q := 75) rfl rfl rfl ?_
          refine pm_get K inX7 rfl (k := 16) (by decide) wlX7_41 rfl (by have := M2.1; omega) M2.2.1 rfl dX7_order_75 (q := 78) rfl ?_
          refine pm_ic3 K dX7_order_78 (q := 79) rfl ?_
          refine pm_iload_n K dX7_order_79 (q := 80) rfl rfl rfl ?_
          refine pm_imul K dX7_order_80 (q := 81) rfl ?_
          refine pm_top (y := nI (3 * (rk lo k))) (kmul (a := 3) (b := rk lo k) rfl rfl) ?_
          refine pm_iload_n K dX7_order_81 (q := 82) rfl rfl rfl ?_
          refine pm_iadd K dX7_order_82 (q := 83) rfl ?_
          refine pm_top (y := nI (3 * (rk lo k) + 2)) (kadd (a := 3 * (rk lo k)) (b := 2) rfl rfl) ?_
          refine pm_aload_n K dX7_order_83 (q := 84) rfl rfl rfl ?_
          refine pm_get K inX7 rfl (k := 12) (by decide) wlX7_35 rfl (by have := M2.1; omega) M2.2.1 rfl dX7_order_84 (q := 87) rfl ?_
          refine pm_ic3 K dX7_order_87 (q := 88) rfl ?_
          refine pm_iload_n K dX7_order_88 (q := 89) rfl rfl rfl ?_
          refine pm_imul K dX7_order_89 (q := 90) rfl ?_
          refine pm_top (y := nI (3 * k)) (kmul (a := 3) (b := k) rfl rfl) ?_
          refine pm_iload_n K dX7_order_90 (q := 91) rfl rfl rfl ?_
          refine pm_iadd K dX7_order_91 (q := 92) rfl ?_
          refine pm_top (y := nI (3 * k + 2)) (kadd (a := 3 * k) (b := 2) rfl rfl) ?_
          refine mo_iald (j := 8) K M2 (by decide) (by decide) (show 3 * k + 2 < 72 by omega) dX7_order_92 (q := 93) rfl ?_
          refine pm_top (y := A 8 (3 * k + 2)) (congrFun (F1.2 8 (by decide)) _) ?_
          refine mo_iast (j := 10) K M2 (by decide) (by decide) (show 3 * (rk lo k) + 2 < 72 by omega) dX7_order_93 (q := 94) rfl (fun hm3 M3 Fm3 => ?_)
          refine pm_iinc (v := nI 3) K dX7_order_94 (q := 97) rfl rfl (kadd (a := 2) (b := 1) rfl rfl) (by decide) rfl ?_
          refine pm_goto K dX7_order_97 (q := 69) rfl ?_
          refine pm_iload_n K dX7_order_69 (q := 70) rfl rfl rfl ?_
          refine pm_ic3 K dX7_order_70 (q := 71) rfl ?_
          refine pm_icmp_ge K dX7_order_71 (tgt := 100) (q := 74) rfl rfl (fun _ => ?_) (fun z => absurd ((kleI (a := 3) (b := 3) rfl rfl (by omega) (by omega)).mpr (by omega)) z)
          refine pm_inc K dX7_order_100 (q := 103) rfl rfl (by decide) rfl ?_
          refine pm_goto K dX7_order_103 (q := 10) rfl ?_
          exact ih (k + 1) _ _ _ _ _ (by omega) M3 (((F1.ua (by decide) _).ua (by decide) _).ua (by decide) _) g17 (rk_put (show k < lo.length by omega) hA) ((hf1.tr ((Fm1.tr Fm2).tr Fm3)))
        | succ d ih2 =>
          intro j hd
          refine pm_iload_n K dX7_order_22 (q := 23) rfl rfl rfl ?_
          refine pm_aload_n K dX7_order_23 (q := 24) rfl rfl rfl ?_
          refine pm_get K inX7 rfl (k := 13) (by decide) wlX7_78 rfl (by have := M1.1; omega) M1.2.1 rfl dX7_order_24 (q := 27) rfl ?_
          refine pm_top (y := nI (lo.length)) ((F1.1 13 (by decide)).trans R.1) ?_
          refine pm_icmp_ge K dX7_order_27 (tgt := 67) (q := 30) rfl rfl (fun z => absurd ((kleI (a := lo.length) (b := j) rfl rfl (by omega) (by omega)).mp z) (by omega)) (fun _ => ?_)
          have this := ih2 (j + 1) (by omega)
          rw [rk_s] at this
          refine pm_aload_n K dX7_order_30 (q := 31) rfl rfl rfl ?_
          refine pm_iload_n K dX7_order_31 (q := 32) rfl rfl rfl ?_
          refine pm_iload_n K dX7_order_32 (q := 33) rfl rfl rfl ?_
          refine pm_callV0 K gw_ok wcX7_105 (m_less l M1 R1 (k := j) (j := k) (by omega) (by omega)) rfl (by have := M1.1; omega) M1.2.1 rfl rfl (Nat.le_of_ble_eq_true rfl) (by decide) dX7_order_33 (q := 36) rfl (fun r9 h9 hp => ?_)
          obtain ⟨rfl, e9⟩ := hp
          rw [e9]
          cases h1v : ltb (lo.getD j (0, 0, 0)) (lo.getD k (0, 0, 0))
          · refine pm_if_ne K dX7_order_36 (tgt := 53) (q := 39) rfl rfl (fun z => absurd z (fun z => z rfl)) (fun _ => ?_)
            refine pm_iload_n K dX7_order_39 (q := 40) rfl rfl rfl ?_
            refine pm_iload_n K dX7_order_40 (q := 41) rfl rfl rfl ?_
            refine pm_icmp_ge K dX7_order_41 (tgt := 59) (q := 44) rfl rfl (fun z => ?_) (fun z => ?_)
            · have hjk : k ≤ j := (kleI (a := k) (b := j) rfl rfl (by omega) (by omega)).mp z
              have hpj : ¬ Pj lo j k = true := by rw [Pj, h1v, decide_eq_false (by omega)]; exact Bool.false_ne_true
              rw [if_neg hpj] at this
              refine pm_iload_n K dX7_order_59 (q := 60) rfl rfl rfl ?_
              refine pm_istore_n K dX7_order_60 (q := 61) rfl rfl (by decide) rfl ?_
              refine pm_inc K dX7_order_61 (q := 64) rfl rfl (by decide) rfl ?_
              refine pm_goto K dX7_order_64 (q := 22) rfl ?_
              exact this
            · have hjk : ¬ k ≤ j := fun y => z ((kleI (a := k) (b := j) rfl rfl (by omega) (by omega)).mpr y)
              refine pm_aload_n K dX7_order_44 (q := 45) rfl rfl rfl ?_
              refine pm_iload_n K dX7_order_45 (q := 46) rfl rfl rfl ?_
              refine pm_iload_n K dX7_order_46 (q := 47) rfl rfl rfl ?_
              refine pm_callV0 K gw_ok wcX7_105 (m_less l M1 R1 (k := k) (j := j) (by omega) (by omega)) rfl (by have := M1.1; omega) M1.2.1 rfl rfl (Nat.le_of_ble_eq_true rfl) (by decide) dX7_order_47 (q := 50) rfl (fun r8 h8 hp => ?_)
              obtain ⟨rfl, e8⟩ := hp
              rw [e8]
              cases h2v : ltb (lo.getD k (0, 0, 0)) (lo.getD j (0, 0, 0))
              · refine pm_if_ne K dX7_order_50 (tgt := 59) (q := 53) rfl rfl (fun z => absurd z (fun z => z rfl)) (fun _ => ?_)
                have hpj : Pj lo j k = true := by rw [Pj, h1v, h2v, decide_eq_true (by omega)]; decide
                rw [if_pos hpj] at this
                refine pm_iload_n K dX7_order_53 (q := 54) rfl rfl rfl ?_
                refine pm_ic1 K dX7_order_54 (q := 55) rfl ?_
                refine pm_iadd K dX7_order_55 (q := 56) rfl ?_
                refine pm_top (y := nI (((List.range j).filter (fun j => Pj lo j k)).length + 1)) (kadd (a := ((List.range j).filter (fun j => Pj lo j k)).length) (b := 1) rfl rfl) ?_
                refine pm_goto K dX7_order_56 (q := 60) rfl ?_
                refine pm_istore_n K dX7_order_60 (q := 61) rfl rfl (by decide) rfl ?_
                refine pm_inc K dX7_order_61 (q := 64) rfl rfl (by decide) rfl ?_
                refine pm_goto K dX7_order_64 (q := 22) rfl ?_
                exact this
              · refine pm_if_ne K dX7_order_50 (tgt := 59) (q := 53) rfl rfl (fun _ => ?_) (fun z => absurd z (fun z => absurd z (by decide)))
                have hpj : ¬ Pj lo j k = true := by rw [Pj, h1v, h2v, Bool.not_true, Bool.and_false]; decide
                rw [if_neg hpj] at this
                refine pm_iload_n K dX7_order_59 (q := 60) rfl rfl rfl ?_
                refine pm_istore_n K dX7_order_60 (q := 61) rfl rfl (by decide) rfl ?_
                refine pm_inc K dX7_order_61 (q := 64) rfl rfl (by decide) rfl ?_
                refine pm_goto K dX7_order_64 (q := 22) rfl ?_
                exact this
          · refine pm_if_ne K dX7_order_36 (tgt := 53) (q := 39) rfl rfl (fun _ => ?_) (fun z => absurd z (fun z => absurd z (by decide)))
            have hpj : Pj lo j k = true := by rw [Pj, h1v]; rfl
            rw [if_pos hpj] at this
            refine pm_iload_n K dX7_order_53 (q := 54) rfl rfl rfl ?_
            refine pm_ic1 K dX7_order_54 (q := 55) rfl ?_
            refine pm_iadd K dX7_order_55 (q := 56) rfl ?_
            refine pm_top (y := nI (((List.range j).filter (fun j => Pj lo j k)).length + 1)) (kadd (a := ((List.range j).filter (fun j => Pj lo j k)).length) (b := 1) rfl rfl) ?_
            refine pm_goto K dX7_order_56 (q := 60) rfl ?_
            refine pm_istore_n K dX7_order_60 (q := 61) rfl rfl (by decide) rfl ?_
            refine pm_inc K dX7_order_61 (q := 64) rfl rfl (by decide) rfl ?_
            refine pm_goto K dX7_order_64 (q := 22) rfl ?_
            exact this
      exact inn lo.length 0 (by omega)
  exact loop lo.length 0 _ _ _ none none (by omega) M1 (gf.rf.up (by decide) _) rfl (fun i hi => absurd hi (Nat.not_lt_zero _)) Fm1
