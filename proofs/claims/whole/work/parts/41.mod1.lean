/-! The reference: its small methods. -/
theorem pm_top {G : pm_Gt} {cells slots pc n : Nat} {ls : List (Option Value)} {st : List Value} {h : pm_H} {x y : Int32} (e : x = y) (kk : G cells slots pc ls (.int y :: st) n h) : G cells slots pc ls (.int x :: st) n h := by
  rw [e]
  exact kk
theorem ix3 (k : Nat) : (3 : Int32) * nI k = nI (3 * k) := pk_mul 3 k
theorem ix36 (k : Nat) : nI 36 * nI k = nI (36 * k) := pk_mul 36 k
def ou (v lo hi : Int32) : Bool := decide (v < lo ∨ hi < v)
theorem ou_tb (v : Int32) : ou v 0 2 = !(tb v) := by
  unfold ou tb
  have h2 : ((2 : Int32) < v) ↔ ¬ v < 3 := by
    rw [Int32.lt_iff_toInt_lt, Int32.lt_iff_toInt_lt]
    have a : (2 : Int32).toInt = 2 := rfl
    have b : (3 : Int32).toInt = 3 := rfl
    omega
  by_cases h0 : v < 0
  · rw [decide_eq_true (Or.inl h0), decide_eq_false (fun z => z.1 h0)]; rfl
  · by_cases h3 : v < 3
    · rw [decide_eq_false (fun z => z.elim h0 (fun z => (h2.mp z) h3)), decide_eq_true ⟨h0, h3⟩]; rfl
    · rw [decide_eq_true (Or.inr (h2.mpr h3)), decide_eq_false (fun z => h3 z.2)]; rfl
def ls3 (a : Nat → Int32) (b : Nat) (l : List bg_T) : Prop := ∀ k, k < l.length → l[k]? = some (a (b + 3 * k), a (b + 3 * k + 1), a (b + 3 * k + 2))
def mC (g : Nat → Int32) (A : Nat → Nat → Int32) (T : Nat → List bg_T) (ch : List (Int32 × bg_T)) (pl : Bool) (so : Int32) (sc : Nat) (S : Nat → Nat → Int32) (lr : List bg_T) (pa : List (Int32 × Int32 × Int32 × Int32)) (la : Nat) : Prop :=
  (∀ t, t < 3 → (T t).length ≤ 12 ∧ A 1 t = nI (T t).length ∧ ls3 (A 0) (36 * t) (T t)) ∧ g 2 = b2i pl ∧ g 3 = so ∧ (g 4 = nI sc ∧ sc ≤ 3) ∧ (∀ s, s < sc → A 2 s = S s 0 ∧ A 3 s = S s 1 ∧ A 4 s = S s 2 ∧ A 5 s = S s 3) ∧ (g 9 = nI ch.length ∧ ch.length ≤ 6 ∧ ∀ k, k < ch.length → ch[k]? = some (A 6 k, A 7 (3 * k), A 7 (3 * k + 1), A 7 (3 * k + 2)) ∧ (A 6 k = 0 ∨ A 6 k = 1)) ∧ (g 17 = nI lr.length ∧ lr.length ≤ 24 ∧ ls3 (A 10) 0 lr) ∧ (g 18 = nI pa.length ∧ pa.length ≤ 3 ∧ ∀ s, s < pa.length → pa[s]? = some (A 11 s, A 12 s, A 13 s, A 14 s)) ∧ g 23 = nI la ∧ la ≤ 24
/-- the reference: tables, changes, plan, steps, result, parts of the trace, rows sorted last -/
def m_at (n : Nat) (h : pm_H) (T : Nat → List bg_T) (ch : List (Int32 × bg_T)) (pl : Bool) (so : Int32) (sc : Nat) (S : Nat → Nat → Int32) (lr : List bg_T) (pa : List (Int32 × Int32 × Int32 × Int32)) (la : Nat) : Prop := ∃ g A, mo_at n h g A ∧ mC g A T ch pl so sc S lr pa la
theorem st_push {sc : Nat} {S : Nat → Nat → Int32} {A : Nat → Nat → Int32} (hg : sc < 3) (c5 : ∀ s, s < sc → A 2 s = S s 0 ∧ A 3 s = S s 1 ∧ A 4 s = S s 2 ∧ A 5 s = S s 3) (k x y z : Int32) (s : Nat) (hs : s < sc + 1) : upd (A 2) sc k s = va_up S sc (st4 k x y z) s 0 ∧ upd (A 3) sc x s = va_up S sc (st4 k x y z) s 1 ∧ upd (A 4) sc y s = va_up S sc (st4 k x y z) s 2 ∧ upd (A 5) sc z s = va_up S sc (st4 k x y z) s 3 := by
  by_cases e : s = sc
  · subst e
    simp [upd, va_up, st4]
  · have h1 := c5 s (by omega)
    simp [upd, va_up, e, h1]
theorem ou_in {v : Int32} {L : Nat} (h : ou v 0 (nI L - 1) = false) (hL : L ≤ 24) : ∃ j : Nat, j < L ∧ v = nI j := by
  have h := of_decide_eq_false h
  have h0 : ¬ v < 0 := fun z => h (Or.inl z)
  have h1 : ¬ nI L - 1 < v := fun z => h (Or.inr z)
  refine pk_j h0 ?_ (by omega)
  rw [Int32.lt_iff_toInt_lt] at h1 h0 ⊢
  have e1 : (nI L - 1).toInt = (L : Int) - 1 := pk_sub_toInt (b := 1) (by omega) (by decide)
  have e2 : (nI L).toInt = (L : Int) := nI_toInt (by omega)
  have z0 : (0 : Int32).toInt = 0 := rfl
  omega
theorem mc_out {v c0 : Int32} {lr : List bg_T} (h : ou v 0 (nI lr.length - 1) = true) (hL : lr.length ≤ 24) : bg_cell lr v c0 = 0 := by
  unfold bg_cell
  rw [if_pos]
  rcases of_decide_eq_true h with z | z
  · exact Or.inl z
  · refine Or.inr ?_
    rw [Int32.le_iff_toInt_le]
    rw [Int32.lt_iff_toInt_lt] at z
    have e1 : (nI lr.length - 1).toInt = (lr.length : Int) - 1 := pk_sub_toInt (b := 1) (by omega) (by decide)
    have e2 : (nI lr.length).toInt = (lr.length : Int) := nI_toInt (by omega)
    omega
theorem mc_cell {lr : List bg_T} {a : Nat → Int32} {j k : Nat} (hg : lr[j]? = some (a (0 + 3 * j), a (0 + 3 * j + 1), a (0 + 3 * j + 2))) (hj : j < lr.length) (hL : lr.length < 2 ^ 31) (hk : k < 3) : bg_cell lr (nI j) (nI k) = a (3 * j + k) := by
  rw [bg_cell_at hg hj hL]
  rw [Nat.zero_add]
  rcases (show k = 0 ∨ k = 1 ∨ k = 2 by omega) with rfl | rfl | rfl
  · rfl
  · rfl
  · rfl
set_option maxRecDepth 100000 in
theorem c_outside (l : Launch) {n : Nat} {h : pm_H} (v lo hi : Int32) : bM0 l yX7_outside cX7_outside 3 (some (.boolean)) 0 [.int v, .int lo, .int hi] n h (fun r h' => r = some (.int (b2i (ou v lo hi))) ∧ h' = h) := by
  refine pm_enter rfl (Nat.le_of_ble_eq_true rfl) (fun G K Z => ?_)
  refine pm_iload_n K dX7_outside_0 (q := 1) rfl rfl rfl ?_
  refine pm_iload_n K dX7_outside_1 (q := 2) rfl rfl rfl ?_
  refine pm_icmp_lt K dX7_outside_2 (tgt := 10) (q := 5) rfl rfl (fun h0 => ?_) (fun h0 => ?_)
  · refine pm_ic1 K dX7_outside_10 (q := 11) rfl ?_
    refine pm_goto K dX7_outside_11 (q := 15) rfl ?_
    exact pm_iret Z dX7_outside_15 rfl rfl (Nat.le_of_ble_eq_true rfl) (Nat.le_of_ble_eq_true rfl) ⟨rfl, ⟨by rw [ou, decide_eq_true (Or.inl h0)]; rfl, rfl⟩⟩
  · refine pm_iload_n K dX7_outside_5 (q := 6) rfl rfl rfl ?_
    refine pm_iload_n K dX7_outside_6 (q := 7) rfl rfl rfl ?_
    refine pm_icmp_le K dX7_outside_7 (tgt := 14) (q := 10) rfl rfl (fun h1 => ?_) (fun h1 => ?_)
    · refine pm_ic0 K dX7_outside_14 (q := 15) rfl ?_
      exact pm_iret Z dX7_outside_15 rfl rfl (Nat.le_of_ble_eq_true rfl) (Nat.le_of_ble_eq_true rfl) ⟨rfl, ⟨by rw [ou, decide_eq_false (fun z => z.elim h0 (Int32.not_lt.mpr h1))]; rfl, rfl⟩⟩
    · refine pm_ic1 K dX7_outside_10 (q := 11) rfl ?_
      refine pm_goto K dX7_outside_11 (q := 15) rfl ?_
      exact pm_iret Z dX7_outside_15 rfl rfl (Nat.le_of_ble_eq_true rfl) (Nat.le_of_ble_eq_true rfl) ⟨rfl, ⟨by rw [ou, decide_eq_true (Or.inr (Int32.not_le.mp h1))]; rfl, rfl⟩⟩
set_option maxRecDepth 100000 in
theorem m_rows (l : Launch) {n : Nat} {h : pm_H} {T : Nat → List bg_T} {ch : List (Int32 × bg_T)} {pl : Bool} {so : Int32} {sc : Nat} {S : Nat → Nat → Int32} {lr : List bg_T} {pa : List (Int32 × Int32 × Int32 × Int32)} {la : Nat} (X : m_at n h T ch pl so sc S lr pa la) (t : Int32) : bM0 l yX7_rows cX7_rows 2 (some (.int)) 1 [.ref 112, .int t] n h (fun r h' => r = some (.int (if tb t = true then nI (T t.toNatClampNeg).length else -1)) ∧ h' = h) := by
  refine pm_enter rfl (Nat.le_of_ble_eq_true rfl) (fun G K Z => ?_)
  obtain ⟨g, A, M, c1, c2, c3, c4, c5, c6, c7, c8, c9⟩ := X
  refine pm_iload_n K dX7_rows_0 (q := 1) rfl rfl rfl ?_
  refine pm_ic0 K dX7_rows_1 (q := 2) rfl ?_
  refine pm_ic2 K dX7_rows_2 (q := 3) rfl ?_
  refine pm_callS0 K gw_ok wcX7_56 (c_outside l t 0 2) rfl rfl (Nat.le_of_ble_eq_true rfl) (by decide) dX7_rows_3 (q := 6) rfl (fun rs hs hp => ?_)
  obtain ⟨rfl, e1⟩ := hp
  rw [e1, ou_tb]
  cases ht : tb t
  · rw [ht] at Z
    refine pm_if_eq K dX7_rows_6 (tgt := 13) (q := 9) rfl rfl (fun z => absurd z (by decide)) (fun _ => ?_)
    refine pm_icm1 K dX7_rows_9 (q := 10) rfl ?_
    refine pm_goto K dX7_rows_10 (q := 19) rfl ?_
    exact pm_iret Z dX7_rows_19 rfl rfl (Nat.le_of_ble_eq_true rfl) (Nat.le_of_ble_eq_true rfl) ⟨rfl, ⟨rfl, rfl⟩⟩
  · rw [ht] at Z
    refine pm_if_eq K dX7_rows_6 (tgt := 13) (q := 9) rfl rfl (fun _ => ?_) (fun z => absurd z (fun z => z rfl))
    obtain ⟨j, hj, rfl⟩ := tb_ok ht
    rw [nI_clamp (by omega)] at Z
    refine pm_aload_n K dX7_rows_13 (q := 14) rfl rfl rfl ?_
    refine pm_get K inX7 rfl (k := 1) (by decide) wlX7_13 rfl (by have := M.1; omega) M.2.1 rfl dX7_rows_14 (q := 17) rfl ?_
    refine pm_iload_n K dX7_rows_17 (q := 18) rfl rfl rfl ?_
    refine mo_iald (j := 1) K M (by decide) (by decide) hj dX7_rows_18 (q := 19) rfl ?_
    refine pm_top (y := nI (T j).length) ((c1 j hj).2.1) ?_
    exact pm_iret Z dX7_rows_19 rfl rfl (Nat.le_of_ble_eq_true rfl) (Nat.le_of_ble_eq_true rfl) ⟨rfl, ⟨rfl, rfl⟩⟩
set_option maxRecDepth 100000 in
theorem m_plan (l : Launch) {n : Nat} {h : pm_H} {T : Nat → List bg_T} {ch : List (Int32 × bg_T)} {pl : Bool} {so : Int32} {sc : Nat} {S : Nat → Nat → Int32} {lr : List bg_T} {pa : List (Int32 × Int32 × Int32 × Int32)} {la : Nat} (X : m_at n h T ch pl so sc S lr pa la) (t : Int32) : bM0 l yX7_plan cX7_plan 2 (some (.boolean)) 1 [.ref 112, .int t] n h (fun r h' => r = some (.int (b2i (tb t))) ∧ m_at n h' T ch (if tb t = true then true else pl) (if tb t = true then t else so) (if tb t = true then 0 else sc) S lr pa la ∧ mo_fr h h') := by
  refine pm_enter rfl (Nat.le_of_ble_eq_true rfl) (fun G K Z => ?_)
  obtain ⟨g, A, M, c1, c2, c3, c4, c5, c6, c7, c8, c9⟩ := X
  refine pm_iload_n K dX7_plan_0 (q := 1) rfl rfl rfl ?_
  refine pm_ic0 K dX7_plan_1 (q := 2) rfl ?_
  refine pm_ic2 K dX7_plan_2 (q := 3) rfl ?_
  refine pm_callS0 K gw_ok wcX7_56 (c_outside l t 0 2) rfl rfl (Nat.le_of_ble_eq_true rfl) (by decide) dX7_plan_3 (q := 6) rfl (fun rs hs hp => ?_)
  obtain ⟨rfl, e1⟩ := hp
  rw [e1, ou_tb]
  cases ht : tb t
  · rw [ht] at Z
    refine pm_if_eq K dX7_plan_6 (tgt := 11) (q := 9) rfl rfl (fun z => absurd z (by decide)) (fun _ => ?_)
    refine pm_ic0 K dX7_plan_9 (q := 10) rfl ?_
    exact pm_iret Z dX7_plan_10 rfl rfl (Nat.le_of_ble_eq_true rfl) (Nat.le_of_ble_eq_true rfl) ⟨rfl, ⟨rfl, ⟨g, A, M, c1, c2, c3, c4, c5, c6, c7, c8, c9⟩, mo_fr.rf⟩⟩
  · rw [ht] at Z
    refine pm_if_eq K dX7_plan_6 (tgt := 11) (q := 9) rfl rfl (fun _ => ?_) (fun z => absurd z (fun z => z rfl))
    refine pm_aload_n K dX7_plan_11 (q := 12) rfl rfl rfl ?_
    refine pm_ic1 K dX7_plan_12 (q := 13) rfl ?_
    refine mo_putB K M (by decide) wlX7_60 dX7_plan_13 (q := 16) rfl (fun hm1 M1 Fm1 => ?_)
    refine pm_aload_n K dX7_plan_16 (q := 17) rfl rfl rfl ?_
    refine pm_iload_n K dX7_plan_17 (q := 18) rfl rfl rfl ?_
    refine mo_put (k := 3) K M1 (by decide) wlX7_64 dX7_plan_18 (q := 21) rfl (fun hm2 M2 Fm2 => ?_)
    refine pm_aload_n K dX7_plan_21 (q := 22) rfl rfl rfl ?_
    refine pm_ic0 K dX7_plan_22 (q := 23) rfl ?_
    refine mo_put (k := 4) K M2 (by decide) wlX7_68 dX7_plan_23 (q := 26) rfl (fun hm3 M3 Fm3 => ?_)
    refine pm_ic1 K dX7_plan_26 (q := 27) rfl ?_
    exact pm_iret Z dX7_plan_27 rfl rfl (Nat.le_of_ble_eq_true rfl) (Nat.le_of_ble_eq_true rfl) ⟨rfl, ⟨rfl, ⟨_, A, M3, c1, rfl, rfl, ⟨rfl, Nat.zero_le _⟩, fun s hs => absurd hs (Nat.not_lt_zero _), c6, c7, c8, c9⟩, ((Fm1.tr Fm2).tr Fm3)⟩⟩
set_option maxRecDepth 100000 in
theorem m_step (l : Launch) {n : Nat} {h : pm_H} {T : Nat → List bg_T} {ch : List (Int32 × bg_T)} {pl : Bool} {so : Int32} {sc : Nat} {S : Nat → Nat → Int32} {lr : List bg_T} {pa : List (Int32 × Int32 × Int32 × Int32)} {la : Nat} (X : m_at n h T ch pl so sc S lr pa la) (k x y z : Int32) (gd : Bool) : bM0 l yX7_step cX7_step 6 (some (.boolean)) 1 [.ref 112, .int k, .int x, .int y, .int z, .int (b2i gd)] n h (fun r h' => r = some (.int (b2i (pl && (decide (sc < 3) && gd)))) ∧ m_at n h' T ch pl so (if (pl && (decide (sc < 3) && gd)) = true then sc + 1 else sc) (if (pl && (decide (sc < 3) && gd)) = true then va_up S sc (st4 k x y z) else S) lr pa la ∧ mo_fr h h') := by
  refine pm_enter rfl (Nat.le_of_ble_eq_true rfl) (fun G K Z => ?_)
  obtain ⟨g, A, M, c1, c2, c3, c4, c5, c6, c7, c8, c9⟩ := X
  cases hpl : pl
  · rw [hpl] at Z c2
    refine pm_aload_n K dX7_step_0 (q := 1) rfl rfl rfl ?_
    refine pm_get K inX7 rfl (k := 2) (by decide) wlX7_60 rfl (by have := M.1; omega) M.2.1 rfl dX7_step_1 (q := 4) rfl ?_
    refine pm_top (y := b2i false) (c2) ?_
    refine pm_if_eq K dX7_step_4 (tgt := 20) (q := 7) rfl rfl (fun _ => ?_) (fun z => absurd z (fun z => z rfl))
    refine pm_ic0 K dX7_step_20 (q := 21) rfl ?_
    exact pm_iret Z dX7_step_21 rfl rfl (Nat.le_of_ble_eq_true rfl) (Nat.le_of_ble_eq_true rfl) ⟨rfl, ⟨rfl, ⟨g, A, M, c1, c2, c3, c4, c5, c6, c7, c8, c9⟩, mo_fr.rf⟩⟩
  · rw [hpl] at Z c2
    refine pm_aload_n K dX7_step_0 (q := 1) rfl rfl rfl ?_
    refine pm_get K inX7 rfl (k := 2) (by decide) wlX7_60 rfl (by have := M.1; omega) M.2.1 rfl dX7_step_1 (q := 4) rfl ?_
    refine pm_top (y := b2i true) (c2) ?_
    refine pm_if_eq K dX7_step_4 (tgt := 20) (q := 7) rfl rfl (fun z => absurd z (by decide)) (fun _ => ?_)
    refine pm_aload_n K dX7_step_7 (q := 8) rfl rfl rfl ?_
    refine pm_get K inX7 rfl (k := 4) (by decide) wlX7_68 rfl (by have := M.1; omega) M.2.1 rfl dX7_step_8 (q := 11) rfl ?_
    refine pm_top (y := nI sc) (c4.1) ?_
    refine pm_ic3 K dX7_step_11 (q := 12) rfl ?_
    refine pm_icmp_ge K dX7_step_12 (tgt := 20) (q := 15) rfl rfl (fun h3 => ?_) (fun h3 => ?_)
    · have hg : ¬ sc < 3 := fun z => nI_ge z (by decide) h3
      rw [decide_eq_false hg] at Z
      refine pm_ic0 K dX7_step_20 (q := 21) rfl ?_
      exact pm_iret Z dX7_step_21 rfl rfl (Nat.le_of_ble_eq_true rfl) (Nat.le_of_ble_eq_true rfl) ⟨rfl, ⟨rfl, ⟨g, A, M, c1, c2, c3, c4, c5, c6, c7, c8, c9⟩, mo_fr.rf⟩⟩
    · have hg : sc < 3 := Nat.lt_of_not_le (fun z => h3 (nI_le z (by have := c4.2; omega)))
      rw [decide_eq_true hg] at Z
      cases hgd : gd
      · rw [hgd] at Z
        refine pm_iload K dX7_step_15 (q := 17) rfl rfl ?_
        refine pm_if_ne K dX7_step_17 (tgt := 22) (q := 20) rfl rfl (fun z => absurd z (fun z => z rfl)) (fun _ => ?_)
        refine pm_ic0 K dX7_step_20 (q := 21) rfl ?_
        exact pm_iret Z dX7_step_21 rfl rfl (Nat.le_of_ble_eq_true rfl) (Nat.le_of_ble_eq_true rfl) ⟨rfl, ⟨rfl, ⟨g, A, M, c1, c2, c3, c4, c5, c6, c7, c8, c9⟩, mo_fr.rf⟩⟩
      · rw [hgd] at Z
        refine pm_iload K dX7_step_15 (q := 17) rfl rfl ?_
        refine pm_if_ne K dX7_step_17 (tgt := 22) (q := 20) rfl rfl (fun _ => ?_) (fun z => absurd z (fun z => absurd z (by decide)))
        refine pm_aload_n K dX7_step_22 (q := 23) rfl rfl rfl ?_
        refine pm_get K inX7 rfl (k := 5) (by decide) wlX7_16 rfl (by have := M.1; omega) M.2.1 rfl dX7_step_23 (q := 26) rfl ?_
        refine pm_aload_n K dX7_step_26 (q := 27) rfl rfl rfl ?_
        refine pm_get K inX7 rfl (k := 4) (by decide) wlX7_68 rfl (by have := M.1; omega) M.2.1 rfl dX7_step_27 (q := 30) rfl ?_
        refine pm_top (y := nI sc) (c4.1) ?_
        refine pm_iload_n K dX7_step_30 (q := 31) rfl rfl rfl ?_
        refine mo_iast (j := 2) K M (by decide) (by decide) hg dX7_step_31 (q := 32) rfl (fun hm1 M1 Fm1 => ?_)
        refine pm_aload_n K dX7_step_32 (q := 33) rfl rfl rfl ?_
        refine pm_get K inX7 rfl (k := 6) (by decide) wlX7_19 rfl (by have := M1.1; omega) M1.2.1 rfl dX7_step_33 (q := 36) rfl ?_
        refine pm_aload_n K dX7_step_36 (q := 37) rfl rfl rfl ?_
        refine pm_get K inX7 rfl (k := 4) (by decide) wlX7_68 rfl (by have := M1.1; omega) M1.2.1 rfl dX7_step_37 (q := 40) rfl ?_
        refine pm_top (y := nI sc) (c4.1) ?_
        refine pm_iload_n K dX7_step_40 (q := 41) rfl rfl rfl ?_
        refine mo_iast (j := 3) K M1 (by decide) (by decide) hg dX7_step_41 (q := 42) rfl (fun hm2 M2 Fm2 => ?_)
        refine pm_aload_n K dX7_step_42 (q := 43) rfl rfl rfl ?_
        refine pm_get K inX7 rfl (k := 7) (by decide) wlX7_22 rfl (by have := M2.1; omega) M2.2.1 rfl dX7_step_43 (q := 46) rfl ?_
        refine pm_aload_n K dX7_step_46 (q := 47) rfl rfl rfl ?_
        refine pm_get K inX7 rfl (k := 4) (by decide) wlX7_68 rfl (by have := M2.1; omega) M2.2.1 rfl dX7_step_47 (q := 50) rfl ?_
        refine pm_top (y := nI sc) (c4.1) ?_
        refine pm_iload_n K dX7_step_50 (q := 51) rfl rfl rfl ?_
        refine mo_iast (j := 4) K M2 (by decide) (by decide) hg dX7_step_51 (q := 52) rfl (fun hm3 M3 Fm3 => ?_)
        refine pm_aload_n K dX7_step_52 (q := 53) rfl rfl rfl ?_
        refine pm_get K inX7 rfl (k := 8) (by decide) wlX7_25 rfl (by have := M3.1; omega) M3.2.1 rfl dX7_step_53 (q := 56) rfl ?_
        refine pm_aload_n K dX7_step_56 (q := 57) rfl rfl rfl ?_
        refine pm_get K inX7 rfl (k := 4) (by decide) wlX7_68 rfl (by have := M3.1; omega) M3.2.1 rfl dX7_step_57 (q := 60) rfl ?_
        refine pm_top (y := nI sc) (c4.1) ?_
        refine pm_iload K dX7_step_60 (q := 62) rfl rfl ?_
        refine mo_iast (j := 5) K M3 (by decide) (by decide) hg dX7_step_62 (q := 63) rfl (fun hm4 M4 Fm4 => ?_)
        refine pm_aload_n K dX7_step_63 (q := 64) rfl rfl rfl ?_
        refine pm_dup K dX7_step_64 (q := 65) rfl ?_
        refine pm_get K inX7 rfl (k := 4) (by decide) wlX7_68 rfl (by have := M4.1; omega) M4.2.1 rfl dX7_step_65 (q := 68) rfl ?_
        refine pm_top (y := nI sc) (c4.1) ?_
        refine pm_ic1 K dX7_step_68 (q := 69) rfl ?_
        refine pm_iadd K dX7_step_69 (q := 70) rfl ?_
        refine mo_put (k := 4) K M4 (by decide) wlX7_68 dX7_step_70 (q := 73) rfl (fun hm5 M5 Fm5 => ?_)
        refine pm_ic1 K dX7_step_73 (q := 74) rfl ?_
        exact pm_iret Z dX7_step_74 rfl rfl (Nat.le_of_ble_eq_true rfl) (Nat.le_of_ble_eq_true rfl) ⟨rfl, ⟨rfl, ⟨_, _, M5, c1, c2, c3, ⟨(nI_succ sc).symm, hg⟩, fun s hs => st_push hg c5 k x y z s hs, c6, c7, c8, c9⟩, ((((Fm1.tr Fm2).tr Fm3).tr Fm4).tr Fm5)⟩⟩
set_option maxRecDepth 100000 in
theorem m_distinct (l : Launch) {n : Nat} {h : pm_H} {T : Nat → List bg_T} {ch : List (Int32 × bg_T)} {pl : Bool} {so : Int32} {sc : Nat} {S : Nat → Nat → Int32} {lr : List bg_T} {pa : List (Int32 × Int32 × Int32 × Int32)} {la : Nat} (X : m_at n h T ch pl so sc S lr pa la) : bM0 l yX7_distinct cX7_distinct 1 (some (.boolean)) 2 [.ref 112] n h (fun r h' => r = some (.int (b2i (pl && (decide (sc < 3) && true)))) ∧ m_at n h' T ch pl so (if (pl && (decide (sc < 3) && true)) = true then sc + 1 else sc) (if (pl && (decide (sc < 3) && true)) = true then va_up S sc (st4 2 0 0 0) else S) lr pa la ∧ mo_fr h h') := by
  refine pm_enter rfl (Nat.le_of_ble_eq_true rfl) (fun G K Z => ?_)
  have X0 := X
  obtain ⟨g, A, M, c1, c2, c3, c4, c5, c6, c7, c8, c9⟩ := X
  refine pm_aload_n K dX7_distinct_0 (q := 1) rfl rfl rfl ?_
  refine pm_ic2 K dX7_distinct_1 (q := 2) rfl ?_
  refine pm_ic0 K dX7_distinct_2 (q := 3) rfl ?_
  refine pm_ic0 K dX7_distinct_3 (q := 4) rfl ?_
  refine pm_ic0 K dX7_distinct_4 (q := 5) rfl ?_
  refine pm_ic1 K dX7_distinct_5 (q := 6) rfl ?_
  refine pm_callV0 K gw_ok wcX7_71 (m_step l X0 2 0 0 0 true) rfl (by have := M.1; omega) M.2.1 rfl rfl (Nat.le_of_ble_eq_true rfl) (by decide) dX7_distinct_6 (q := 9) rfl (fun r2 h2 hp => ?_)
  obtain ⟨rfl, X2, F2⟩ := hp
  exact pm_iret Z dX7_distinct_9 rfl (b2i_nar _) (Nat.le_of_ble_eq_true rfl) (Nat.le_of_ble_eq_true rfl) ⟨rfl, ⟨rfl, X2, F2⟩⟩
set_option maxRecDepth 100000 in
theorem m_filter (l : Launch) {n : Nat} {h : pm_H} {T : Nat → List bg_T} {ch : List (Int32 × bg_T)} {pl : Bool} {so : Int32} {sc : Nat} {S : Nat → Nat → Int32} {lr : List bg_T} {pa : List (Int32 × Int32 × Int32 × Int32)} {la : Nat} (X : m_at n h T ch pl so sc S lr pa la) (c op x : Int32) : bM0 l yX7_filter cX7_filter 4 (some (.boolean)) 2 [.ref 112, .int c, .int op, .int x] n h (fun r h' => r = some (.int (b2i (pl && (decide (sc < 3) && (tb c && tb op))))) ∧ m_at n h' T ch pl so (if (pl && (decide (sc < 3) && (tb c && tb op))) = true then sc + 1 else sc) (if (pl && (decide (sc < 3) && (tb c && tb op))) = true then va_up S sc (st4 0 c op x) else S) lr pa la ∧ mo_fr h h') := by
  refine pm_enter rfl (Nat.le_of_ble_eq_true rfl) (fun G K Z => ?_)
  have X0 := X
  obtain ⟨g, A, M, c1, c2, c3, c4, c5, c6, c7, c8, c9⟩ := X
  refine pm_aload_n K dX7_filter_0 (q := 1) rfl rfl rfl ?_
  refine pm_ic0 K dX7_filter_1 (q := 2) rfl ?_
  refine pm_iload_n K dX7_filter_2 (q := 3) rfl rfl rfl ?_
  refine pm_iload_n K dX7_filter_3 (q := 4) rfl rfl rfl ?_
  refine pm_iload_n K dX7_filter_4 (q := 5) rfl rfl rfl ?_
  refine pm_iload_n K dX7_filter_5 (q := 6) rfl rfl rfl ?_
  refine pm_ic0 K dX7_filter_6 (q := 7) rfl ?_
  refine pm_ic2 K dX7_filter_7 (q := 8) rfl ?_
  refine pm_callS0 K gw_ok wcX7_56 (c_outside l c 0 2) rfl rfl (Nat.le_of_ble_eq_true rfl) (by decide) dX7_filter_8 (q := 11) rfl (fun rs hs hp => ?_)
  obtain ⟨rfl, e1⟩ := hp
  rw [e1, ou_tb]
  cases hvc : tb c
  · rw [hvc] at Z
    refine pm_if_ne K dX7_filter_11 (tgt := 27) (q := 14) rfl rfl (fun _ => ?_) (fun z => absurd z (fun z => absurd z (by decide)))
    refine pm_ic0 K dX7_filter_27 (q := 28) rfl ?_
    refine pm_callV0 K gw_ok wcX7_71 (m_step l X0 0 c op x false) rfl (by have := M.1; omega) M.2.1 rfl rfl (Nat.le_of_ble_eq_true rfl) (by decide) dX7_filter_28 (q := 31) rfl (fun r2 h2 hp => ?_)
    obtain ⟨rfl, X2, F2⟩ := hp
    exact pm_iret Z dX7_filter_31 rfl (b2i_nar _) (Nat.le_of_ble_eq_true rfl) (Nat.le_of_ble_eq_true rfl) ⟨rfl, ⟨rfl, X2, F2⟩⟩
  · rw [hvc] at Z
    refine pm_if_ne K dX7_filter_11 (tgt := 27) (q := 14) rfl rfl (fun z => absurd z (fun z => z rfl)) (fun _ => ?_)
    refine pm_iload_n K dX7_filter_14 (q := 15) rfl rfl rfl ?_
    refine pm_ic0 K dX7_filter_15 (q := 16) rfl ?_
    refine pm_ic2 K dX7_filter_16 (q := 17) rfl ?_
    refine pm_callS0 K gw_ok wcX7_56 (c_outside l op 0 2) rfl rfl (Nat.le_of_ble_eq_true rfl) (by decide) dX7_filter_17 (q := 20) rfl (fun rs hs hp => ?_)
    obtain ⟨rfl, e1⟩ := hp
    rw [e1, ou_tb]
    cases hvop : tb op
    · rw [hvop] at Z
      refine pm_if_ne K dX7_filter_20 (tgt := 27) (q := 23) rfl rfl (fun _ => ?_) (fun z => absurd z (fun z => absurd z (by decide)))
      refine pm_ic0 K dX7_filter_27 (q := 28) rfl ?_
      refine pm_callV0 K gw_ok wcX7_71 (m_step l X0 0 c op x false) rfl (by have := M.1; omega) M.2.1 rfl rfl (Nat.le_of_ble_eq_true rfl) (by decide) dX7_filter_28 (q := 31) rfl (fun r2 h2 hp => ?_)
      obtain ⟨rfl, X2, F2⟩ := hp
      exact pm_iret Z dX7_filter_31 rfl (b2i_nar _) (Nat.le_of_ble_eq_true rfl) (Nat.le_of_ble_eq_true rfl) ⟨rfl, ⟨rfl, X2, F2⟩⟩
    · rw [hvop] at Z
      refine pm_if_ne K dX7_filter_20 (tgt := 27) (q := 23) rfl rfl (fun z => absurd z (fun z => z rfl)) (fun _ => ?_)
      refine pm_ic1 K dX7_filter_23 (q := 24) rfl ?_
      refine pm_goto K dX7_filter_24 (q := 28) rfl ?_
      refine pm_callV0 K gw_ok wcX7_71 (m_step l X0 0 c op x true) rfl (by have := M.1; omega) M.2.1 rfl rfl (Nat.le_of_ble_eq_true rfl) (by decide) dX7_filter_28 (q := 31) rfl (fun r2 h2 hp => ?_)
      obtain ⟨rfl, X2, F2⟩ := hp
      exact pm_iret Z dX7_filter_31 rfl (b2i_nar _) (Nat.le_of_ble_eq_true rfl) (Nat.le_of_ble_eq_true rfl) ⟨rfl, ⟨rfl, X2, F2⟩⟩
set_option maxRecDepth 100000 in
theorem m_pick (l : Launch) {n : Nat} {h : pm_H} {T : Nat → List bg_T} {ch : List (Int32 × bg_T)} {pl : Bool} {so : Int32} {sc : Nat} {S : Nat → Nat → Int32} {lr : List bg_T} {pa : List (Int32 × Int32 × Int32 × Int32)} {la : Nat} (X : m_at n h T ch pl so sc S lr pa la) (a b c : Int32) : bM0 l yX7_pick cX7_pick 4 (some (.boolean)) 2 [.ref 112, .int a, .int b, .int c] n h (fun r h' => r = some (.int (b2i (pl && (decide (sc < 3) && (tb a && tb b && tb c))))) ∧ m_at n h' T ch pl so (if (pl && (decide (sc < 3) && (tb a && tb b && tb c))) = true then sc + 1 else sc) (if (pl && (decide (sc < 3) && (tb a && tb b && tb c))) = true then va_up S sc (st4 1 a b c) else S) lr pa la ∧ mo_fr h h') := by
  refine pm_enter rfl (Nat.le_of_ble_eq_true rfl) (fun G K Z => ?_)
  have X0 := X
  obtain ⟨g, A, M, c1, c2, c3, c4, c5, c6, c7, c8, c9⟩ := X
  refine pm_aload_n K dX7_pick_0 (q := 1) rfl rfl rfl ?_
  refine pm_ic1 K dX7_pick_1 (q := 2) rfl ?_
  refine pm_iload_n K dX7_pick_2 (q := 3) rfl rfl rfl ?_
  refine pm_iload_n K dX7_pick_3 (q := 4) rfl rfl rfl ?_
  refine pm_iload_n K dX7_pick_4 (q := 5) rfl rfl rfl ?_
  refine pm_iload_n K dX7_pick_5 (q := 6) rfl rfl rfl ?_
  refine pm_ic0 K dX7_pick_6 (q := 7) rfl ?_
  refine pm_ic2 K dX7_pick_7 (q := 8) rfl ?_
  refine pm_callS0 K gw_ok wcX7_56 (c_outside l a 0 2) rfl rfl (Nat.le_of_ble_eq_true rfl) (by decide) dX7_pick_8 (q := 11) rfl (fun rs hs hp => ?_)
  obtain ⟨rfl, e1⟩ := hp
  rw [e1, ou_tb]
  cases hva : tb a
  · rw [hva] at Z
    refine pm_if_ne K dX7_pick_11 (tgt := 36) (q := 14) rfl rfl (fun _ => ?_) (fun z => absurd z (fun z => absurd z (by decide)))
    refine pm_ic0 K dX7_pick_36 (q := 37) rfl ?_
    refine pm_callV0 K gw_ok wcX7_71 (m_step l X0 1 a b c false) rfl (by have := M.1; omega) M.2.1 rfl rfl (Nat.le_of_ble_eq_true rfl) (by decide) dX7_pick_37 (q := 40) rfl (fun r2 h2 hp => ?_)
    obtain ⟨rfl, X2, F2⟩ := hp
    exact pm_iret Z dX7_pick_40 rfl (b2i_nar _) (Nat.le_of_ble_eq_true rfl) (Nat.le_of_ble_eq_true rfl) ⟨rfl, ⟨rfl, X2, F2⟩⟩
  · rw [hva] at Z
    refine pm_if_ne K dX7_pick_11 (tgt := 36) (q := 14) rfl rfl (fun z => absurd z (fun z => z rfl)) (fun _ => ?_)
    refine pm_iload_n K dX7_pick_14 (q := 15) rfl rfl rfl ?_
    refine pm_ic0 K dX7_pick_15 (q := 16) rfl ?_
    refine pm_ic2 K dX7_pick_16 (q := 17) rfl ?_
    refine pm_callS0 K gw_ok wcX7_56 (c_outside l b 0 2) rfl rfl (Nat.le_of_ble_eq_true rfl) (by decide) dX7_pick_17 (q := 20) rfl (fun rs hs hp => ?_)
    obtain ⟨rfl, e1⟩ := hp
    rw [e1, ou_tb]
    cases hvb : tb b
    · rw [hvb] at Z
      refine pm_if_ne K dX7_pick_20 (tgt := 36) (q := 23) rfl rfl (fun _ => ?_) (fun z => absurd z (fun z => absurd z (by decide)))
      refine pm_ic0 K dX7_pick_36 (q := 37) rfl ?_
      refine pm_callV0 K gw_ok wcX7_71 (m_step l X0 1 a b c false) rfl (by have := M.1; omega) M.2.1 rfl rfl (Nat.le_of_ble_eq_true rfl) (by decide) dX7_pick_37 (q := 40) rfl (fun r2 h2 hp => ?_)
      obtain ⟨rfl, X2, F2⟩ := hp
      exact pm_iret Z dX7_pick_40 rfl (b2i_nar _) (Nat.le_of_ble_eq_true rfl) (Nat.le_of_ble_eq_true rfl) ⟨rfl, ⟨rfl, X2, F2⟩⟩
    · rw [hvb] at Z
      refine pm_if_ne K dX7_pick_20 (tgt := 36) (q := 23) rfl rfl (fun z => absurd z (fun z => z rfl)) (fun _ => ?_)
      refine pm_iload_n K dX7_pick_23 (q := 24) rfl rfl rfl ?_
      refine pm_ic0 K dX7_pick_24 (q := 25) rfl ?_
      refine pm_ic2 K dX7_pick_25 (q := 26) rfl ?_
      refine pm_callS0 K gw_ok wcX7_56 (c_outside l c 0 2) rfl rfl (Nat.le_of_ble_eq_true rfl) (by decide) dX7_pick_26 (q := 29) rfl (fun rs hs hp => ?_)
      obtain ⟨rfl, e1⟩ := hp
      rw [e1, ou_tb]
      cases hvc : tb c
      · rw [hvc] at Z
        refine pm_if_ne K dX7_pick_29 (tgt := 36) (q := 32) rfl rfl (fun _ => ?_) (fun z => absurd z (fun z => absurd z (by decide)))
        refine pm_ic0 K dX7_pick_36 (q := 37) rfl ?_
        refine pm_callV0 K gw_ok wcX7_71 (m_step l X0 1 a b c false) rfl (by have := M.1; omega) M.2.1 rfl rfl (Nat.le_of_ble_eq_true rfl) (by decide) dX7_pick_37 (q := 40) rfl (fun r2 h2 hp => ?_)
        obtain ⟨rfl, X2, F2⟩ := hp
        exact pm_iret Z dX7_pick_40 rfl (b2i_nar _) (Nat.le_of_ble_eq_true rfl) (Nat.le_of_ble_eq_true rfl) ⟨rfl, ⟨rfl, X2, F2⟩⟩
      · rw [hvc] at Z
        refine pm_if_ne K dX7_pick_29 (tgt := 36) (q := 32) rfl rfl (fun z => absurd z (fun z => z rfl)) (fun _ => ?_)
        refine pm_ic1 K dX7_pick_32 (q := 33) rfl ?_
        refine pm_goto K dX7_pick_33 (q := 37) rfl ?_
        refine pm_callV0 K gw_ok wcX7_71 (m_step l X0 1 a b c true) rfl (by have := M.1; omega) M.2.1 rfl rfl (Nat.le_of_ble_eq_true rfl) (by decide) dX7_pick_37 (q := 40) rfl (fun r2 h2 hp => ?_)
        obtain ⟨rfl, X2, F2⟩ := hp
        exact pm_iret Z dX7_pick_40 rfl (b2i_nar _) (Nat.le_of_ble_eq_true rfl) (Nat.le_of_ble_eq_true rfl) ⟨rfl, ⟨rfl, X2, F2⟩⟩
set_option maxRecDepth 100000 in
theorem m_group (l : Launch) {n : Nat} {h : pm_H} {T : Nat → List bg_T} {ch : List (Int32 × bg_T)} {pl : Bool} {so : Int32} {sc : Nat} {S : Nat → Nat → Int32} {lr : List bg_T} {pa : List (Int32 × Int32 × Int32 × Int32)} {la : Nat} (X : m_at n h T ch pl so sc S lr pa la) (gc a : Int32) : bM0 l yX7_group cX7_group 3 (some (.boolean)) 2 [.ref 112, .int gc, .int a] n h (fun r h' => r = some (.int (b2i (pl && (decide (sc < 3) && (tb gc && tb a))))) ∧ m_at n h' T ch pl so (if (pl && (decide (sc < 3) && (tb gc && tb a))) = true then sc + 1 else sc) (if (pl && (decide (sc < 3) && (tb gc && tb a))) = true then va_up S sc (st4 3 gc a 0) else S) lr pa la ∧ mo_fr h h') := by
  refine pm_enter rfl (Nat.le_of_ble_eq_true rfl) (fun G K Z => ?_)
  have X0 := X
  obtain ⟨g, A, M, c1, c2, c3, c4, c5, c6, c7, c8, c9⟩ := X
  refine pm_aload_n K dX7_group_0 (q := 1) rfl rfl rfl ?_
  refine pm_ic3 K dX7_group_1 (q := 2) rfl ?_
  refine pm_iload_n K dX7_group_2 (q := 3) rfl rfl rfl ?_
  refine pm_iload_n K dX7_group_3 (q := 4) rfl rfl rfl ?_
  refine pm_ic0 K dX7_group_4 (q := 5) rfl ?_
  refine pm_iload_n K dX7_group_5 (q := 6) rfl rfl rfl ?_
  refine pm_ic0 K dX7_group_6 (q := 7) rfl ?_
  refine pm_ic2 K dX7_group_7 (q := 8) rfl ?_
  refine pm_callS0 K gw_ok wcX7_56 (c_outside l gc 0 2) rfl rfl (Nat.le_of_ble_eq_true rfl) (by decide) dX7_group_8 (q := 11) rfl (fun rs hs hp => ?_)
  obtain ⟨rfl, e1⟩ := hp
  rw [e1, ou_tb]
  cases hvgc : tb gc
  · rw [hvgc] at Z
    refine pm_if_ne K dX7_group_11 (tgt := 27) (q := 14) rfl rfl (fun _ => ?_) (fun z => absurd z (fun z => absurd z (by decide)))
    refine pm_ic0 K dX7_group_27 (q := 28) rfl ?_
    refine pm_callV0 K gw_ok wcX7_71 (m_step l X0 3 gc a 0 false) rfl (by have := M.1; omega) M.2.1 rfl rfl (Nat.le_of_ble_eq_true rfl) (by decide) dX7_group_28 (q := 31) rfl (fun r2 h2 hp => ?_)
    obtain ⟨rfl, X2, F2⟩ := hp
    exact pm_iret Z dX7_group_31 rfl (b2i_nar _) (Nat.le_of_ble_eq_true rfl) (Nat.le_of_ble_eq_true rfl) ⟨rfl, ⟨rfl, X2, F2⟩⟩
  · rw [hvgc] at Z
    refine pm_if_ne K dX7_group_11 (tgt := 27) (q := 14) rfl rfl (fun z => absurd z (fun z => z rfl)) (fun _ => ?_)
    refine pm_iload_n K dX7_group_14 (q := 15) rfl rfl rfl ?_
    refine pm_ic0 K dX7_group_15 (q := 16) rfl ?_
    refine pm_ic2 K dX7_group_16 (q := 17) rfl ?_
    refine pm_callS0 K gw_ok wcX7_56 (c_outside l a 0 2) rfl rfl (Nat.le_of_ble_eq_true rfl) (by decide) dX7_group_17 (q := 20) rfl (fun rs hs hp => ?_)
    obtain ⟨rfl, e1⟩ := hp
    rw [e1, ou_tb]
    cases hva : tb a
    · rw [hva] at Z
      refine pm_if_ne K dX7_group_20 (tgt := 27) (q := 23) rfl rfl (fun _ => ?_) (fun z => absurd z (fun z => absurd z (by decide)))
      refine pm_ic0 K dX7_group_27 (q := 28) rfl ?_
      refine pm_callV0 K gw_ok wcX7_71 (m_step l X0 3 gc a 0 false) rfl (by have := M.1; omega) M.2.1 rfl rfl (Nat.le_of_ble_eq_true rfl) (by decide) dX7_group_28 (q := 31) rfl (fun r2 h2 hp => ?_)
      obtain ⟨rfl, X2, F2⟩ := hp
      exact pm_iret Z dX7_group_31 rfl (b2i_nar _) (Nat.le_of_ble_eq_true rfl) (Nat.le_of_ble_eq_true rfl) ⟨rfl, ⟨rfl, X2, F2⟩⟩
    · rw [hva] at Z
      refine pm_if_ne K dX7_group_20 (tgt := 27) (q := 23) rfl rfl (fun z => absurd z (fun z => z rfl)) (fun _ => ?_)
      refine pm_ic1 K dX7_group_23 (q := 24) rfl ?_
      refine pm_goto K dX7_group_24 (q := 28) rfl ?_
      refine pm_callV0 K gw_ok wcX7_71 (m_step l X0 3 gc a 0 true) rfl (by have := M.1; omega) M.2.1 rfl rfl (Nat.le_of_ble_eq_true rfl) (by decide) dX7_group_28 (q := 31) rfl (fun r2 h2 hp => ?_)
      obtain ⟨rfl, X2, F2⟩ := hp
      exact pm_iret Z dX7_group_31 rfl (b2i_nar _) (Nat.le_of_ble_eq_true rfl) (Nat.le_of_ble_eq_true rfl) ⟨rfl, ⟨rfl, X2, F2⟩⟩
set_option maxRecDepth 100000 in
theorem m_join (l : Launch) {n : Nat} {h : pm_H} {T : Nat → List bg_T} {ch : List (Int32 × bg_T)} {pl : Bool} {so : Int32} {sc : Nat} {S : Nat → Nat → Int32} {lr : List bg_T} {pa : List (Int32 × Int32 × Int32 × Int32)} {la : Nat} (X : m_at n h T ch pl so sc S lr pa la) (t x y : Int32) : bM0 l yX7_join cX7_join 4 (some (.boolean)) 2 [.ref 112, .int t, .int x, .int y] n h (fun r h' => r = some (.int (b2i (pl && (decide (sc < 3) && (tb t && tb x && tb y))))) ∧ m_at n h' T ch pl so (if (pl && (decide (sc < 3) && (tb t && tb x && tb y))) = true then sc + 1 else sc) (if (pl && (decide (sc < 3) && (tb t && tb x && tb y))) = true then va_up S sc (st4 4 t x y) else S) lr pa la ∧ mo_fr h h') := by
  refine pm_enter rfl (Nat.le_of_ble_eq_true rfl) (fun G K Z => ?_)
  have X0 := X
  obtain ⟨g, A, M, c1, c2, c3, c4, c5, c6, c7, c8, c9⟩ := X
  refine pm_aload_n K dX7_join_0 (q := 1) rfl rfl rfl ?_
  refine pm_ic4 K dX7_join_1 (q := 2) rfl ?_
  refine pm_iload_n K dX7_join_2 (q := 3) rfl rfl rfl ?_
  refine pm_iload_n K dX7_join_3 (q := 4) rfl rfl rfl ?_
  refine pm_iload_n K dX7_join_4 (q := 5) rfl rfl rfl ?_
  refine pm_iload_n K dX7_join_5 (q := 6) rfl rfl rfl ?_
  refine pm_ic0 K dX7_join_6 (q := 7) rfl ?_
  refine pm_ic2 K dX7_join_7 (q := 8) rfl ?_
  refine pm_callS0 K gw_ok wcX7_56 (c_outside l t 0 2) rfl rfl (Nat.le_of_ble_eq_true rfl) (by decide) dX7_join_8 (q := 11) rfl (fun rs hs hp => ?_)
  obtain ⟨rfl, e1⟩ := hp
  rw [e1, ou_tb]
  cases hvt : tb t
  · rw [hvt] at Z
    refine pm_if_ne K dX7_join_11 (tgt := 36) (q := 14) rfl rfl (fun _ => ?_) (fun z => absurd z (fun z => absurd z (by decide)))
    refine pm_ic0 K dX7_join_36 (q := 37) rfl ?_
    refine pm_callV0 K gw_ok wcX7_71 (m_step l X0 4 t x y false) rfl (by have := M.1; omega) M.2.1 rfl rfl (Nat.le_of_ble_eq_true rfl) (by decide) dX7_join_37 (q := 40) rfl (fun r2 h2 hp => ?_)
    obtain ⟨rfl, X2, F2⟩ := hp
    exact pm_iret Z dX7_join_40 rfl (b2i_nar _) (Nat.le_of_ble_eq_true rfl) (Nat.le_of_ble_eq_true rfl) ⟨rfl, ⟨rfl, X2, F2⟩⟩
  · rw [hvt] at Z
    refine pm_if_ne K dX7_join_11 (tgt := 36) (q := 14) rfl rfl (fun z => absurd z (fun z => z rfl)) (fun _ => ?_)
    refine pm_iload_n K dX7_join_14 (q := 15) rfl rfl rfl ?_
    refine pm_ic0 K dX7_join_15 (q := 16) rfl ?_
    refine pm_ic2 K dX7_join_16 (q := 17) rfl ?_
    refine pm_callS0 K gw_ok wcX7_56 (c_outside l x 0 2) rfl rfl (Nat.le_of_ble_eq_true rfl) (by decide) dX7_join_17 (q := 20) rfl (fun rs hs hp => ?_)
    obtain ⟨rfl, e1⟩ := hp
    rw [e1, ou_tb]
    cases hvx : tb x
    · rw [hvx] at Z
      refine pm_if_ne K dX7_join_20 (tgt := 36) (q := 23) rfl rfl (fun _ => ?_) (fun z => absurd z (fun z => absurd z (by decide)))
      refine pm_ic0 K dX7_join_36 (q := 37) rfl ?_
      refine pm_callV0 K gw_ok wcX7_71 (m_step l X0 4 t x y false) rfl (by have := M.1; omega) M.2.1 rfl rfl (Nat.le_of_ble_eq_true rfl) (by decide) dX7_join_37 (q := 40) rfl (fun r2 h2 hp => ?_)
      obtain ⟨rfl, X2, F2⟩ := hp
      exact pm_iret Z dX7_join_40 rfl (b2i_nar _) (Nat.le_of_ble_eq_true rfl) (Nat.le_of_ble_eq_true rfl) ⟨rfl, ⟨rfl, X2, F2⟩⟩
    · rw [hvx] at Z
      refine pm_if_ne K dX7_join_20 (tgt := 36) (q := 23) rfl rfl (fun z => absurd z (fun z => z rfl)) (fun _ => ?_)
      refine pm_iload_n K dX7_join_23 (q := 24) rfl rfl rfl ?_
      refine pm_ic0 K dX7_join_24 (q := 25) rfl ?_
      refine pm_ic2 K dX7_join_25 (q := 26) rfl ?_
      refine pm_callS0 K gw_ok wcX7_56 (c_outside l y 0 2) rfl rfl (Nat.le_of_ble_eq_true rfl) (by decide) dX7_join_26 (q := 29) rfl (fun rs hs hp => ?_)
      obtain ⟨rfl, e1⟩ := hp
      rw [e1, ou_tb]
      cases hvy : tb y
      · rw [hvy] at Z
        refine pm_if_ne K dX7_join_29 (tgt := 36) (q := 32) rfl rfl (fun _ => ?_) (fun z => absurd z (fun z => absurd z (by decide)))
        refine pm_ic0 K dX7_join_36 (q := 37) rfl ?_
        refine pm_callV0 K gw_ok wcX7_71 (m_step l X0 4 t x y false) rfl (by have := M.1; omega) M.2.1 rfl rfl (Nat.le_of_ble_eq_true rfl) (by decide) dX7_join_37 (q := 40) rfl (fun r2 h2 hp => ?_)
        obtain ⟨rfl, X2, F2⟩ := hp
        exact pm_iret Z dX7_join_40 rfl (b2i_nar _) (Nat.le_of_ble_eq_true rfl) (Nat.le_of_ble_eq_true rfl) ⟨rfl, ⟨rfl, X2, F2⟩⟩
      · rw [hvy] at Z
        refine pm_if_ne K dX7_join_29 (tgt := 36) (q := 32) rfl rfl (fun z => absurd z (fun z => z rfl)) (fun _ => ?_)
        refine pm_ic1 K dX7_join_32 (q := 33) rfl ?_
        refine pm_goto K dX7_join_33 (q := 37) rfl ?_
        refine pm_callV0 K gw_ok wcX7_71 (m_step l X0 4 t x y true) rfl (by have := M.1; omega) M.2.1 rfl rfl (Nat.le_of_ble_eq_true rfl) (by decide) dX7_join_37 (q := 40) rfl (fun r2 h2 hp => ?_)
        obtain ⟨rfl, X2, F2⟩ := hp
        exact pm_iret Z dX7_join_40 rfl (b2i_nar _) (Nat.le_of_ble_eq_true rfl) (Nat.le_of_ble_eq_true rfl) ⟨rfl, ⟨rfl, X2, F2⟩⟩
set_option maxRecDepth 100000 in
theorem m_cell (l : Launch) {n : Nat} {h : pm_H} {T : Nat → List bg_T} {ch : List (Int32 × bg_T)} {pl : Bool} {so : Int32} {sc : Nat} {S : Nat → Nat → Int32} {lr : List bg_T} {pa : List (Int32 × Int32 × Int32 × Int32)} {la : Nat} (X : m_at n h T ch pl so sc S lr pa la) (r0 c0 : Int32) : bM0 l yX7_cell cX7_cell 3 (some (.int)) 1 [.ref 112, .int r0, .int c0] n h (fun r h' => r = some (.int (if tb c0 = true then bg_cell lr r0 c0 else 0)) ∧ h' = h) := by
  refine pm_enter rfl (Nat.le_of_ble_eq_true rfl) (fun G K Z => ?_)
  obtain ⟨g, A, M, c1, c2, c3, c4, c5, c6, c7, c8, c9⟩ := X
  refine pm_iload_n K dX7_cell_0 (q := 1) rfl rfl rfl ?_
  refine pm_ic0 K dX7_cell_1 (q := 2) rfl ?_
  refine pm_aload_n K dX7_cell_2 (q := 3) rfl rfl rfl ?_
  refine pm_get K inX7 rfl (k := 17) (by decide) wlX7_102 rfl (by have := M.1; omega) M.2.1 rfl dX7_cell_3 (q := 6) rfl ?_
  refine pm_top (y := nI lr.length) (c7.1) ?_
  refine pm_ic1 K dX7_cell_6 (q := 7) rfl ?_
  refine pm_isub K dX7_cell_7 (q := 8) rfl ?_
  refine pm_callS0 K gw_ok wcX7_56 (c_outside l r0 0 (nI lr.length - 1)) rfl rfl (Nat.le_of_ble_eq_true rfl) (by decide) dX7_cell_8 (q := 11) rfl (fun rs hs hp => ?_)
  obtain ⟨rfl, e1⟩ := hp
  rw [e1]
  cases ho : ou r0 0 (nI lr.length - 1)
  · refine pm_if_ne K dX7_cell_11 (tgt := 23) (q := 14) rfl rfl (fun z => absurd z (fun z => z rfl)) (fun _ => ?_)
    obtain ⟨j, hj, rfl⟩ := ou_in ho c7.2.1
    have hg := c7.2.2 j hj
    refine pm_iload_n K dX7_cell_14 (q := 15) rfl rfl rfl ?_
    refine pm_ic0 K dX7_cell_15 (q := 16) rfl ?_
    refine pm_ic2 K dX7_cell_16 (q := 17) rfl ?_
    refine pm_callS0 K gw_ok wcX7_56 (c_outside l c0 0 2) rfl rfl (Nat.le_of_ble_eq_true rfl) (by decide) dX7_cell_17 (q := 20) rfl (fun rs hs hp => ?_)
    obtain ⟨rfl, e1⟩ := hp
    rw [e1, ou_tb]
    cases ht : tb c0
    · rw [ht] at Z
      refine pm_if_eq K dX7_cell_20 (tgt := 27) (q := 23) rfl rfl (fun z => absurd z (by decide)) (fun _ => ?_)
      refine pm_ic0 K dX7_cell_23 (q := 24) rfl ?_
      refine pm_goto K dX7_cell_24 (q := 37) rfl ?_
      exact pm_iret Z dX7_cell_37 rfl rfl (Nat.le_of_ble_eq_true rfl) (Nat.le_of_ble_eq_true rfl) ⟨rfl, ⟨rfl, rfl⟩⟩
    · rw [ht] at Z
      refine pm_if_eq K dX7_cell_20 (tgt := 27) (q := 23) rfl rfl (fun _ => ?_) (fun z => absurd z (fun z => z rfl))
      obtain ⟨k, hk, rfl⟩ := tb_ok ht
      refine pm_aload_n K dX7_cell_27 (q := 28) rfl rfl rfl ?_
      refine pm_get K inX7 rfl (k := 16) (by decide) wlX7_41 rfl (by have := M.1; omega) M.2.1 rfl dX7_cell_28 (q := 31) rfl ?_
      refine pm_ic3 K dX7_cell_31 (q := 32) rfl ?_
      refine pm_iload_n K dX7_cell_32 (q := 33) rfl rfl rfl ?_
      refine pm_imul K dX7_cell_33 (q := 34) rfl ?_
      refine pm_iload_n K dX7_cell_34 (q := 35) rfl rfl rfl ?_
      refine pm_iadd K dX7_cell_35 (q := 36) rfl ?_
      refine pm_top (y := nI (3 * j + k)) (by rw [ix3, nI_add]) ?_
      refine mo_iald (j := 10) K M (by decide) (by decide) (show 3 * j + k < 72 by have := c7.2.1; omega) dX7_cell_36 (q := 37) rfl ?_
      exact pm_iret Z dX7_cell_37 rfl rfl (Nat.le_of_ble_eq_true rfl) (Nat.le_of_ble_eq_true rfl) ⟨rfl, ⟨congrArg (fun z => some (Value.int z)) (mc_cell hg hj (by have := c7.2.1; omega) hk).symm, rfl⟩⟩
  · refine pm_if_ne K dX7_cell_11 (tgt := 23) (q := 14) rfl rfl (fun _ => ?_) (fun z => absurd z (fun z => absurd z (by decide)))
    refine pm_ic0 K dX7_cell_23 (q := 24) rfl ?_
    refine pm_goto K dX7_cell_24 (q := 37) rfl ?_
    exact pm_iret Z dX7_cell_37 rfl rfl (Nat.le_of_ble_eq_true rfl) (Nat.le_of_ble_eq_true rfl) ⟨rfl, ⟨congrArg (fun z => some (Value.int z)) (by rw [mc_out ho c7.2.1]; split <;> rfl), rfl⟩⟩
