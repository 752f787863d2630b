/-! The system: its small methods. -/
def tb (v : Int32) : Bool := decide (¬ v < 0 ∧ v < 3)
theorem tb_ok {v : Int32} (h : tb v = true) : ∃ j : Nat, j < 3 ∧ v = nI j := by
  have h := of_decide_eq_true h
  exact pk_j (L := 3) h.1 h.2 (by decide)
theorem tb_no {v : Int32} (h : tb v = false) : ¬ v < 0 → (3 : Int32) ≤ v := fun h0 => by
  have h := of_decide_eq_false h
  exact Int32.not_lt.mp (fun z => h ⟨h0, z⟩)
theorem tb_ye {v : Int32} (h : tb v = true) : ¬ v < 0 ∧ v < 3 := of_decide_eq_true h
theorem b2i_nar (b : Bool) : narrow .boolean (.int (b2i b)) = .int (b2i b) := by cases b <;> decide
def st4 (k x y z : Int32) : Nat → Int32 := fun i => if i = 0 then k else if i = 1 then x else if i = 2 then y else z
def x_fix (n : Nat) (h : pm_H) : Prop := 111 < n ∧ (∃ f, h 1 = pm_R tBag 3 f ∧ ∀ t, t < 3 → f t = some (97 + 4 * t)) ∧ (∃ g, h 2 = pm_R tStep 3 g ∧ ∀ s, s < 3 → g s = some (109 + s)) ∧ h 94 = pm_O cOps [.ref 15] ∧ h 95 = pm_O cJoin [.ref 15, .ref 96]
/-- the system: tables, puts, drops, result, plan, steps, trace -/
def x_at (n : Nat) (h : pm_H) (T : Nat → List bg_T) (lp ld lr : List bg_T) (pt : Int32) (sc : Nat) (S : Nat → Nat → Int32) (ts : List Int32) : Prop :=
  x_fix n h ∧ h 0 = pm_O cBT [.ref 1, .ref 2, .ref 3, .ref 7, .ref 11, .ref 15, .ref 94, .ref 95, .int pt, .int (nI sc)] ∧ bg_at n h 3 6 lp ∧ bg_at n h 7 6 ld ∧ bg_at n h 11 24 lr ∧ (∃ L, so_L n h L ts) ∧ (∃ sr, h 96 = pm_O cRow (rw_fs sr) ∧ (sr 10 = 0 ∨ sr 10 = 1)) ∧ (∀ t, t < 3 → bg_at n h (97 + 4 * t) 12 (T t)) ∧ ∀ s, s < 3 → h (109 + s) = pm_O cStep [.int (S s 0), .int (S s 1), .int (S s 2), .int (S s 3)]
def y_fr (h h' : pm_H) : Prop := ∀ q, 112 ≤ q → h' q = h q
theorem va_upid {α : Type} (f : Nat → α) (k : Nat) : va_up f k (f k) = f := by
  funext i
  by_cases h : i = k <;> simp [va_up, h]
theorem x_fix.fr {n : Nat} {h h' : pm_H} (X : x_fix n h) (h1 : h' 1 = h 1) (h2 : h' 2 = h 2) (h3 : h' 94 = h 94) (h4 : h' 95 = h 95) : x_fix n h' := by
  obtain ⟨a, ⟨f, b, b'⟩, ⟨g, c, c'⟩, d, e⟩ := X
  exact ⟨a, ⟨f, h1.trans b, b'⟩, ⟨g, h2.trans c, c'⟩, h3.trans d, h4.trans e⟩
section XAT
variable {n : Nat} {h h' : pm_H} {T : Nat → List bg_T} {lp ld lr l' : List bg_T} {pt : Int32} {sc : Nat} {S : Nat → Nat → Int32} {ts : List Int32}
theorem x_at.tbl (X : x_at n h T lp ld lr pt sc S ts) {j : Nat} (hj : j < 3) (F : ∀ q, q < 97 + 4 * j ∨ 97 + 4 * j + 3 < q → h' q = h q) (B : bg_at n h' (97 + 4 * j) 12 l') : x_at n h' (va_up T j l') lp ld lr pt sc S ts := by
  obtain ⟨a, b, c, d, e, ⟨L, f⟩, ⟨sr, g, g'⟩, i, k⟩ := X
  refine ⟨a.fr (F 1 (by omega)) (F 2 (by omega)) (F 94 (by omega)) (F 95 (by omega)), (F 0 (by omega)).trans b, c.fr (Nat.le_refl _) (fun q u v => F q (by omega)), d.fr (Nat.le_refl _) (fun q u v => F q (by omega)), e.fr (Nat.le_refl _) (fun q u v => F q (by omega)), ⟨L, f.mv (fun q hq => F q (by omega))⟩, ⟨sr, (F 96 (by omega)).trans g, g'⟩, fun t ht => ?_, fun s hs => (F _ (by omega)).trans (k s hs)⟩
  by_cases et : t = j
  · subst et
    simp only [va_up, if_true]
    exact B
  · simp only [va_up, et, if_false]
    exact (i t ht).fr (Nat.le_refl _) (fun q u v => F q (by omega))
theorem x_at.top (X : x_at n h T lp ld lr pt sc S ts) (pt' : Int32) (sc' : Nat) {v : Int32} (hv : v = nI sc') : x_at n (va_up h 0 (pm_O cBT [.ref 1, .ref 2, .ref 3, .ref 7, .ref 11, .ref 15, .ref 94, .ref 95, .int pt', .int v])) T lp ld lr pt' sc' S ts := by
  obtain ⟨a, b, c, d, e, ⟨L, f⟩, ⟨sr, g, g'⟩, i, k⟩ := X
  subst hv
  have F : ∀ q, q ≠ 0 → va_up h 0 (pm_O cBT [.ref 1, .ref 2, .ref 3, .ref 7, .ref 11, .ref 15, .ref 94, .ref 95, .int pt', .int (nI sc')]) q = h q := fun q hq => pm_ne hq rfl
  exact ⟨a.fr (F 1 (by omega)) (F 2 (by omega)) (F 94 (by omega)) (F 95 (by omega)), pm_same _ _ _, c.fr (Nat.le_refl _) (fun q u v => F q (by omega)), d.fr (Nat.le_refl _) (fun q u v => F q (by omega)), e.fr (Nat.le_refl _) (fun q u v => F q (by omega)), ⟨L, f.mv (fun q hq => F q (by omega))⟩, ⟨sr, (F 96 (by omega)).trans g, g'⟩, fun t ht => (i t ht).fr (Nat.le_refl _) (fun q u v => F q (by omega)), fun s hs => (F _ (by omega)).trans (k s hs)⟩
theorem x_at.stp (X : x_at n h T lp ld lr pt sc S ts) {j : Nat} (hj : j < 3) (x y z w : Int32) : x_at n (va_up h (109 + j) (pm_O cStep [.int x, .int y, .int z, .int w])) T lp ld lr pt sc (va_up S j (st4 x y z w)) ts := by
  obtain ⟨a, b, c, d, e, ⟨L, f⟩, ⟨sr, g, g'⟩, i, k⟩ := X
  have F : ∀ q, q ≠ 109 + j → va_up h (109 + j) (pm_O cStep [.int x, .int y, .int z, .int w]) q = h q := fun q hq => pm_ne hq rfl
  refine ⟨a.fr (F 1 (by omega)) (F 2 (by omega)) (F 94 (by omega)) (F 95 (by omega)), (F 0 (by omega)).trans b, c.fr (Nat.le_refl _) (fun q u v => F q (by omega)), d.fr (Nat.le_refl _) (fun q u v => F q (by omega)), e.fr (Nat.le_refl _) (fun q u v => F q (by omega)), ⟨L, f.mv (fun q hq => F q (by omega))⟩, ⟨sr, (F 96 (by omega)).trans g, g'⟩, fun t ht => (i t ht).fr (Nat.le_refl _) (fun q u v => F q (by omega)), fun s hs => ?_⟩
  by_cases es : s = j
  · subst es
    rw [pm_same]
    simp only [va_up, if_true]
    rfl
  · rw [F _ (by omega), k s hs]
    simp only [va_up, es, if_false]
theorem x_at.up_lp (X : x_at n h T lp ld lr pt sc S ts) (F : ∀ q, q < 3 ∨ 3 + 3 < q → h' q = h q) (B : bg_at n h' 3 6 l') : x_at n h' T l' ld lr pt sc S ts := by
  obtain ⟨a, b, c, d, e, ⟨L, f⟩, ⟨sr, g, g'⟩, i, k⟩ := X
  exact ⟨a.fr (F 1 (by omega)) (F 2 (by omega)) (F 94 (by omega)) (F 95 (by omega)), (F 0 (by omega)).trans b, B, d.fr (Nat.le_refl _) (fun q u v => F q (by omega)), e.fr (Nat.le_refl _) (fun q u v => F q (by omega)), ⟨L, f.mv (fun q hq => F q (by omega))⟩, ⟨sr, (F 96 (by omega)).trans g, g'⟩, fun t ht => (i t ht).fr (Nat.le_refl _) (fun q u v => F q (by omega)), fun s hs => (F _ (by omega)).trans (k s hs)⟩
theorem x_at.up_ld (X : x_at n h T lp ld lr pt sc S ts) (F : ∀ q, q < 7 ∨ 7 + 3 < q → h' q = h q) (B : bg_at n h' 7 6 l') : x_at n h' T lp l' lr pt sc S ts := by
  obtain ⟨a, b, c, d, e, ⟨L, f⟩, ⟨sr, g, g'⟩, i, k⟩ := X
  exact ⟨a.fr (F 1 (by omega)) (F 2 (by omega)) (F 94 (by omega)) (F 95 (by omega)), (F 0 (by omega)).trans b, c.fr (Nat.le_refl _) (fun q u v => F q (by omega)), B, e.fr (Nat.le_refl _) (fun q u v => F q (by omega)), ⟨L, f.mv (fun q hq => F q (by omega))⟩, ⟨sr, (F 96 (by omega)).trans g, g'⟩, fun t ht => (i t ht).fr (Nat.le_refl _) (fun q u v => F q (by omega)), fun s hs => (F _ (by omega)).trans (k s hs)⟩
/-- the store and the result have changed -/
theorem x_at.res (X : x_at n h T lp ld lr pt sc S ts) {ts' : List Int32} (F : ∀ q, (q < 15 ∨ 93 < q) → q ≠ 96 → (q < 11 ∨ 11 + 3 < q) → h' q = h q) (B : bg_at n h' 11 24 l') (hs : ∃ L, so_L n h' L ts') (hr : ∃ sr, h' 96 = pm_O cRow (rw_fs sr) ∧ (sr 10 = 0 ∨ sr 10 = 1)) : x_at n h' T lp ld l' pt sc S ts' := by
  obtain ⟨a, b, c, d, e, -, -, i, k⟩ := X
  exact ⟨a.fr (F 1 (by omega) (by omega) (by omega)) (F 2 (by omega) (by omega) (by omega)) (F 94 (by omega) (by omega) (by omega)) (F 95 (by omega) (by omega) (by omega)), (F 0 (by omega) (by omega) (by omega)).trans b, c.fr (Nat.le_refl _) (fun q u v => F q (by omega) (by omega) (by omega)), d.fr (Nat.le_refl _) (fun q u v => F q (by omega) (by omega) (by omega)), B, hs, hr, fun t ht => (i t ht).fr (Nat.le_refl _) (fun q u v => F q (by omega) (by omega) (by omega)), fun s hs => (F _ (by omega) (by omega) (by omega)).trans (k s hs)⟩
end XAT
set_option maxRecDepth 100000 in
theorem c_isTable (l : Launch) {n : Nat} {h : pm_H} (v : Int32) : bM0 l yX6_isTable cX6_isTable 1 (some (.boolean)) 0 [.int v] n h (fun r h' => r = some (.int (b2i (tb v))) ∧ h' = h) := by
  refine pm_enter rfl (Nat.le_of_ble_eq_true rfl) (fun G K Z => ?_)
  refine pm_iload_n K dX6_isTable_0 (q := 1) rfl rfl rfl ?_
  refine pm_if_lt K dX6_isTable_1 (tgt := 13) (q := 4) rfl rfl (fun h0 => ?_) (fun h0 => ?_)
  · refine pm_ic0 K dX6_isTable_13 (q := 14) rfl ?_
    exact pm_iret Z dX6_isTable_14 rfl rfl (Nat.le_of_ble_eq_true rfl) (Nat.le_of_ble_eq_true rfl) ⟨rfl, ⟨by rw [tb, decide_eq_false (fun z => z.1 h0)]; rfl, rfl⟩⟩
  · refine pm_iload_n K dX6_isTable_4 (q := 5) rfl rfl rfl ?_
    refine pm_ic3 K dX6_isTable_5 (q := 6) rfl ?_
    refine pm_icmp_ge K dX6_isTable_6 (tgt := 13) (q := 9) rfl rfl (fun h1 => ?_) (fun h1 => ?_)
    · refine pm_ic0 K dX6_isTable_13 (q := 14) rfl ?_
      exact pm_iret Z dX6_isTable_14 rfl rfl (Nat.le_of_ble_eq_true rfl) (Nat.le_of_ble_eq_true rfl) ⟨rfl, ⟨by rw [tb, decide_eq_false (fun z => Int32.not_le.mpr z.2 h1)]; rfl, rfl⟩⟩
    · refine pm_ic1 K dX6_isTable_9 (q := 10) rfl ?_
      refine pm_goto K dX6_isTable_10 (q := 14) rfl ?_
      exact pm_iret Z dX6_isTable_14 rfl rfl (Nat.le_of_ble_eq_true rfl) (Nat.le_of_ble_eq_true rfl) ⟨rfl, ⟨by rw [tb, decide_eq_true ⟨h0, Int32.not_le.mp h1⟩]; rfl, rfl⟩⟩
set_option maxRecDepth 100000 in
theorem c_isColumn (l : Launch) {n : Nat} {h : pm_H} (v : Int32) : bM0 l yX6_isColumn cX6_isColumn 1 (some (.boolean)) 0 [.int v] n h (fun r h' => r = some (.int (b2i (tb v))) ∧ h' = h) := by
  refine pm_enter rfl (Nat.le_of_ble_eq_true rfl) (fun G K Z => ?_)
  refine pm_iload_n K dX6_isColumn_0 (q := 1) rfl rfl rfl ?_
  refine pm_if_lt K dX6_isColumn_1 (tgt := 13) (q := 4) rfl rfl (fun h0 => ?_) (fun h0 => ?_)
  · refine pm_ic0 K dX6_isColumn_13 (q := 14) rfl ?_
    exact pm_iret Z dX6_isColumn_14 rfl rfl (Nat.le_of_ble_eq_true rfl) (Nat.le_of_ble_eq_true rfl) ⟨rfl, ⟨by rw [tb, decide_eq_false (fun z => z.1 h0)]; rfl, rfl⟩⟩
  · refine pm_iload_n K dX6_isColumn_4 (q := 5) rfl rfl rfl ?_
    refine pm_ic3 K dX6_isColumn_5 (q := 6) rfl ?_
    refine pm_icmp_ge K dX6_isColumn_6 (tgt := 13) (q := 9) rfl rfl (fun h1 => ?_) (fun h1 => ?_)
    · refine pm_ic0 K dX6_isColumn_13 (q := 14) rfl ?_
      exact pm_iret Z dX6_isColumn_14 rfl rfl (Nat.le_of_ble_eq_true rfl) (Nat.le_of_ble_eq_true rfl) ⟨rfl, ⟨by rw [tb, decide_eq_false (fun z => Int32.not_le.mpr z.2 h1)]; rfl, rfl⟩⟩
    · refine pm_ic1 K dX6_isColumn_9 (q := 10) rfl ?_
      refine pm_goto K dX6_isColumn_10 (q := 14) rfl ?_
      exact pm_iret Z dX6_isColumn_14 rfl rfl (Nat.le_of_ble_eq_true rfl) (Nat.le_of_ble_eq_true rfl) ⟨rfl, ⟨by rw [tb, decide_eq_true ⟨h0, Int32.not_le.mp h1⟩]; rfl, rfl⟩⟩
set_option maxRecDepth 100000 in
theorem c_stbecome (l : Launch) {n : Nat} {h : pm_H} {a : Nat} {s0 s1 s2 s3 : Int32} (ha : a < n) (hc : h a = pm_O cStep [.int s0, .int s1, .int s2, .int s3]) (k x y z : Int32) : bM0 l yX4_become cX4_become 5 none 0 [.ref a, .int k, .int x, .int y, .int z] n h (fun r h' => r = none ∧ h' = va_up h a (pm_O cStep [.int k, .int x, .int y, .int z])) := by
  refine pm_enter rfl (Nat.le_of_ble_eq_true rfl) (fun G K Z => ?_)
  refine pm_aload_n K dX4_become_0 (q := 1) rfl rfl rfl ?_
  refine pm_iload_n K dX4_become_1 (q := 2) rfl rfl rfl ?_
  refine pm_put (fs' := [.int k, .int s1, .int s2, .int s3]) K inX4 tyX4 tyX4_ok nmX4 rfl (k := 0) (by decide) wlX4_7 rfl rfl (fun _ => ⟨rfl, rfl⟩) ha hc (Nat.le_of_ble_eq_true rfl) rfl dX4_become_2 (q := 5) rfl ?_
  refine pm_aload_n K dX4_become_5 (q := 6) rfl rfl rfl ?_
  refine pm_iload_n K dX4_become_6 (q := 7) rfl rfl rfl ?_
  refine pm_put (fs' := [.int k, .int x, .int s2, .int s3]) K inX4 tyX4 tyX4_ok nmX4 rfl (k := 1) (by decide) wlX4_13 rfl rfl (fun _ => ⟨rfl, rfl⟩) ha (pm_same _ _ _) (Nat.le_of_ble_eq_true rfl) rfl dX4_become_7 (q := 10) rfl ?_
  refine pm_aload_n K dX4_become_10 (q := 11) rfl rfl rfl ?_
  refine pm_iload_n K dX4_become_11 (q := 12) rfl rfl rfl ?_
  refine pm_put (fs' := [.int k, .int x, .int y, .int s3]) K inX4 tyX4 tyX4_ok nmX4 rfl (k := 2) (by decide) wlX4_16 rfl rfl (fun _ => ⟨rfl, rfl⟩) ha (pm_same _ _ _) (Nat.le_of_ble_eq_true rfl) rfl dX4_become_12 (q := 15) rfl ?_
  refine pm_aload_n K dX4_become_15 (q := 16) rfl rfl rfl ?_
  refine pm_iload K dX4_become_16 (q := 18) rfl rfl ?_
  refine pm_put (fs' := [.int k, .int x, .int y, .int z]) K inX4 tyX4 tyX4_ok nmX4 rfl (k := 3) (by decide) wlX4_19 rfl rfl (fun _ => ⟨rfl, rfl⟩) ha (pm_same _ _ _) (Nat.le_of_ble_eq_true rfl) rfl dX4_become_18 (q := 21) rfl ?_
  exact pm_vret Z dX4_become_21 rfl (Nat.le_of_ble_eq_true rfl) (Nat.le_of_ble_eq_true rfl) ⟨rfl, ⟨rfl, by rw [pm_up2, pm_up2, pm_up2]⟩⟩
set_option maxRecDepth 100000 in
theorem c_add (l : Launch) {n : Nat} {h : pm_H} {T : Nat → List bg_T} {lp ld lr : List bg_T} {pt : Int32} {sc : Nat} {S : Nat → Nat → Int32} {ts : List Int32} (X : x_at n h T lp ld lr pt sc S ts) (t a b c : Int32) : bM0 l yX6_add cX6_add 5 (some (.boolean)) 1 [.ref 0, .int t, .int a, .int b, .int c] n h (fun r h' => r = some (.int (b2i (tb t && decide ((T t.toNatClampNeg).length < 12)))) ∧ x_at n h' (if (tb t && decide ((T t.toNatClampNeg).length < 12)) = true then va_up T t.toNatClampNeg (T t.toNatClampNeg ++ [(a, b, c)]) else T) lp ld lr pt sc S ts ∧ y_fr h h') := by
  refine pm_enter rfl (Nat.le_of_ble_eq_true rfl) (fun G K Z => ?_)
  have X0 := X
  obtain ⟨⟨hn, ⟨tf, x1, xtf⟩, ⟨sf, x2, xsf⟩, x94, x95⟩, x0, xlp, xld, xlr, xso, xsr, xt, xs⟩ := X
  refine pm_iload_n K dX6_add_0 (q := 1) rfl rfl rfl ?_
  refine pm_callS0 K gw_ok wcX6_65 (c_isTable l t) rfl rfl (Nat.le_of_ble_eq_true rfl) (by decide) dX6_add_1 (q := 4) rfl (fun rs hs hp => ?_)
  obtain ⟨rfl, e1⟩ := hp
  rw [e1]
  cases ht : tb t
  · rw [ht] at Z
    refine pm_if_eq K dX6_add_4 (tgt := 27) (q := 7) rfl rfl (fun _ => ?_) (fun z => absurd z (fun z => z rfl))
    refine pm_ic0 K dX6_add_27 (q := 28) rfl ?_
    exact pm_iret Z dX6_add_28 rfl rfl (Nat.le_of_ble_eq_true rfl) (Nat.le_of_ble_eq_true rfl) ⟨rfl, ⟨rfl, X0, fun _ _ => rfl⟩⟩
  · rw [ht] at Z
    refine pm_if_eq K dX6_add_4 (tgt := 27) (q := 7) rfl rfl (fun z => absurd z (by decide)) (fun _ => ?_)
    obtain ⟨j, hj, rfl⟩ := tb_ok ht
    rw [nI_clamp (by omega)] at Z
    refine pm_aload_n K dX6_add_7 (q := 8) rfl rfl rfl ?_
    refine pm_get K inX6 rfl (k := 0) (by decide) wlX6_11 rfl (by omega) x0 rfl dX6_add_8 (q := 11) rfl ?_
    refine pm_iload_n K dX6_add_11 (q := 12) rfl rfl rfl ?_
    refine pm_aaldN K (by omega) x1 rfl hj (by decide) (xtf j hj) dX6_add_12 (q := 13) rfl ?_
    refine pm_iload_n K dX6_add_13 (q := 14) rfl rfl rfl ?_
    refine pm_iload_n K dX6_add_14 (q := 15) rfl rfl rfl ?_
    refine pm_iload K dX6_add_15 (q := 17) rfl rfl ?_
    refine pm_callV0 K gw_ok wcX6_69 (c_hold l (xt j hj) a b c) rfl (by omega) (xt j hj).2.2.2.1 rfl rfl (Nat.le_of_ble_eq_true rfl) (by decide) dX6_add_17 (q := 20) rfl (fun r1 h1 hp => ?_)
    obtain ⟨rfl, HB, F1⟩ := hp
    have hx : y_fr h h1 := fun q hq => F1 q (by omega)
    by_cases hl : (T j).length < 12
    · rw [decide_eq_true hl]
      refine pm_if_eq K dX6_add_20 (tgt := 27) (q := 23) rfl rfl (fun z => absurd z (by decide)) (fun _ => ?_)
      refine pm_ic1 K dX6_add_23 (q := 24) rfl ?_
      refine pm_goto K dX6_add_24 (q := 28) rfl ?_
      rw [decide_eq_true hl] at Z
      rw [List.take_of_length_le (by rw [List.length_append]; exact hl)] at HB
      exact pm_iret Z dX6_add_28 rfl rfl (Nat.le_of_ble_eq_true rfl) (Nat.le_of_ble_eq_true rfl) ⟨rfl, ⟨rfl, X0.tbl hj F1 HB, hx⟩⟩
    · rw [decide_eq_false hl]
      refine pm_if_eq K dX6_add_20 (tgt := 27) (q := 23) rfl rfl (fun _ => ?_) (fun z => absurd z (fun z => z rfl))
      refine pm_ic0 K dX6_add_27 (q := 28) rfl ?_
      rw [decide_eq_false hl] at Z
      rw [List.take_append_of_le_length (by omega), List.take_of_length_le (xt j hj).2.1] at HB
      have X9 := X0.tbl hj F1 HB
      rw [va_upid] at X9
      exact pm_iret Z dX6_add_28 rfl rfl (Nat.le_of_ble_eq_true rfl) (Nat.le_of_ble_eq_true rfl) ⟨rfl, ⟨rfl, X9, hx⟩⟩
set_option maxRecDepth 100000 in
theorem c_rows (l : Launch) {n : Nat} {h : pm_H} {T : Nat → List bg_T} {lp ld lr : List bg_T} {pt : Int32} {sc : Nat} {S : Nat → Nat → Int32} {ts : List Int32} (X : x_at n h T lp ld lr pt sc S ts) (t : Int32) : bM0 l yX6_rows cX6_rows 2 (some (.int)) 1 [.ref 0, .int t] n h (fun r h' => r = some (.int (if tb t = true then nI (T t.toNatClampNeg).length else -1)) ∧ h' = h) := by
  refine pm_enter rfl (Nat.le_of_ble_eq_true rfl) (fun G K Z => ?_)
  obtain ⟨⟨hn, ⟨tf, x1, xtf⟩, ⟨sf, x2, xsf⟩, x94, x95⟩, x0, xlp, xld, xlr, xso, xsr, xt, xs⟩ := X
  refine pm_iload_n K dX6_rows_0 (q := 1) rfl rfl rfl ?_
  refine pm_callS0 K gw_ok wcX6_65 (c_isTable l t) rfl rfl (Nat.le_of_ble_eq_true rfl) (by decide) dX6_rows_1 (q := 4) rfl (fun rs hs hp => ?_)
  obtain ⟨rfl, e1⟩ := hp
  rw [e1]
  cases ht : tb t
  · rw [ht] at Z
    refine pm_if_eq K dX6_rows_4 (tgt := 19) (q := 7) rfl rfl (fun _ => ?_) (fun z => absurd z (fun z => z rfl))
    refine pm_icm1 K dX6_rows_19 (q := 20) rfl ?_
    exact pm_iret Z dX6_rows_20 rfl rfl (Nat.le_of_ble_eq_true rfl) (Nat.le_of_ble_eq_true rfl) ⟨rfl, ⟨rfl, rfl⟩⟩
  · rw [ht] at Z
    refine pm_if_eq K dX6_rows_4 (tgt := 19) (q := 7) rfl rfl (fun z => absurd z (by decide)) (fun _ => ?_)
    obtain ⟨j, hj, rfl⟩ := tb_ok ht
    rw [nI_clamp (by omega)] at Z
    refine pm_aload_n K dX6_rows_7 (q := 8) rfl rfl rfl ?_
    refine pm_get K inX6 rfl (k := 0) (by decide) wlX6_11 rfl (by omega) x0 rfl dX6_rows_8 (q := 11) rfl ?_
    refine pm_iload_n K dX6_rows_11 (q := 12) rfl rfl rfl ?_
    refine pm_aaldN K (by omega) x1 rfl hj (by decide) (xtf j hj) dX6_rows_12 (q := 13) rfl ?_
    refine pm_get K inX0 rfl (k := 3) (by decide) wlX6_73 rfl (by omega) (xt j hj).2.2.2.1 rfl dX6_rows_13 (q := 16) rfl ?_
    refine pm_goto K dX6_rows_16 (q := 20) rfl ?_
    exact pm_iret Z dX6_rows_20 rfl rfl (Nat.le_of_ble_eq_true rfl) (Nat.le_of_ble_eq_true rfl) ⟨rfl, ⟨rfl, rfl⟩⟩
set_option maxRecDepth 100000 in
theorem c_sum (l : Launch) {n : Nat} {h : pm_H} {T : Nat → List bg_T} {lp ld lr : List bg_T} {pt : Int32} {sc : Nat} {S : Nat → Nat → Int32} {ts : List Int32} (X : x_at n h T lp ld lr pt sc S ts) (t : Int32) : bM0 l yX6_sum cX6_sum 2 (some (.int)) 1 [.ref 0, .int t] n h (fun r h' => r = some (.int (if tb t = true then bg_sum (T t.toNatClampNeg) else 0)) ∧ h' = h) := by
  refine pm_enter rfl (Nat.le_of_ble_eq_true rfl) (fun G K Z => ?_)
  obtain ⟨⟨hn, ⟨tf, x1, xtf⟩, ⟨sf, x2, xsf⟩, x94, x95⟩, x0, xlp, xld, xlr, xso, xsr, xt, xs⟩ := X
  refine pm_iload_n K dX6_sum_0 (q := 1) rfl rfl rfl ?_
  refine pm_callS0 K gw_ok wcX6_65 (c_isTable l t) rfl rfl (Nat.le_of_ble_eq_true rfl) (by decide) dX6_sum_1 (q := 4) rfl (fun rs hs hp => ?_)
  obtain ⟨rfl, e1⟩ := hp
  rw [e1]
  cases ht : tb t
  · rw [ht] at Z
    refine pm_if_eq K dX6_sum_4 (tgt := 19) (q := 7) rfl rfl (fun _ => ?_) (fun z => absurd z (fun z => z rfl))
    refine pm_ic0 K dX6_sum_19 (q := 20) rfl ?_
    exact pm_iret Z dX6_sum_20 rfl rfl (Nat.le_of_ble_eq_true rfl) (Nat.le_of_ble_eq_true rfl) ⟨rfl, ⟨rfl, rfl⟩⟩
  · rw [ht] at Z
    refine pm_if_eq K dX6_sum_4 (tgt := 19) (q := 7) rfl rfl (fun z => absurd z (by decide)) (fun _ => ?_)
    obtain ⟨j, hj, rfl⟩ := tb_ok ht
    rw [nI_clamp (by omega)] at Z
    refine pm_aload_n K dX6_sum_7 (q := 8) rfl rfl rfl ?_
    refine pm_get K inX6 rfl (k := 0) (by decide) wlX6_11 rfl (by omega) x0 rfl dX6_sum_8 (q := 11) rfl ?_
    refine pm_iload_n K dX6_sum_11 (q := 12) rfl rfl rfl ?_
    refine pm_aaldN K (by omega) x1 rfl hj (by decide) (xtf j hj) dX6_sum_12 (q := 13) rfl ?_
    refine pm_callV0 K gw_ok wcX6_119 (c_btotal l (xt j hj)) rfl (by omega) (xt j hj).2.2.2.1 rfl rfl (Nat.le_of_ble_eq_true rfl) (by decide) dX6_sum_13 (q := 16) rfl (fun r1 h1 hp => ?_)
    obtain ⟨rfl, e2⟩ := hp
    rw [e2]
    refine pm_goto K dX6_sum_16 (q := 20) rfl ?_
    exact pm_iret Z dX6_sum_20 rfl rfl (Nat.le_of_ble_eq_true rfl) (Nat.le_of_ble_eq_true rfl) ⟨rfl, ⟨rfl, rfl⟩⟩
set_option maxRecDepth 100000 in
theorem c_plan (l : Launch) {n : Nat} {h : pm_H} {T : Nat → List bg_T} {lp ld lr : List bg_T} {pt : Int32} {sc : Nat} {S : Nat → Nat → Int32} {ts : List Int32} (X : x_at n h T lp ld lr pt sc S ts) (t : Int32) : bM0 l yX6_plan cX6_plan 2 (some (.boolean)) 1 [.ref 0, .int t] n h (fun r h' => r = some (.int (b2i (tb t))) ∧ x_at n h' T lp ld lr (if tb t = true then t else pt) (if tb t = true then 0 else sc) S ts ∧ y_fr h h') := by
  refine pm_enter rfl (Nat.le_of_ble_eq_true rfl) (fun G K Z => ?_)
  have X0 := X
  obtain ⟨⟨hn, ⟨tf, x1, xtf⟩, ⟨sf, x2, xsf⟩, x94, x95⟩, x0, xlp, xld, xlr, xso, xsr, xt, xs⟩ := X
  refine pm_iload_n K dX6_plan_0 (q := 1) rfl rfl rfl ?_
  refine pm_callS0 K gw_ok wcX6_65 (c_isTable l t) rfl rfl (Nat.le_of_ble_eq_true rfl) (by decide) dX6_plan_1 (q := 4) rfl (fun rs hs hp => ?_)
  obtain ⟨rfl, e1⟩ := hp
  rw [e1]
  cases ht : tb t
  · rw [ht] at Z
    refine pm_if_ne K dX6_plan_4 (tgt := 9) (q := 7) rfl rfl (fun z => absurd z (fun z => z rfl)) (fun _ => ?_)
    refine pm_ic0 K dX6_plan_7 (q := 8) rfl ?_
    exact pm_iret Z dX6_plan_8 rfl rfl (Nat.le_of_ble_eq_true rfl) (Nat.le_of_ble_eq_true rfl) ⟨rfl, ⟨rfl, X0, fun _ _ => rfl⟩⟩
  · rw [ht] at Z
    refine pm_if_ne K dX6_plan_4 (tgt := 9) (q := 7) rfl rfl (fun _ => ?_) (fun z => absurd z (fun z => absurd z (by decide)))
    refine pm_aload_n K dX6_plan_9 (q := 10) rfl rfl rfl ?_
    refine pm_iload_n K dX6_plan_10 (q := 11) rfl rfl rfl ?_
    refine pm_put (fs' := [.ref 1, .ref 2, .ref 3, .ref 7, .ref 11, .ref 15, .ref 94, .ref 95, .int t, .int (nI sc)]) K inX6 tyX6 tyX6_ok nmX6 rfl (k := 8) (by decide) wlX6_57 rfl rfl (fun _ => ⟨rfl, rfl⟩) (by omega) x0 (Nat.le_of_ble_eq_true rfl) rfl dX6_plan_11 (q := 14) rfl ?_
    refine pm_aload_n K dX6_plan_14 (q := 15) rfl rfl rfl ?_
    refine pm_ic0 K dX6_plan_15 (q := 16) rfl ?_
    refine pm_put (fs' := [.ref 1, .ref 2, .ref 3, .ref 7, .ref 11, .ref 15, .ref 94, .ref 95, .int t, .int 0]) K inX6 tyX6 tyX6_ok nmX6 rfl (k := 9) (by decide) wlX6_61 rfl rfl (fun _ => ⟨rfl, rfl⟩) (by omega) (pm_same _ _ _) (Nat.le_of_ble_eq_true rfl) rfl dX6_plan_16 (q := 19) rfl ?_
    refine pm_ic1 K dX6_plan_19 (q := 20) rfl ?_
    exact pm_iret Z dX6_plan_20 rfl rfl (Nat.le_of_ble_eq_true rfl) (Nat.le_of_ble_eq_true rfl) ⟨rfl, ⟨rfl, by rw [pm_up2]; exact X0.top t 0 rfl, fun q hq => by rw [pm_up2]; exact pm_ne (by omega) rfl⟩⟩
set_option maxRecDepth 100000 in
theorem c_append (l : Launch) {n : Nat} {h : pm_H} {T : Nat → List bg_T} {lp ld lr : List bg_T} {pt : Int32} {sc : Nat} {S : Nat → Nat → Int32} {ts : List Int32} (X : x_at n h T lp ld lr pt sc S ts) (hsc : sc ≤ 3) (k x y z : Int32) : bM0 l yX6_append cX6_append 5 (some (.boolean)) 1 [.ref 0, .int k, .int x, .int y, .int z] n h (fun r h' => r = some (.int (b2i (decide (¬ pt = -1 ∧ sc < 3)))) ∧ x_at n h' T lp ld lr pt (if (decide (¬ pt = -1 ∧ sc < 3)) = true then sc + 1 else sc) (if (decide (¬ pt = -1 ∧ sc < 3)) = true then va_up S sc (st4 k x y z) else S) ts ∧ y_fr h h') := by
  refine pm_enter rfl (Nat.le_of_ble_eq_true rfl) (fun G K Z => ?_)
  have X0 := X
  obtain ⟨⟨hn, ⟨tf, x1, xtf⟩, ⟨sf, x2, xsf⟩, x94, x95⟩, x0, xlp, xld, xlr, xso, xsr, xt, xs⟩ := X
  refine pm_aload_n K dX6_append_0 (q := 1) rfl rfl rfl ?_
  refine pm_get K inX6 rfl (k := 8) (by decide) wlX6_57 rfl (by omega) x0 rfl dX6_append_1 (q := 4) rfl ?_
  refine pm_icm1 K dX6_append_4 (q := 5) rfl ?_
  refine pm_icmp_eq K dX6_append_5 (tgt := 16) (q := 8) rfl rfl (fun h0 => ?_) (fun h0 => ?_)
  · rw [decide_eq_false (fun z => z.1 h0)] at Z
    refine pm_ic0 K dX6_append_16 (q := 17) rfl ?_
    exact pm_iret Z dX6_append_17 rfl rfl (Nat.le_of_ble_eq_true rfl) (Nat.le_of_ble_eq_true rfl) ⟨rfl, ⟨rfl, X0, fun _ _ => rfl⟩⟩
  · refine pm_aload_n K dX6_append_8 (q := 9) rfl rfl rfl ?_
    refine pm_get K inX6 rfl (k := 9) (by decide) wlX6_61 rfl (by omega) x0 rfl dX6_append_9 (q := 12) rfl ?_
    refine pm_ic3 K dX6_append_12 (q := 13) rfl ?_
    refine pm_icmp_lt K dX6_append_13 (tgt := 18) (q := 16) rfl rfl (fun h1 => ?_) (fun h1 => ?_)
    · have hg : sc < 3 := (nI_ltI (by omega) (by decide)).mp h1
      refine pm_aload_n K dX6_append_18 (q := 19) rfl rfl rfl ?_
      refine pm_get K inX6 rfl (k := 1) (by decide) wlX6_17 rfl (by omega) x0 rfl dX6_append_19 (q := 22) rfl ?_
      refine pm_aload_n K dX6_append_22 (q := 23) rfl rfl rfl ?_
      refine pm_get K inX6 rfl (k := 9) (by decide) wlX6_61 rfl (by omega) x0 rfl dX6_append_23 (q := 26) rfl ?_
      refine pm_aaldN K (by omega) x2 rfl hg (by decide) (xsf sc hg) dX6_append_26 (q := 27) rfl ?_
      refine pm_iload_n K dX6_append_27 (q := 28) rfl rfl rfl ?_
      refine pm_iload_n K dX6_append_28 (q := 29) rfl rfl rfl ?_
      refine pm_iload_n K dX6_append_29 (q := 30) rfl rfl rfl ?_
      refine pm_iload K dX6_append_30 (q := 32) rfl rfl ?_
      refine pm_callV0 K gw_ok wcX6_122 (c_stbecome l (by omega) (xs sc hg) k x y z) rfl (by omega) (xs sc hg) rfl rfl (Nat.le_of_ble_eq_true rfl) (by decide) dX6_append_32 (q := 35) rfl (fun r1 h1 hp => ?_)
      obtain ⟨rfl, rfl⟩ := hp
      refine pm_aload_n K dX6_append_35 (q := 36) rfl rfl rfl ?_
      refine pm_dup K dX6_append_36 (q := 37) rfl ?_
      refine pm_get K inX6 rfl (k := 9) (by decide) wlX6_61 rfl (by omega) (pm_ne (by omega) x0) rfl dX6_append_37 (q := 40) rfl ?_
      refine pm_ic1 K dX6_append_40 (q := 41) rfl ?_
      refine pm_iadd K dX6_append_41 (q := 42) rfl ?_
      refine pm_put (fs' := [.ref 1, .ref 2, .ref 3, .ref 7, .ref 11, .ref 15, .ref 94, .ref 95, .int pt, .int (nI sc + 1)]) K inX6 tyX6 tyX6_ok nmX6 rfl (k := 9) (by decide) wlX6_61 rfl rfl (fun _ => ⟨rfl, rfl⟩) (by omega) (pm_ne (by omega) x0) (Nat.le_of_ble_eq_true rfl) rfl dX6_append_42 (q := 45) rfl ?_
      refine pm_ic1 K dX6_append_45 (q := 46) rfl ?_
      rw [decide_eq_true ⟨h0, hg⟩] at Z
      exact pm_iret Z dX6_append_46 rfl rfl (Nat.le_of_ble_eq_true rfl) (Nat.le_of_ble_eq_true rfl) ⟨rfl, ⟨rfl, (X0.stp hg k x y z).top pt (sc + 1) (by rw [nI_succ]), fun q hq => by rw [pm_ne (by omega) rfl, pm_ne (by omega) rfl]⟩⟩
    · have hg : ¬ sc < 3 := fun z => h1 (nI_lt z (by decide))
      rw [decide_eq_false (fun z => hg z.2)] at Z
      refine pm_ic0 K dX6_append_16 (q := 17) rfl ?_
      exact pm_iret Z dX6_append_17 rfl rfl (Nat.le_of_ble_eq_true rfl) (Nat.le_of_ble_eq_true rfl) ⟨rfl, ⟨rfl, X0, fun _ _ => rfl⟩⟩
set_option maxRecDepth 100000 in
theorem c_distinct (l : Launch) {n : Nat} {h : pm_H} {T : Nat → List bg_T} {lp ld lr : List bg_T} {pt : Int32} {sc : Nat} {S : Nat → Nat → Int32} {ts : List Int32} (X : x_at n h T lp ld lr pt sc S ts) (hsc : sc ≤ 3) : bM0 l yX6_distinct cX6_distinct 1 (some (.boolean)) 2 [.ref 0] n h (fun r h' => r = some (.int (b2i ((decide (¬ pt = -1 ∧ sc < 3))))) ∧ x_at n h' T lp ld lr pt (if ((decide (¬ pt = -1 ∧ sc < 3))) = true then sc + 1 else sc) (if ((decide (¬ pt = -1 ∧ sc < 3))) = true then va_up S sc (st4 2 0 0 0) else S) ts ∧ y_fr h h') := by
  refine pm_enter rfl (Nat.le_of_ble_eq_true rfl) (fun G K Z => ?_)
  have X0 := X
  obtain ⟨⟨hn, ⟨tf, x1, xtf⟩, ⟨sf, x2, xsf⟩, x94, x95⟩, x0, xlp, xld, xlr, xso, xsr, xt, xs⟩ := X
  refine pm_aload_n K dX6_distinct_0 (q := 1) rfl rfl rfl ?_
  refine pm_ic2 K dX6_distinct_1 (q := 2) rfl ?_
  refine pm_ic0 K dX6_distinct_2 (q := 3) rfl ?_
  refine pm_ic0 K dX6_distinct_3 (q := 4) rfl ?_
  refine pm_ic0 K dX6_distinct_4 (q := 5) rfl ?_
  refine pm_callV0 K gw_ok wcX6_79 (c_append l X0 hsc 2 0 0 0) rfl (by omega) x0 rfl rfl (Nat.le_of_ble_eq_true rfl) (by decide) dX6_distinct_5 (q := 8) rfl (fun r1 h1 hp => ?_)
  obtain ⟨rfl, X1, F1⟩ := hp
  exact pm_iret Z dX6_distinct_8 rfl (b2i_nar _) (Nat.le_of_ble_eq_true rfl) (Nat.le_of_ble_eq_true rfl) ⟨rfl, ⟨rfl, X1, F1⟩⟩
set_option maxRecDepth 100000 in
theorem c_filter (l : Launch) {n : Nat} {h : pm_H} {T : Nat → List bg_T} {lp ld lr : List bg_T} {pt : Int32} {sc : Nat} {S : Nat → Nat → Int32} {ts : List Int32} (X : x_at n h T lp ld lr pt sc S ts) (hsc : sc ≤ 3) (c op x : Int32) : bM0 l yX6_filter cX6_filter 4 (some (.boolean)) 2 [.ref 0, .int c, .int op, .int x] n h (fun r h' => r = some (.int (b2i (tb c && tb op && (decide (¬ pt = -1 ∧ sc < 3))))) ∧ x_at n h' T lp ld lr pt (if (tb c && tb op && (decide (¬ pt = -1 ∧ sc < 3))) = true then sc + 1 else sc) (if (tb c && tb op && (decide (¬ pt = -1 ∧ sc < 3))) = true then va_up S sc (st4 0 c op x) else S) ts ∧ y_fr h h') := by
  refine pm_enter rfl (Nat.le_of_ble_eq_true rfl) (fun G K Z => ?_)
  have X0 := X
  obtain ⟨⟨hn, ⟨tf, x1, xtf⟩, ⟨sf, x2, xsf⟩, x94, x95⟩, x0, xlp, xld, xlr, xso, xsr, xt, xs⟩ := X
  refine pm_iload_n K dX6_filter_0 (q := 1) rfl rfl rfl ?_
  refine pm_callS0 K gw_ok wcX6_76 (c_isColumn l c) rfl rfl (Nat.le_of_ble_eq_true rfl) (by decide) dX6_filter_1 (q := 4) rfl (fun rs hs hp => ?_)
  obtain ⟨rfl, e1⟩ := hp
  rw [e1]
  cases hvc : tb c
  · rw [hvc] at Z
    refine pm_if_eq K dX6_filter_4 (tgt := 31) (q := 7) rfl rfl (fun _ => ?_) (fun z => absurd z (fun z => z rfl))
    refine pm_ic0 K dX6_filter_31 (q := 32) rfl ?_
    exact pm_iret Z dX6_filter_32 rfl rfl (Nat.le_of_ble_eq_true rfl) (Nat.le_of_ble_eq_true rfl) ⟨rfl, ⟨rfl, X0, fun _ _ => rfl⟩⟩
  · rw [hvc] at Z
    refine pm_if_eq K dX6_filter_4 (tgt := 31) (q := 7) rfl rfl (fun z => absurd z (by decide)) (fun _ => ?_)
    refine pm_iload_n K dX6_filter_7 (q := 8) rfl rfl rfl ?_
    cases hvop : tb op
    · rw [hvop] at Z
      have hq := tb_no hvop
      refine pm_if_lt K dX6_filter_8 (tgt := 31) (q := 11) rfl rfl (fun h0 => ?_) (fun h0 => ?_)
      · refine pm_ic0 K dX6_filter_31 (q := 32) rfl ?_
        exact pm_iret Z dX6_filter_32 rfl rfl (Nat.le_of_ble_eq_true rfl) (Nat.le_of_ble_eq_true rfl) ⟨rfl, ⟨rfl, X0, fun _ _ => rfl⟩⟩
      · refine pm_iload_n K dX6_filter_11 (q := 12) rfl rfl rfl ?_
        refine pm_ic3 K dX6_filter_12 (q := 13) rfl ?_
        refine pm_icmp_ge K dX6_filter_13 (tgt := 31) (q := 16) rfl rfl (fun _ => ?_) (fun z => absurd z (fun z => z (hq h0)))
        refine pm_ic0 K dX6_filter_31 (q := 32) rfl ?_
        exact pm_iret Z dX6_filter_32 rfl rfl (Nat.le_of_ble_eq_true rfl) (Nat.le_of_ble_eq_true rfl) ⟨rfl, ⟨rfl, X0, fun _ _ => rfl⟩⟩
    · rw [hvop] at Z
      have hq := tb_ye hvop
      refine pm_if_lt K dX6_filter_8 (tgt := 31) (q := 11) rfl rfl (fun z => absurd z (hq.1)) (fun _ => ?_)
      refine pm_iload_n K dX6_filter_11 (q := 12) rfl rfl rfl ?_
      refine pm_ic3 K dX6_filter_12 (q := 13) rfl ?_
      refine pm_icmp_ge K dX6_filter_13 (tgt := 31) (q := 16) rfl rfl (fun z => absurd z (Int32.not_le.mpr hq.2)) (fun _ => ?_)
      refine pm_aload_n K dX6_filter_16 (q := 17) rfl rfl rfl ?_
      refine pm_ic0 K dX6_filter_17 (q := 18) rfl ?_
      refine pm_iload_n K dX6_filter_18 (q := 19) rfl rfl rfl ?_
      refine pm_iload_n K dX6_filter_19 (q := 20) rfl rfl rfl ?_
      refine pm_iload_n K dX6_filter_20 (q := 21) rfl rfl rfl ?_
      refine pm_callV0 K gw_ok wcX6_79 (c_append l X0 hsc 0 c op x) rfl (by omega) x0 rfl rfl (Nat.le_of_ble_eq_true rfl) (by decide) dX6_filter_21 (q := 24) rfl (fun r1 h1 hp => ?_)
      obtain ⟨rfl, X1, F1⟩ := hp
      cases ha : (decide (¬ pt = -1 ∧ sc < 3))
      · rw [ha] at X1 Z
        refine pm_if_eq K dX6_filter_24 (tgt := 31) (q := 27) rfl rfl (fun _ => ?_) (fun z => absurd z (fun z => z rfl))
        refine pm_ic0 K dX6_filter_31 (q := 32) rfl ?_
        exact pm_iret Z dX6_filter_32 rfl rfl (Nat.le_of_ble_eq_true rfl) (Nat.le_of_ble_eq_true rfl) ⟨rfl, ⟨rfl, X1, F1⟩⟩
      · rw [ha] at X1 Z
        refine pm_if_eq K dX6_filter_24 (tgt := 31) (q := 27) rfl rfl (fun z => absurd z (by decide)) (fun _ => ?_)
        refine pm_ic1 K dX6_filter_27 (q := 28) rfl ?_
        refine pm_goto K dX6_filter_28 (q := 32) rfl ?_
        exact pm_iret Z dX6_filter_32 rfl rfl (Nat.le_of_ble_eq_true rfl) (Nat.le_of_ble_eq_true rfl) ⟨rfl, ⟨rfl, X1, F1⟩⟩
set_option maxRecDepth 100000 in
theorem c_pick (l : Launch) {n : Nat} {h : pm_H} {T : Nat → List bg_T} {lp ld lr : List bg_T} {pt : Int32} {sc : Nat} {S : Nat → Nat → Int32} {ts : List Int32} (X : x_at n h T lp ld lr pt sc S ts) (hsc : sc ≤ 3) (a b c : Int32) : bM0 l yX6_pick cX6_pick 4 (some (.boolean)) 2 [.ref 0, .int a, .int b, .int c] n h (fun r h' => r = some (.int (b2i (tb a && tb b && tb c && (decide (¬ pt = -1 ∧ sc < 3))))) ∧ x_at n h' T lp ld lr pt (if (tb a && tb b && tb c && (decide (¬ pt = -1 ∧ sc < 3))) = true then sc + 1 else sc) (if (tb a && tb b && tb c && (decide (¬ pt = -1 ∧ sc < 3))) = true then va_up S sc (st4 1 a b c) else S) ts ∧ y_fr h h') := by
  refine pm_enter rfl (Nat.le_of_ble_eq_true rfl) (fun G K Z => ?_)
  have X0 := X
  obtain ⟨⟨hn, ⟨tf, x1, xtf⟩, ⟨sf, x2, xsf⟩, x94, x95⟩, x0, xlp, xld, xlr, xso, xsr, xt, xs⟩ := X
  refine pm_iload_n K dX6_pick_0 (q := 1) rfl rfl rfl ?_
  refine pm_callS0 K gw_ok wcX6_76 (c_isColumn l a) rfl rfl (Nat.le_of_ble_eq_true rfl) (by decide) dX6_pick_1 (q := 4) rfl (fun rs hs hp => ?_)
  obtain ⟨rfl, e1⟩ := hp
  rw [e1]
  cases hva : tb a
  · rw [hva] at Z
    refine pm_if_eq K dX6_pick_4 (tgt := 36) (q := 7) rfl rfl (fun _ => ?_) (fun z => absurd z (fun z => z rfl))
    refine pm_ic0 K dX6_pick_36 (q := 37) rfl ?_
    exact pm_iret Z dX6_pick_37 rfl rfl (Nat.le_of_ble_eq_true rfl) (Nat.le_of_ble_eq_true rfl) ⟨rfl, ⟨rfl, X0, fun _ _ => rfl⟩⟩
  · rw [hva] at Z
    refine pm_if_eq K dX6_pick_4 (tgt := 36) (q := 7) rfl rfl (fun z => absurd z (by decide)) (fun _ => ?_)
    refine pm_iload_n K dX6_pick_7 (q := 8) rfl rfl rfl ?_
    refine pm_callS0 K gw_ok wcX6_76 (c_isColumn l b) rfl rfl (Nat.le_of_ble_eq_true rfl) (by decide) dX6_pick_8 (q := 11) rfl (fun rs hs hp => ?_)
    obtain ⟨rfl, e1⟩ := hp
    rw [e1]
    cases hvb : tb b
    · rw [hvb] at Z
      refine pm_if_eq K dX6_pick_11 (tgt := 36) (q := 14) rfl rfl (fun _ => ?_) (fun z => absurd z (fun z => z rfl))
      refine pm_ic0 K dX6_pick_36 (q := 37) rfl ?_
      exact pm_iret Z dX6_pick_37 rfl rfl (Nat.le_of_ble_eq_true rfl) (Nat.le_of_ble_eq_true rfl) ⟨rfl, ⟨rfl, X0, fun _ _ => rfl⟩⟩
    · rw [hvb] at Z
      refine pm_if_eq K dX6_pick_11 (tgt := 36) (q := 14) rfl rfl (fun z => absurd z (by decide)) (fun _ => ?_)
      refine pm_iload_n K dX6_pick_14 (q := 15) rfl rfl rfl ?_
      refine pm_callS0 K gw_ok wcX6_76 (c_isColumn l c) rfl rfl (Nat.le_of_ble_eq_true rfl) (by decide) dX6_pick_15 (q := 18) rfl (fun rs hs hp => ?_)
      obtain ⟨rfl, e1⟩ := hp
      rw [e1]
      cases hvc : tb c
      · rw [hvc] at Z
        refine pm_if_eq K dX6_pick_18 (tgt := 36) (q := 21) rfl rfl (fun _ => ?_) (fun z => absurd z (fun z => z rfl))
        refine pm_ic0 K dX6_pick_36 (q := 37) rfl ?_
        exact pm_iret Z dX6_pick_37 rfl rfl (Nat.le_of_ble_eq_true rfl) (Nat.le_of_ble_eq_true rfl) ⟨rfl, ⟨rfl, X0, fun _ _ => rfl⟩⟩
      · rw [hvc] at Z
        refine pm_if_eq K dX6_pick_18 (tgt := 36) (q := 21) rfl rfl (fun z => absurd z (by decide)) (fun _ => ?_)
        refine pm_aload_n K dX6_pick_21 (q := 22) rfl rfl rfl ?_
        refine pm_ic1 K dX6_pick_22 (q := 23) rfl ?_
        refine pm_iload_n K dX6_pick_23 (q := 24) rfl rfl rfl ?_
        refine pm_iload_n K dX6_pick_24 (q := 25) rfl rfl rfl ?_
        refine pm_iload_n K dX6_pick_25 (q := 26) rfl rfl rfl ?_
        refine pm_callV0 K gw_ok wcX6_79 (c_append l X0 hsc 1 a b c) rfl (by omega) x0 rfl rfl (Nat.le_of_ble_eq_true rfl) (by decide) dX6_pick_26 (q := 29) rfl (fun r1 h1 hp => ?_)
        obtain ⟨rfl, X1, F1⟩ := hp
        cases ha : (decide (¬ pt = -1 ∧ sc < 3))
        · rw [ha] at X1 Z
          refine pm_if_eq K dX6_pick_29 (tgt := 36) (q := 32) rfl rfl (fun _ => ?_) (fun z => absurd z (fun z => z rfl))
          refine pm_ic0 K dX6_pick_36 (q := 37) rfl ?_
          exact pm_iret Z dX6_pick_37 rfl rfl (Nat.le_of_ble_eq_true rfl) (Nat.le_of_ble_eq_true rfl) ⟨rfl, ⟨rfl, X1, F1⟩⟩
        · rw [ha] at X1 Z
          refine pm_if_eq K dX6_pick_29 (tgt := 36) (q := 32) rfl rfl (fun z => absurd z (by decide)) (fun _ => ?_)
          refine pm_ic1 K dX6_pick_32 (q := 33) rfl ?_
          refine pm_goto K dX6_pick_33 (q := 37) rfl ?_
          exact pm_iret Z dX6_pick_37 rfl rfl (Nat.le_of_ble_eq_true rfl) (Nat.le_of_ble_eq_true rfl) ⟨rfl, ⟨rfl, X1, F1⟩⟩
set_option maxRecDepth 100000 in
theorem c_group (l : Launch) {n : Nat} {h : pm_H} {T : Nat → List bg_T} {lp ld lr : List bg_T} {pt : Int32} {sc : Nat} {S : Nat → Nat → Int32} {ts : List Int32} (X : x_at n h T lp ld lr pt sc S ts) (hsc : sc ≤ 3) (g a : Int32) : bM0 l yX6_group cX6_group 3 (some (.boolean)) 2 [.ref 0, .int g, .int a] n h (fun r h' => r = some (.int (b2i (tb g && tb a && (decide (¬ pt = -1 ∧ sc < 3))))) ∧ x_at n h' T lp ld lr pt (if (tb g && tb a && (decide (¬ pt = -1 ∧ sc < 3))) = true then sc + 1 else sc) (if (tb g && tb a && (decide (¬ pt = -1 ∧ sc < 3))) = true then va_up S sc (st4 3 g a 0) else S) ts ∧ y_fr h h') := by
  refine pm_enter rfl (Nat.le_of_ble_eq_true rfl) (fun G K Z => ?_)
  have X0 := X
  obtain ⟨⟨hn, ⟨tf, x1, xtf⟩, ⟨sf, x2, xsf⟩, x94, x95⟩, x0, xlp, xld, xlr, xso, xsr, xt, xs⟩ := X
  refine pm_iload_n K dX6_group_0 (q := 1) rfl rfl rfl ?_
  refine pm_callS0 K gw_ok wcX6_76 (c_isColumn l g) rfl rfl (Nat.le_of_ble_eq_true rfl) (by decide) dX6_group_1 (q := 4) rfl (fun rs hs hp => ?_)
  obtain ⟨rfl, e1⟩ := hp
  rw [e1]
  cases hvg : tb g
  · rw [hvg] at Z
    refine pm_if_eq K dX6_group_4 (tgt := 29) (q := 7) rfl rfl (fun _ => ?_) (fun z => absurd z (fun z => z rfl))
    refine pm_ic0 K dX6_group_29 (q := 30) rfl ?_
    exact pm_iret Z dX6_group_30 rfl rfl (Nat.le_of_ble_eq_true rfl) (Nat.le_of_ble_eq_true rfl) ⟨rfl, ⟨rfl, X0, fun _ _ => rfl⟩⟩
  · rw [hvg] at Z
    refine pm_if_eq K dX6_group_4 (tgt := 29) (q := 7) rfl rfl (fun z => absurd z (by decide)) (fun _ => ?_)
    refine pm_iload_n K dX6_group_7 (q := 8) rfl rfl rfl ?_
    refine pm_callS0 K gw_ok wcX6_76 (c_isColumn l a) rfl rfl (Nat.le_of_ble_eq_true rfl) (by decide) dX6_group_8 (q := 11) rfl (fun rs hs hp => ?_)
    obtain ⟨rfl, e1⟩ := hp
    rw [e1]
    cases hva : tb a
    · rw [hva] at Z
      refine pm_if_eq K dX6_group_11 (tgt := 29) (q := 14) rfl rfl (fun _ => ?_) (fun z => absurd z (fun z => z rfl))
      refine pm_ic0 K dX6_group_29 (q := 30) rfl ?_
      exact pm_iret Z dX6_group_30 rfl rfl (Nat.le_of_ble_eq_true rfl) (Nat.le_of_ble_eq_true rfl) ⟨rfl, ⟨rfl, X0, fun _ _ => rfl⟩⟩
    · rw [hva] at Z
      refine pm_if_eq K dX6_group_11 (tgt := 29) (q := 14) rfl rfl (fun z => absurd z (by decide)) (fun _ => ?_)
      refine pm_aload_n K dX6_group_14 (q := 15) rfl rfl rfl ?_
      refine pm_ic3 K dX6_group_15 (q := 16) rfl ?_
      refine pm_iload_n K dX6_group_16 (q := 17) rfl rfl rfl ?_
      refine pm_iload_n K dX6_group_17 (q := 18) rfl rfl rfl ?_
      refine pm_ic0 K dX6_group_18 (q := 19) rfl ?_
      refine pm_callV0 K gw_ok wcX6_79 (c_append l X0 hsc 3 g a 0) rfl (by omega) x0 rfl rfl (Nat.le_of_ble_eq_true rfl) (by decide) dX6_group_19 (q := 22) rfl (fun r1 h1 hp => ?_)
      obtain ⟨rfl, X1, F1⟩ := hp
      cases ha : (decide (¬ pt = -1 ∧ sc < 3))
      · rw [ha] at X1 Z
        refine pm_if_eq K dX6_group_22 (tgt := 29) (q := 25) rfl rfl (fun _ => ?_) (fun z => absurd z (fun z => z rfl))
        refine pm_ic0 K dX6_group_29 (q := 30) rfl ?_
        exact pm_iret Z dX6_group_30 rfl rfl (Nat.le_of_ble_eq_true rfl) (Nat.le_of_ble_eq_true rfl) ⟨rfl, ⟨rfl, X1, F1⟩⟩
      · rw [ha] at X1 Z
        refine pm_if_eq K dX6_group_22 (tgt := 29) (q := 25) rfl rfl (fun z => absurd z (by decide)) (fun _ => ?_)
        refine pm_ic1 K dX6_group_25 (q := 26) rfl ?_
        refine pm_goto K dX6_group_26 (q := 30) rfl ?_
        exact pm_iret Z dX6_group_30 rfl rfl (Nat.le_of_ble_eq_true rfl) (Nat.le_of_ble_eq_true rfl) ⟨rfl, ⟨rfl, X1, F1⟩⟩
set_option maxRecDepth 100000 in
theorem c_join (l : Launch) {n : Nat} {h : pm_H} {T : Nat → List bg_T} {lp ld lr : List bg_T} {pt : Int32} {sc : Nat} {S : Nat → Nat → Int32} {ts : List Int32} (X : x_at n h T lp ld lr pt sc S ts) (hsc : sc ≤ 3) (t x y : Int32) : bM0 l yX6_join cX6_join 4 (some (.boolean)) 2 [.ref 0, .int t, .int x, .int y] n h (fun r h' => r = some (.int (b2i (tb t && tb x && tb y && (decide (¬ pt = -1 ∧ sc < 3))))) ∧ x_at n h' T lp ld lr pt (if (tb t && tb x && tb y && (decide (¬ pt = -1 ∧ sc < 3))) = true then sc + 1 else sc) (if (tb t && tb x && tb y && (decide (¬ pt = -1 ∧ sc < 3))) = true then va_up S sc (st4 4 t x y) else S) ts ∧ y_fr h h') := by
  refine pm_enter rfl (Nat.le_of_ble_eq_true rfl) (fun G K Z => ?_)
  have X0 := X
  obtain ⟨⟨hn, ⟨tf, x1, xtf⟩, ⟨sf, x2, xsf⟩, x94, x95⟩, x0, xlp, xld, xlr, xso, xsr, xt, xs⟩ := X
  refine pm_iload_n K dX6_join_0 (q := 1) rfl rfl rfl ?_
  refine pm_callS0 K gw_ok wcX6_65 (c_isTable l t) rfl rfl (Nat.le_of_ble_eq_true rfl) (by decide) dX6_join_1 (q := 4) rfl (fun rs hs hp => ?_)
  obtain ⟨rfl, e1⟩ := hp
  rw [e1]
  cases hvt : tb t
  · rw [hvt] at Z
    refine pm_if_eq K dX6_join_4 (tgt := 36) (q := 7) rfl rfl (fun _ => ?_) (fun z => absurd z (fun z => z rfl))
    refine pm_ic0 K dX6_join_36 (q := 37) rfl ?_
    exact pm_iret Z dX6_join_37 rfl rfl (Nat.le_of_ble_eq_true rfl) (Nat.le_of_ble_eq_true rfl) ⟨rfl, ⟨rfl, X0, fun _ _ => rfl⟩⟩
  · rw [hvt] at Z
    refine pm_if_eq K dX6_join_4 (tgt := 36) (q := 7) rfl rfl (fun z => absurd z (by decide)) (fun _ => ?_)
    refine pm_iload_n K dX6_join_7 (q := 8) rfl rfl rfl ?_
    refine pm_callS0 K gw_ok wcX6_76 (c_isColumn l x) rfl rfl (Nat.le_of_ble_eq_true rfl) (by decide) dX6_join_8 (q := 11) rfl (fun rs hs hp => ?_)
    obtain ⟨rfl, e1⟩ := hp
    rw [e1]
    cases hvx : tb x
    · rw [hvx] at Z
      refine pm_if_eq K dX6_join_11 (tgt := 36) (q := 14) rfl rfl (fun _ => ?_) (fun z => absurd z (fun z => z rfl))
      refine pm_ic0 K dX6_join_36 (q := 37) rfl ?_
      exact pm_iret Z dX6_join_37 rfl rfl (Nat.le_of_ble_eq_true rfl) (Nat.le_of_ble_eq_true rfl) ⟨rfl, ⟨rfl, X0, fun _ _ => rfl⟩⟩
    · rw [hvx] at Z
      refine pm_if_eq K dX6_join_11 (tgt := 36) (q := 14) rfl rfl (fun z => absurd z (by decide)) (fun _ => ?_)
      refine pm_iload_n K dX6_join_14 (q := 15) rfl rfl rfl ?_
      refine pm_callS0 K gw_ok wcX6_76 (c_isColumn l y) rfl rfl (Nat.le_of_ble_eq_true rfl) (by decide) dX6_join_15 (q := 18) rfl (fun rs hs hp => ?_)
      obtain ⟨rfl, e1⟩ := hp
      rw [e1]
      cases hvy : tb y
      · rw [hvy] at Z
        refine pm_if_eq K dX6_join_18 (tgt := 36) (q := 21) rfl rfl (fun _ => ?_) (fun z => absurd z (fun z => z rfl))
        refine pm_ic0 K dX6_join_36 (q := 37) rfl ?_
        exact pm_iret Z dX6_join_37 rfl rfl (Nat.le_of_ble_eq_true rfl) (Nat.le_of_ble_eq_true rfl) ⟨rfl, ⟨rfl, X0, fun _ _ => rfl⟩⟩
      · rw [hvy] at Z
        refine pm_if_eq K dX6_join_18 (tgt := 36) (q := 21) rfl rfl (fun z => absurd z (by decide)) (fun _ => ?_)
        refine pm_aload_n K dX6_join_21 (q := 22) rfl rfl rfl ?_
        refine pm_ic4 K dX6_join_22 (q := 23) rfl ?_
        refine pm_iload_n K dX6_join_23 (q := 24) rfl rfl rfl ?_
        refine pm_iload_n K dX6_join_24 (q := 25) rfl rfl rfl ?_
        refine pm_iload_n K dX6_join_25 (q := 26) rfl rfl rfl ?_
        refine pm_callV0 K gw_ok wcX6_79 (c_append l X0 hsc 4 t x y) rfl (by omega) x0 rfl rfl (Nat.le_of_ble_eq_true rfl) (by decide) dX6_join_26 (q := 29) rfl (fun r1 h1 hp => ?_)
        obtain ⟨rfl, X1, F1⟩ := hp
        cases ha : (decide (¬ pt = -1 ∧ sc < 3))
        · rw [ha] at X1 Z
          refine pm_if_eq K dX6_join_29 (tgt := 36) (q := 32) rfl rfl (fun _ => ?_) (fun z => absurd z (fun z => z rfl))
          refine pm_ic0 K dX6_join_36 (q := 37) rfl ?_
          exact pm_iret Z dX6_join_37 rfl rfl (Nat.le_of_ble_eq_true rfl) (Nat.le_of_ble_eq_true rfl) ⟨rfl, ⟨rfl, X1, F1⟩⟩
        · rw [ha] at X1 Z
          refine pm_if_eq K dX6_join_29 (tgt := 36) (q := 32) rfl rfl (fun z => absurd z (by decide)) (fun _ => ?_)
          refine pm_ic1 K dX6_join_32 (q := 33) rfl ?_
          refine pm_goto K dX6_join_33 (q := 37) rfl ?_
          exact pm_iret Z dX6_join_37 rfl rfl (Nat.le_of_ble_eq_true rfl) (Nat.le_of_ble_eq_true rfl) ⟨rfl, ⟨rfl, X1, F1⟩⟩
set_option maxRecDepth 100000 in
theorem c_changes (l : Launch) {n : Nat} {h : pm_H} {T : Nat → List bg_T} {lp ld lr : List bg_T} {pt : Int32} {sc : Nat} {S : Nat → Nat → Int32} {ts : List Int32} (X : x_at n h T lp ld lr pt sc S ts) : bM0 l yX6_changes cX6_changes 1 (some (.int)) 0 [.ref 0] n h (fun r h' => r = some (.int (nI (lp.length + ld.length))) ∧ h' = h) := by
  refine pm_enter rfl (Nat.le_of_ble_eq_true rfl) (fun G K Z => ?_)
  obtain ⟨⟨hn, ⟨tf, x1, xtf⟩, ⟨sf, x2, xsf⟩, x94, x95⟩, x0, xlp, xld, xlr, xso, xsr, xt, xs⟩ := X
  refine pm_aload_n K dX6_changes_0 (q := 1) rfl rfl rfl ?_
  refine pm_get K inX6 rfl (k := 2) (by decide) wlX6_24 rfl (by omega) x0 rfl dX6_changes_1 (q := 4) rfl ?_
  refine pm_get K inX0 rfl (k := 3) (by decide) wlX6_73 rfl (by omega) xlp.2.2.2.1 rfl dX6_changes_4 (q := 7) rfl ?_
  refine pm_aload_n K dX6_changes_7 (q := 8) rfl rfl rfl ?_
  refine pm_get K inX6 rfl (k := 3) (by decide) wlX6_28 rfl (by omega) x0 rfl dX6_changes_8 (q := 11) rfl ?_
  refine pm_get K inX0 rfl (k := 3) (by decide) wlX6_73 rfl (by omega) xld.2.2.2.1 rfl dX6_changes_11 (q := 14) rfl ?_
  refine pm_iadd K dX6_changes_14 (q := 15) rfl ?_
  exact pm_iret Z dX6_changes_15 rfl rfl (Nat.le_of_ble_eq_true rfl) (Nat.le_of_ble_eq_true rfl) ⟨rfl, ⟨by rw [nI_add], rfl⟩⟩
set_option maxRecDepth 100000 in
theorem c_put (l : Launch) {n : Nat} {h : pm_H} {T : Nat → List bg_T} {lp ld lr : List bg_T} {pt : Int32} {sc : Nat} {S : Nat → Nat → Int32} {ts : List Int32} (X : x_at n h T lp ld lr pt sc S ts) (a b c : Int32) : bM0 l yX6_put cX6_put 4 (some (.boolean)) 1 [.ref 0, .int a, .int b, .int c] n h (fun r h' => r = some (.int (b2i (decide (lp.length + ld.length < 6)))) ∧ x_at n h' T (if (decide (lp.length + ld.length < 6)) = true then lp ++ [(a, b, c)] else lp) ld lr pt sc S ts ∧ y_fr h h') := by
  refine pm_enter rfl (Nat.le_of_ble_eq_true rfl) (fun G K Z => ?_)
  have X0 := X
  obtain ⟨⟨hn, ⟨tf, x1, xtf⟩, ⟨sf, x2, xsf⟩, x94, x95⟩, x0, xlp, xld, xlr, xso, xsr, xt, xs⟩ := X
  have hl1 := xlp.2.1
  have hl2 := xld.2.1
  refine pm_aload_n K dX6_put_0 (q := 1) rfl rfl rfl ?_
  refine pm_callV0 K gw_ok wcX6_100 (c_changes l X0) rfl (by omega) x0 rfl rfl (Nat.le_of_ble_eq_true rfl) (by decide) dX6_put_1 (q := 4) rfl (fun r1 h1 hp => ?_)
  obtain ⟨rfl, e1⟩ := hp
  rw [e1]
  refine pm_bipush (v := nI 6) K dX6_put_4 (q := 6) rfl (by decide) ?_
  refine pm_icmp_ge K dX6_put_6 (tgt := 26) (q := 9) rfl rfl (fun hx => ?_) (fun hx => ?_)
  · have hg : ¬ lp.length + ld.length < 6 := fun z => nI_ge z (by decide) hx
    rw [decide_eq_false hg] at Z
    refine pm_ic0 K dX6_put_26 (q := 27) rfl ?_
    exact pm_iret Z dX6_put_27 rfl rfl (Nat.le_of_ble_eq_true rfl) (Nat.le_of_ble_eq_true rfl) ⟨rfl, ⟨rfl, X0, fun _ _ => rfl⟩⟩
  · have hg : lp.length + ld.length < 6 := Nat.lt_of_not_le (fun z => hx (nI_le z (by omega)))
    refine pm_aload_n K dX6_put_9 (q := 10) rfl rfl rfl ?_
    refine pm_get K inX6 rfl (k := 2) (by decide) wlX6_24 rfl (by omega) x0 rfl dX6_put_10 (q := 13) rfl ?_
    refine pm_iload_n K dX6_put_13 (q := 14) rfl rfl rfl ?_
    refine pm_iload_n K dX6_put_14 (q := 15) rfl rfl rfl ?_
    refine pm_iload_n K dX6_put_15 (q := 16) rfl rfl rfl ?_
    refine pm_callV0 K gw_ok wcX6_69 (c_hold l xlp a b c) rfl (by omega) xlp.2.2.2.1 rfl rfl (Nat.le_of_ble_eq_true rfl) (by decide) dX6_put_16 (q := 19) rfl (fun r2 h2 hp => ?_)
    obtain ⟨rfl, HB, F1⟩ := hp
    rw [decide_eq_true (show lp.length < 6 by omega)]
    refine pm_if_eq K dX6_put_19 (tgt := 26) (q := 22) rfl rfl (fun z => absurd z (by decide)) (fun _ => ?_)
    refine pm_ic1 K dX6_put_22 (q := 23) rfl ?_
    refine pm_goto K dX6_put_23 (q := 27) rfl ?_
    rw [List.take_of_length_le (by rw [List.length_append]; show lp.length + 1 ≤ 6; omega)] at HB
    rw [decide_eq_true hg] at Z
    exact pm_iret Z dX6_put_27 rfl rfl (Nat.le_of_ble_eq_true rfl) (Nat.le_of_ble_eq_true rfl) ⟨rfl, ⟨rfl, X0.up_lp F1 HB, fun q hq => F1 q (by omega)⟩⟩
set_option maxRecDepth 100000 in
theorem c_drop (l : Launch) {n : Nat} {h : pm_H} {T : Nat → List bg_T} {lp ld lr : List bg_T} {pt : Int32} {sc : Nat} {S : Nat → Nat → Int32} {ts : List Int32} (X : x_at n h T lp ld lr pt sc S ts) (a : Int32) : bM0 l yX6_drop cX6_drop 2 (some (.boolean)) 1 [.ref 0, .int a] n h (fun r h' => r = some (.int (b2i (decide (lp.length + ld.length < 6)))) ∧ x_at n h' T lp (if (decide (lp.length + ld.length < 6)) = true then ld ++ [(a, 0, 0)] else ld) lr pt sc S ts ∧ y_fr h h') := by
  refine pm_enter rfl (Nat.le_of_ble_eq_true rfl) (fun G K Z => ?_)
  have X0 := X
  obtain ⟨⟨hn, ⟨tf, x1, xtf⟩, ⟨sf, x2, xsf⟩, x94, x95⟩, x0, xlp, xld, xlr, xso, xsr, xt, xs⟩ := X
  have hl1 := xlp.2.1
  have hl2 := xld.2.1
  refine pm_aload_n K dX6_drop_0 (q := 1) rfl rfl rfl ?_
  refine pm_callV0 K gw_ok wcX6_100 (c_changes l X0) rfl (by omega) x0 rfl rfl (Nat.le_of_ble_eq_true rfl) (by decide) dX6_drop_1 (q := 4) rfl (fun r1 h1 hp => ?_)
  obtain ⟨rfl, e1⟩ := hp
  rw [e1]
  refine pm_bipush (v := nI 6) K dX6_drop_4 (q := 6) rfl (by decide) ?_
  refine pm_icmp_ge K dX6_drop_6 (tgt := 26) (q := 9) rfl rfl (fun hx => ?_) (fun hx => ?_)
  · have hg : ¬ lp.length + ld.length < 6 := fun z => nI_ge z (by decide) hx
    rw [decide_eq_false hg] at Z
    refine pm_ic0 K dX6_drop_26 (q := 27) rfl ?_
    exact pm_iret Z dX6_drop_27 rfl rfl (Nat.le_of_ble_eq_true rfl) (Nat.le_of_ble_eq_true rfl) ⟨rfl, ⟨rfl, X0, fun _ _ => rfl⟩⟩
  · have hg : lp.length + ld.length < 6 := Nat.lt_of_not_le (fun z => hx (nI_le z (by omega)))
    refine pm_aload_n K dX6_drop_9 (q := 10) rfl rfl rfl ?_
    refine pm_get K inX6 rfl (k := 3) (by decide) wlX6_28 rfl (by omega) x0 rfl dX6_drop_10 (q := 13) rfl ?_
    refine pm_iload_n K dX6_drop_13 (q := 14) rfl rfl rfl ?_
    refine pm_ic0 K dX6_drop_14 (q := 15) rfl ?_
    refine pm_ic0 K dX6_drop_15 (q := 16) rfl ?_
    refine pm_callV0 K gw_ok wcX6_69 (c_hold l xld a 0 0) rfl (by omega) xld.2.2.2.1 rfl rfl (Nat.le_of_ble_eq_true rfl) (by decide) dX6_drop_16 (q := 19) rfl (fun r2 h2 hp => ?_)
    obtain ⟨rfl, HB, F1⟩ := hp
    rw [decide_eq_true (show ld.length < 6 by omega)]
    refine pm_if_eq K dX6_drop_19 (tgt := 26) (q := 22) rfl rfl (fun z => absurd z (by decide)) (fun _ => ?_)
    refine pm_ic1 K dX6_drop_22 (q := 23) rfl ?_
    refine pm_goto K dX6_drop_23 (q := 27) rfl ?_
    rw [List.take_of_length_le (by rw [List.length_append]; show ld.length + 1 ≤ 6; omega)] at HB
    rw [decide_eq_true hg] at Z
    exact pm_iret Z dX6_drop_27 rfl rfl (Nat.le_of_ble_eq_true rfl) (Nat.le_of_ble_eq_true rfl) ⟨rfl, ⟨rfl, X0.up_ld F1 HB, fun q hq => F1 q (by omega)⟩⟩
set_option maxRecDepth 100000 in
theorem c_cell (l : Launch) {n : Nat} {h : pm_H} {T : Nat → List bg_T} {lp ld lr : List bg_T} {pt : Int32} {sc : Nat} {S : Nat → Nat → Int32} {ts : List Int32} (X : x_at n h T lp ld lr pt sc S ts) (r0 c0 : Int32) : bM0 l yX6_cell cX6_cell 3 (some (.int)) 1 [.ref 0, .int r0, .int c0] n h (fun r h' => r = some (.int (if tb c0 = true then bg_cell lr r0 c0 else 0)) ∧ h' = h) := by
  refine pm_enter rfl (Nat.le_of_ble_eq_true rfl) (fun G K Z => ?_)
  obtain ⟨⟨hn, ⟨tf, x1, xtf⟩, ⟨sf, x2, xsf⟩, x94, x95⟩, x0, xlp, xld, xlr, xso, xsr, xt, xs⟩ := X
  refine pm_iload_n K dX6_cell_0 (q := 1) rfl rfl rfl ?_
  refine pm_callS0 K gw_ok wcX6_76 (c_isColumn l c0) rfl rfl (Nat.le_of_ble_eq_true rfl) (by decide) dX6_cell_1 (q := 4) rfl (fun rs hs hp => ?_)
  obtain ⟨rfl, e1⟩ := hp
  rw [e1]
  cases ht : tb c0
  · rw [ht] at Z
    refine pm_if_eq K dX6_cell_4 (tgt := 19) (q := 7) rfl rfl (fun _ => ?_) (fun z => absurd z (fun z => z rfl))
    refine pm_ic0 K dX6_cell_19 (q := 20) rfl ?_
    exact pm_iret Z dX6_cell_20 rfl rfl (Nat.le_of_ble_eq_true rfl) (Nat.le_of_ble_eq_true rfl) ⟨rfl, ⟨rfl, rfl⟩⟩
  · rw [ht] at Z
    refine pm_if_eq K dX6_cell_4 (tgt := 19) (q := 7) rfl rfl (fun z => absurd z (by decide)) (fun _ => ?_)
    refine pm_aload_n K dX6_cell_7 (q := 8) rfl rfl rfl ?_
    refine pm_get K inX6 rfl (k := 4) (by decide) wlX6_31 rfl (by omega) x0 rfl dX6_cell_8 (q := 11) rfl ?_
    refine pm_iload_n K dX6_cell_11 (q := 12) rfl rfl rfl ?_
    refine pm_iload_n K dX6_cell_12 (q := 13) rfl rfl rfl ?_
    refine pm_callV0 K gw_ok wcX6_108 (c_bcolumn l xlr r0 c0) rfl (by omega) xlr.2.2.2.1 rfl rfl (Nat.le_of_ble_eq_true rfl) (by decide) dX6_cell_13 (q := 16) rfl (fun r1 h1 hp => ?_)
    obtain ⟨rfl, e2⟩ := hp
    rw [e2]
    refine pm_goto K dX6_cell_16 (q := 20) rfl ?_
    exact pm_iret Z dX6_cell_20 rfl rfl (Nat.le_of_ble_eq_true rfl) (Nat.le_of_ble_eq_true rfl) ⟨rfl, ⟨rfl, rfl⟩⟩
set_option maxRecDepth 100000 in
theorem c_length (l : Launch) {n : Nat} {h : pm_H} {T : Nat → List bg_T} {lp ld lr : List bg_T} {pt : Int32} {sc : Nat} {S : Nat → Nat → Int32} {ts : List Int32} (X : x_at n h T lp ld lr pt sc S ts) : bM0 l yX6_length cX6_length 1 (some (.int)) 0 [.ref 0] n h (fun r h' => r = some (.int (nI ts.length)) ∧ h' = h) := by
  refine pm_enter rfl (Nat.le_of_ble_eq_true rfl) (fun G K Z => ?_)
  obtain ⟨⟨hn, ⟨tf, x1, xtf⟩, ⟨sf, x2, xsf⟩, x94, x95⟩, x0, xlp, xld, xlr, xso, xsr, xt, xs⟩ := X
  obtain ⟨L, ix, R, HA, -, -⟩ := xso
  refine pm_aload_n K dX6_length_0 (q := 1) rfl rfl rfl ?_
  refine pm_get K inX6 rfl (k := 5) (by decide) wlX6_37 rfl (by omega) x0 rfl dX6_length_1 (q := 4) rfl ?_
  refine pm_get K inX5 rfl (k := 2) (by decide) wlX6_112 rfl (by omega) HA.2.1 rfl dX6_length_4 (q := 7) rfl ?_
  exact pm_iret Z dX6_length_7 rfl rfl (Nat.le_of_ble_eq_true rfl) (Nat.le_of_ble_eq_true rfl) ⟨rfl, ⟨rfl, rfl⟩⟩
set_option maxRecDepth 100000 in
theorem c_access (l : Launch) {n : Nat} {h : pm_H} {T : Nat → List bg_T} {lp ld lr : List bg_T} {pt : Int32} {sc : Nat} {S : Nat → Nat → Int32} {ts : List Int32} (X : x_at n h T lp ld lr pt sc S ts) (k : Int32) : bM0 l yX6_access cX6_access 2 (some (.int)) 1 [.ref 0, .int k] n h (fun r h' => r = some (.int (so_nth ts k)) ∧ h' = h) := by
  refine pm_enter rfl (Nat.le_of_ble_eq_true rfl) (fun G K Z => ?_)
  obtain ⟨⟨hn, ⟨tf, x1, xtf⟩, ⟨sf, x2, xsf⟩, x94, x95⟩, x0, xlp, xld, xlr, xso, xsr, xt, xs⟩ := X
  obtain ⟨L, ix, R, HA, -, -⟩ := xso
  refine pm_aload_n K dX6_access_0 (q := 1) rfl rfl rfl ?_
  refine pm_get K inX6 rfl (k := 5) (by decide) wlX6_37 rfl (by omega) x0 rfl dX6_access_1 (q := 4) rfl ?_
  refine pm_iload_n K dX6_access_4 (q := 5) rfl rfl rfl ?_
  refine pm_callV0 K gw_ok wcX6_115 (c_notedAt l HA k) rfl (by omega) HA.2.1 rfl rfl (Nat.le_of_ble_eq_true rfl) (by decide) dX6_access_5 (q := 8) rfl (fun r1 h1 hp => ?_)
  obtain ⟨rfl, e2⟩ := hp
  rw [e2]
  exact pm_iret Z dX6_access_8 rfl rfl (Nat.le_of_ble_eq_true rfl) (Nat.le_of_ble_eq_true rfl) ⟨rfl, ⟨rfl, rfl⟩⟩
