/-! The reference: adding, changes, giving. -/
theorem kadd {x y : Int32} {a b : Nat} (hx : x = nI a) (hy : y = nI b) : x + y = nI (a + b) := by rw [hx, hy, nI_add]
theorem kmul {x y : Int32} {a b : Nat} (hx : x = nI a) (hy : y = nI b) : x * y = nI (a * b) := by rw [hx, hy]; exact pk_mul a b
theorem ksub {x y : Int32} {a b : Nat} (hx : x = nI a) (hy : y = nI b) (h : b ≤ a) : x - y = nI (a - b) := by rw [hx, hy]; exact pk_sub h
theorem kleI {x y : Int32} {a b : Nat} (hx : x = nI a) (hy : y = nI b) (ha : a < 2 ^ 31) (hb : b < 2 ^ 31) : x ≤ y ↔ a ≤ b := by rw [hx, hy]; exact nI_leI ha hb
theorem kltI {x y : Int32} {a b : Nat} (hx : x = nI a) (hy : y = nI b) (ha : a < 2 ^ 31) (hb : b < 2 ^ 31) : x < y ↔ a < b := by rw [hx, hy]; exact nI_ltI ha hb
theorem keqI {x y : Int32} {a b : Nat} (hx : x = nI a) (hy : y = nI b) (ha : a < 2 ^ 31) (hb : b < 2 ^ 31) : x = y ↔ a = b := by rw [hx, hy]; exact nI_eq ha hb
theorem ls3_eq {a a' : Nat → Int32} {b : Nat} {l : List bg_T} (e : ∀ i, b ≤ i → i < b + 3 * l.length → a' i = a i) (h : ls3 a b l) : ls3 a' b l := fun k hk => by
  rw [h k hk, e _ (by omega) (by omega), e _ (by omega) (by omega), e _ (by omega) (by omega)]
theorem ls3_at {a : Nat → Int32} {b k : Nat} {l : List bg_T} (h : ls3 a b l) (hk : k < l.length) : a (b + 3 * k) = (l.getD k (0, 0, 0)).1 ∧ a (b + 3 * k + 1) = (l.getD k (0, 0, 0)).2.1 ∧ a (b + 3 * k + 2) = (l.getD k (0, 0, 0)).2.2 := by
  rw [List.getD_eq_getElem?_getD, h k hk]
  exact ⟨rfl, rfl, rfl⟩
theorem ls3_col {a : Nat → Int32} {b k c : Nat} {l : List bg_T} (h : ls3 a b l) (hk : k < l.length) (hc : c < 3) : a (b + 3 * k + c) = bg_col (nI c) (l.getD k (0, 0, 0)) := by
  obtain ⟨h0, h1, h2⟩ := ls3_at h hk
  rcases (show c = 0 ∨ c = 1 ∨ c = 2 by omega) with rfl | rfl | rfl
  · exact h0
  · exact h1
  · exact h2
theorem ls3_push {a : Nat → Int32} {b : Nat} {l : List bg_T} (h : ls3 a b l) (x y z : Int32) : ls3 (upd (upd (upd a (b + 3 * l.length) x) (b + 3 * l.length + 1) y) (b + 3 * l.length + 2) z) b (l ++ [(x, y, z)]) := fun k hk => by
  rw [List.length_append, List.length_singleton] at hk
  by_cases e : k = l.length
  · subst e
    rw [List.getElem?_append_right (Nat.le_refl _), Nat.sub_self]
    simp [upd]
  · rw [List.getElem?_append_left (by omega), h k (by omega)]
    simp only [upd]
    repeat rw [if_neg (by omega)]
def gf (K J : List Nat) (g : Nat → Int32) (A : Nat → Nat → Int32) (g' : Nat → Int32) (A' : Nat → Nat → Int32) : Prop := (∀ k, k ∉ K → g' k = g k) ∧ ∀ j, j ∉ J → A' j = A j
theorem gf.rf {K J : List Nat} {g : Nat → Int32} {A : Nat → Nat → Int32} : gf K J g A g A := ⟨fun _ _ => rfl, fun _ _ => rfl⟩
theorem gf.tr {K J : List Nat} {g g' g'' : Nat → Int32} {A A' A'' : Nat → Nat → Int32} (x : gf K J g A g' A') (y : gf K J g' A' g'' A'') : gf K J g A g'' A'' := ⟨fun k hk => (y.1 k hk).trans (x.1 k hk), fun j hj => (y.2 j hj).trans (x.2 j hj)⟩
theorem gf.mono {K J K' J' : List Nat} {g g' : Nat → Int32} {A A' : Nat → Nat → Int32} (x : gf K J g A g' A') (hK : ∀ k, k ∈ K → k ∈ K') (hJ : ∀ j, j ∈ J → j ∈ J') : gf K' J' g A g' A' := ⟨fun k hk => x.1 k (fun z => hk (hK k z)), fun j hj => x.2 j (fun z => hj (hJ j z))⟩
theorem gf.up {K J : List Nat} {g g' : Nat → Int32} {A A' : Nat → Nat → Int32} (x : gf K J g A g' A') {k : Nat} (hk : k ∈ K) (v : Int32) : gf K J g A (upd g' k v) A' := ⟨fun q hq => by rw [← x.1 q hq]; show (if q = k then v else g' q) = g' q; exact if_neg (fun z : q = k => hq (by rw [z]; exact hk)), x.2⟩
theorem gf.ua {K J : List Nat} {g g' : Nat → Int32} {A A' : Nat → Nat → Int32} (x : gf K J g A g' A') {j : Nat} (hj : j ∈ J) (f : Nat → Int32) : gf K J g A g' (va_up A' j f) := ⟨x.1, fun q hq => by rw [← x.2 q hq]; show (if q = j then f else A' q) = A' q; exact if_neg (fun z : q = j => hq (by rw [z]; exact hj))⟩
/-- the rows given so far: the first 25 are kept -/
def gi (g : Nat → Int32) (A : Nat → Nat → Int32) (l : List bg_T) : Prop := g 15 = nI l.length ∧ ∀ k, k < l.length → k < 25 → l[k]? = some (A 9 (3 * k), A 9 (3 * k + 1), A 9 (3 * k + 2))
theorem gi_push {g : Nat → Int32} {A : Nat → Nat → Int32} {l : List bg_T} (h : gi g A l) (x y z : Int32) : gi (upd g 15 (nI (l.length + 1))) (va_up A 9 (upd (upd (upd (A 9) (3 * l.length) x) (3 * l.length + 1) y) (3 * l.length + 2) z)) (l ++ [(x, y, z)]) := by
  refine ⟨by rw [List.length_append]; rfl, fun k hk h25 => ?_⟩
  rw [List.length_append, List.length_singleton] at hk
  by_cases e : k = l.length
  · subst e
    rw [List.getElem?_append_right (Nat.le_refl _), Nat.sub_self]
    simp [upd, va_up]
  · rw [List.getElem?_append_left (by omega), h.2 k (by omega) h25]
    simp only [upd, va_up, if_pos]
    repeat rw [if_neg (by omega)]
theorem gi_skip {g : Nat → Int32} {A : Nat → Nat → Int32} {l : List bg_T} (h : gi g A l) (h25 : ¬ l.length < 25) (t : bg_T) : gi (upd g 15 (nI (l.length + 1))) A (l ++ [t]) := by
  refine ⟨by rw [List.length_append]; rfl, fun k hk h2 => ?_⟩
  rw [List.getElem?_append_left (by omega), h.2 k (by omega) h2]
theorem mt_push {A : Nat → Nat → Int32} {T : Nat → List bg_T} {j : Nat} (hj : j < 3) (hl : (T j).length < 12) (c1 : ∀ t, t < 3 → (T t).length ≤ 12 ∧ A 1 t = nI (T t).length ∧ ls3 (A 0) (36 * t) (T t)) (x y z : Int32) (t : Nat) (ht : t < 3) : (va_up T j (T j ++ [(x, y, z)]) t).length ≤ 12 ∧ upd (A 1) j (nI ((T j).length + 1)) t = nI (va_up T j (T j ++ [(x, y, z)]) t).length ∧ ls3 (upd (upd (upd (A 0) (36 * j + 3 * (T j).length) x) (36 * j + 3 * (T j).length + 1) y) (36 * j + 3 * (T j).length + 2) z) (36 * t) (va_up T j (T j ++ [(x, y, z)]) t) := by
  obtain ⟨d1, d2, d3⟩ := c1 t ht
  by_cases e : t = j
  · subst e
    have ev : va_up T t (T t ++ [(x, y, z)]) t = T t ++ [(x, y, z)] := if_pos rfl
    rw [ev]
    refine ⟨by rw [List.length_append]; exact hl, by rw [List.length_append]; exact if_pos rfl, ls3_push d3 x y z⟩
  · have ev : va_up T j (T j ++ [(x, y, z)]) t = T t := if_neg e
    rw [ev]
    refine ⟨d1, (if_neg e).trans d2, ls3_eq (fun i h1 h2 => ?_) d3⟩
    simp only [upd]
    repeat rw [if_neg (by omega)]
theorem ch_push {A : Nat → Nat → Int32} {ch : List (Int32 × bg_T)} (h6 : ch.length < 6) (c6 : ∀ k, k < ch.length → ch[k]? = some (A 6 k, A 7 (3 * k), A 7 (3 * k + 1), A 7 (3 * k + 2)) ∧ (A 6 k = 0 ∨ A 6 k = 1)) {d x y z : Int32} (hd : d = 0 ∨ d = 1) (k : Nat) (hk : k < (ch ++ [(d, x, y, z)]).length) : (ch ++ [(d, x, y, z)])[k]? = some (upd (A 6) ch.length d k, upd (upd (upd (A 7) (3 * ch.length) x) (3 * ch.length + 1) y) (3 * ch.length + 2) z (3 * k), upd (upd (upd (A 7) (3 * ch.length) x) (3 * ch.length + 1) y) (3 * ch.length + 2) z (3 * k + 1), upd (upd (upd (A 7) (3 * ch.length) x) (3 * ch.length + 1) y) (3 * ch.length + 2) z (3 * k + 2)) ∧ (upd (A 6) ch.length d k = 0 ∨ upd (A 6) ch.length d k = 1) := by
  rw [List.length_append, List.length_singleton] at hk
  by_cases e : k = ch.length
  · subst e
    rw [List.getElem?_append_right (Nat.le_refl _), Nat.sub_self]
    simp [upd, hd]
  · obtain ⟨h1, h2⟩ := c6 k (by omega)
    rw [List.getElem?_append_left (by omega), h1]
    simp only [upd]
    rw [if_neg e, if_neg (by omega), if_neg (by omega), if_neg (by omega), if_neg (by omega), if_neg (by omega), if_neg (by omega), if_neg (by omega), if_neg (by omega), if_neg (by omega)]
    exact ⟨rfl, h2⟩
theorem pa_push {A : Nat → Nat → Int32} {pa : List (Int32 × Int32 × Int32 × Int32)} (c6 : ∀ k, k < pa.length → pa[k]? = some (A 11 k, A 12 k, A 13 k, A 14 k)) (a b c d : Int32) (k : Nat) (hk : k < (pa ++ [(a, b, c, d)]).length) : (pa ++ [(a, b, c, d)])[k]? = some (upd (A 11) pa.length a k, upd (A 12) pa.length b k, upd (A 13) pa.length c k, upd (A 14) pa.length d k) := by
  rw [List.length_append, List.length_singleton] at hk
  by_cases e : k = pa.length
  · subst e
    rw [List.getElem?_append_right (Nat.le_refl _), Nat.sub_self]
    simp [upd]
  · rw [List.getElem?_append_left (by omega), c6 k (by omega)]
    simp only [upd]
    repeat rw [if_neg e]
set_option maxRecDepth 100000 in
theorem m_add (l : Launch) {n : Nat} {h : pm_H} {T : Nat → List bg_T} {ch : List (Int32 × bg_T)} {pl : Bool} {so : Int32} {sc : Nat} {S : Nat → Nat → Int32} {lr : List bg_T} {pa : List (Int32 × Int32 × Int32 × Int32)} {la : Nat} (X : m_at n h T ch pl so sc S lr pa la) (t a b c : Int32) : bM0 l yX7_add cX7_add 6 (some (.boolean)) 1 [.ref 112, .int t, .int a, .int b, .int c] n h (fun r h' => r = some (.int (b2i (tb t && decide ((T t.toNatClampNeg).length < 12)))) ∧ m_at n h' (if (tb t && decide ((T t.toNatClampNeg).length < 12)) = true then va_up T t.toNatClampNeg (T t.toNatClampNeg ++ [(a, b, c)]) else T) ch pl so sc S lr pa la ∧ mo_fr h h') := by
  refine pm_enter rfl (Nat.le_of_ble_eq_true rfl) (fun G K Z => ?_)
  obtain ⟨g, A, M, c1, c2, c3, c4, c5, c6, c7, c8, c9⟩ := X
  refine pm_iload_n K dX7_add_0 (q := 1) rfl rfl rfl ?_
  refine pm_ic0 K dX7_add_1 (q := 2) rfl ?_
  refine pm_ic2 K dX7_add_2 (q := 3) rfl ?_
  refine pm_callS0 K gw_ok wcX7_56 (c_outside l t 0 2) rfl rfl (Nat.le_of_ble_eq_true rfl) (by decide) dX7_add_3 (q := 6) rfl (fun rs hs hp => ?_)
  obtain ⟨rfl, e1⟩ := hp
  rw [e1, ou_tb]
  cases ht : tb t
  · rw [ht] at Z
    refine pm_if_ne K dX7_add_6 (tgt := 20) (q := 9) rfl rfl (fun _ => ?_) (fun z => absurd z (fun z => absurd z (by decide)))
    refine pm_ic0 K dX7_add_20 (q := 21) rfl ?_
    exact pm_iret Z dX7_add_21 rfl rfl (Nat.le_of_ble_eq_true rfl) (Nat.le_of_ble_eq_true rfl) ⟨rfl, ⟨rfl, ⟨g, A, M, c1, c2, c3, c4, c5, c6, c7, c8, c9⟩, mo_fr.rf⟩⟩
  · rw [ht] at Z
    refine pm_if_ne K dX7_add_6 (tgt := 20) (q := 9) rfl rfl (fun z => absurd z (fun z => z rfl)) (fun _ => ?_)
    obtain ⟨j, hj, rfl⟩ := tb_ok ht
    rw [nI_clamp (by omega)] at Z
    have hl := (c1 j hj).1
    refine pm_aload_n K dX7_add_9 (q := 10) rfl rfl rfl ?_
    refine pm_get K inX7 rfl (k := 1) (by decide) wlX7_13 rfl (by have := M.1; omega) M.2.1 rfl dX7_add_10 (q := 13) rfl ?_
    refine pm_iload_n K dX7_add_13 (q := 14) rfl rfl rfl ?_
    refine mo_iald (j := 1) K M (by decide) (by decide) (show j < 3 by omega) dX7_add_14 (q := 15) rfl ?_
    refine pm_top (y := nI ((T j).length)) ((c1 j hj).2.1) ?_
    refine pm_bipush (v := 12) K dX7_add_15 (q := 17) rfl (by decide) ?_
    refine pm_icmp_lt K dX7_add_17 (tgt := 22) (q := 20) rfl rfl (fun z => ?_) (fun z => ?_)
    · have hx : (T j).length < 12 := (kltI (a := (T j).length) (b := 12) rfl rfl (by omega) (by omega)).mp z
      rw [decide_eq_true hx] at Z
      refine pm_bipush (v := 36) K dX7_add_22 (q := 24) rfl (by decide) ?_
      refine pm_iload_n K dX7_add_24 (q := 25) rfl rfl rfl ?_
      refine pm_imul K dX7_add_25 (q := 26) rfl ?_
      refine pm_top (y := nI (36 * j)) (kmul (a := 36) (b := j) rfl rfl) ?_
      refine pm_ic3 K dX7_add_26 (q := 27) rfl ?_
      refine pm_aload_n K dX7_add_27 (q := 28) rfl rfl rfl ?_
      refine pm_get K inX7 rfl (k := 1) (by decide) wlX7_13 rfl (by have := M.1; omega) M.2.1 rfl dX7_add_28 (q := 31) rfl ?_
      refine pm_iload_n K dX7_add_31 (q := 32) rfl rfl rfl ?_
      refine mo_iald (j := 1) K M (by decide) (by decide) (show j < 3 by omega) dX7_add_32 (q := 33) rfl ?_
      refine pm_top (y := nI ((T j).length)) ((c1 j hj).2.1) ?_
      refine pm_imul K dX7_add_33 (q := 34) rfl ?_
      refine pm_top (y := nI (3 * ((T j).length))) (kmul (a := 3) (b := (T j).length) rfl rfl) ?_
      refine pm_iadd K dX7_add_34 (q := 35) rfl ?_
      refine pm_top (y := nI (36 * j + (3 * ((T j).length)))) (kadd (a := 36 * j) (b := 3 * ((T j).length)) rfl rfl) ?_
      refine pm_istore K dX7_add_35 (q := 37) rfl (by decide) rfl ?_
      refine pm_aload_n K dX7_add_37 (q := 38) rfl rfl rfl ?_
      refine pm_get K inX7 rfl (k := 0) (by decide) wlX7_7 rfl (by have := M.1; omega) M.2.1 rfl dX7_add_38 (q := 41) rfl ?_
      refine pm_iload K dX7_add_41 (q := 43) rfl rfl ?_
      refine pm_iload_n K dX7_add_43 (q := 44) rfl rfl rfl ?_
      refine mo_iast (j := 0) K M (by decide) (by decide) (show 36 * j + (3 * ((T j).length)) < 108 by omega) dX7_add_44 (q := 45) rfl (fun hm1 M1 Fm1 => ?_)
      refine pm_aload_n K dX7_add_45 (q := 46) rfl rfl rfl ?_
      refine pm_get K inX7 rfl (k := 0) (by decide) wlX7_7 rfl (by have := M1.1; omega) M1.2.1 rfl dX7_add_46 (q := 49) rfl ?_
      refine pm_iload K dX7_add_49 (q := 51) rfl rfl ?_
      refine pm_ic1 K dX7_add_51 (q := 52) rfl ?_
      refine pm_iadd K dX7_add_52 (q := 53) rfl ?_
      refine pm_top (y := nI (36 * j + (3 * ((T j).length)) + 1)) (kadd (a := 36 * j + (3 * ((T j).length))) (b := 1) rfl rfl) ?_
      refine pm_iload_n K dX7_add_53 (q := 54) rfl rfl rfl ?_
      refine mo_iast (j := 0) K M1 (by decide) (by decide) (show 36 * j + (3 * ((T j).length)) + 1 < 108 by omega) dX7_add_54 (q := 55) rfl (fun hm2 M2 Fm2 => ?_)
      refine pm_aload_n K dX7_add_55 (q := 56) rfl rfl rfl ?_
      refine pm_get K inX7 rfl (k := 0) (by decide) wlX7_7 rfl (by have := M2.1; omega) M2.2.1 rfl dX7_add_56 (q := 59) rfl ?_
      refine pm_iload K dX7_add_59 (q := 61) rfl rfl ?_
      refine pm_ic2 K dX7_add_61 (q := 62) rfl ?_
      refine pm_iadd K dX7_add_62 (q := 63) rfl ?_
      refine pm_top (y := nI (36 * j + (3 * ((T j).length)) + 2)) (kadd (a := 36 * j + (3 * ((T j).length))) (b := 2) rfl rfl) ?_
      refine pm_iload K dX7_add_63 (q := 65) rfl rfl ?_
      refine mo_iast (j := 0) K M2 (by decide) (by decide) (show 36 * j + (3 * ((T j).length)) + 2 < 108 by omega) dX7_add_65 (q := 66) rfl (fun hm3 M3 Fm3 => ?_)
      refine pm_aload_n K dX7_add_66 (q := 67) rfl rfl rfl ?_
      refine pm_get K inX7 rfl (k := 1) (by decide) wlX7_13 rfl (by have := M3.1; omega) M3.2.1 rfl dX7_add_67 (q := 70) rfl ?_
      refine pm_iload_n K dX7_add_70 (q := 71) rfl rfl rfl ?_
      refine pm_dup2 K dX7_add_71 (q := 72) rfl ?_
      refine mo_iald (j := 1) K M3 (by decide) (by decide) (show j < 3 by omega) dX7_add_72 (q := 73) rfl ?_
      refine pm_top (y := nI ((T j).length)) ((c1 j hj).2.1) ?_
      refine pm_ic1 K dX7_add_73 (q := 74) rfl ?_
      refine pm_iadd K dX7_add_74 (q := 75) rfl ?_
      refine pm_top (y := nI ((T j).length + 1)) (kadd (a := (T j).length) (b := 1) rfl rfl) ?_
      refine mo_iast (j := 1) K M3 (by decide) (by decide) (show j < 3 by omega) dX7_add_75 (q := 76) rfl (fun hm4 M4 Fm4 => ?_)
      refine pm_ic1 K dX7_add_76 (q := 77) rfl ?_
      exact pm_iret Z dX7_add_77 rfl rfl (Nat.le_of_ble_eq_true rfl) (Nat.le_of_ble_eq_true rfl) ⟨rfl, ⟨rfl, ⟨_, _, M4, fun t ht => mt_push hj hx c1 a b c t ht, c2, c3, c4, c5, c6, c7, c8, c9⟩, (((Fm1.tr Fm2).tr Fm3).tr Fm4)⟩⟩
    · have hx : ¬ (T j).length < 12 := fun y => z ((kltI (a := (T j).length) (b := 12) rfl rfl (by omega) (by omega)).mpr y)
      have hg : ¬ (T j).length < 12 := by omega
      rw [decide_eq_false hg] at Z
      refine pm_ic0 K dX7_add_20 (q := 21) rfl ?_
      exact pm_iret Z dX7_add_21 rfl rfl (Nat.le_of_ble_eq_true rfl) (Nat.le_of_ble_eq_true rfl) ⟨rfl, ⟨rfl, ⟨g, A, M, c1, c2, c3, c4, c5, c6, c7, c8, c9⟩, mo_fr.rf⟩⟩
set_option maxRecDepth 100000 in
theorem m_sum (l : Launch) {n : Nat} {h : pm_H} {T : Nat → List bg_T} {ch : List (Int32 × bg_T)} {pl : Bool} {so : Int32} {sc : Nat} {S : Nat → Nat → Int32} {lr : List bg_T} {pa : List (Int32 × Int32 × Int32 × Int32)} {la : Nat} (X : m_at n h T ch pl so sc S lr pa la) (t : Int32) : bM0 l yX7_sum cX7_sum 4 (some (.int)) 1 [.ref 112, .int t] n h (fun r h' => r = some (.int (if tb t = true then bg_sum (T t.toNatClampNeg) else 0)) ∧ h' = h) := by
  refine pm_enter rfl (Nat.le_of_ble_eq_true rfl) (fun G K Z => ?_)
  obtain ⟨g, A, M, c1, c2, c3, c4, c5, c6, c7, c8, c9⟩ := X
  refine pm_ic0 K dX7_sum_0 (q := 1) rfl ?_
  refine pm_istore_n K dX7_sum_1 (q := 2) rfl rfl (by decide) rfl ?_
  refine pm_ic0 K dX7_sum_2 (q := 3) rfl ?_
  refine pm_istore_n K dX7_sum_3 (q := 4) rfl rfl (by decide) rfl ?_
  cases ht : tb t
  · rw [ht] at Z
    refine pm_iload_n K dX7_sum_4 (q := 5) rfl rfl rfl ?_
    refine pm_ic0 K dX7_sum_5 (q := 6) rfl ?_
    refine pm_ic2 K dX7_sum_6 (q := 7) rfl ?_
    refine pm_callS0 K gw_ok wcX7_56 (c_outside l t 0 2) rfl rfl (Nat.le_of_ble_eq_true rfl) (by decide) dX7_sum_7 (q := 10) rfl (fun rs hs hp => ?_)
    obtain ⟨rfl, e1⟩ := hp
    rw [e1, ou_tb, ht]
    refine pm_if_ne K dX7_sum_10 (tgt := 83) (q := 13) rfl rfl (fun _ => ?_) (fun z => absurd z (fun z => absurd z (by decide)))
    refine pm_iload_n K dX7_sum_83 (q := 84) rfl rfl rfl ?_
    exact pm_iret Z dX7_sum_84 rfl rfl (Nat.le_of_ble_eq_true rfl) (Nat.le_of_ble_eq_true rfl) ⟨rfl, ⟨rfl, rfl⟩⟩
  · rw [ht] at Z
    have ht2 := ht
    obtain ⟨j, hj, rfl⟩ := tb_ok ht
    rw [nI_clamp (by omega)] at Z
    obtain ⟨hl, h2, h3⟩ := c1 j hj
    have loop : ∀ (k i : Nat), i + k = (T j).length → G 0 0 4 [some (.ref 112), some (.int (nI j)), some (.int (bg_sum ((T j).take i))), some (.int (nI i))] [] n h := by
      intro k
      induction k with
      | zero =>
        intro i hk
        refine pm_iload_n K dX7_sum_4 (q := 5) rfl rfl rfl ?_
        refine pm_ic0 K dX7_sum_5 (q := 6) rfl ?_
        refine pm_ic2 K dX7_sum_6 (q := 7) rfl ?_
        refine pm_callS0 K gw_ok wcX7_56 (c_outside l (nI j) 0 2) rfl rfl (Nat.le_of_ble_eq_true rfl) (by decide) dX7_sum_7 (q := 10) rfl (fun rs hs hp => ?_)
        obtain ⟨rfl, e1⟩ := hp
        rw [e1, ou_tb, ht2]
        refine pm_if_ne K dX7_sum_10 (tgt := 83) (q := 13) rfl rfl (fun z => absurd z (fun z => z rfl)) (fun _ => ?_)
        refine pm_iload_n K dX7_sum_13 (q := 14) rfl rfl rfl ?_
        refine pm_aload_n K dX7_sum_14 (q := 15) rfl rfl rfl ?_
        refine pm_get K inX7 rfl (k := 1) (by decide) wlX7_13 rfl (by have := M.1; omega) M.2.1 rfl dX7_sum_15 (q := 18) rfl ?_
        refine pm_iload_n K dX7_sum_18 (q := 19) rfl rfl rfl ?_
        refine mo_iald (j := 1) K M (by decide) (by decide) (show j < 3 by omega) dX7_sum_19 (q := 20) rfl ?_
        refine pm_top (y := nI ((T j).length)) (h2) ?_
        refine pm_icmp_ge K dX7_sum_20 (tgt := 83) (q := 23) rfl rfl (fun _ => ?_) (fun z => absurd ((kleI (a := (T j).length) (b := i) rfl rfl (by omega) (by omega)).mpr (by omega)) z)
        have ei : i = (T j).length := by omega
        subst ei
        refine pm_iload_n K dX7_sum_83 (q := 84) rfl rfl rfl ?_
        rw [List.take_length]
        exact pm_iret Z dX7_sum_84 rfl rfl (Nat.le_of_ble_eq_true rfl) (Nat.le_of_ble_eq_true rfl) ⟨rfl, ⟨rfl, rfl⟩⟩
      | succ k ih =>
        intro i hk
        refine pm_iload_n K dX7_sum_4 (q := 5) rfl rfl rfl ?_
        refine pm_ic0 K dX7_sum_5 (q := 6) rfl ?_
        refine pm_ic2 K dX7_sum_6 (q := 7) rfl ?_
        refine pm_callS0 K gw_ok wcX7_56 (c_outside l (nI j) 0 2) rfl rfl (Nat.le_of_ble_eq_true rfl) (by decide) dX7_sum_7 (q := 10) rfl (fun rs hs hp => ?_)
        obtain ⟨rfl, e1⟩ := hp
        rw [e1, ou_tb, ht2]
        refine pm_if_ne K dX7_sum_10 (tgt := 83) (q := 13) rfl rfl (fun z => absurd z (fun z => z rfl)) (fun _ => ?_)
        refine pm_iload_n K dX7_sum_13 (q := 14) rfl rfl rfl ?_
        refine pm_aload_n K dX7_sum_14 (q := 15) rfl rfl rfl ?_
        refine pm_get K inX7 rfl (k := 1) (by decide) wlX7_13 rfl (by have := M.1; omega) M.2.1 rfl dX7_sum_15 (q := 18) rfl ?_
        refine pm_iload_n K dX7_sum_18 (q := 19) rfl rfl rfl ?_
        refine mo_iald (j := 1) K M (by decide) (by decide) (show j < 3 by omega) dX7_sum_19 (q := 20) rfl ?_
        refine pm_top (y := nI ((T j).length)) (h2) ?_
        refine pm_icmp_ge K dX7_sum_20 (tgt := 83) (q := 23) rfl rfl (fun z => absurd ((kleI (a := (T j).length) (b := i) rfl rfl (by omega) (by omega)).mp z) (by omega)) (fun _ => ?_)
        have hg := h3 i (by omega)
        refine pm_iload_n K dX7_sum_23 (q := 24) rfl rfl rfl ?_
        refine pm_bipush (v := 31) K dX7_sum_24 (q := 26) rfl (by decide) ?_
        refine pm_bipush (v := 31) K dX7_sum_26 (q := 28) rfl (by decide) ?_
        refine pm_aload_n K dX7_sum_28 (q := 29) rfl rfl rfl ?_
        refine pm_get K inX7 rfl (k := 0) (by decide) wlX7_7 rfl (by have := M.1; omega) M.2.1 rfl dX7_sum_29 (q := 32) rfl ?_
        refine pm_bipush (v := 36) K dX7_sum_32 (q := 34) rfl (by decide) ?_
        refine pm_iload_n K dX7_sum_34 (q := 35) rfl rfl rfl ?_
        refine pm_imul K dX7_sum_35 (q := 36) rfl ?_
        refine pm_top (y := nI (36 * j)) (kmul (a := 36) (b := j) rfl rfl) ?_
        refine pm_ic3 K dX7_sum_36 (q := 37) rfl ?_
        refine pm_iload_n K dX7_sum_37 (q := 38) rfl rfl rfl ?_
        refine pm_imul K dX7_sum_38 (q := 39) rfl ?_
        refine pm_top (y := nI (3 * i)) (kmul (a := 3) (b := i) rfl rfl) ?_
        refine pm_iadd K dX7_sum_39 (q := 40) rfl ?_
        refine pm_top (y := nI (36 * j + (3 * i))) (kadd (a := 36 * j) (b := 3 * i) rfl rfl) ?_
        refine mo_iald (j := 0) K M (by decide) (by decide) (show 36 * j + (3 * i) < 108 by omega) dX7_sum_40 (q := 41) rfl ?_
        refine pm_imul K dX7_sum_41 (q := 42) rfl ?_
        refine pm_aload_n K dX7_sum_42 (q := 43) rfl rfl rfl ?_
        refine pm_get K inX7 rfl (k := 0) (by decide) wlX7_7 rfl (by have := M.1; omega) M.2.1 rfl dX7_sum_43 (q := 46) rfl ?_
        refine pm_bipush (v := 36) K dX7_sum_46 (q := 48) rfl (by decide) ?_
        refine pm_iload_n K dX7_sum_48 (q := 49) rfl rfl rfl ?_
        refine pm_imul K dX7_sum_49 (q := 50) rfl ?_
        refine pm_top (y := nI (36 * j)) (kmul (a := 36) (b := j) rfl rfl) ?_
        refine pm_ic3 K dX7_sum_50 (q := 51) rfl ?_
        refine pm_iload_n K dX7_sum_51 (q := 52) rfl rfl rfl ?_
        refine pm_imul K dX7_sum_52 (q := 53) rfl ?_
        refine pm_top (y := nI (3 * i)) (kmul (a := 3) (b := i) rfl rfl) ?_
        refine pm_iadd K dX7_sum_53 (q := 54) rfl ?_
        refine pm_top (y := nI (36 * j + (3 * i))) (kadd (a := 36 * j) (b := 3 * i) rfl rfl) ?_
        refine pm_ic1 K dX7_sum_54 (q := 55) rfl ?_
        refine pm_iadd K dX7_sum_55 (q := 56) rfl ?_
        refine pm_top (y := nI (36 * j + (3 * i) + 1)) (kadd (a := 36 * j + (3 * i)) (b := 1) rfl rfl) ?_
        refine mo_iald (j := 0) K M (by decide) (by decide) (show 36 * j + (3 * i) + 1 < 108 by omega) dX7_sum_56 (q := 57) rfl ?_
        refine pm_iadd K dX7_sum_57 (q := 58) rfl ?_
        refine pm_imul K dX7_sum_58 (q := 59) rfl ?_
        refine pm_aload_n K dX7_sum_59 (q := 60) rfl rfl rfl ?_
        refine pm_get K inX7 rfl (k := 0) (by decide) wlX7_7 rfl (by have := M.1; omega) M.2.1 rfl dX7_sum_60 (q := 63) rfl ?_
        refine pm_bipush (v := 36) K dX7_sum_63 (q := 65) rfl (by decide) ?_
        refine pm_iload_n K dX7_sum_65 (q := 66) rfl rfl rfl ?_
        refine pm_imul K dX7_sum_66 (q := 67) rfl ?_
        refine pm_top (y := nI (36 * j)) (kmul (a := 36) (b := j) rfl rfl) ?_
        refine pm_ic3 K dX7_sum_67 (q := 68) rfl ?_
        refine pm_iload_n K dX7_sum_68 (q := 69) rfl rfl rfl ?_
        refine pm_imul K dX7_sum_69 (q := 70) rfl ?_
        refine pm_top (y := nI (3 * i)) (kmul (a := 3) (b := i) rfl rfl) ?_
        refine pm_iadd K dX7_sum_70 (q := 71) rfl ?_
        refine pm_top (y := nI (36 * j + (3 * i))) (kadd (a := 36 * j) (b := 3 * i) rfl rfl) ?_
        refine pm_ic2 K dX7_sum_71 (q := 72) rfl ?_
        refine pm_iadd K dX7_sum_72 (q := 73) rfl ?_
        refine pm_top (y := nI (36 * j + (3 * i) + 2)) (kadd (a := 36 * j + (3 * i)) (b := 2) rfl rfl) ?_
        refine mo_iald (j := 0) K M (by decide) (by decide) (show 36 * j + (3 * i) + 2 < 108 by omega) dX7_sum_73 (q := 74) rfl ?_
        refine pm_iadd K dX7_sum_74 (q := 75) rfl ?_
        refine pm_iadd K dX7_sum_75 (q := 76) rfl ?_
        refine pm_top (y := bg_sum ((T j).take (i + 1))) (by rw [List.take_succ, hg, Option.toList_some, bg_sum_push]; rfl) ?_
        refine pm_istore_n K dX7_sum_76 (q := 77) rfl rfl (by decide) rfl ?_
        refine pm_inc K dX7_sum_77 (q := 80) rfl rfl (by decide) rfl ?_
        refine pm_goto K dX7_sum_80 (q := 4) rfl ?_
        exact ih (i + 1) (by omega)
    exact loop (T j).length 0 (by omega)
set_option maxRecDepth 100000 in
theorem m_collect (l : Launch) {n : Nat} {h : pm_H} {T : Nat → List bg_T} {ch : List (Int32 × bg_T)} {pl : Bool} {so : Int32} {sc : Nat} {S : Nat → Nat → Int32} {lr : List bg_T} {pa : List (Int32 × Int32 × Int32 × Int32)} {la : Nat} (X : m_at n h T ch pl so sc S lr pa la) {d : Int32} (hd : d = 0 ∨ d = 1) (a b c : Int32) : bM0 l yX7_collect cX7_collect 5 (some (.boolean)) 0 [.ref 112, .int d, .int a, .int b, .int c] n h (fun r h' => r = some (.int (b2i (decide (ch.length < 6)))) ∧ m_at n h' T (if ch.length < 6 then ch ++ [(d, a, b, c)] else ch) pl so sc S lr pa la ∧ mo_fr h h') := by
  refine pm_enter rfl (Nat.le_of_ble_eq_true rfl) (fun G K Z => ?_)
  obtain ⟨g, A, M, c1, c2, c3, c4, c5, c6, c7, c8, c9⟩ := X
  have h6 := c6.2.1
  refine pm_aload_n K dX7_collect_0 (q := 1) rfl rfl rfl ?_
  refine pm_get K inX7 rfl (k := 9) (by decide) wlX7_121 rfl (by have := M.1; omega) M.2.1 rfl dX7_collect_1 (q := 4) rfl ?_
  refine pm_top (y := nI (ch.length)) (c6.1) ?_
  refine pm_bipush (v := 6) K dX7_collect_4 (q := 6) rfl (by decide) ?_
  refine pm_icmp_lt K dX7_collect_6 (tgt := 11) (q := 9) rfl rfl (fun z => ?_) (fun z => ?_)
  · have hx : ch.length < 6 := (kltI (a := ch.length) (b := 6) rfl rfl (by omega) (by omega)).mp z
    rw [decide_eq_true hx, if_pos hx] at Z
    refine pm_aload_n K dX7_collect_11 (q := 12) rfl rfl rfl ?_
    refine pm_get K inX7 rfl (k := 10) (by decide) wlX7_28 rfl (by have := M.1; omega) M.2.1 rfl dX7_collect_12 (q := 15) rfl ?_
    refine pm_aload_n K dX7_collect_15 (q := 16) rfl rfl rfl ?_
    refine pm_get K inX7 rfl (k := 9) (by decide) wlX7_121 rfl (by have := M.1; omega) M.2.1 rfl dX7_collect_16 (q := 19) rfl ?_
    refine pm_top (y := nI (ch.length)) (c6.1) ?_
    refine pm_iload_n K dX7_collect_19 (q := 20) rfl rfl rfl ?_
    refine mo_zast K M (show ch.length < 6 by omega) hd dX7_collect_20 (q := 21) rfl (fun hm1 M1 Fm1 => ?_)
    refine pm_aload_n K dX7_collect_21 (q := 22) rfl rfl rfl ?_
    refine pm_get K inX7 rfl (k := 11) (by decide) wlX7_32 rfl (by have := M1.1; omega) M1.2.1 rfl dX7_collect_22 (q := 25) rfl ?_
    refine pm_ic3 K dX7_collect_25 (q := 26) rfl ?_
    refine pm_aload_n K dX7_collect_26 (q := 27) rfl rfl rfl ?_
    refine pm_get K inX7 rfl (k := 9) (by decide) wlX7_121 rfl (by have := M1.1; omega) M1.2.1 rfl dX7_collect_27 (q := 30) rfl ?_
    refine pm_top (y := nI (ch.length)) (c6.1) ?_
    refine pm_imul K dX7_collect_30 (q := 31) rfl ?_
    refine pm_top (y := nI (3 * ch.length)) (kmul (a := 3) (b := ch.length) rfl rfl) ?_
    refine pm_iload_n K dX7_collect_31 (q := 32) rfl rfl rfl ?_
    refine mo_iast (j := 7) K M1 (by decide) (by decide) (show 3 * ch.length < 18 by omega) dX7_collect_32 (q := 33) rfl (fun hm2 M2 Fm2 => ?_)
    refine pm_aload_n K dX7_collect_33 (q := 34) rfl rfl rfl ?_
    refine pm_get K inX7 rfl (k := 11) (by decide) wlX7_32 rfl (by have := M2.1; omega) M2.2.1 rfl dX7_collect_34 (q := 37) rfl ?_
    refine pm_ic3 K dX7_collect_37 (q := 38) rfl ?_
    refine pm_aload_n K dX7_collect_38 (q := 39) rfl rfl rfl ?_
    refine pm_get K inX7 rfl (k := 9) (by decide) wlX7_121 rfl (by have := M2.1; omega) M2.2.1 rfl dX7_collect_39 (q := 42) rfl ?_
    refine pm_top (y := nI (ch.length)) (c6.1) ?_
    refine pm_imul K dX7_collect_42 (q := 43) rfl ?_
    refine pm_top (y := nI (3 * ch.length)) (kmul (a := 3) (b := ch.length) rfl rfl) ?_
    refine pm_ic1 K dX7_collect_43 (q := 44) rfl ?_
    refine pm_iadd K dX7_collect_44 (q := 45) rfl ?_
    refine pm_top (y := nI (3 * ch.length + 1)) (kadd (a := 3 * ch.length) (b := 1) rfl rfl) ?_
    refine pm_iload_n K dX7_collect_45 (q := 46) rfl rfl rfl ?_
    refine mo_iast (j := 7) K M2 (by decide) (by decide) (show 3 * ch.length + 1 < 18 by omega) dX7_collect_46 (q := 47) rfl (fun hm3 M3 Fm3 => ?_)
    refine pm_aload_n K dX7_collect_47 (q := 48) rfl rfl rfl ?_
    refine pm_get K inX7 rfl (k := 11) (by decide) wlX7_32 rfl (by have := M3.1; omega) M3.2.1 rfl dX7_collect_48 (q := 51) rfl ?_
    refine pm_ic3 K dX7_collect_51 (q := 52) rfl ?_
    refine pm_aload_n K dX7_collect_52 (q := 53) rfl rfl rfl ?_
    refine pm_get K inX7 rfl (k := 9) (by decide) wlX7_121 rfl (by have := M3.1; omega) M3.2.1 rfl dX7_collect_53 (q := 56) rfl ?_
    refine pm_top (y := nI (ch.length)) (c6.1) ?_
    refine pm_imul K dX7_collect_56 (q := 57) rfl ?_
    refine pm_top (y := nI (3 * ch.length)) (kmul (a := 3) (b := ch.length) rfl rfl) ?_
    refine pm_ic2 K dX7_collect_57 (q := 58) rfl ?_
    refine pm_iadd K dX7_collect_58 (q := 59) rfl ?_
    refine pm_top (y := nI (3 * ch.length + 2)) (kadd (a := 3 * ch.length) (b := 2) rfl rfl) ?_
    refine pm_iload K dX7_collect_59 (q := 61) rfl rfl ?_
    refine mo_iast (j := 7) K M3 (by decide) (by decide) (show 3 * ch.length + 2 < 18 by omega) dX7_collect_61 (q := 62) rfl (fun hm4 M4 Fm4 => ?_)
    refine pm_aload_n K dX7_collect_62 (q := 63) rfl rfl rfl ?_
    refine pm_dup K dX7_collect_63 (q := 64) rfl ?_
    refine pm_get K inX7 rfl (k := 9) (by decide) wlX7_121 rfl (by have := M4.1; omega) M4.2.1 rfl dX7_collect_64 (q := 67) rfl ?_
    refine pm_top (y := nI (ch.length)) (c6.1) ?_
    refine pm_ic1 K dX7_collect_67 (q := 68) rfl ?_
    refine pm_iadd K dX7_collect_68 (q := 69) rfl ?_
    refine pm_top (y := nI (ch.length + 1)) (kadd (a := ch.length) (b := 1) rfl rfl) ?_
    refine mo_put (k := 9) K M4 (by decide) wlX7_121 dX7_collect_69 (q := 72) rfl (fun hm5 M5 Fm5 => ?_)
    refine pm_ic1 K dX7_collect_72 (q := 73) rfl ?_
    exact pm_iret Z dX7_collect_73 rfl rfl (Nat.le_of_ble_eq_true rfl) (Nat.le_of_ble_eq_true rfl) ⟨rfl, ⟨rfl, ⟨_, _, M5, c1, c2, c3, c4, c5, ⟨by rw [List.length_append]; rfl, by rw [List.length_append]; exact hx, fun k hk => ch_push hx c6.2.2 hd k hk⟩, c7, c8, c9⟩, ((((Fm1.tr Fm2).tr Fm3).tr Fm4).tr Fm5)⟩⟩
  · have hx : ¬ ch.length < 6 := fun y => z ((kltI (a := ch.length) (b := 6) rfl rfl (by omega) (by omega)).mpr y)
    rw [decide_eq_false hx, if_neg hx] at Z
    refine pm_ic0 K dX7_collect_9 (q := 10) rfl ?_
    exact pm_iret Z dX7_collect_10 rfl rfl (Nat.le_of_ble_eq_true rfl) (Nat.le_of_ble_eq_true rfl) ⟨rfl, ⟨rfl, ⟨g, A, M, c1, c2, c3, c4, c5, c6, c7, c8, c9⟩, mo_fr.rf⟩⟩
set_option maxRecDepth 100000 in
theorem m_put (l : Launch) {n : Nat} {h : pm_H} {T : Nat → List bg_T} {ch : List (Int32 × bg_T)} {pl : Bool} {so : Int32} {sc : Nat} {S : Nat → Nat → Int32} {lr : List bg_T} {pa : List (Int32 × Int32 × Int32 × Int32)} {la : Nat} (X : m_at n h T ch pl so sc S lr pa la) (a b c : Int32) : bM0 l yX7_put cX7_put 4 (some (.boolean)) 1 [.ref 112, .int a, .int b, .int c] n h (fun r h' => r = some (.int (b2i (decide (ch.length < 6)))) ∧ m_at n h' T (if ch.length < 6 then ch ++ [(0, a, b, c)] else ch) pl so sc S lr pa la ∧ mo_fr h h') := by
  refine pm_enter rfl (Nat.le_of_ble_eq_true rfl) (fun G K Z => ?_)
  have X0 := X
  obtain ⟨g, A, M, c1, c2, c3, c4, c5, c6, c7, c8, c9⟩ := X
  refine pm_aload_n K dX7_put_0 (q := 1) rfl rfl rfl ?_
  refine pm_ic0 K dX7_put_1 (q := 2) rfl ?_
  refine pm_iload_n K dX7_put_2 (q := 3) rfl rfl rfl ?_
  refine pm_iload_n K dX7_put_3 (q := 4) rfl rfl rfl ?_
  refine pm_iload_n K dX7_put_4 (q := 5) rfl rfl rfl ?_
  refine pm_callV0 K gw_ok wcX7_124 (m_collect l X0 (d := 0) (Or.inl rfl) a b c) rfl (by have := M.1; omega) M.2.1 rfl rfl (Nat.le_of_ble_eq_true rfl) (by decide) dX7_put_5 (q := 8) rfl (fun r2 h2 hp => ?_)
  obtain ⟨rfl, X2, F2⟩ := hp
  exact pm_iret Z dX7_put_8 rfl (b2i_nar _) (Nat.le_of_ble_eq_true rfl) (Nat.le_of_ble_eq_true rfl) ⟨rfl, ⟨rfl, X2, F2⟩⟩
set_option maxRecDepth 100000 in
theorem m_drop (l : Launch) {n : Nat} {h : pm_H} {T : Nat → List bg_T} {ch : List (Int32 × bg_T)} {pl : Bool} {so : Int32} {sc : Nat} {S : Nat → Nat → Int32} {lr : List bg_T} {pa : List (Int32 × Int32 × Int32 × Int32)} {la : Nat} (X : m_at n h T ch pl so sc S lr pa la) (a : Int32) : bM0 l yX7_drop cX7_drop 2 (some (.boolean)) 1 [.ref 112, .int a] n h (fun r h' => r = some (.int (b2i (decide (ch.length < 6)))) ∧ m_at n h' T (if ch.length < 6 then ch ++ [(1, a, 0, 0)] else ch) pl so sc S lr pa la ∧ mo_fr h h') := by
  refine pm_enter rfl (Nat.le_of_ble_eq_true rfl) (fun G K Z => ?_)
  have X0 := X
  obtain ⟨g, A, M, c1, c2, c3, c4, c5, c6, c7, c8, c9⟩ := X
  refine pm_aload_n K dX7_drop_0 (q := 1) rfl rfl rfl ?_
  refine pm_ic1 K dX7_drop_1 (q := 2) rfl ?_
  refine pm_iload_n K dX7_drop_2 (q := 3) rfl rfl rfl ?_
  refine pm_ic0 K dX7_drop_3 (q := 4) rfl ?_
  refine pm_ic0 K dX7_drop_4 (q := 5) rfl ?_
  refine pm_callV0 K gw_ok wcX7_124 (m_collect l X0 (d := 1) (Or.inr rfl) a 0 0) rfl (by have := M.1; omega) M.2.1 rfl rfl (Nat.le_of_ble_eq_true rfl) (by decide) dX7_drop_5 (q := 8) rfl (fun r2 h2 hp => ?_)
  obtain ⟨rfl, X2, F2⟩ := hp
  exact pm_iret Z dX7_drop_8 rfl (b2i_nar _) (Nat.le_of_ble_eq_true rfl) (Nat.le_of_ble_eq_true rfl) ⟨rfl, ⟨rfl, X2, F2⟩⟩
set_option maxRecDepth 100000 in
theorem m_give (l : Launch) {n : Nat} {h : pm_H} {g : Nat → Int32} {A : Nat → Nat → Int32} (M : mo_at n h g A) {lg : List bg_T} (hg : gi g A lg) (hb : lg.length < 1000) (a b c : Int32) : bM0 l yX7_give cX7_give 4 none 0 [.ref 112, .int a, .int b, .int c] n h (fun r h' => r = none ∧ ∃ g' A', mo_at n h' g' A' ∧ gi g' A' (lg ++ [(a, b, c)]) ∧ gf [15] [9] g A g' A' ∧ mo_fr h h') := by
  refine pm_enter rfl (Nat.le_of_ble_eq_true rfl) (fun G K Z => ?_)
  refine pm_aload_n K dX7_give_0 (q := 1) rfl rfl rfl ?_
  refine pm_get K inX7 rfl (k := 15) (by decide) wlX7_75 rfl (by have := M.1; omega) M.2.1 rfl dX7_give_1 (q := 4) rfl ?_
  refine pm_top (y := nI (lg.length)) (hg.1) ?_
  refine pm_bipush (v := 25) K dX7_give_4 (q := 6) rfl (by decide) ?_
  refine pm_icmp_ge K dX7_give_6 (tgt := 49) (q := 9) rfl rfl (fun z => ?_) (fun z => ?_)
  · have hx : 25 ≤ lg.length := (kleI (a := 25) (b := lg.length) rfl rfl (by omega) (by omega)).mp z
    refine pm_aload_n K dX7_give_49 (q := 50) rfl rfl rfl ?_
    refine pm_dup K dX7_give_50 (q := 51) rfl ?_
    refine pm_get K inX7 rfl (k := 15) (by decide) wlX7_75 rfl (by have := M.1; omega) M.2.1 rfl dX7_give_51 (q := 54) rfl ?_
    refine pm_top (y := nI (lg.length)) (hg.1) ?_
    refine pm_ic1 K dX7_give_54 (q := 55) rfl ?_
    refine pm_iadd K dX7_give_55 (q := 56) rfl ?_
    refine pm_top (y := nI (lg.length + 1)) (kadd (a := lg.length) (b := 1) rfl rfl) ?_
    refine mo_put (k := 15) K M (by decide) wlX7_75 dX7_give_56 (q := 59) rfl (fun hm1 M1 Fm1 => ?_)
    exact pm_vret Z dX7_give_59 rfl (Nat.le_of_ble_eq_true rfl) (Nat.le_of_ble_eq_true rfl) ⟨rfl, ⟨rfl, _, _, M1, gi_skip hg (by omega) _, gf.rf.up (by decide) _, Fm1⟩⟩
  · have hx : ¬ 25 ≤ lg.length := fun y => z ((kleI (a := 25) (b := lg.length) rfl rfl (by omega) (by omega)).mpr y)
    refine pm_aload_n K dX7_give_9 (q := 10) rfl rfl rfl ?_
    refine pm_get K inX7 rfl (k := 14) (by decide) wlX7_38 rfl (by have := M.1; omega) M.2.1 rfl dX7_give_10 (q := 13) rfl ?_
    refine pm_ic3 K dX7_give_13 (q := 14) rfl ?_
    refine pm_aload_n K dX7_give_14 (q := 15) rfl rfl rfl ?_
    refine pm_get K inX7 rfl (k := 15) (by decide) wlX7_75 rfl (by have := M.1; omega) M.2.1 rfl dX7_give_15 (q := 18) rfl ?_
    refine pm_top (y := nI (lg.length)) (hg.1) ?_
    refine pm_imul K dX7_give_18 (q := 19) rfl ?_
    refine pm_top (y := nI (3 * lg.length)) (kmul (a := 3) (b := lg.length) rfl rfl) ?_
    refine pm_iload_n K dX7_give_19 (q := 20) rfl rfl rfl ?_
    refine mo_iast (j := 9) K M (by decide) (by decide) (show 3 * lg.length < 75 by omega) dX7_give_20 (q := 21) rfl (fun hm1 M1 Fm1 => ?_)
    refine pm_aload_n K dX7_give_21 (q := 22) rfl rfl rfl ?_
    refine pm_get K inX7 rfl (k := 14) (by decide) wlX7_38 rfl (by have := M1.1; omega) M1.2.1 rfl dX7_give_22 (q := 25) rfl ?_
    refine pm_ic3 K dX7_give_25 (q := 26) rfl ?_
    refine pm_aload_n K dX7_give_26 (q := 27) rfl rfl rfl ?_
    refine pm_get K inX7 rfl (k := 15) (by decide) wlX7_75 rfl (by have := M1.1; omega) M1.2.1 rfl dX7_give_27 (q := 30) rfl ?_
    refine pm_top (y := nI (lg.length)) (hg.1) ?_
    refine pm_imul K dX7_give_30 (q := 31) rfl ?_
    refine pm_top (y := nI (3 * lg.length)) (kmul (a := 3) (b := lg.length) rfl rfl) ?_
    refine pm_ic1 K dX7_give_31 (q := 32) rfl ?_
    refine pm_iadd K dX7_give_32 (q := 33) rfl ?_
    refine pm_top (y := nI (3 * lg.length + 1)) (kadd (a := 3 * lg.length) (b := 1) rfl rfl) ?_
    refine pm_iload_n K dX7_give_33 (q := 34) rfl rfl rfl ?_
    refine mo_iast (j := 9) K M1 (by decide) (by decide) (show 3 * lg.length + 1 < 75 by omega) dX7_give_34 (q := 35) rfl (fun hm2 M2 Fm2 => ?_)
    refine pm_aload_n K dX7_give_35 (q := 36) rfl rfl rfl ?_
    refine pm_get K inX7 rfl (k := 14) (by decide) wlX7_38 rfl (by have := M2.1; omega) M2.2.1 rfl dX7_give_36 (q := 39) rfl ?_
    refine pm_ic3 K dX7_give_39 (q := 40) rfl ?_
    refine pm_aload_n K dX7_give_40 (q := 41) rfl rfl rfl ?_
    refine pm_get K inX7 rfl (k := 15) (by decide) wlX7_75 rfl (by have := M2.1; omega) M2.2.1 rfl dX7_give_41 (q := 44) rfl ?_
    refine pm_top (y := nI (lg.length)) (hg.1) ?_
    refine pm_imul K dX7_give_44 (q := 45) rfl ?_
    refine pm_top (y := nI (3 * lg.length)) (kmul (a := 3) (b := lg.length) rfl rfl) ?_
    refine pm_ic2 K dX7_give_45 (q := 46) rfl ?_
    refine pm_iadd K dX7_give_46 (q := 47) rfl ?_
    refine pm_top (y := nI (3 * lg.length + 2)) (kadd (a := 3 * lg.length) (b := 2) rfl rfl) ?_
    refine pm_iload_n K dX7_give_47 (q := 48) rfl rfl rfl ?_
    refine mo_iast (j := 9) K M2 (by decide) (by decide) (show 3 * lg.length + 2 < 75 by omega) dX7_give_48 (q := 49) rfl (fun hm3 M3 Fm3 => ?_)
    refine pm_aload_n K dX7_give_49 (q := 50) rfl rfl rfl ?_
    refine pm_dup K dX7_give_50 (q := 51) rfl ?_
    refine pm_get K inX7 rfl (k := 15) (by decide) wlX7_75 rfl (by have := M3.1; omega) M3.2.1 rfl dX7_give_51 (q := 54) rfl ?_
    refine pm_top (y := nI (lg.length)) (hg.1) ?_
    refine pm_ic1 K dX7_give_54 (q := 55) rfl ?_
    refine pm_iadd K dX7_give_55 (q := 56) rfl ?_
    refine pm_top (y := nI (lg.length + 1)) (kadd (a := lg.length) (b := 1) rfl rfl) ?_
    refine mo_put (k := 15) K M3 (by decide) wlX7_75 dX7_give_56 (q := 59) rfl (fun hm4 M4 Fm4 => ?_)
    exact pm_vret Z dX7_give_59 rfl (Nat.le_of_ble_eq_true rfl) (Nat.le_of_ble_eq_true rfl) ⟨rfl, ⟨rfl, _, _, M4, gi_push hg a b c, (((gf.rf.ua (by decide) _).ua (by decide) _).ua (by decide) _).up (by decide) _, (((Fm1.tr Fm2).tr Fm3).tr Fm4)⟩⟩
set_option maxRecDepth 100000 in
theorem m_passes (l : Launch) {n : Nat} {h : pm_H} {g : Nat → Int32} {A : Nat → Nat → Int32} (M : mo_at n h g A) (v op x : Int32) : bM0 l yX7_passes cX7_passes 4 (some (.boolean)) 0 [.ref 112, .int v, .int op, .int x] n h (fun r h' => r = some (.int (b2i (op_m v op x))) ∧ h' = h) := by
  refine pm_enter rfl (Nat.le_of_ble_eq_true rfl) (fun G K Z => ?_)
  refine pm_iload_n K dX7_passes_0 (q := 1) rfl rfl rfl ?_
  refine pm_if_ne K dX7_passes_1 (tgt := 17) (q := 4) rfl rfl (fun ho => ?_) (fun ho => ?_)
  · refine pm_iload_n K dX7_passes_17 (q := 18) rfl rfl rfl ?_
    refine pm_ic1 K dX7_passes_18 (q := 19) rfl ?_
    refine pm_icmp_ne K dX7_passes_19 (tgt := 35) (q := 22) rfl rfl (fun h1 => ?_) (fun h1 => ?_)
    · refine pm_iload_n K dX7_passes_35 (q := 36) rfl rfl rfl ?_
      refine pm_iload_n K dX7_passes_36 (q := 37) rfl rfl rfl ?_
      refine pm_icmp_le K dX7_passes_37 (tgt := 44) (q := 40) rfl rfl (fun hx => ?_) (fun hx => ?_)
      · refine pm_ic0 K dX7_passes_44 (q := 45) rfl ?_
        exact pm_iret Z dX7_passes_45 rfl rfl (Nat.le_of_ble_eq_true rfl) (Nat.le_of_ble_eq_true rfl) ⟨rfl, ⟨congrArg (fun z => some (Value.int z)) (by rw [op_m, if_neg ho, if_neg h1, decide_eq_false (Int32.not_lt.mpr hx)]; rfl), rfl⟩⟩
      · refine pm_ic1 K dX7_passes_40 (q := 41) rfl ?_
        refine pm_goto K dX7_passes_41 (q := 45) rfl ?_
        exact pm_iret Z dX7_passes_45 rfl rfl (Nat.le_of_ble_eq_true rfl) (Nat.le_of_ble_eq_true rfl) ⟨rfl, ⟨congrArg (fun z => some (Value.int z)) (by rw [op_m, if_neg ho, if_neg h1, decide_eq_true (Int32.not_le.mp hx)]; rfl), rfl⟩⟩
    · refine pm_iload_n K dX7_passes_22 (q := 23) rfl rfl rfl ?_
      refine pm_iload_n K dX7_passes_23 (q := 24) rfl rfl rfl ?_
      refine pm_icmp_ne K dX7_passes_24 (tgt := 31) (q := 27) rfl rfl (fun hx => ?_) (fun hx => ?_)
      · refine pm_ic0 K dX7_passes_31 (q := 32) rfl ?_
        refine pm_goto K dX7_passes_32 (q := 45) rfl ?_
        exact pm_iret Z dX7_passes_45 rfl rfl (Nat.le_of_ble_eq_true rfl) (Nat.le_of_ble_eq_true rfl) ⟨rfl, ⟨congrArg (fun z => some (Value.int z)) (by rw [op_m, if_neg ho, if_pos h1, decide_eq_false (hx)]; rfl), rfl⟩⟩
      · refine pm_ic1 K dX7_passes_27 (q := 28) rfl ?_
        refine pm_goto K dX7_passes_28 (q := 45) rfl ?_
        exact pm_iret Z dX7_passes_45 rfl rfl (Nat.le_of_ble_eq_true rfl) (Nat.le_of_ble_eq_true rfl) ⟨rfl, ⟨congrArg (fun z => some (Value.int z)) (by rw [op_m, if_neg ho, if_pos h1, decide_eq_true (hx)]; rfl), rfl⟩⟩
  · refine pm_iload_n K dX7_passes_4 (q := 5) rfl rfl rfl ?_
    refine pm_iload_n K dX7_passes_5 (q := 6) rfl rfl rfl ?_
    refine pm_icmp_ge K dX7_passes_6 (tgt := 13) (q := 9) rfl rfl (fun hx => ?_) (fun hx => ?_)
    · refine pm_ic0 K dX7_passes_13 (q := 14) rfl ?_
      refine pm_goto K dX7_passes_14 (q := 45) rfl ?_
      exact pm_iret Z dX7_passes_45 rfl rfl (Nat.le_of_ble_eq_true rfl) (Nat.le_of_ble_eq_true rfl) ⟨rfl, ⟨congrArg (fun z => some (Value.int z)) (by rw [op_m, if_pos ho, decide_eq_false (Int32.not_lt.mpr hx)]; rfl), rfl⟩⟩
    · refine pm_ic1 K dX7_passes_9 (q := 10) rfl ?_
      refine pm_goto K dX7_passes_10 (q := 45) rfl ?_
      exact pm_iret Z dX7_passes_45 rfl rfl (Nat.le_of_ble_eq_true rfl) (Nat.le_of_ble_eq_true rfl) ⟨rfl, ⟨congrArg (fun z => some (Value.int z)) (by rw [op_m, if_pos ho, decide_eq_true (Int32.not_le.mp hx)]; rfl), rfl⟩⟩
set_option maxRecDepth 100000 in
theorem m_part (l : Launch) {n : Nat} {h : pm_H} {g : Nat → Int32} {A : Nat → Nat → Int32} (M : mo_at n h g A) {pa : List (Int32 × Int32 × Int32 × Int32)} (hp : g 18 = nI pa.length ∧ ∀ s, s < pa.length → pa[s]? = some (A 11 s, A 12 s, A 13 s, A 14 s)) (hb : pa.length < 3) (a b c d : Int32) : bM0 l yX7_part cX7_part 5 none 0 [.ref 112, .int a, .int b, .int c, .int d] n h (fun r h' => r = none ∧ ∃ g' A', mo_at n h' g' A' ∧ (g' 18 = nI (pa ++ [(a, b, c, d)]).length ∧ ∀ s, s < (pa ++ [(a, b, c, d)]).length → (pa ++ [(a, b, c, d)])[s]? = some (A' 11 s, A' 12 s, A' 13 s, A' 14 s)) ∧ gf [18] [11, 12, 13, 14] g A g' A' ∧ mo_fr h h') := by
  refine pm_enter rfl (Nat.le_of_ble_eq_true rfl) (fun G K Z => ?_)
  refine pm_aload_n K dX7_part_0 (q := 1) rfl rfl rfl ?_
  refine pm_get K inX7 rfl (k := 19) (by decide) wlX7_44 rfl (by have := M.1; omega) M.2.1 rfl dX7_part_1 (q := 4) rfl ?_
  refine pm_aload_n K dX7_part_4 (q := 5) rfl rfl rfl ?_
  refine pm_get K inX7 rfl (k := 18) (by decide) wlX7_99 rfl (by have := M.1; omega) M.2.1 rfl dX7_part_5 (q := 8) rfl ?_
  refine pm_top (y := nI (pa.length)) (hp.1) ?_
  refine pm_iload_n K dX7_part_8 (q := 9) rfl rfl rfl ?_
  refine mo_iast (j := 11) K M (by decide) (by decide) (show pa.length < 3 by omega) dX7_part_9 (q := 10) rfl (fun hm1 M1 Fm1 => ?_)
  refine pm_aload_n K dX7_part_10 (q := 11) rfl rfl rfl ?_
  refine pm_get K inX7 rfl (k := 20) (by decide) wlX7_47 rfl (by have := M1.1; omega) M1.2.1 rfl dX7_part_11 (q := 14) rfl ?_
  refine pm_aload_n K dX7_part_14 (q := 15) rfl rfl rfl ?_
  refine pm_get K inX7 rfl (k := 18) (by decide) wlX7_99 rfl (by have := M1.1; omega) M1.2.1 rfl dX7_part_15 (q := 18) rfl ?_
  refine pm_top (y := nI (pa.length)) (hp.1) ?_
  refine pm_iload_n K dX7_part_18 (q := 19) rfl rfl rfl ?_
  refine mo_iast (j := 12) K M1 (by decide) (by decide) (show pa.length < 3 by omega) dX7_part_19 (q := 20) rfl (fun hm2 M2 Fm2 => ?_)
  refine pm_aload_n K dX7_part_20 (q := 21) rfl rfl rfl ?_
  refine pm_get K inX7 rfl (k := 21) (by decide) wlX7_50 rfl (by have := M2.1; omega) M2.2.1 rfl dX7_part_21 (q := 24) rfl ?_
  refine pm_aload_n K dX7_part_24 (q := 25) rfl rfl rfl ?_
  refine pm_get K inX7 rfl (k := 18) (by decide) wlX7_99 rfl (by have := M2.1; omega) M2.2.1 rfl dX7_part_25 (q := 28) rfl ?_
  refine pm_top (y := nI (pa.length)) (hp.1) ?_
  refine pm_iload_n K dX7_part_28 (q := 29) rfl rfl rfl ?_
  refine mo_iast (j := 13) K M2 (by decide) (by decide) (show pa.length < 3 by omega) dX7_part_29 (q := 30) rfl (fun hm3 M3 Fm3 => ?_)
  refine pm_aload_n K dX7_part_30 (q := 31) rfl rfl rfl ?_
  refine pm_get K inX7 rfl (k := 22) (by decide) wlX7_53 rfl (by have := M3.1; omega) M3.2.1 rfl dX7_part_31 (q := 34) rfl ?_
  refine pm_aload_n K dX7_part_34 (q := 35) rfl rfl rfl ?_
  refine pm_get K inX7 rfl (k := 18) (by decide) wlX7_99 rfl (by have := M3.1; omega) M3.2.1 rfl dX7_part_35 (q := 38) rfl ?_
  refine pm_top (y := nI (pa.length)) (hp.1) ?_
  refine pm_iload K dX7_part_38 (q := 40) rfl rfl ?_
  refine mo_iast (j := 14) K M3 (by decide) (by decide) (show pa.length < 3 by omega) dX7_part_40 (q := 41) rfl (fun hm4 M4 Fm4 => ?_)
  refine pm_aload_n K dX7_part_41 (q := 42) rfl rfl rfl ?_
  refine pm_dup K dX7_part_42 (q := 43) rfl ?_
  refine pm_get K inX7 rfl (k := 18) (by decide) wlX7_99 rfl (by have := M4.1; omega) M4.2.1 rfl dX7_part_43 (q := 46) rfl ?_
  refine pm_top (y := nI (pa.length)) (hp.1) ?_
  refine pm_ic1 K dX7_part_46 (q := 47) rfl ?_
  refine pm_iadd K dX7_part_47 (q := 48) rfl ?_
  refine pm_top (y := nI (pa.length + 1)) (kadd (a := pa.length) (b := 1) rfl rfl) ?_
  refine mo_put (k := 18) K M4 (by decide) wlX7_99 dX7_part_48 (q := 51) rfl (fun hm5 M5 Fm5 => ?_)
  exact pm_vret Z dX7_part_51 rfl (Nat.le_of_ble_eq_true rfl) (Nat.le_of_ble_eq_true rfl) ⟨rfl, ⟨rfl, _, _, M5, ⟨by rw [List.length_append]; rfl, fun s hs => pa_push hp.2 a b c d s hs⟩, ((((gf.rf.ua (by decide) _).ua (by decide) _).ua (by decide) _).ua (by decide) _).up (by decide) _, ((((Fm1.tr Fm2).tr Fm3).tr Fm4).tr Fm5)⟩⟩
