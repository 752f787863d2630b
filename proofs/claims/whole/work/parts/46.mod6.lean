/-! The reference: apply. -/
/-- a row that no change drops -/
def nd (ch : List (Int32 × bg_T)) (t : bg_T) : Bool := ch.all (fun c => !(decide (¬ c.1 = 0 ∧ c.2.1 = t.1)))
def mb (lt : List bg_T) (ch : List (Int32 × bg_T)) : List bg_T := lt.filter (nd ch) ++ (ch.filter (fun c => decide (c.1 = 0))).map (fun c => c.2)
theorem nd_s {ch : List (Int32 × bg_T)} {t : bg_T} {k : Nat} {d x y z : Int32} (h : ch[k]? = some (d, x, y, z)) : nd (ch.take (k + 1)) t = (nd (ch.take k) t && !(decide (¬ d = 0 ∧ x = t.1))) := by
  unfold nd
  rw [List.take_succ, h, List.all_append]
  simp
theorem fl_n {p : bg_T → Bool} {l : List bg_T} {i : Nat} (hi : i < l.length) (h : p (l.getD i (0, 0, 0)) = false) : (l.take (i + 1)).filter p = (l.take i).filter p := by
  rw [take_s hi, List.filter_append, List.filter_cons, h, if_neg (by decide), List.filter_nil, List.append_nil]
theorem fl_t {p : bg_T → Bool} {l : List bg_T} {i : Nat} (hi : i < l.length) (h : p (l.getD i (0, 0, 0)) = true) : (l.take (i + 1)).filter p = (l.take i).filter p ++ [l.getD i (0, 0, 0)] := by
  rw [take_s hi, List.filter_append, List.filter_cons, h, if_pos rfl, List.filter_nil]
theorem fl_len (p : bg_T → Bool) (l : List bg_T) (i : Nat) : ((l.take i).filter p).length ≤ l.length := by
  refine Nat.le_trans (List.length_filter_le _ _) ?_
  rw [List.length_take]
  omega
theorem mb_p {lt : List bg_T} {ch : List (Int32 × bg_T)} (h1 : lt.length ≤ 12) (h2 : ch.length ≤ 6) {i : Nat} : (lt.filter (nd ch) ++ ((ch.take i).filter (fun c => decide (c.1 = 0))).map (fun c => c.2)).length ≤ 18 := by
  rw [List.length_append, List.length_map]
  have a := List.length_filter_le (nd ch) lt
  have b := List.length_filter_le (fun c : Int32 × bg_T => decide (c.1 = 0)) (ch.take i)
  rw [List.length_take] at b
  omega
theorem mb_len {lt : List bg_T} {ch : List (Int32 × bg_T)} (h1 : lt.length ≤ 12) (h2 : ch.length ≤ 6) : (mb lt ch).length ≤ 18 := by
  have := mb_p h1 h2 (i := ch.length)
  rw [List.take_length] at this
  exact this
theorem mb_n {ch : List (Int32 × bg_T)} {i : Nat} {d x y z : Int32} (h : ch[i]? = some (d, x, y, z)) (hd : ¬ d = 0) : ((ch.take (i + 1)).filter (fun c => decide (c.1 = 0))).map (fun c => c.2) = ((ch.take i).filter (fun c => decide (c.1 = 0))).map (fun c => c.2) := by
  rw [List.take_succ, h, List.filter_append, Option.toList_some, List.filter_cons, if_neg (by simpa using hd), List.filter_nil, List.append_nil]
theorem mb_t {ch : List (Int32 × bg_T)} {i : Nat} {d x y z : Int32} (h : ch[i]? = some (d, x, y, z)) (hd : d = 0) : ((ch.take (i + 1)).filter (fun c => decide (c.1 = 0))).map (fun c => c.2) = ((ch.take i).filter (fun c => decide (c.1 = 0))).map (fun c => c.2) ++ [(x, y, z)] := by
  rw [List.take_succ, h, List.filter_append, Option.toList_some, List.filter_cons, if_pos (by simpa using hd), List.filter_nil, List.map_append]
  rfl
theorem mb_o {g g' : Nat → Int32} {A A' : Nat → Nat → Int32} {L : List (Int32 × Int32 × Int32 × Int32)} (h : g 23 = 0 ∧ (g 18 = nI 1 ∧ ∀ s, s < 1 → L[s]? = some (A 11 s, A 12 s, A 13 s, A 14 s))) (F : gf [15] [9] g A g' A') : g' 23 = 0 ∧ (g' 18 = nI 1 ∧ ∀ s, s < 1 → L[s]? = some (A' 11 s, A' 12 s, A' 13 s, A' 14 s)) := by
  rw [F.1 23 (by decide), F.1 18 (by decide), F.2 11 (by decide), F.2 12 (by decide), F.2 13 (by decide), F.2 14 (by decide)]
  exact h
theorem rs5 {g g1 : Nat → Int32} {A A1 A2 : Nat → Nat → Int32} {S : Nat → Nat → Int32} {sc : Nat} (c5 : ∀ s, s < sc → A 2 s = S s 0 ∧ A 3 s = S s 1 ∧ A 4 s = S s 2 ∧ A 5 s = S s 3) (F : gf [15, 18, 23] [9, 11, 12, 13, 14] g A g1 A1) (F2 : gf [] [0] g1 A1 g1 A2) : ∀ s, s < sc → A2 2 s = S s 0 ∧ A2 3 s = S s 1 ∧ A2 4 s = S s 2 ∧ A2 5 s = S s 3 := by
  rw [F2.2 2 (by decide), F2.2 3 (by decide), F2.2 4 (by decide), F2.2 5 (by decide), F.2 2 (by decide), F.2 3 (by decide), F.2 4 (by decide), F.2 5 (by decide)]; exact c5
theorem cp_t {a b c : Nat → Int32} {j k : Nat} (h : ∀ i, a i = if 36 * j ≤ i ∧ i < 36 * j + k then b (i - 36 * j) else c i) (i : Nat) : upd a (36 * j + k) (b k) i = if 36 * j ≤ i ∧ i < 36 * j + (k + 1) then b (i - 36 * j) else c i := by
  show (if i = 36 * j + k then b k else a i) = _
  by_cases e : i = 36 * j + k
  · rw [if_pos e, if_pos (by omega), e, Nat.add_sub_cancel_left]
  · rw [if_neg e, h i]
    by_cases e2 : 36 * j ≤ i ∧ i < 36 * j + k
    · rw [if_pos e2, if_pos (by omega)]
    · rw [if_neg e2, if_neg (by omega)]
theorem mt_set {g : Nat → Int32} {A A5 : Nat → Nat → Int32} {T : Nat → List bg_T} {lm : List bg_T} {j : Nat} (hj : j < 3) (h12 : lm.length ≤ 12) (hg : gi g A lm) (c1 : ∀ t, t < 3 → (T t).length ≤ 12 ∧ A 1 t = nI (T t).length ∧ ls3 (A 0) (36 * t) (T t)) (h : ∀ i, A5 0 i = if 36 * j ≤ i ∧ i < 36 * j + 3 * lm.length then A 9 (i - 36 * j) else A 0 i) (e1 : A5 1 = A 1) (t : Nat) (ht : t < 3) : (va_up T j lm t).length ≤ 12 ∧ upd (A5 1) j (nI lm.length) t = nI (va_up T j lm t).length ∧ ls3 (A5 0) (36 * t) (va_up T j lm t) := by
  obtain ⟨d1, d2, d3⟩ := c1 t ht
  by_cases e : t = j
  · subst e
    have ev : va_up T t lm t = lm := if_pos rfl
    rw [ev]
    refine ⟨h12, if_pos rfl, fun k hk => ?_⟩
    rw [hg.2 k hk (by omega), h, h, h, if_pos (by omega), if_pos (by omega), if_pos (by omega)]
    rw [Nat.add_sub_cancel_left, show 36 * t + 3 * k + 1 - 36 * t = 3 * k + 1 by omega, show 36 * t + 3 * k + 2 - 36 * t = 3 * k + 2 by omega]
  · have ev : va_up T j lm t = T t := if_neg e
    rw [ev]
    refine ⟨d1, (if_neg e).trans ((congrFun e1 t).trans d2), ls3_eq (fun i h1 h2 => ?_) d3⟩
    rw [h, if_neg (by omega)]
set_option maxRecDepth 100000 in
theorem m_apply (l : Launch) {n : Nat} {h : pm_H} {T : Nat → List bg_T} {ch : List (Int32 × bg_T)} {pl : Bool} {so : Int32} {sc : Nat} {S : Nat → Nat → Int32} {lr : List bg_T} {pa : List (Int32 × Int32 × Int32 × Int32)} {la : Nat} (X : m_at n h T ch pl so sc S lr pa la) (t : Int32) : bM0 l yX7_apply cX7_apply 5 (some (.int)) 1 [.ref 112, .int t] n h (fun r h' => (tb t = false ∧ r = some (.int (-1)) ∧ h' = h) ∨ (tb t = true ∧ mo_fr h h' ∧ r = some (.int (if (mb (T t.toNatClampNeg) ch).length ≤ 12 then nI (mb (T t.toNatClampNeg) ch).length else -2)) ∧ m_at n h' (if (mb (T t.toNatClampNeg) ch).length ≤ 12 then va_up T t.toNatClampNeg (mb (T t.toNatClampNeg) ch) else T) [] pl so sc S lr [(5, nI (T t.toNatClampNeg).length, nI ch.length, 0)] 0)) := by
  refine pm_enter rfl (Nat.le_of_ble_eq_true rfl) (fun G K Z => ?_)
  obtain ⟨g, A, M, c1, c2, c3, c4, c5, c6, c7, c8, c9⟩ := X
  refine pm_iload_n K dX7_apply_0 (q := 1) rfl rfl rfl ?_
  refine pm_ic0 K dX7_apply_1 (q := 2) rfl ?_
  refine pm_ic2 K dX7_apply_2 (q := 3) rfl ?_
  refine pm_callS0 K gw_ok wcX7_56 (c_outside l t 0 2) rfl rfl (Nat.le_of_ble_eq_true rfl) (by decide) dX7_apply_3 (q := 6) rfl (fun rs hs hp => ?_)
  obtain ⟨rfl, e1⟩ := hp
  rw [e1, ou_tb]
  cases ht : tb t
  · rw [ht] at Z
    refine pm_if_eq K dX7_apply_6 (tgt := 11) (q := 9) rfl rfl (fun z => absurd z (by decide)) (fun _ => ?_)
    refine pm_icm1 K dX7_apply_9 (q := 10) rfl ?_
    exact pm_iret Z dX7_apply_10 rfl rfl (Nat.le_of_ble_eq_true rfl) (Nat.le_of_ble_eq_true rfl) ⟨rfl, (Or.inl ⟨rfl, rfl, rfl⟩)⟩
  · rw [ht] at Z
    refine pm_if_eq K dX7_apply_6 (tgt := 11) (q := 9) rfl rfl (fun _ => ?_) (fun z => absurd z (fun z => z rfl))
    obtain ⟨j, hj, rfl⟩ := tb_ok ht
    rw [nI_clamp (by omega)] at Z
    obtain ⟨t1, t2, t3⟩ := c1 j hj
    obtain ⟨k1, k2, k3⟩ := c6
    refine pm_aload_n K dX7_apply_11 (q := 12) rfl rfl rfl ?_
    refine pm_ic0 K dX7_apply_12 (q := 13) rfl ?_
    refine mo_put (k := 18) K M (by decide) wlX7_99 dX7_apply_13 (q := 16) rfl (fun hm1 M1 Fm1 => ?_)
    refine pm_aload_n K dX7_apply_16 (q := 17) rfl rfl rfl ?_
    refine pm_ic0 K dX7_apply_17 (q := 18) rfl ?_
    refine mo_put (k := 23) K M1 (by decide) wlX7_108 dX7_apply_18 (q := 21) rfl (fun hm2 M2 Fm2 => ?_)
    refine pm_aload_n K dX7_apply_21 (q := 22) rfl rfl rfl ?_
    refine pm_ic5 K dX7_apply_22 (q := 23) rfl ?_
    refine pm_aload_n K dX7_apply_23 (q := 24) rfl rfl rfl ?_
    refine pm_get K inX7 rfl (k := 1) (by decide) wlX7_13 rfl (by have := M2.1; omega) M2.2.1 rfl dX7_apply_24 (q := 27) rfl ?_
    refine pm_iload_n K dX7_apply_27 (q := 28) rfl rfl rfl ?_
    refine mo_iald (j := 1) K M2 (by decide) (by decide) (show j < 3 by omega) dX7_apply_28 (q := 29) rfl ?_
    refine pm_top (y := nI ((T j).length)) (t2) ?_
    refine pm_aload_n K dX7_apply_29 (q := 30) rfl rfl rfl ?_
    refine pm_get K inX7 rfl (k := 9) (by decide) wlX7_121 rfl (by have := M2.1; omega) M2.2.1 rfl dX7_apply_30 (q := 33) rfl ?_
    refine pm_top (y := nI (ch.length)) (k1) ?_
    refine pm_ic0 K dX7_apply_33 (q := 34) rfl ?_
    refine pm_callV0 K gw_ok wcX7_115 (m_part l M2 (pa := []) ⟨rfl, fun s hs => absurd hs (Nat.not_lt_zero _)⟩ (by decide) 5 (nI (T j).length) (nI ch.length) 0) rfl (by have := M2.1; omega) M2.2.1 rfl rfl (Nat.le_of_ble_eq_true rfl) (by decide) dX7_apply_34 (q := 37) rfl (fun r1 h1 hp => ?_)
    obtain ⟨rfl, g1, A1, M1, pp, F1, hf1⟩ := hp
    refine pm_aload_n K dX7_apply_37 (q := 38) rfl rfl rfl ?_
    refine pm_ic0 K dX7_apply_38 (q := 39) rfl ?_
    refine mo_put (k := 15) K M1 (by decide) wlX7_75 dX7_apply_39 (q := 42) rfl (fun hm3 M3 Fm3 => ?_)
    refine pm_bipush (v := 36) K dX7_apply_42 (q := 44) rfl (by decide) ?_
    refine pm_iload_n K dX7_apply_44 (q := 45) rfl rfl rfl ?_
    refine pm_imul K dX7_apply_45 (q := 46) rfl ?_
    refine pm_top (y := nI (36 * j)) (kmul (a := 36) (b := j) rfl rfl) ?_
    refine pm_istore_n K dX7_apply_46 (q := 47) rfl rfl (by decide) rfl ?_
    have Fa : gf [15, 18, 23] [9, 11, 12, 13, 14] g A g1 A1 := (((gf.rf (K := [15, 18, 23]) (J := [9, 11, 12, 13, 14])).up (k := 18) (by decide) 0).up (k := 23) (by decide) 0).tr (F1.mono (by decide) (by decide))
    have Fb : gf [15, 18, 23] [9, 11, 12, 13, 14] g A (upd g1 15 0) A1 := Fa.up (by decide) _
    have g23 : g1 23 = 0 := F1.1 23 (by decide)
    have hgi : gi (upd g1 15 0) A1 [] := ⟨rfl, fun k hk => absurd hk (Nat.not_lt_zero _)⟩
    obtain ⟨lm, hlm⟩ : ∃ z, z = mb (T j) ch := ⟨_, rfl⟩
    have hml : lm.length ≤ 18 := by rw [hlm]; exact mb_len t1 k2
    rw [← hlm] at Z
    have fin : ∀ (h2 : pm_H) (g2 : Nat → Int32) (A2 : Nat → Nat → Int32) (x2 x3 x4 : Option Value), mo_at n h2 g2 A2 → gi g2 A2 lm → gf [15, 18, 23] [9, 11, 12, 13, 14] g A g2 A2 → g2 23 = 0 ∧ (g2 18 = nI 1 ∧ ∀ s, s < 1 → [((5 : Int32), nI (T j).length, nI ch.length, (0 : Int32))][s]? = some (A2 11 s, A2 12 s, A2 13 s, A2 14 s)) → mo_fr h h2 → G 0 0 215 [some (.ref 112), some (.int (nI j)), x2, x3, x4] [] n h2 := by
      intro h2 g2 A2 x2 x3 x4 M2 hg2 F2 hO hf2
      refine pm_aload_n K dX7_apply_215 (q := 216) rfl rfl rfl ?_
      refine pm_ic0 K dX7_apply_216 (q := 217) rfl ?_
      refine mo_put (k := 9) K M2 (by decide) wlX7_121 dX7_apply_217 (q := 220) rfl (fun hm1 M1 Fm1 => ?_)
      refine pm_aload_n K dX7_apply_220 (q := 221) rfl rfl rfl ?_
      refine pm_get K inX7 rfl (k := 15) (by decide) wlX7_75 rfl (by have := M1.1; omega) M1.2.1 rfl dX7_apply_221 (q := 224) rfl ?_
      refine pm_top (y := nI (lm.length)) (hg2.1) ?_
      refine pm_bipush (v := 12) K dX7_apply_224 (q := 226) rfl (by decide) ?_
      refine pm_icmp_le K dX7_apply_226 (tgt := 232) (q := 229) rfl rfl (fun z => ?_) (fun z => ?_)
      · have h12 : lm.length ≤ 12 := (kleI (a := lm.length) (b := 12) rfl rfl (by omega) (by omega)).mp z
        rw [if_pos h12, if_pos h12] at Z
        refine pm_ic0 K dX7_apply_232 (q := 233) rfl ?_
        refine pm_istore_n K dX7_apply_233 (q := 234) rfl rfl (by decide) rfl ?_
        have cp : ∀ (m k : Nat) (h5 : pm_H) (A5 : Nat → Nat → Int32), k + m = 3 * lm.length → mo_at n h5 (upd g2 9 0) A5 → gf [] [0] g2 A2 g2 A5 → (∀ i, A5 0 i = if 36 * j ≤ i ∧ i < 36 * j + k then A2 9 (i - 36 * j) else A2 0 i) → mo_fr h h5 → G 0 0 234 [some (.ref 112), some (.int (nI j)), some (.int (nI k)), x3, x4] [] n h5 := by
          intro m
          induction m with
          | zero =>
            intro k h5 A5 hk M5 F5 hA5 hf5
            refine pm_iload_n K dX7_apply_234 (q := 235) rfl rfl rfl ?_
            refine pm_ic3 K dX7_apply_235 (q := 236) rfl ?_
            refine pm_aload_n K dX7_apply_236 (q := 237) rfl rfl rfl ?_
            refine pm_get K inX7 rfl (k := 15) (by decide) wlX7_75 rfl (by have := M5.1; omega) M5.2.1 rfl dX7_apply_237 (q := 240) rfl ?_
            refine pm_top (y := nI (lm.length)) (hg2.1) ?_
            refine pm_imul K dX7_apply_240 (q := 241) rfl ?_
            refine pm_top (y := nI (3 * lm.length)) (kmul (a := 3) (b := lm.length) rfl rfl) ?_
            refine pm_icmp_ge K dX7_apply_241 (tgt := 267) (q := 244) rfl rfl (fun _ => ?_) (fun z => absurd ((kleI (a := 3 * lm.length) (b := k) rfl rfl (by omega) (by omega)).mpr (by omega)) z)
            have ek : k = 3 * lm.length := by omega
            subst ek
            refine pm_aload_n K dX7_apply_267 (q := 268) rfl rfl rfl ?_
            refine pm_get K inX7 rfl (k := 1) (by decide) wlX7_13 rfl (by have := M5.1; omega) M5.2.1 rfl dX7_apply_268 (q := 271) rfl ?_
            refine pm_iload_n K dX7_apply_271 (q := 272) rfl rfl rfl ?_
            refine pm_aload_n K dX7_apply_272 (q := 273) rfl rfl rfl ?_
            refine pm_get K inX7 rfl (k := 15) (by decide) wlX7_75 rfl (by have := M5.1; omega) M5.2.1 rfl dX7_apply_273 (q := 276) rfl ?_
            refine pm_top (y := nI (lm.length)) (hg2.1) ?_
            refine mo_iast (j := 1) K M5 (by decide) (by decide) (show j < 3 by omega) dX7_apply_276 (q := 277) rfl (fun hm1 M1 Fm1 => ?_)
            refine pm_aload_n K dX7_apply_277 (q := 278) rfl rfl rfl ?_
            refine pm_get K inX7 rfl (k := 15) (by decide) wlX7_75 rfl (by have := M1.1; omega) M1.2.1 rfl dX7_apply_278 (q := 281) rfl ?_
            refine pm_top (y := nI (lm.length)) (hg2.1) ?_
            exact pm_iret Z dX7_apply_281 rfl rfl (Nat.le_of_ble_eq_true rfl) (Nat.le_of_ble_eq_true rfl) ⟨rfl, (Or.inr ⟨rfl, hf5.tr Fm1, rfl, ⟨_, _, M1, fun t ht => mt_set hj h12 hg2 (rt c1 (F2.mono (by decide) (by decide) : gf [15, 18, 23] [8, 9, 10, 11, 12, 13, 14] g A g2 A2)) hA5 (F5.2 1 (by decide)) t ht, (F2.1 2 (by decide)).trans c2, (F2.1 3 (by decide)).trans c3, ⟨(F2.1 4 (by decide)).trans c4.1, c4.2⟩, (fun s hs => rs5 (A2 := A5) c5 F2 F5 s hs), ⟨rfl, by decide, fun k hk => absurd hk (Nat.not_lt_zero _)⟩, ⟨(F2.1 17 (by decide)).trans c7.1, c7.2.1, by show ls3 (A5 10) 0 lr; rw [F5.2 10 (by decide), F2.2 10 (by decide)]; exact c7.2.2⟩, ⟨hO.2.1, Nat.le_of_ble_eq_true rfl, fun s hs => by show _ = some (A5 11 s, A5 12 s, A5 13 s, A5 14 s); rw [F5.2 11 (by decide), F5.2 12 (by decide), F5.2 13 (by decide), F5.2 14 (by decide)]; exact hO.2.2 s hs⟩, ⟨hO.1, by decide⟩⟩⟩)⟩
          | succ m ih =>
            intro k h5 A5 hk M5 F5 hA5 hf5
            refine pm_iload_n K dX7_apply_234 (q := 235) rfl rfl rfl ?_
            refine pm_ic3 K dX7_apply_235 (q := 236) rfl ?_
            refine pm_aload_n K dX7_apply_236 (q := 237) rfl rfl rfl ?_
            refine pm_get K inX7 rfl (k := 15) (by decide) wlX7_75 rfl (by have := M5.1; omega) M5.2.1 rfl dX7_apply_237 (q := 240) rfl ?_
            refine pm_top (y := nI (lm.length)) (hg2.1) ?_
            refine pm_imul K dX7_apply_240 (q := 241) rfl ?_
            refine pm_top (y := nI (3 * lm.length)) (kmul (a := 3) (b := lm.length) rfl rfl) ?_
            refine pm_icmp_ge K dX7_apply_241 (tgt := 267) (q := 244) rfl rfl (fun z => absurd ((kleI (a := 3 * lm.length) (b := k) rfl rfl (by omega) (by omega)).mp z) (by omega)) (fun _ => ?_)
            refine pm_aload_n K dX7_apply_244 (q := 245) rfl rfl rfl ?_
            refine pm_get K inX7 rfl (k := 0) (by decide) wlX7_7 rfl (by have := M5.1; omega) M5.2.1 rfl dX7_apply_245 (q := 248) rfl ?_
            refine pm_bipush (v := 36) K dX7_apply_248 (q := 250) rfl (by decide) ?_
            refine pm_iload_n K dX7_apply_250 (q := 251) rfl rfl rfl ?_
            refine pm_imul K dX7_apply_251 (q := 252) rfl ?_
            refine pm_top (y := nI (36 * j)) (kmul (a := 36) (b := j) rfl rfl) ?_
            refine pm_iload_n K dX7_apply_252 (q := 253) rfl rfl rfl ?_
            refine pm_iadd K dX7_apply_253 (q := 254) rfl ?_
            refine pm_top (y := nI (36 * j + k)) (kadd (a := 36 * j) (b := k) rfl rfl) ?_
            refine pm_aload_n K dX7_apply_254 (q := 255) rfl rfl rfl ?_
            refine pm_get K inX7 rfl (k := 14) (by decide) wlX7_38 rfl (by have := M5.1; omega) M5.2.1 rfl dX7_apply_255 (q := 258) rfl ?_
            refine pm_iload_n K dX7_apply_258 (q := 259) rfl rfl rfl ?_
            refine mo_iald (j := 9) K M5 (by decide) (by decide) (show k < 75 by omega) dX7_apply_259 (q := 260) rfl ?_
            refine pm_top (y := A2 9 k) (congrFun (F5.2 9 (by decide)) k) ?_
            refine mo_iast (j := 0) K M5 (by decide) (by decide) (show 36 * j + k < 108 by omega) dX7_apply_260 (q := 261) rfl (fun hm1 M1 Fm1 => ?_)
            refine pm_inc K dX7_apply_261 (q := 264) rfl rfl (by decide) rfl ?_
            refine pm_goto K dX7_apply_264 (q := 234) rfl ?_
            exact ih (k + 1) _ _ (by omega) M1 (F5.ua (by decide) _) (cp_t hA5) (hf5.tr Fm1)
        exact cp (3 * lm.length) 0 _ _ (by omega) M1 gf.rf (fun i => (if_neg (by omega)).symm) (hf2.tr Fm1)
      · have h12 : ¬ lm.length ≤ 12 := fun y => z ((kleI (a := lm.length) (b := 12) rfl rfl (by omega) (by omega)).mpr y)
        rw [if_neg h12, if_neg h12] at Z
        refine pm_bipush (v := -2) K dX7_apply_229 (q := 231) rfl (by decide) ?_
        exact pm_iret Z dX7_apply_231 rfl rfl (Nat.le_of_ble_eq_true rfl) (Nat.le_of_ble_eq_true rfl) ⟨rfl, (Or.inr ⟨rfl, hf2.tr Fm1, rfl, ⟨_, _, M1, rt c1 (F2.mono (by decide) (by decide) : gf [15, 18, 23] [8, 9, 10, 11, 12, 13, 14] g A g2 A2), (F2.1 2 (by decide)).trans c2, (F2.1 3 (by decide)).trans c3, ⟨(F2.1 4 (by decide)).trans c4.1, c4.2⟩, rs c5 (F2.mono (by decide) (by decide) : gf [15, 18, 23] [8, 9, 10, 11, 12, 13, 14] g A g2 A2), ⟨rfl, by decide, fun k hk => absurd hk (Nat.not_lt_zero _)⟩, ⟨(F2.1 17 (by decide)).trans c7.1, c7.2.1, by show ls3 (A2 10) 0 lr; rw [F2.2 10 (by decide)]; exact c7.2.2⟩, ⟨hO.2.1, Nat.le_of_ble_eq_true rfl, hO.2.2⟩, ⟨hO.1, by decide⟩⟩⟩)⟩
    have puts : ∀ (m i : Nat) (h2 : pm_H) (g2 : Nat → Int32) (A2 : Nat → Nat → Int32) (x3 x4 : Option Value), i + m = ch.length → mo_at n h2 g2 A2 → gi g2 A2 ((T j).filter (nd ch) ++ ((ch.take i).filter (fun c => decide (c.1 = 0))).map (fun c => c.2)) → gf [15, 18, 23] [9, 11, 12, 13, 14] g A g2 A2 → g2 23 = 0 ∧ (g2 18 = nI 1 ∧ ∀ s, s < 1 → [((5 : Int32), nI (T j).length, nI ch.length, (0 : Int32))][s]? = some (A2 11 s, A2 12 s, A2 13 s, A2 14 s)) → mo_fr h h2 → G 0 0 160 [some (.ref 112), some (.int (nI j)), some (.int (nI i)), x3, x4] [] n h2 := by
      intro m
      induction m with
      | zero =>
        intro i h2 g2 A2 x3 x4 hm M2 hg2 F2 hO hf2
        refine pm_iload_n K dX7_apply_160 (q := 161) rfl rfl rfl ?_
        refine pm_aload_n K dX7_apply_161 (q := 162) rfl rfl rfl ?_
        refine pm_get K inX7 rfl (k := 9) (by decide) wlX7_121 rfl (by have := M2.1; omega) M2.2.1 rfl dX7_apply_162 (q := 165) rfl ?_
        refine pm_top (y := nI (ch.length)) ((F2.1 9 (by decide)).trans k1) ?_
        refine pm_icmp_ge K dX7_apply_165 (tgt := 215) (q := 168) rfl rfl (fun _ => ?_) (fun z => absurd ((kleI (a := ch.length) (b := i) rfl rfl (by omega) (by omega)).mpr (by omega)) z)
        have ei : i = ch.length := by omega
        subst ei
        rw [List.take_length] at hg2
        exact fin h2 g2 A2 _ _ _ M2 (by rw [hlm]; exact hg2) F2 hO hf2
      | succ m ih =>
        intro i h2 g2 A2 x3 x4 hm M2 hg2 F2 hO hf2
        refine pm_iload_n K dX7_apply_160 (q := 161) rfl rfl rfl ?_
        refine pm_aload_n K dX7_apply_161 (q := 162) rfl rfl rfl ?_
        refine pm_get K inX7 rfl (k := 9) (by decide) wlX7_121 rfl (by have := M2.1; omega) M2.2.1 rfl dX7_apply_162 (q := 165) rfl ?_
        refine pm_top (y := nI (ch.length)) ((F2.1 9 (by decide)).trans k1) ?_
        refine pm_icmp_ge K dX7_apply_165 (tgt := 215) (q := 168) rfl rfl (fun z => absurd ((kleI (a := ch.length) (b := i) rfl rfl (by omega) (by omega)).mp z) (by omega)) (fun _ => ?_)
        obtain ⟨q1, q2⟩ := k3 i (by omega)
        have hP := mb_p t1 k2 (i := i)
        refine pm_aload_n K dX7_apply_168 (q := 169) rfl rfl rfl ?_
        refine pm_get K inX7 rfl (k := 10) (by decide) wlX7_28 rfl (by have := M2.1; omega) M2.2.1 rfl dX7_apply_169 (q := 172) rfl ?_
        refine pm_iload_n K dX7_apply_172 (q := 173) rfl rfl rfl ?_
        have e6 : A2 6 i = A 6 i := congrFun (F2.2 6 (by decide)) i
        have e7 : A2 7 = A 7 := F2.2 7 (by decide)
        refine mo_zald K M2 (show i < 6 by omega) dX7_apply_173 (q := 174) rfl ?_
        refine pm_top (y := A 6 i) (e6) ?_
        refine pm_if_ne K dX7_apply_174 (tgt := 209) (q := 177) rfl rfl (fun hz => ?_) (fun hz => ?_)
        · refine pm_inc K dX7_apply_209 (q := 212) rfl rfl (by decide) rfl ?_
          refine pm_goto K dX7_apply_212 (q := 160) rfl ?_
          exact ih (i + 1) h2 g2 A2 x3 x4 (by omega) M2 (by rw [mb_n q1 hz]; exact hg2) F2 hO hf2
        · refine pm_aload_n K dX7_apply_177 (q := 178) rfl rfl rfl ?_
          refine pm_aload_n K dX7_apply_178 (q := 179) rfl rfl rfl ?_
          refine pm_get K inX7 rfl (k := 11) (by decide) wlX7_32 rfl (by have := M2.1; omega) M2.2.1 rfl dX7_apply_179 (q := 182) rfl ?_
          refine pm_ic3 K dX7_apply_182 (q := 183) rfl ?_
          refine pm_iload_n K dX7_apply_183 (q := 184) rfl rfl rfl ?_
          refine pm_imul K dX7_apply_184 (q := 185) rfl ?_
          refine pm_top (y := nI (3 * i)) (kmul (a := 3) (b := i) rfl rfl) ?_
          refine mo_iald (j := 7) K M2 (by decide) (by decide) (show 3 * i < 18 by omega) dX7_apply_185 (q := 186) rfl ?_
          refine pm_top (y := A 7 (3 * i)) (congrFun e7 _) ?_
          refine pm_aload_n K dX7_apply_186 (q := 187) rfl rfl rfl ?_
          refine pm_get K inX7 rfl (k := 11) (by decide) wlX7_32 rfl (by have := M2.1; omega) M2.2.1 rfl dX7_apply_187 (q := 190) rfl ?_
          refine pm_ic3 K dX7_apply_190 (q := 191) rfl ?_
          refine pm_iload_n K dX7_apply_191 (q := 192) rfl rfl rfl ?_
          refine pm_imul K dX7_apply_192 (q := 193) rfl ?_
          refine pm_top (y := nI (3 * i)) (kmul (a := 3) (b := i) rfl rfl) ?_
          refine pm_ic1 K dX7_apply_193 (q := 194) rfl ?_
          refine pm_iadd K dX7_apply_194 (q := 195) rfl ?_
          refine pm_top (y := nI (3 * i + 1)) (kadd (a := 3 * i) (b := 1) rfl rfl) ?_
          refine mo_iald (j := 7) K M2 (by decide) (by decide) (show 3 * i + 1 < 18 by omega) dX7_apply_195 (q := 196) rfl ?_
          refine pm_top (y := A 7 (3 * i + 1)) (congrFun e7 _) ?_
          refine pm_aload_n K dX7_apply_196 (q := 197) rfl rfl rfl ?_
          refine pm_get K inX7 rfl (k := 11) (by decide) wlX7_32 rfl (by have := M2.1; omega) M2.2.1 rfl dX7_apply_197 (q := 200) rfl ?_
          refine pm_ic3 K dX7_apply_200 (q := 201) rfl ?_
          refine pm_iload_n K dX7_apply_201 (q := 202) rfl rfl rfl ?_
          refine pm_imul K dX7_apply_202 (q := 203) rfl ?_
          refine pm_top (y := nI (3 * i)) (kmul (a := 3) (b := i) rfl rfl) ?_
          refine pm_ic2 K dX7_apply_203 (q := 204) rfl ?_
          refine pm_iadd K dX7_apply_204 (q := 205) rfl ?_
          refine pm_top (y := nI (3 * i + 2)) (kadd (a := 3 * i) (b := 2) rfl rfl) ?_
          refine mo_iald (j := 7) K M2 (by decide) (by decide) (show 3 * i + 2 < 18 by omega) dX7_apply_205 (q := 206) rfl ?_
          refine pm_top (y := A 7 (3 * i + 2)) (congrFun e7 _) ?_
          refine pm_callV0 K gw_ok wcX7_81 (m_give l M2 hg2 (Nat.lt_of_le_of_lt hP (by decide)) (A 7 (3 * i)) (A 7 (3 * i + 1)) (A 7 (3 * i + 2))) rfl (by have := M2.1; omega) M2.2.1 rfl rfl (Nat.le_of_ble_eq_true rfl) (by decide) dX7_apply_206 (q := 209) rfl (fun r3 h3 hp => ?_)
          obtain ⟨rfl, g3, A3, M3, hg3, F3, hf3⟩ := hp
          refine pm_inc K dX7_apply_209 (q := 212) rfl rfl (by decide) rfl ?_
          refine pm_goto K dX7_apply_212 (q := 160) rfl ?_
          exact ih (i + 1) h3 g3 A3 x3 x4 (by omega) M3 (by rw [mb_t q1 hz, ← List.append_assoc]; exact hg3) (F2.tr (F3.mono (by decide) (by decide))) (mb_o hO F3) (hf2.tr hf3)
    have rows : ∀ (m i : Nat) (h2 : pm_H) (g2 : Nat → Int32) (A2 : Nat → Nat → Int32) (x3 x4 : Option Value), i + m = (T j).length → mo_at n h2 g2 A2 → gi g2 A2 (((T j).take i).filter (nd ch)) → gf [15, 18, 23] [9, 11, 12, 13, 14] g A g2 A2 → g2 23 = 0 ∧ (g2 18 = nI 1 ∧ ∀ s, s < 1 → [((5 : Int32), nI (T j).length, nI ch.length, (0 : Int32))][s]? = some (A2 11 s, A2 12 s, A2 13 s, A2 14 s)) → mo_fr h h2 → G 0 0 47 [some (.ref 112), some (.int (nI j)), some (.int (nI (36 * j + 3 * i))), x3, x4] [] n h2 := by
      intro m
      induction m with
      | zero =>
        intro i h2 g2 A2 x3 x4 hm M2 hg2 F2 hO hf2
        have e1 : A2 1 = A 1 := F2.2 1 (by decide)
        refine pm_iload_n K dX7_apply_47 (q := 48) rfl rfl rfl ?_
        refine pm_bipush (v := 36) K dX7_apply_48 (q := 50) rfl (by decide) ?_
        refine pm_iload_n K dX7_apply_50 (q := 51) rfl rfl rfl ?_
        refine pm_imul K dX7_apply_51 (q := 52) rfl ?_
        refine pm_top (y := nI (36 * j)) (kmul (a := 36) (b := j) rfl rfl) ?_
        refine pm_ic3 K dX7_apply_52 (q := 53) rfl ?_
        refine pm_aload_n K dX7_apply_53 (q := 54) rfl rfl rfl ?_
        refine pm_get K inX7 rfl (k := 1) (by decide) wlX7_13 rfl (by have := M2.1; omega) M2.2.1 rfl dX7_apply_54 (q := 57) rfl ?_
        refine pm_iload_n K dX7_apply_57 (q := 58) rfl rfl rfl ?_
        refine mo_iald (j := 1) K M2 (by decide) (by decide) (show j < 3 by omega) dX7_apply_58 (q := 59) rfl ?_
        refine pm_top (y := nI ((T j).length)) ((congrFun e1 j).trans t2) ?_
        refine pm_imul K dX7_apply_59 (q := 60) rfl ?_
        refine pm_top (y := nI (3 * ((T j).length))) (kmul (a := 3) (b := (T j).length) rfl rfl) ?_
        refine pm_iadd K dX7_apply_60 (q := 61) rfl ?_
        refine pm_top (y := nI (36 * j + (3 * ((T j).length)))) (kadd (a := 36 * j) (b := 3 * ((T j).length)) rfl rfl) ?_
        refine pm_icmp_ge K dX7_apply_61 (tgt := 158) (q := 64) rfl rfl (fun _ => ?_) (fun z => absurd ((kleI (a := 36 * j + (3 * ((T j).length))) (b := 36 * j + 3 * i) rfl rfl (by omega) (by omega)).mpr (by omega)) z)
        have ei : i = (T j).length := by omega
        subst ei
        rw [List.take_length] at hg2
        refine pm_ic0 K dX7_apply_158 (q := 159) rfl ?_
        refine pm_istore_n K dX7_apply_159 (q := 160) rfl rfl (by decide) rfl ?_
        exact puts ch.length 0 h2 g2 A2 _ _ (by omega) M2 (by rw [List.take_zero]; exact (List.append_nil _).symm ▸ hg2) F2 hO hf2
      | succ m ih =>
        intro i h2 g2 A2 x3 x4 hm M2 hg2 F2 hO hf2
        have e1 : A2 1 = A 1 := F2.2 1 (by decide)
        refine pm_iload_n K dX7_apply_47 (q := 48) rfl rfl rfl ?_
        refine pm_bipush (v := 36) K dX7_apply_48 (q := 50) rfl (by decide) ?_
        refine pm_iload_n K dX7_apply_50 (q := 51) rfl rfl rfl ?_
        refine pm_imul K dX7_apply_51 (q := 52) rfl ?_
        refine pm_top (y := nI (36 * j)) (kmul (a := 36) (b := j) rfl rfl) ?_
        refine pm_ic3 K dX7_apply_52 (q := 53) rfl ?_
        refine pm_aload_n K dX7_apply_53 (q := 54) rfl rfl rfl ?_
        refine pm_get K inX7 rfl (k := 1) (by decide) wlX7_13 rfl (by have := M2.1; omega) M2.2.1 rfl dX7_apply_54 (q := 57) rfl ?_
        refine pm_iload_n K dX7_apply_57 (q := 58) rfl rfl rfl ?_
        refine mo_iald (j := 1) K M2 (by decide) (by decide) (show j < 3 by omega) dX7_apply_58 (q := 59) rfl ?_
        refine pm_top (y := nI ((T j).length)) ((congrFun e1 j).trans t2) ?_
        refine pm_imul K dX7_apply_59 (q := 60) rfl ?_
        refine pm_top (y := nI (3 * ((T j).length))) (kmul (a := 3) (b := (T j).length) rfl rfl) ?_
        refine pm_iadd K dX7_apply_60 (q := 61) rfl ?_
        refine pm_top (y := nI (36 * j + (3 * ((T j).length)))) (kadd (a := 36 * j) (b := 3 * ((T j).length)) rfl rfl) ?_
        refine pm_icmp_ge K dX7_apply_61 (tgt := 158) (q := 64) rfl rfl (fun z => absurd ((kleI (a := 36 * j + (3 * ((T j).length))) (b := 36 * j + 3 * i) rfl rfl (by omega) (by omega)).mp z) (by omega)) (fun _ => ?_)
        have e0 : A2 0 = A 0 := F2.2 0 (by decide)
        have hr := ls3_at t3 (show i < (T j).length by omega)
        refine pm_ic1 K dX7_apply_64 (q := 65) rfl ?_
        refine pm_istore_n K dX7_apply_65 (q := 66) rfl rfl (by decide) rfl ?_
        refine pm_ic0 K dX7_apply_66 (q := 67) rfl ?_
        refine pm_istore K dX7_apply_67 (q := 69) rfl (by decide) rfl ?_
        have e6 : A2 6 = A 6 := F2.2 6 (by decide)
        have e7 : A2 7 = A 7 := F2.2 7 (by decide)
        have hfl := fl_len (nd ch) (T j) i
        have inn : ∀ (d k : Nat), k + d = ch.length → G 0 0 69 [some (.ref 112), some (.int (nI j)), some (.int (nI (36 * j + 3 * i))), some (.int (b2i (nd (ch.take k) ((T j).getD i (0, 0, 0))))), some (.int (nI k))] [] n h2 := by
          intro d
          induction d with
          | zero =>
            intro k hd
            refine pm_iload K dX7_apply_69 (q := 71) rfl rfl ?_
            refine pm_aload_n K dX7_apply_71 (q := 72) rfl rfl rfl ?_
            refine pm_get K inX7 rfl (k := 9) (by decide) wlX7_121 rfl (by have := M2.1; omega) M2.2.1 rfl dX7_apply_72 (q := 75) rfl ?_
            refine pm_top (y := nI (ch.length)) ((F2.1 9 (by decide)).trans k1) ?_
            refine pm_icmp_ge K dX7_apply_75 (tgt := 122) (q := 78) rfl rfl (fun _ => ?_) (fun z => absurd ((kleI (a := ch.length) (b := k) rfl rfl (by omega) (by omega)).mpr (by omega)) z)
            have ek : k = ch.length := by omega
            subst ek
            rw [List.take_length]
            cases hnd : nd ch ((T j).getD i (0, 0, 0))
            · refine pm_iload_n K dX7_apply_122 (q := 123) rfl rfl rfl ?_
              refine pm_if_eq K dX7_apply_123 (tgt := 152) (q := 126) rfl rfl (fun _ => ?_) (fun z => absurd z (fun z => z rfl))
              refine pm_iinc (v := nI (36 * j + 3 * i + 3)) K dX7_apply_152 (q := 155) rfl rfl (kadd (a := 36 * j + 3 * i) (b := 3) rfl rfl) (by decide) rfl ?_
              refine pm_goto K dX7_apply_155 (q := 47) rfl ?_
              exact ih (i + 1) h2 g2 A2 _ _ (by omega) M2 (by rw [fl_n (by omega) hnd]; exact hg2) F2 hO hf2
            · refine pm_iload_n K dX7_apply_122 (q := 123) rfl rfl rfl ?_
              refine pm_if_eq K dX7_apply_123 (tgt := 152) (q := 126) rfl rfl (fun z => absurd z (by decide)) (fun _ => ?_)
              refine pm_aload_n K dX7_apply_126 (q := 127) rfl rfl rfl ?_
              refine pm_aload_n K dX7_apply_127 (q := 128) rfl rfl rfl ?_
              refine pm_get K inX7 rfl (k := 0) (by decide) wlX7_7 rfl (by have := M2.1; omega) M2.2.1 rfl dX7_apply_128 (q := 131) rfl ?_
              refine pm_iload_n K dX7_apply_131 (q := 132) rfl rfl rfl ?_
              refine mo_iald (j := 0) K M2 (by decide) (by decide) (show 36 * j + 3 * i < 108 by omega) dX7_apply_132 (q := 133) rfl ?_
              refine pm_top (y := ((T j).getD i (0, 0, 0)).1) ((congrFun e0 _).trans hr.1) ?_
              refine pm_aload_n K dX7_apply_133 (q := 134) rfl rfl rfl ?_
              refine pm_get K inX7 rfl (k := 0) (by decide) wlX7_7 rfl (by have := M2.1; omega) M2.2.1 rfl dX7_apply_134 (q := 137) rfl ?_
              refine pm_iload_n K dX7_apply_137 (q := 138) rfl rfl rfl ?_
              refine pm_ic1 K dX7_apply_138 (q := 139) rfl ?_
              refine pm_iadd K dX7_apply_139 (q := 140) rfl ?_
              refine pm_top (y := nI (36 * j + 3 * i + 1)) (kadd (a := 36 * j + 3 * i) (b := 1) rfl rfl) ?_
              refine mo_iald (j := 0) K M2 (by decide) (by decide) (show 36 * j + 3 * i + 1 < 108 by omega) dX7_apply_140 (q := 141) rfl ?_
              refine pm_top (y := ((T j).getD i (0, 0, 0)).2.1) ((congrFun e0 _).trans hr.2.1) ?_
              refine pm_aload_n K dX7_apply_141 (q := 142) rfl rfl rfl ?_
              refine pm_get K inX7 rfl (k := 0) (by decide) wlX7_7 rfl (by have := M2.1; omega) M2.2.1 rfl dX7_apply_142 (q := 145) rfl ?_
              refine pm_iload_n K dX7_apply_145 (q := 146) rfl rfl rfl ?_
              refine pm_ic2 K dX7_apply_146 (q := 147) rfl ?_
              refine pm_iadd K dX7_apply_147 (q := 148) rfl ?_
              refine pm_top (y := nI (36 * j + 3 * i + 2)) (kadd (a := 36 * j + 3 * i) (b := 2) rfl rfl) ?_
              refine mo_iald (j := 0) K M2 (by decide) (by decide) (show 36 * j + 3 * i + 2 < 108 by omega) dX7_apply_148 (q := 149) rfl ?_
              refine pm_top (y := ((T j).getD i (0, 0, 0)).2.2) ((congrFun e0 _).trans hr.2.2) ?_
              refine pm_callV0 K gw_ok wcX7_81 (m_give l M2 hg2 (by omega) ((T j).getD i (0, 0, 0)).1 ((T j).getD i (0, 0, 0)).2.1 ((T j).getD i (0, 0, 0)).2.2) rfl (by have := M2.1; omega) M2.2.1 rfl rfl (Nat.le_of_ble_eq_true rfl) (by decide) dX7_apply_149 (q := 152) rfl (fun r3 h3 hp => ?_)
              obtain ⟨rfl, g3, A3, M3, hg3, F3, hf3⟩ := hp
              refine pm_iinc (v := nI (36 * j + 3 * i + 3)) K dX7_apply_152 (q := 155) rfl rfl (kadd (a := 36 * j + 3 * i) (b := 3) rfl rfl) (by decide) rfl ?_
              refine pm_goto K dX7_apply_155 (q := 47) rfl ?_
              exact ih (i + 1) h3 g3 A3 _ _ (by omega) M3 (by rw [fl_t (by omega) hnd]; exact hg3) (F2.tr (F3.mono (by decide) (by decide))) (mb_o hO F3) (hf2.tr hf3)
          | succ d ih2 =>
            intro k hd
            refine pm_iload K dX7_apply_69 (q := 71) rfl rfl ?_
            refine pm_aload_n K dX7_apply_71 (q := 72) rfl rfl rfl ?_
            refine pm_get K inX7 rfl (k := 9) (by decide) wlX7_121 rfl (by have := M2.1; omega) M2.2.1 rfl dX7_apply_72 (q := 75) rfl ?_
            refine pm_top (y := nI (ch.length)) ((F2.1 9 (by decide)).trans k1) ?_
            refine pm_icmp_ge K dX7_apply_75 (tgt := 122) (q := 78) rfl rfl (fun z => absurd ((kleI (a := ch.length) (b := k) rfl rfl (by omega) (by omega)).mp z) (by omega)) (fun _ => ?_)
            have this := ih2 (k + 1) (by omega)
            obtain ⟨q1, q2⟩ := k3 k (by omega)
            rw [nd_s q1] at this
            cases hb : nd (ch.take k) ((T j).getD i (0, 0, 0))
            · rw [hb] at this
              refine pm_iload_n K dX7_apply_78 (q := 79) rfl rfl rfl ?_
              refine pm_if_eq K dX7_apply_79 (tgt := 114) (q := 82) rfl rfl (fun _ => ?_) (fun z => absurd z (fun z => z rfl))
              refine pm_ic0 K dX7_apply_114 (q := 115) rfl ?_
              refine pm_istore_n K dX7_apply_115 (q := 116) rfl rfl (by decide) rfl ?_
              refine pm_inc K dX7_apply_116 (q := 119) rfl rfl (by decide) rfl ?_
              refine pm_goto K dX7_apply_119 (q := 69) rfl ?_
              exact this
            · rw [hb, Bool.true_and] at this
              refine pm_iload_n K dX7_apply_78 (q := 79) rfl rfl rfl ?_
              refine pm_if_eq K dX7_apply_79 (tgt := 114) (q := 82) rfl rfl (fun z => absurd z (by decide)) (fun _ => ?_)
              refine pm_aload_n K dX7_apply_82 (q := 83) rfl rfl rfl ?_
              refine pm_get K inX7 rfl (k := 10) (by decide) wlX7_28 rfl (by have := M2.1; omega) M2.2.1 rfl dX7_apply_83 (q := 86) rfl ?_
              refine pm_iload K dX7_apply_86 (q := 88) rfl rfl ?_
              refine mo_zald K M2 (show k < 6 by omega) dX7_apply_88 (q := 89) rfl ?_
              refine pm_top (y := A 6 k) (congrFun e6 k) ?_
              refine pm_if_eq K dX7_apply_89 (tgt := 110) (q := 92) rfl rfl (fun hz => ?_) (fun hz => ?_)
              · rw [decide_eq_false (fun y => y.1 hz)] at this
                refine pm_ic1 K dX7_apply_110 (q := 111) rfl ?_
                refine pm_goto K dX7_apply_111 (q := 115) rfl ?_
                refine pm_istore_n K dX7_apply_115 (q := 116) rfl rfl (by decide) rfl ?_
                refine pm_inc K dX7_apply_116 (q := 119) rfl rfl (by decide) rfl ?_
                refine pm_goto K dX7_apply_119 (q := 69) rfl ?_
                exact this
              · refine pm_aload_n K dX7_apply_92 (q := 93) rfl rfl rfl ?_
                refine pm_get K inX7 rfl (k := 11) (by decide) wlX7_32 rfl (by have := M2.1; omega) M2.2.1 rfl dX7_apply_93 (q := 96) rfl ?_
                refine pm_ic3 K dX7_apply_96 (q := 97) rfl ?_
                refine pm_iload K dX7_apply_97 (q := 99) rfl rfl ?_
                refine pm_imul K dX7_apply_99 (q := 100) rfl ?_
                refine pm_top (y := nI (3 * k)) (kmul (a := 3) (b := k) rfl rfl) ?_
                refine mo_iald (j := 7) K M2 (by decide) (by decide) (show 3 * k < 18 by omega) dX7_apply_100 (q := 101) rfl ?_
                refine pm_top (y := A 7 (3 * k)) (congrFun e7 _) ?_
                refine pm_aload_n K dX7_apply_101 (q := 102) rfl rfl rfl ?_
                refine pm_get K inX7 rfl (k := 0) (by decide) wlX7_7 rfl (by have := M2.1; omega) M2.2.1 rfl dX7_apply_102 (q := 105) rfl ?_
                refine pm_iload_n K dX7_apply_105 (q := 106) rfl rfl rfl ?_
                refine mo_iald (j := 0) K M2 (by decide) (by decide) (show 36 * j + 3 * i < 108 by omega) dX7_apply_106 (q := 107) rfl ?_
                refine pm_top (y := ((T j).getD i (0, 0, 0)).1) ((congrFun e0 _).trans hr.1) ?_
                refine pm_icmp_eq K dX7_apply_107 (tgt := 114) (q := 110) rfl rfl (fun hq => ?_) (fun hq => ?_)
                · rw [decide_eq_true ⟨hz, hq⟩] at this
                  refine pm_ic0 K dX7_apply_114 (q := 115) rfl ?_
                  refine pm_istore_n K dX7_apply_115 (q := 116) rfl rfl (by decide) rfl ?_
                  refine pm_inc K dX7_apply_116 (q := 119) rfl rfl (by decide) rfl ?_
                  refine pm_goto K dX7_apply_119 (q := 69) rfl ?_
                  exact this
                · rw [decide_eq_false (fun y => hq y.2)] at this
                  refine pm_ic1 K dX7_apply_110 (q := 111) rfl ?_
                  refine pm_goto K dX7_apply_111 (q := 115) rfl ?_
                  refine pm_istore_n K dX7_apply_115 (q := 116) rfl rfl (by decide) rfl ?_
                  refine pm_inc K dX7_apply_116 (q := 119) rfl rfl (by decide) rfl ?_
                  refine pm_goto K dX7_apply_119 (q := 69) rfl ?_
                  exact this
        exact inn ch.length 0 (by omega)
    exact rows (T j).length 0 _ _ _ none none (by omega) M3 hgi Fb ⟨g23, pp.1, pp.2⟩ ((Fm1.tr Fm2).tr (hf1.tr Fm3))
