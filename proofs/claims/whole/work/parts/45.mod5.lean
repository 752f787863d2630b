/-! The reference: run. -/
/-- the parts of a run, as the reference keeps them -/
def rn_p (T : Nat → List bg_T) (S : Nat → Nat → Int32) (j : Nat) : Nat → List (Int32 × Int32 × Int32 × Int32)
  | 0 => []
  | s + 1 => rn_p T S j s ++ [(S s 0, nI (rn_L T S j s).length, (if S s 0 = 4 then nI (T (S s 1).toNatClampNeg).length else 0), (if (rn_L T S j (s + 1)).length ≤ 24 then nI (rn_L T S j (s + 1)).length else -1))]
theorem rn_p_len (T : Nat → List bg_T) (S : Nat → Nat → Int32) (j s : Nat) : (rn_p T S j s).length = s := by
  induction s with
  | zero => rfl
  | succ s ih => rw [rn_p, List.length_append, ih]; rfl
section RS
variable {g g1 : Nat → Int32} {A A1 : Nat → Nat → Int32} {T : Nat → List bg_T} {S : Nat → Nat → Int32} {sc : Nat} {ch : List (Int32 × bg_T)}
theorem rt (c1 : ∀ t, t < 3 → (T t).length ≤ 12 ∧ A 1 t = nI (T t).length ∧ ls3 (A 0) (36 * t) (T t)) {K : List Nat} (F : gf K [8, 9, 10, 11, 12, 13, 14] g A g1 A1) : ∀ t, t < 3 → (T t).length ≤ 12 ∧ A1 1 t = nI (T t).length ∧ ls3 (A1 0) (36 * t) (T t) := by
  rw [F.2 0 (by decide), F.2 1 (by decide)]; exact c1
theorem rs (c5 : ∀ s, s < sc → A 2 s = S s 0 ∧ A 3 s = S s 1 ∧ A 4 s = S s 2 ∧ A 5 s = S s 3) {K : List Nat} (F : gf K [8, 9, 10, 11, 12, 13, 14] g A g1 A1) : ∀ s, s < sc → A1 2 s = S s 0 ∧ A1 3 s = S s 1 ∧ A1 4 s = S s 2 ∧ A1 5 s = S s 3 := by
  rw [F.2 2 (by decide), F.2 3 (by decide), F.2 4 (by decide), F.2 5 (by decide)]; exact c5
theorem rc (c6 : g 9 = nI ch.length ∧ ch.length ≤ 6 ∧ ∀ k, k < ch.length → ch[k]? = some (A 6 k, A 7 (3 * k), A 7 (3 * k + 1), A 7 (3 * k + 2)) ∧ (A 6 k = 0 ∨ A 6 k = 1)) (F : gf [13, 15, 17, 18, 23] [8, 9, 10, 11, 12, 13, 14] g A g1 A1) : g1 9 = nI ch.length ∧ ch.length ≤ 6 ∧ ∀ k, k < ch.length → ch[k]? = some (A1 6 k, A1 7 (3 * k), A1 7 (3 * k + 1), A1 7 (3 * k + 2)) ∧ (A1 6 k = 0 ∨ A1 6 k = 1) := by
  rw [F.1 9 (by decide), F.2 6 (by decide), F.2 7 (by decide)]; exact c6
end RS
theorem sp_len (T : Nat → List bg_T) {s : Nat → Int32} {l : List bg_T} (hl : l.length ≤ 24) (hs : st_k s) (hT : ∀ t, t < 3 → (T t).length ≤ 12) : (sp T s l).length < 1000 := by
  rw [← w1_sp T l hs.ok]
  have := w1_len T s l hs l.length hT
  omega
theorem st_4 {s : Nat → Int32} (hs : st_k s) (h : s 0 = 4) : ∃ j, j < 3 ∧ s 1 = nI j := by
  rcases hs with ⟨k, -⟩ | ⟨k, -⟩ | k | ⟨k, -⟩ | ⟨-, k, -⟩
  · rw [h] at k; exact absurd k (by decide)
  · rw [h] at k; exact absurd k (by decide)
  · rw [h] at k; exact absurd k (by decide)
  · rw [h] at k; exact absurd k (by decide)
  · exact tb_ok k
theorem ls3_copy {a a' : Nat → Int32} {b : Nat} {l : List bg_T} (e : ∀ i, i < 3 * l.length → a' i = a (b + i)) (h : ls3 a b l) : ls3 a' 0 l := fun k hk => by
  rw [Nat.zero_add, h k hk, e _ (by omega), e _ (by omega), e _ (by omega)]
  rfl
theorem gi_ls {g : Nat → Int32} {A : Nat → Nat → Int32} {l : List bg_T} (h : gi g A l) (h24 : l.length ≤ 24) {a : Nat → Int32} (e : ∀ i, i < 3 * l.length → a i = A 9 i) : ls3 a 0 l := fun k hk => by
  rw [Nat.zero_add, h.2 k hk (by omega), e _ (by omega), e _ (by omega), e _ (by omega)]
theorem cp_s {a b : Nat → Int32} {k : Nat} (h : ∀ i, i < k → a i = b i) (i : Nat) (hi : i < k + 1) : upd a k (b k) i = b i := by
  by_cases e : i = k
  · subst e; exact if_pos rfl
  · exact (if_neg e).trans (h i (by omega))
set_option maxRecDepth 100000 in
theorem m_run (l : Launch) {n : Nat} {h : pm_H} {T : Nat → List bg_T} {ch : List (Int32 × bg_T)} {pl : Bool} {so : Int32} {sc : Nat} {S : Nat → Nat → Int32} {lr : List bg_T} {pa : List (Int32 × Int32 × Int32 × Int32)} {la : Nat} (X : m_at n h T ch pl so sc S lr pa la) (hso : pl = true → tb so = true) (hst : ∀ s, s < sc → st_k (S s)) : bM0 l yX7_run cX7_run 4 (some (.int)) 3 [.ref 112] n h (fun r h' => (pl = false ∧ r = some (.int (-1)) ∧ h' = h) ∨ (pl = true ∧ mo_fr h h' ∧ ((∃ s, s < sc ∧ (∀ i, i < s → (rn_L T S so.toNatClampNeg (i + 1)).length ≤ 24) ∧ 24 < (rn_L T S so.toNatClampNeg (s + 1)).length ∧ r = some (.int (-2)) ∧ m_at n h' T ch pl so sc S [] (rn_p T S so.toNatClampNeg (s + 1)) 0) ∨ ((∀ i, i < sc → (rn_L T S so.toNatClampNeg (i + 1)).length ≤ 24) ∧ ∃ l1, l1.Perm (rn_L T S so.toNatClampNeg sc) ∧ l1.Pairwise bg_le ∧ r = some (.int (nI l1.length)) ∧ m_at n h' T ch pl so sc S l1 (rn_p T S so.toNatClampNeg sc) l1.length)))) := by
  refine pm_enter rfl (Nat.le_of_ble_eq_true rfl) (fun G K Z => ?_)
  obtain ⟨g, A, M, c1, c2, c3, c4, c5, c6, c7, c8, c9⟩ := X
  cases hpl : pl
  · rw [hpl] at Z c2
    refine pm_aload_n K dX7_run_0 (q := 1) rfl rfl rfl ?_
    refine pm_get K inX7 rfl (k := 2) (by decide) wlX7_60 rfl (by have := M.1; omega) M.2.1 rfl dX7_run_1 (q := 4) rfl ?_
    refine pm_top (y := b2i false) (c2) ?_
    refine pm_if_ne K dX7_run_4 (tgt := 9) (q := 7) rfl rfl (fun z => absurd z (fun z => z rfl)) (fun _ => ?_)
    refine pm_icm1 K dX7_run_7 (q := 8) rfl ?_
    exact pm_iret Z dX7_run_8 rfl rfl (Nat.le_of_ble_eq_true rfl) (Nat.le_of_ble_eq_true rfl) ⟨rfl, (Or.inl ⟨rfl, rfl, rfl⟩)⟩
  · rw [hpl] at Z c2
    obtain ⟨j, hj, ej⟩ := tb_ok (hso hpl)
    have esj : so.toNatClampNeg = j := by rw [ej, nI_clamp (by omega)]
    rw [esj] at Z
    obtain ⟨t1, t2, t3⟩ := c1 j hj
    refine pm_aload_n K dX7_run_0 (q := 1) rfl rfl rfl ?_
    refine pm_get K inX7 rfl (k := 2) (by decide) wlX7_60 rfl (by have := M.1; omega) M.2.1 rfl dX7_run_1 (q := 4) rfl ?_
    refine pm_top (y := b2i true) (c2) ?_
    refine pm_if_ne K dX7_run_4 (tgt := 9) (q := 7) rfl rfl (fun _ => ?_) (fun z => absurd z (fun z => absurd z (by decide)))
    refine pm_aload_n K dX7_run_9 (q := 10) rfl rfl rfl ?_
    refine pm_ic0 K dX7_run_10 (q := 11) rfl ?_
    refine mo_put (k := 18) K M (by decide) wlX7_99 dX7_run_11 (q := 14) rfl (fun hm1 M1 Fm1 => ?_)
    refine pm_aload_n K dX7_run_14 (q := 15) rfl rfl rfl ?_
    refine pm_ic0 K dX7_run_15 (q := 16) rfl ?_
    refine mo_put (k := 23) K M1 (by decide) wlX7_108 dX7_run_16 (q := 19) rfl (fun hm2 M2 Fm2 => ?_)
    refine pm_aload_n K dX7_run_19 (q := 20) rfl rfl rfl ?_
    refine pm_ic0 K dX7_run_20 (q := 21) rfl ?_
    refine mo_put (k := 17) K M2 (by decide) wlX7_102 dX7_run_21 (q := 24) rfl (fun hm3 M3 Fm3 => ?_)
    refine pm_aload_n K dX7_run_24 (q := 25) rfl rfl rfl ?_
    refine pm_aload_n K dX7_run_25 (q := 26) rfl rfl rfl ?_
    refine pm_get K inX7 rfl (k := 1) (by decide) wlX7_13 rfl (by have := M3.1; omega) M3.2.1 rfl dX7_run_26 (q := 29) rfl ?_
    refine pm_aload_n K dX7_run_29 (q := 30) rfl rfl rfl ?_
    refine pm_get K inX7 rfl (k := 3) (by decide) wlX7_64 rfl (by have := M3.1; omega) M3.2.1 rfl dX7_run_30 (q := 33) rfl ?_
    refine pm_top (y := nI (j)) (c3.trans ej) ?_
    refine mo_iald (j := 1) K M3 (by decide) (by decide) (show j < 3 by omega) dX7_run_33 (q := 34) rfl ?_
    refine pm_top (y := nI ((T j).length)) (t2) ?_
    refine mo_put (k := 13) K M3 (by decide) wlX7_78 dX7_run_34 (q := 37) rfl (fun hm4 M4 Fm4 => ?_)
    refine pm_ic0 K dX7_run_37 (q := 38) rfl ?_
    refine pm_istore_n K dX7_run_38 (q := 39) rfl rfl (by decide) rfl ?_
    obtain ⟨g0, hg0⟩ : ∃ z, z = (upd (upd (upd (upd g 18 0) 23 0) 17 0) 13 (nI (T j).length)) := ⟨_, rfl⟩
    have M0 : mo_at n hm4 g0 A := by rw [hg0]; exact M4
    have I0 : gf [13, 15, 17, 18, 23] [8, 9, 10, 11, 12, 13, 14] g A g0 A ∧ g0 17 = 0 ∧ g0 23 = 0 ∧ g0 18 = 0 ∧ g0 13 = nI (T j).length := by
      rw [hg0]
      exact ⟨(((gf.rf.up (by decide) _).up (by decide) _).up (by decide) _).up (by decide) _, rfl, rfl, rfl, rfl⟩
    have steps : ∀ (m s : Nat) (h1 : pm_H) (g1 : Nat → Int32) (A1 : Nat → Nat → Int32) (x2 x3 : Option Value), s + m = sc → (∀ i, i < s → (rn_L T S j (i + 1)).length ≤ 24) → mo_at n h1 g1 A1 → ro g1 A1 (rn_L T S j s) → gf [13, 15, 17, 18, 23] [8, 9, 10, 11, 12, 13, 14] g A g1 A1 ∧ g1 17 = 0 ∧ g1 23 = 0 ∧ (g1 18 = nI (rn_p T S j s).length ∧ ∀ s0, s0 < (rn_p T S j s).length → (rn_p T S j s)[s0]? = some (A1 11 s0, A1 12 s0, A1 13 s0, A1 14 s0)) → mo_fr h h1 → G 0 0 77 [some (.ref 112), some (.int (nI s)), x2, x3] [] n h1 := by
      intro m
      induction m with
      | zero =>
        intro s h1 g1 A1 x2 x3 hm hle M1 R1 IH hf1
        obtain ⟨F1, g17, g23, pp⟩ := IH
        have hsc := c4.2
        have hR := R1.2.1
        refine pm_iload_n K dX7_run_77 (q := 78) rfl rfl rfl ?_
        refine pm_aload_n K dX7_run_78 (q := 79) rfl rfl rfl ?_
        refine pm_get K inX7 rfl (k := 4) (by decide) wlX7_68 rfl (by have := M1.1; omega) M1.2.1 rfl dX7_run_79 (q := 82) rfl ?_
        refine pm_top (y := nI (sc)) ((F1.1 4 (by decide)).trans c4.1) ?_
        refine pm_icmp_ge K dX7_run_82 (tgt := 207) (q := 85) rfl rfl (fun _ => ?_) (fun z => absurd ((kleI (a := sc) (b := s) rfl rfl (by omega) (by omega)).mpr (by omega)) z)
        have es : s = sc := by omega
        subst es
        refine pm_aload_n K dX7_run_207 (q := 208) rfl rfl rfl ?_
        refine pm_callV0 K gw_ok wcX7_118 (m_order l M1 R1) rfl (by have := M1.1; omega) M1.2.1 rfl rfl (Nat.le_of_ble_eq_true rfl) (by decide) dX7_run_208 (q := 211) rfl (fun r2 h2 hp => ?_)
        obtain ⟨rfl, g2, A2, M2, F2, h17, hA2, hf2⟩ := hp
        obtain ⟨l1, p1, p2, p3⟩ := or_res R1.2.2 hA2
        have el := p1.length_eq
        refine pm_aload_n K dX7_run_211 (q := 212) rfl rfl rfl ?_
        refine pm_aload_n K dX7_run_212 (q := 213) rfl rfl rfl ?_
        refine pm_get K inX7 rfl (k := 13) (by decide) wlX7_78 rfl (by have := M2.1; omega) M2.2.1 rfl dX7_run_213 (q := 216) rfl ?_
        refine pm_top (y := nI ((rn_L T S j s).length)) ((F2.1 13 (by decide)).trans R1.1) ?_
        refine mo_put (k := 23) K M2 (by decide) wlX7_108 dX7_run_216 (q := 219) rfl (fun hm1 M1 Fm1 => ?_)
        refine pm_aload_n K dX7_run_219 (q := 220) rfl rfl rfl ?_
        refine pm_get K inX7 rfl (k := 13) (by decide) wlX7_78 rfl (by have := M1.1; omega) M1.2.1 rfl dX7_run_220 (q := 223) rfl ?_
        refine pm_top (y := nI ((rn_L T S j s).length)) ((F2.1 13 (by decide)).trans R1.1) ?_
        have F3 := (F1.tr (F2.mono (K' := [13, 15, 17, 18, 23]) (J' := [8, 9, 10, 11, 12, 13, 14]) (by decide) (by decide))).up (k := 23) (by decide) (nI (rn_L T S j s).length)
        have hpl2 := rn_p_len T S j s
        exact pm_iret Z dX7_run_223 rfl rfl (Nat.le_of_ble_eq_true rfl) (Nat.le_of_ble_eq_true rfl) ⟨rfl, (Or.inr ⟨rfl, hf1.tr (hf2.tr Fm1), Or.inr ⟨hle, l1, p1, p2, by rw [el], ⟨_, _, M1, rt c1 F3, (F3.1 2 (by decide)).trans c2, (F3.1 3 (by decide)).trans c3, ⟨(F3.1 4 (by decide)).trans c4.1, c4.2⟩, rs c5 F3, rc c6 F3, ⟨h17.trans (by rw [el]), by omega, p3⟩, ⟨(F2.1 18 (by decide)).trans pp.1, by omega, fun s0 hs0 => by rw [F2.2 11 (by decide), F2.2 12 (by decide), F2.2 13 (by decide), F2.2 14 (by decide)]; exact pp.2 s0 hs0⟩, ⟨by rw [el]; rfl, by omega⟩⟩⟩⟩)⟩
      | succ m ih =>
        intro s h1 g1 A1 x2 x3 hm hle M1 R1 IH hf1
        obtain ⟨F1, g17, g23, pp⟩ := IH
        have hsc := c4.2
        have hR := R1.2.1
        refine pm_iload_n K dX7_run_77 (q := 78) rfl rfl rfl ?_
        refine pm_aload_n K dX7_run_78 (q := 79) rfl rfl rfl ?_
        refine pm_get K inX7 rfl (k := 4) (by decide) wlX7_68 rfl (by have := M1.1; omega) M1.2.1 rfl dX7_run_79 (q := 82) rfl ?_
        refine pm_top (y := nI (sc)) ((F1.1 4 (by decide)).trans c4.1) ?_
        refine pm_icmp_ge K dX7_run_82 (tgt := 207) (q := 85) rfl rfl (fun z => absurd ((kleI (a := sc) (b := s) rfl rfl (by omega) (by omega)).mp z) (by omega)) (fun _ => ?_)
        have B1 := rt c1 F1
        have hS1 := rs c5 F1 s (by omega)
        refine pm_aload_n K dX7_run_85 (q := 86) rfl rfl rfl ?_
        refine pm_iload_n K dX7_run_86 (q := 87) rfl rfl rfl ?_
        refine pm_callV0 K gw_ok wcX7_111 (m_work l M1 R1 B1 (s := s) (S := S s) (by omega) hS1 (hst s (by omega))) rfl (by have := M1.1; omega) M1.2.1 rfl rfl (Nat.le_of_ble_eq_true rfl) (by decide) dX7_run_87 (q := 90) rfl (fun r2 h2 hp => ?_)
        obtain ⟨rfl, g2, A2, M2, hg2, F2, hf2⟩ := hp
        have hlen := sp_len T R1.2.1 (hst s (by omega)) (fun t ht => (c1 t ht).1)
        have R2 := R1.gf F2
        have B2 : ta A2 T := ta.gf (show ta A1 T from B1) F2
        have hS2 : A2 2 s = S s 0 ∧ A2 3 s = S s 1 ∧ A2 4 s = S s 2 ∧ A2 5 s = S s 3 := by rw [F2.2 2 (by decide), F2.2 3 (by decide), F2.2 4 (by decide), F2.2 5 (by decide)]; exact hS1
        have pp2 : g2 18 = nI (rn_p T S j s).length ∧ ∀ s0, s0 < (rn_p T S j s).length → (rn_p T S j s)[s0]? = some (A2 11 s0, A2 12 s0, A2 13 s0, A2 14 s0) := ⟨(F2.1 18 (by decide)).trans pp.1, fun s0 hs0 => by rw [F2.2 11 (by decide), F2.2 12 (by decide), F2.2 13 (by decide), F2.2 14 (by decide)]; exact pp.2 s0 hs0⟩
        have hpl2 := rn_p_len T S j s
        refine pm_aload_n K dX7_run_90 (q := 91) rfl rfl rfl ?_
        refine pm_get K inX7 rfl (k := 15) (by decide) wlX7_75 rfl (by have := M2.1; omega) M2.2.1 rfl dX7_run_91 (q := 94) rfl ?_
        refine pm_top (y := nI ((sp T (S s) (rn_L T S j s)).length)) (hg2.1) ?_
        refine pm_bipush (v := 24) K dX7_run_94 (q := 96) rfl (by decide) ?_
        refine pm_icmp_gt K dX7_run_96 (tgt := 103) (q := 99) rfl rfl (fun z => ?_) (fun z => ?_)
        · have hroom : 24 < (sp T (S s) (rn_L T S j s)).length := (kltI (a := 24) (b := (sp T (S s) (rn_L T S j s)).length) rfl rfl (by omega) (by omega)).mp z
          refine pm_ic0 K dX7_run_103 (q := 104) rfl ?_
          refine pm_istore_n K dX7_run_104 (q := 105) rfl rfl (by decide) rfl ?_
          refine pm_aload_n K dX7_run_105 (q := 106) rfl rfl rfl ?_
          refine pm_aload_n K dX7_run_106 (q := 107) rfl rfl rfl ?_
          refine pm_get K inX7 rfl (k := 5) (by decide) wlX7_16 rfl (by have := M2.1; omega) M2.2.1 rfl dX7_run_107 (q := 110) rfl ?_
          refine pm_iload_n K dX7_run_110 (q := 111) rfl rfl rfl ?_
          refine mo_iald (j := 2) K M2 (by decide) (by decide) (show s < 3 by omega) dX7_run_111 (q := 112) rfl ?_
          refine pm_top (y := S s 0) (hS2.1) ?_
          refine pm_aload_n K dX7_run_112 (q := 113) rfl rfl rfl ?_
          refine pm_get K inX7 rfl (k := 13) (by decide) wlX7_78 rfl (by have := M2.1; omega) M2.2.1 rfl dX7_run_113 (q := 116) rfl ?_
          refine pm_top (y := nI ((rn_L T S j s).length)) (R2.1) ?_
          refine pm_aload_n K dX7_run_116 (q := 117) rfl rfl rfl ?_
          refine pm_get K inX7 rfl (k := 5) (by decide) wlX7_16 rfl (by have := M2.1; omega) M2.2.1 rfl dX7_run_117 (q := 120) rfl ?_
          refine pm_iload_n K dX7_run_120 (q := 121) rfl rfl rfl ?_
          refine mo_iald (j := 2) K M2 (by decide) (by decide) (show s < 3 by omega) dX7_run_121 (q := 122) rfl ?_
          refine pm_top (y := S s 0) (hS2.1) ?_
          refine pm_ic4 K dX7_run_122 (q := 123) rfl ?_
          refine pm_icmp_ne K dX7_run_123 (tgt := 140) (q := 126) rfl rfl (fun h4 => ?_) (fun h4 => ?_)
          · refine pm_ic0 K dX7_run_140 (q := 141) rfl ?_
            refine pm_iload_n K dX7_run_141 (q := 142) rfl rfl rfl ?_
            refine pm_if_eq K dX7_run_142 (tgt := 152) (q := 145) rfl rfl (fun _ => ?_) (fun z => absurd z (fun z => z rfl))
            refine pm_icm1 K dX7_run_152 (q := 153) rfl ?_
            refine pm_callV0 K gw_ok wcX7_115 (m_part l M2 pp2 (by omega) (S s 0) (nI (rn_L T S j s).length) (0) (-1)) rfl (by have := M2.1; omega) M2.2.1 rfl rfl (Nat.le_of_ble_eq_true rfl) (by decide) dX7_run_153 (q := 156) rfl (fun r3 h3 hp => ?_)
            obtain ⟨rfl, g3, A3, M3, pp3, F3, hf3⟩ := hp
            have ep : rn_p T S j (s + 1) = rn_p T S j s ++ [(S s 0, nI (rn_L T S j s).length, 0, (-1))] := by rw [rn_p, if_neg h4, if_neg (show ¬ (rn_L T S j (s + 1)).length ≤ 24 from by rw [rn_L]; omega)]
            rw [← ep] at pp3
            have F13 := F1.tr ((F2.mono (K' := [13, 15, 17, 18, 23]) (J' := [8, 9, 10, 11, 12, 13, 14]) (by decide) (by decide)).tr (F3.mono (K' := [13, 15, 17, 18, 23]) (J' := [8, 9, 10, 11, 12, 13, 14]) (by decide) (by decide)))
            have g173 : g3 17 = 0 := (F3.1 17 (by decide)).trans ((F2.1 17 (by decide)).trans g17)
            have g233 : g3 23 = 0 := (F3.1 23 (by decide)).trans ((F2.1 23 (by decide)).trans g23)
            refine pm_iload_n K dX7_run_156 (q := 157) rfl rfl rfl ?_
            refine pm_if_ne K dX7_run_157 (tgt := 163) (q := 160) rfl rfl (fun z => absurd z (fun z => z rfl)) (fun _ => ?_)
            refine pm_bipush (v := -2) K dX7_run_160 (q := 162) rfl (by decide) ?_
            have hpl3 := rn_p_len T S j (s + 1)
            exact pm_iret Z dX7_run_162 rfl rfl (Nat.le_of_ble_eq_true rfl) (Nat.le_of_ble_eq_true rfl) ⟨rfl, (Or.inr ⟨rfl, hf1.tr (hf2.tr hf3), Or.inl ⟨s, by omega, hle, by show 24 < _; rw [rn_L]; omega, rfl, ⟨_, _, M3, rt c1 F13, (F13.1 2 (by decide)).trans c2, (F13.1 3 (by decide)).trans c3, ⟨(F13.1 4 (by decide)).trans c4.1, c4.2⟩, rs c5 F13, rc c6 F13, ⟨g173, by decide, fun k hk => absurd hk (Nat.not_lt_zero _)⟩, ⟨pp3.1, by omega, pp3.2⟩, ⟨g233, by decide⟩⟩⟩⟩)⟩
          · obtain ⟨tj, htj, etj⟩ := st_4 (hst s (by omega)) h4
            refine pm_aload_n K dX7_run_126 (q := 127) rfl rfl rfl ?_
            refine pm_get K inX7 rfl (k := 1) (by decide) wlX7_13 rfl (by have := M2.1; omega) M2.2.1 rfl dX7_run_127 (q := 130) rfl ?_
            refine pm_aload_n K dX7_run_130 (q := 131) rfl rfl rfl ?_
            refine pm_get K inX7 rfl (k := 6) (by decide) wlX7_19 rfl (by have := M2.1; omega) M2.2.1 rfl dX7_run_131 (q := 134) rfl ?_
            refine pm_iload_n K dX7_run_134 (q := 135) rfl rfl rfl ?_
            refine mo_iald (j := 3) K M2 (by decide) (by decide) (show s < 3 by omega) dX7_run_135 (q := 136) rfl ?_
            refine pm_top (y := nI (tj)) (hS2.2.1.trans etj) ?_
            refine mo_iald (j := 1) K M2 (by decide) (by decide) (show tj < 3 by omega) dX7_run_136 (q := 137) rfl ?_
            refine pm_top (y := nI (T (S s 1).toNatClampNeg).length) (by rw [etj, nI_clamp (by omega)]; exact (B2 tj htj).2.1) ?_
            refine pm_goto K dX7_run_137 (q := 141) rfl ?_
            refine pm_iload_n K dX7_run_141 (q := 142) rfl rfl rfl ?_
            refine pm_if_eq K dX7_run_142 (tgt := 152) (q := 145) rfl rfl (fun _ => ?_) (fun z => absurd z (fun z => z rfl))
            refine pm_icm1 K dX7_run_152 (q := 153) rfl ?_
            refine pm_callV0 K gw_ok wcX7_115 (m_part l M2 pp2 (by omega) (S s 0) (nI (rn_L T S j s).length) (nI (T (S s 1).toNatClampNeg).length) (-1)) rfl (by have := M2.1; omega) M2.2.1 rfl rfl (Nat.le_of_ble_eq_true rfl) (by decide) dX7_run_153 (q := 156) rfl (fun r3 h3 hp => ?_)
            obtain ⟨rfl, g3, A3, M3, pp3, F3, hf3⟩ := hp
            have ep : rn_p T S j (s + 1) = rn_p T S j s ++ [(S s 0, nI (rn_L T S j s).length, nI (T (S s 1).toNatClampNeg).length, (-1))] := by rw [rn_p, if_pos h4, if_neg (show ¬ (rn_L T S j (s + 1)).length ≤ 24 from by rw [rn_L]; omega)]
            rw [← ep] at pp3
            have F13 := F1.tr ((F2.mono (K' := [13, 15, 17, 18, 23]) (J' := [8, 9, 10, 11, 12, 13, 14]) (by decide) (by decide)).tr (F3.mono (K' := [13, 15, 17, 18, 23]) (J' := [8, 9, 10, 11, 12, 13, 14]) (by decide) (by decide)))
            have g173 : g3 17 = 0 := (F3.1 17 (by decide)).trans ((F2.1 17 (by decide)).trans g17)
            have g233 : g3 23 = 0 := (F3.1 23 (by decide)).trans ((F2.1 23 (by decide)).trans g23)
            refine pm_iload_n K dX7_run_156 (q := 157) rfl rfl rfl ?_
            refine pm_if_ne K dX7_run_157 (tgt := 163) (q := 160) rfl rfl (fun z => absurd z (fun z => z rfl)) (fun _ => ?_)
            refine pm_bipush (v := -2) K dX7_run_160 (q := 162) rfl (by decide) ?_
            have hpl3 := rn_p_len T S j (s + 1)
            exact pm_iret Z dX7_run_162 rfl rfl (Nat.le_of_ble_eq_true rfl) (Nat.le_of_ble_eq_true rfl) ⟨rfl, (Or.inr ⟨rfl, hf1.tr (hf2.tr hf3), Or.inl ⟨s, by omega, hle, by show 24 < _; rw [rn_L]; omega, rfl, ⟨_, _, M3, rt c1 F13, (F13.1 2 (by decide)).trans c2, (F13.1 3 (by decide)).trans c3, ⟨(F13.1 4 (by decide)).trans c4.1, c4.2⟩, rs c5 F13, rc c6 F13, ⟨g173, by decide, fun k hk => absurd hk (Nat.not_lt_zero _)⟩, ⟨pp3.1, by omega, pp3.2⟩, ⟨g233, by decide⟩⟩⟩⟩)⟩
        · have hroom : ¬ 24 < (sp T (S s) (rn_L T S j s)).length := fun y => z ((kltI (a := 24) (b := (sp T (S s) (rn_L T S j s)).length) rfl rfl (by omega) (by omega)).mpr y)
          have hroom : (sp T (S s) (rn_L T S j s)).length ≤ 24 := by omega
          refine pm_ic1 K dX7_run_99 (q := 100) rfl ?_
          refine pm_goto K dX7_run_100 (q := 104) rfl ?_
          refine pm_istore_n K dX7_run_104 (q := 105) rfl rfl (by decide) rfl ?_
          refine pm_aload_n K dX7_run_105 (q := 106) rfl rfl rfl ?_
          refine pm_aload_n K dX7_run_106 (q := 107) rfl rfl rfl ?_
          refine pm_get K inX7 rfl (k := 5) (by decide) wlX7_16 rfl (by have := M2.1; omega) M2.2.1 rfl dX7_run_107 (q := 110) rfl ?_
          refine pm_iload_n K dX7_run_110 (q := 111) rfl rfl rfl ?_
          refine mo_iald (j := 2) K M2 (by decide) (by decide) (show s < 3 by omega) dX7_run_111 (q := 112) rfl ?_
          refine pm_top (y := S s 0) (hS2.1) ?_
          refine pm_aload_n K dX7_run_112 (q := 113) rfl rfl rfl ?_
          refine pm_get K inX7 rfl (k := 13) (by decide) wlX7_78 rfl (by have := M2.1; omega) M2.2.1 rfl dX7_run_113 (q := 116) rfl ?_
          refine pm_top (y := nI ((rn_L T S j s).length)) (R2.1) ?_
          refine pm_aload_n K dX7_run_116 (q := 117) rfl rfl rfl ?_
          refine pm_get K inX7 rfl (k := 5) (by decide) wlX7_16 rfl (by have := M2.1; omega) M2.2.1 rfl dX7_run_117 (q := 120) rfl ?_
          refine pm_iload_n K dX7_run_120 (q := 121) rfl rfl rfl ?_
          refine mo_iald (j := 2) K M2 (by decide) (by decide) (show s < 3 by omega) dX7_run_121 (q := 122) rfl ?_
          refine pm_top (y := S s 0) (hS2.1) ?_
          refine pm_ic4 K dX7_run_122 (q := 123) rfl ?_
          refine pm_icmp_ne K dX7_run_123 (tgt := 140) (q := 126) rfl rfl (fun h4 => ?_) (fun h4 => ?_)
          · refine pm_ic0 K dX7_run_140 (q := 141) rfl ?_
            refine pm_iload_n K dX7_run_141 (q := 142) rfl rfl rfl ?_
            refine pm_if_eq K dX7_run_142 (tgt := 152) (q := 145) rfl rfl (fun z => absurd z (by decide)) (fun _ => ?_)
            refine pm_aload_n K dX7_run_145 (q := 146) rfl rfl rfl ?_
            refine pm_get K inX7 rfl (k := 15) (by decide) wlX7_75 rfl (by have := M2.1; omega) M2.2.1 rfl dX7_run_146 (q := 149) rfl ?_
            refine pm_top (y := nI ((sp T (S s) (rn_L T S j s)).length)) (hg2.1) ?_
            refine pm_goto K dX7_run_149 (q := 153) rfl ?_
            refine pm_callV0 K gw_ok wcX7_115 (m_part l M2 pp2 (by omega) (S s 0) (nI (rn_L T S j s).length) (0) (nI (sp T (S s) (rn_L T S j s)).length)) rfl (by have := M2.1; omega) M2.2.1 rfl rfl (Nat.le_of_ble_eq_true rfl) (by decide) dX7_run_153 (q := 156) rfl (fun r3 h3 hp => ?_)
            obtain ⟨rfl, g3, A3, M3, pp3, F3, hf3⟩ := hp
            have ep : rn_p T S j (s + 1) = rn_p T S j s ++ [(S s 0, nI (rn_L T S j s).length, 0, (nI (sp T (S s) (rn_L T S j s)).length))] := by rw [rn_p, if_neg h4, if_pos (show (rn_L T S j (s + 1)).length ≤ 24 from by show _ ≤ _; rw [rn_L]; omega)]; rfl
            rw [← ep] at pp3
            have F13 := F1.tr ((F2.mono (K' := [13, 15, 17, 18, 23]) (J' := [8, 9, 10, 11, 12, 13, 14]) (by decide) (by decide)).tr (F3.mono (K' := [13, 15, 17, 18, 23]) (J' := [8, 9, 10, 11, 12, 13, 14]) (by decide) (by decide)))
            have g173 : g3 17 = 0 := (F3.1 17 (by decide)).trans ((F2.1 17 (by decide)).trans g17)
            have g233 : g3 23 = 0 := (F3.1 23 (by decide)).trans ((F2.1 23 (by decide)).trans g23)
            refine pm_iload_n K dX7_run_156 (q := 157) rfl rfl rfl ?_
            refine pm_if_ne K dX7_run_157 (tgt := 163) (q := 160) rfl rfl (fun _ => ?_) (fun z => absurd z (fun z => absurd z (by decide)))
            refine pm_aload_n K dX7_run_163 (q := 164) rfl rfl rfl ?_
            refine pm_aload_n K dX7_run_164 (q := 165) rfl rfl rfl ?_
            refine pm_get K inX7 rfl (k := 15) (by decide) wlX7_75 rfl (by have := M3.1; omega) M3.2.1 rfl dX7_run_165 (q := 168) rfl ?_
            refine pm_top (y := nI ((sp T (S s) (rn_L T S j s)).length)) ((F3.1 15 (by decide)).trans hg2.1) ?_
            refine mo_put (k := 13) K M3 (by decide) wlX7_78 dX7_run_168 (q := 171) rfl (fun hm1 M1 Fm1 => ?_)
            refine pm_ic0 K dX7_run_171 (q := 172) rfl ?_
            refine pm_istore_n K dX7_run_172 (q := 173) rfl rfl (by decide) rfl ?_
            have cp : ∀ (m2 k : Nat) (h5 : pm_H) (A5 : Nat → Nat → Int32), k + m2 = 3 * (sp T (S s) (rn_L T S j s)).length → mo_at n h5 (upd g3 13 (nI (sp T (S s) (rn_L T S j s)).length)) A5 → gf [] [8] g3 A3 g3 A5 → (∀ i, i < k → A5 8 i = A3 9 i) → mo_fr h h5 → G 0 0 173 [some (.ref 112), some (.int (nI s)), some (.int (b2i true)), some (.int (nI k))] [] n h5 := by
              intro m2
              induction m2 with
              | zero =>
                intro k h5 A5 hk M5 F5 hA5 hf5
                refine pm_iload_n K dX7_run_173 (q := 174) rfl rfl rfl ?_
                refine pm_ic3 K dX7_run_174 (q := 175) rfl ?_
                refine pm_aload_n K dX7_run_175 (q := 176) rfl rfl rfl ?_
                refine pm_get K inX7 rfl (k := 13) (by decide) wlX7_78 rfl (by have := M5.1; omega) M5.2.1 rfl dX7_run_176 (q := 179) rfl ?_
                refine pm_top (y := nI ((sp T (S s) (rn_L T S j s)).length)) (rfl) ?_
                refine pm_imul K dX7_run_179 (q := 180) rfl ?_
                refine pm_top (y := nI (3 * ((sp T (S s) (rn_L T S j s)).length))) (kmul (a := 3) (b := (sp T (S s) (rn_L T S j s)).length) rfl rfl) ?_
                refine pm_icmp_ge K dX7_run_180 (tgt := 201) (q := 183) rfl rfl (fun _ => ?_) (fun z => absurd ((kleI (a := 3 * ((sp T (S s) (rn_L T S j s)).length)) (b := k) rfl rfl (by omega) (by omega)).mpr (by omega)) z)
                refine pm_inc K dX7_run_201 (q := 204) rfl rfl (by decide) rfl ?_
                refine pm_goto K dX7_run_204 (q := 77) rfl ?_
                have F15 := (F13.tr (F5.mono (K' := [13, 15, 17, 18, 23]) (J' := [8, 9, 10, 11, 12, 13, 14]) (by decide) (by decide))).up (k := 13) (by decide) (nI (sp T (S s) (rn_L T S j s)).length)
                refine ih (s + 1) h5 _ A5 _ _ (by omega) (fun i hi => ?_) M5 ⟨rfl, hroom, ?_⟩ ⟨F15, g173, g233, ?_⟩ hf5
                · by_cases e : i = s
                  · subst e; rw [rn_L]; omega
                  · exact hle i (by omega)
                · exact gi_ls hg2 (by omega) (fun i hi => by rw [hA5 i (by omega), F3.2 9 (by decide)])
                · refine ⟨pp3.1, fun s0 hs0 => ?_⟩
                  rw [F5.2 11 (by decide), F5.2 12 (by decide), F5.2 13 (by decide), F5.2 14 (by decide)]
                  exact pp3.2 s0 hs0
              | succ m2 ih2 =>
                intro k h5 A5 hk M5 F5 hA5 hf5
                refine pm_iload_n K dX7_run_173 (q := 174) rfl rfl rfl ?_
                refine pm_ic3 K dX7_run_174 (q := 175) rfl ?_
                refine pm_aload_n K dX7_run_175 (q := 176) rfl rfl rfl ?_
                refine pm_get K inX7 rfl (k := 13) (by decide) wlX7_78 rfl (by have := M5.1; omega) M5.2.1 rfl dX7_run_176 (q := 179) rfl ?_
                refine pm_top (y := nI ((sp T (S s) (rn_L T S j s)).length)) (rfl) ?_
                refine pm_imul K dX7_run_179 (q := 180) rfl ?_
                refine pm_top (y := nI (3 * ((sp T (S s) (rn_L T S j s)).length))) (kmul (a := 3) (b := (sp T (S s) (rn_L T S j s)).length) rfl rfl) ?_
                refine pm_icmp_ge K dX7_run_180 (tgt := 201) (q := 183) rfl rfl (fun z => absurd ((kleI (a := 3 * ((sp T (S s) (rn_L T S j s)).length)) (b := k) rfl rfl (by omega) (by omega)).mp z) (by omega)) (fun _ => ?_)
                refine pm_aload_n K dX7_run_183 (q := 184) rfl rfl rfl ?_
                refine pm_get K inX7 rfl (k := 12) (by decide) wlX7_35 rfl (by have := M5.1; omega) M5.2.1 rfl dX7_run_184 (q := 187) rfl ?_
                refine pm_iload_n K dX7_run_187 (q := 188) rfl rfl rfl ?_
                refine pm_aload_n K dX7_run_188 (q := 189) rfl rfl rfl ?_
                refine pm_get K inX7 rfl (k := 14) (by decide) wlX7_38 rfl (by have := M5.1; omega) M5.2.1 rfl dX7_run_189 (q := 192) rfl ?_
                refine pm_iload_n K dX7_run_192 (q := 193) rfl rfl rfl ?_
                refine mo_iald (j := 9) K M5 (by decide) (by decide) (show k < 75 by omega) dX7_run_193 (q := 194) rfl ?_
                refine pm_top (y := A3 9 k) (congrFun (F5.2 9 (by decide)) k) ?_
                refine mo_iast (j := 8) K M5 (by decide) (by decide) (show k < 72 by omega) dX7_run_194 (q := 195) rfl (fun hm1 M1 Fm1 => ?_)
                refine pm_inc K dX7_run_195 (q := 198) rfl rfl (by decide) rfl ?_
                refine pm_goto K dX7_run_198 (q := 173) rfl ?_
                exact ih2 (k + 1) _ _ (by omega) M1 (F5.ua (by decide) _) (cp_s hA5) (hf5.tr Fm1)
            exact cp (3 * (sp T (S s) (rn_L T S j s)).length) 0 _ _ (by omega) M1 gf.rf (fun i hi => absurd hi (Nat.not_lt_zero _)) (hf1.tr (hf2.tr (hf3.tr Fm1)))
          · obtain ⟨tj, htj, etj⟩ := st_4 (hst s (by omega)) h4
            refine pm_aload_n K dX7_run_126 (q := 127) rfl rfl rfl ?_
            refine pm_get K inX7 rfl (k := 1) (by decide) wlX7_13 rfl (by have := M2.1; omega) M2.2.1 rfl dX7_run_127 (q := 130) rfl ?_
            refine pm_aload_n K dX7_run_130 (q := 131) rfl rfl rfl ?_
            refine pm_get K inX7 rfl (k := 6) (by decide) wlX7_19 rfl (by have := M2.1; omega) M2.2.1 rfl dX7_run_131 (q := 134) rfl ?_
            refine pm_iload_n K dX7_run_134 (q := 135) rfl rfl rfl ?_
            refine mo_iald (j := 3) K M2 (by decide) (by decide) (show s < 3 by omega) dX7_run_135 (q := 136) rfl ?_
            refine pm_top (y := nI (tj)) (hS2.2.1.trans etj) ?_
            refine mo_iald (j := 1) K M2 (by decide) (by decide) (show tj < 3 by omega) dX7_run_136 (q := 137) rfl ?_
            refine pm_top (y := nI (T (S s 1).toNatClampNeg).length) (by rw [etj, nI_clamp (by omega)]; exact (B2 tj htj).2.1) ?_
            refine pm_goto K dX7_run_137 (q := 141) rfl ?_
            refine pm_iload_n K dX7_run_141 (q := 142) rfl rfl rfl ?_
            refine pm_if_eq K dX7_run_142 (tgt := 152) (q := 145) rfl rfl (fun z => absurd z (by decide)) (fun _ => ?_)
            refine pm_aload_n K dX7_run_145 (q := 146) rfl rfl rfl ?_
            refine pm_get K inX7 rfl (k := 15) (by decide) wlX7_75 rfl (by have := M2.1; omega) M2.2.1 rfl dX7_run_146 (q := 149) rfl ?_
            refine pm_top (y := nI ((sp T (S s) (rn_L T S j s)).length)) (hg2.1) ?_
            refine pm_goto K dX7_run_149 (q := 153) rfl ?_
            refine pm_callV0 K gw_ok wcX7_115 (m_part l M2 pp2 (by omega) (S s 0) (nI (rn_L T S j s).length) (nI (T (S s 1).toNatClampNeg).length) (nI (sp T (S s) (rn_L T S j s)).length)) rfl (by have := M2.1; omega) M2.2.1 rfl rfl (Nat.le_of_ble_eq_true rfl) (by decide) dX7_run_153 (q := 156) rfl (fun r3 h3 hp => ?_)
            obtain ⟨rfl, g3, A3, M3, pp3, F3, hf3⟩ := hp
            have ep : rn_p T S j (s + 1) = rn_p T S j s ++ [(S s 0, nI (rn_L T S j s).length, nI (T (S s 1).toNatClampNeg).length, (nI (sp T (S s) (rn_L T S j s)).length))] := by rw [rn_p, if_pos h4, if_pos (show (rn_L T S j (s + 1)).length ≤ 24 from by show _ ≤ _; rw [rn_L]; omega)]; rfl
            rw [← ep] at pp3
            have F13 := F1.tr ((F2.mono (K' := [13, 15, 17, 18, 23]) (J' := [8, 9, 10, 11, 12, 13, 14]) (by decide) (by decide)).tr (F3.mono (K' := [13, 15, 17, 18, 23]) (J' := [8, 9, 10, 11, 12, 13, 14]) (by decide) (by decide)))
            have g173 : g3 17 = 0 := (F3.1 17 (by decide)).trans ((F2.1 17 (by decide)).trans g17)
            have g233 : g3 23 = 0 := (F3.1 23 (by decide)).trans ((F2.1 23 (by decide)).trans g23)
            refine pm_iload_n K dX7_run_156 (q := 157) rfl rfl rfl ?_
            refine pm_if_ne K dX7_run_157 (tgt := 163) (q := 160) rfl rfl (fun _ => ?_) (fun z => absurd z (fun z => absurd z (by decide)))
            refine pm_aload_n K dX7_run_163 (q := 164) rfl rfl rfl ?_
            refine pm_aload_n K dX7_run_164 (q := 165) rfl rfl rfl ?_
            refine pm_get K inX7 rfl (k := 15) (by decide) wlX7_75 rfl (by have := M3.1; omega) M3.2.1 rfl dX7_run_165 (q := 168) rfl ?_
            refine pm_top (y := nI ((sp T (S s) (rn_L T S j s)).length)) ((F3.1 15 (by decide)).trans hg2.1) ?_
            refine mo_put (k := 13) K M3 (by decide) wlX7_78 dX7_run_168 (q := 171) rfl (fun hm1 M1 Fm1 => ?_)
            refine pm_ic0 K dX7_run_171 (q := 172) rfl ?_
            refine pm_istore_n K dX7_run_172 (q := 173) rfl rfl (by decide) rfl ?_
            have cp : ∀ (m2 k : Nat) (h5 : pm_H) (A5 : Nat → Nat → Int32), k + m2 = 3 * (sp T (S s) (rn_L T S j s)).length → mo_at n h5 (upd g3 13 (nI (sp T (S s) (rn_L T S j s)).length)) A5 → gf [] [8] g3 A3 g3 A5 → (∀ i, i < k → A5 8 i = A3 9 i) → mo_fr h h5 → G 0 0 173 [some (.ref 112), some (.int (nI s)), some (.int (b2i true)), some (.int (nI k))] [] n h5 := by
              intro m2
              induction m2 with
              | zero =>
                intro k h5 A5 hk M5 F5 hA5 hf5
                refine pm_iload_n K dX7_run_173 (q := 174) rfl rfl rfl ?_
                refine pm_ic3 K dX7_run_174 (q := 175) rfl ?_
                refine pm_aload_n K dX7_run_175 (q := 176) rfl rfl rfl ?_
                refine pm_get K inX7 rfl (k := 13) (by decide) wlX7_78 rfl (by have := M5.1; omega) M5.2.1 rfl dX7_run_176 (q := 179) rfl ?_
                refine pm_top (y := nI ((sp T (S s) (rn_L T S j s)).length)) (rfl) ?_
                refine pm_imul K dX7_run_179 (q := 180) rfl ?_
                refine pm_top (y := nI (3 * ((sp T (S s) (rn_L T S j s)).length))) (kmul (a := 3) (b := (sp T (S s) (rn_L T S j s)).length) rfl rfl) ?_
                refine pm_icmp_ge K dX7_run_180 (tgt := 201) (q := 183) rfl rfl (fun _ => ?_) (fun z => absurd ((kleI (a := 3 * ((sp T (S s) (rn_L T S j s)).length)) (b := k) rfl rfl (by omega) (by omega)).mpr (by omega)) z)
                refine pm_inc K dX7_run_201 (q := 204) rfl rfl (by decide) rfl ?_
                refine pm_goto K dX7_run_204 (q := 77) rfl ?_
                have F15 := (F13.tr (F5.mono (K' := [13, 15, 17, 18, 23]) (J' := [8, 9, 10, 11, 12, 13, 14]) (by decide) (by decide))).up (k := 13) (by decide) (nI (sp T (S s) (rn_L T S j s)).length)
                refine ih (s + 1) h5 _ A5 _ _ (by omega) (fun i hi => ?_) M5 ⟨rfl, hroom, ?_⟩ ⟨F15, g173, g233, ?_⟩ hf5
                · by_cases e : i = s
                  · subst e; rw [rn_L]; omega
                  · exact hle i (by omega)
                · exact gi_ls hg2 (by omega) (fun i hi => by rw [hA5 i (by omega), F3.2 9 (by decide)])
                · refine ⟨pp3.1, fun s0 hs0 => ?_⟩
                  rw [F5.2 11 (by decide), F5.2 12 (by decide), F5.2 13 (by decide), F5.2 14 (by decide)]
                  exact pp3.2 s0 hs0
              | succ m2 ih2 =>
                intro k h5 A5 hk M5 F5 hA5 hf5
                refine pm_iload_n K dX7_run_173 (q := 174) rfl rfl rfl ?_
                refine pm_ic3 K dX7_run_174 (q := 175) rfl ?_
                refine pm_aload_n K dX7_run_175 (q := 176) rfl rfl rfl ?_
                refine pm_get K inX7 rfl (k := 13) (by decide) wlX7_78 rfl (by have := M5.1; omega) M5.2.1 rfl dX7_run_176 (q := 179) rfl ?_
                refine pm_top (y := nI ((sp T (S s) (rn_L T S j s)).length)) (rfl) ?_
                refine pm_imul K dX7_run_179 (q := 180) rfl ?_
                refine pm_top (y := nI (3 * ((sp T (S s) (rn_L T S j s)).length))) (kmul (a := 3) (b := (sp T (S s) (rn_L T S j s)).length) rfl rfl) ?_
                refine pm_icmp_ge K dX7_run_180 (tgt := 201) (q := 183) rfl rfl (fun z => absurd ((kleI (a := 3 * ((sp T (S s) (rn_L T S j s)).length)) (b := k) rfl rfl (by omega) (by omega)).mp z) (by omega)) (fun _ => ?_)
                refine pm_aload_n K dX7_run_183 (q := 184) rfl rfl rfl ?_
                refine pm_get K inX7 rfl (k := 12) (by decide) wlX7_35 rfl (by have := M5.1; omega) M5.2.1 rfl dX7_run_184 (q := 187) rfl ?_
                refine pm_iload_n K dX7_run_187 (q := 188) rfl rfl rfl ?_
                refine pm_aload_n K dX7_run_188 (q := 189) rfl rfl rfl ?_
                refine pm_get K inX7 rfl (k := 14) (by decide) wlX7_38 rfl (by have := M5.1; omega) M5.2.1 rfl dX7_run_189 (q := 192) rfl ?_
                refine pm_iload_n K dX7_run_192 (q := 193) rfl rfl rfl ?_
                refine mo_iald (j := 9) K M5 (by decide) (by decide) (show k < 75 by omega) dX7_run_193 (q := 194) rfl ?_
                refine pm_top (y := A3 9 k) (congrFun (F5.2 9 (by decide)) k) ?_
                refine mo_iast (j := 8) K M5 (by decide) (by decide) (show k < 72 by omega) dX7_run_194 (q := 195) rfl (fun hm1 M1 Fm1 => ?_)
                refine pm_inc K dX7_run_195 (q := 198) rfl rfl (by decide) rfl ?_
                refine pm_goto K dX7_run_198 (q := 173) rfl ?_
                exact ih2 (k + 1) _ _ (by omega) M1 (F5.ua (by decide) _) (cp_s hA5) (hf5.tr Fm1)
            exact cp (3 * (sp T (S s) (rn_L T S j s)).length) 0 _ _ (by omega) M1 gf.rf (fun i hi => absurd hi (Nat.not_lt_zero _)) (hf1.tr (hf2.tr (hf3.tr Fm1)))
    have cp0 : ∀ (m k : Nat) (h5 : pm_H) (A5 : Nat → Nat → Int32), k + m = 3 * (T j).length → mo_at n h5 g0 A5 → gf [] [8] g0 A g0 A5 → (∀ i, i < k → A5 8 i = A 0 (36 * j + i)) → mo_fr h h5 → G 0 0 39 [some (.ref 112), some (.int (nI k)), none, none] [] n h5 := by
      intro m
      induction m with
      | zero =>
        intro k h5 A5 hk M5 F5 hA5 hf5
        refine pm_iload_n K dX7_run_39 (q := 40) rfl rfl rfl ?_
        refine pm_ic3 K dX7_run_40 (q := 41) rfl ?_
        refine pm_aload_n K dX7_run_41 (q := 42) rfl rfl rfl ?_
        refine pm_get K inX7 rfl (k := 13) (by decide) wlX7_78 rfl (by have := M5.1; omega) M5.2.1 rfl dX7_run_42 (q := 45) rfl ?_
        refine pm_top (y := nI ((T j).length)) (I0.2.2.2.2) ?_
        refine pm_imul K dX7_run_45 (q := 46) rfl ?_
        refine pm_top (y := nI (3 * ((T j).length))) (kmul (a := 3) (b := (T j).length) rfl rfl) ?_
        refine pm_icmp_ge K dX7_run_46 (tgt := 75) (q := 49) rfl rfl (fun _ => ?_) (fun z => absurd ((kleI (a := 3 * ((T j).length)) (b := k) rfl rfl (by omega) (by omega)).mpr (by omega)) z)
        refine pm_ic0 K dX7_run_75 (q := 76) rfl ?_
        refine pm_istore_n K dX7_run_76 (q := 77) rfl rfl (by decide) rfl ?_
        have F15 := I0.1.tr (F5.mono (K' := [13, 15, 17, 18, 23]) (J' := [8, 9, 10, 11, 12, 13, 14]) (by decide) (by decide))
        exact steps sc 0 h5 g0 A5 _ _ (by omega) (fun i hi => absurd hi (Nat.not_lt_zero _)) M5 ⟨I0.2.2.2.2, by show (T j).length ≤ 24; omega, ls3_copy (fun i hi => hA5 i (by have : (rn_L T S j 0).length = (T j).length := rfl; omega)) t3⟩ ⟨F15, I0.2.1, I0.2.2.1, I0.2.2.2.1, fun s0 hs0 => absurd hs0 (Nat.not_lt_zero _)⟩ hf5
      | succ m ih =>
        intro k h5 A5 hk M5 F5 hA5 hf5
        refine pm_iload_n K dX7_run_39 (q := 40) rfl rfl rfl ?_
        refine pm_ic3 K dX7_run_40 (q := 41) rfl ?_
        refine pm_aload_n K dX7_run_41 (q := 42) rfl rfl rfl ?_
        refine pm_get K inX7 rfl (k := 13) (by decide) wlX7_78 rfl (by have := M5.1; omega) M5.2.1 rfl dX7_run_42 (q := 45) rfl ?_
        refine pm_top (y := nI ((T j).length)) (I0.2.2.2.2) ?_
        refine pm_imul K dX7_run_45 (q := 46) rfl ?_
        refine pm_top (y := nI (3 * ((T j).length))) (kmul (a := 3) (b := (T j).length) rfl rfl) ?_
        refine pm_icmp_ge K dX7_run_46 (tgt := 75) (q := 49) rfl rfl (fun z => absurd ((kleI (a := 3 * ((T j).length)) (b := k) rfl rfl (by omega) (by omega)).mp z) (by omega)) (fun _ => ?_)
        refine pm_aload_n K dX7_run_49 (q := 50) rfl rfl rfl ?_
        refine pm_get K inX7 rfl (k := 12) (by decide) wlX7_35 rfl (by have := M5.1; omega) M5.2.1 rfl dX7_run_50 (q := 53) rfl ?_
        refine pm_iload_n K dX7_run_53 (q := 54) rfl rfl rfl ?_
        refine pm_aload_n K dX7_run_54 (q := 55) rfl rfl rfl ?_
        refine pm_get K inX7 rfl (k := 0) (by decide) wlX7_7 rfl (by have := M5.1; omega) M5.2.1 rfl dX7_run_55 (q := 58) rfl ?_
        refine pm_bipush (v := 36) K dX7_run_58 (q := 60) rfl (by decide) ?_
        refine pm_aload_n K dX7_run_60 (q := 61) rfl rfl rfl ?_
        refine pm_get K inX7 rfl (k := 3) (by decide) wlX7_64 rfl (by have := M5.1; omega) M5.2.1 rfl dX7_run_61 (q := 64) rfl ?_
        refine pm_top (y := nI (j)) ((I0.1.1 3 (by decide)).trans (c3.trans ej)) ?_
        refine pm_imul K dX7_run_64 (q := 65) rfl ?_
        refine pm_top (y := nI (36 * j)) (kmul (a := 36) (b := j) rfl rfl) ?_
        refine pm_iload_n K dX7_run_65 (q := 66) rfl rfl rfl ?_
        refine pm_iadd K dX7_run_66 (q := 67) rfl ?_
        refine pm_top (y := nI (36 * j + k)) (kadd (a := 36 * j) (b := k) rfl rfl) ?_
        refine mo_iald (j := 0) K M5 (by decide) (by decide) (show 36 * j + k < 108 by omega) dX7_run_67 (q := 68) rfl ?_
        refine pm_top (y := A 0 (36 * j + k)) (congrFun (F5.2 0 (by decide)) _) ?_
        refine mo_iast (j := 8) K M5 (by decide) (by decide) (show k < 72 by omega) dX7_run_68 (q := 69) rfl (fun hm1 M1 Fm1 => ?_)
        refine pm_inc K dX7_run_69 (q := 72) rfl rfl (by decide) rfl ?_
        refine pm_goto K dX7_run_72 (q := 39) rfl ?_
        exact ih (k + 1) _ _ (by omega) M1 (F5.ua (by decide) _) (cp_s (b := fun i => A 0 (36 * j + i)) hA5) (hf5.tr Fm1)
    exact cp0 (3 * (T j).length) 0 _ _ (by omega) M0 gf.rf (fun i hi => absurd hi (Nat.not_lt_zero _)) (((Fm1.tr Fm2).tr Fm3).tr Fm4)
