/-! The reference: the trace. -/
def pl_0 (n : Nat) : List Int32 := tr_sc 0 n ++ tr_sqs 0 n (so_k n)
def pl_3 (n : Nat) : List Int32 := tr_sort 0 n ++ (tr_sc 0 n ++ (tr_bk n n ++ tr_sqs 0 n (so_k n)))
/-- a part and its accesses -/
def pt_ok (q : Int32 × Int32 × Int32 × Int32) (L : List Int32) : Prop := ∃ (kd : Int32) (n u : Nat) (gv : Int32), q = (kd, nI n, nI u, gv) ∧ n ≤ 24 ∧ n + u ≤ 36 ∧ ((kd = 0 ∧ L = pl_0 n) ∨ (kd = 1 ∧ L = tr_sc 0 n) ∨ (kd = 2 ∧ L = ap_t n) ∨ (kd = 3 ∧ L = pl_3 n) ∨ (kd = 4 ∧ ∃ P, ((1 ≤ P ∧ P ≤ 24 ∧ gv = nI P) ∨ (¬ (1 ≤ P ∧ P ≤ 24) ∧ gv < 1)) ∧ L = tr_join (n + u) P) ∨ (kd = 5 ∧ L = ap_t (n + u)))
theorem pt_eq {a b c d a' b' c' d' : Int32} (h : (a, b, c, d) = (a', b', c', d')) : a = a' ∧ b = b' ∧ c = c' ∧ d = d' := by
  cases h
  exact ⟨rfl, rfl, rfl, rfl⟩
def tr_rel (pa : List (Int32 × Int32 × Int32 × Int32)) (la : Nat) (F : List Int32) : Prop := ∃ pL : Nat → List Int32, pL 0 = [] ∧ (∀ s, s < pa.length → ∃ q L, pa[s]? = some q ∧ pt_ok q L ∧ pL (s + 1) = pL s ++ L) ∧ F = pL pa.length ++ tr_sort 0 la
theorem tr_mono {pa : List (Int32 × Int32 × Int32 × Int32)} {pL : Nat → List Int32} (hs : ∀ s, s < pa.length → ∃ q L, pa[s]? = some q ∧ pt_ok q L ∧ pL (s + 1) = pL s ++ L) : ∀ s, s ≤ pa.length → (pL s).length ≤ (pL pa.length).length := by
  have h : ∀ d s, s + d = pa.length → (pL s).length ≤ (pL pa.length).length := by
    intro d
    induction d with
    | zero => intro s e; rw [show s = pa.length by omega]; exact Nat.le_refl _
    | succ d ih =>
      intro s e
      obtain ⟨q, L, -, -, e3⟩ := hs s (by omega)
      have := ih (s + 1) (by omega)
      rw [e3, List.length_append] at this
      omega
  intro s hle
  exact h (pa.length - s) s (by omega)
theorem so_nil (x : Int32) : so_nth [] x = -1 := by
  unfold so_nth
  by_cases h : x < 0 ∨ nI ([] : List Int32).length ≤ x
  · rw [if_pos h]
  · rw [if_neg h]; rfl
def gr (g g' : Nat → Int32) : Prop := ∀ k, k ∉ [24, 25, 26] → g' k = g k
theorem gr_z (g : Nat → Int32) (a b c : Int32) : gr g (upd (upd (upd g 25 a) 24 b) 26 c) := fun k hk => by
  simp only [List.mem_cons, List.not_mem_nil, or_false, not_or] at hk
  show (if k = 26 then c else if k = 24 then b else if k = 25 then a else g k) = g k
  rw [if_neg hk.2.2, if_neg hk.1, if_neg hk.2.1]
theorem gr_q {g g0 g1 : Nat → Int32} (h : gr g g0) (q : gq g0 g1) : gr g g1 := fun k hk => by
  have hk2 := hk
  simp only [List.mem_cons, List.not_mem_nil, or_false, not_or] at hk2
  exact (q k hk2.1 hk2.2.2).trans (h k hk)
set_option maxRecDepth 100000 in
theorem m_side (l : Launch) {n : Nat} {h : pm_H} {g : Nat → Int32} {A : Nat → Nat → Int32} (M : mo_at n h g A) {w : List Int32} (hw : tw g w) {b0 m0 P : Nat} (hm : m0 ≤ 36) (hP : 1 ≤ P ∧ P ≤ 24) (hb : (w ++ tr_side b0 m0 P).length + 5000 < 2 ^ 30) : bM0 l yX7_side cX7_side 4 none 3 [.ref 112, .int (nI m0), .int (nI P), .int (nI b0)] n h (fun r h' => r = none ∧ ∃ g', mo_at n h' g' A ∧ tw g' (w ++ (tr_side b0 m0 P)) ∧ gq g g' ∧ mo_fr h h') := by
  refine pm_enter rfl (Nat.le_of_ble_eq_true rfl) (fun G K Z => ?_)
  unfold tr_side at hb
  simp only [List.length_append] at hb
  have hmx : max m0 P ≤ 76 := by omega
  have hm1 : 1 ≤ max m0 P := by omega
  refine pm_aload_n K dX7_side_0 (q := 1) rfl rfl rfl ?_
  refine pm_iload_n K dX7_side_1 (q := 2) rfl rfl rfl ?_
  refine pm_iload_n K dX7_side_2 (q := 3) rfl rfl rfl ?_
  refine pm_ic0 K dX7_side_3 (q := 4) rfl ?_
  refine pm_callV0 K gw_ok wcX7_149 (m_scan l M hw (b0 := b0) (m0 := m0) (by omega) (by omega)) rfl (by have := M.1; omega) M.2.1 rfl rfl (Nat.le_of_ble_eq_true rfl) (by decide) dX7_side_4 (q := 7) rfl (fun rt1 ht1 hp => ?_)
  obtain ⟨rfl, gt1, Mt1, Wt1, Qt1, Ft1⟩ := hp
  refine pm_aload_n K dX7_side_7 (q := 8) rfl rfl rfl ?_
  refine pm_iload_n K dX7_side_8 (q := 9) rfl rfl rfl ?_
  refine pm_iload_n K dX7_side_9 (q := 10) rfl rfl rfl ?_
  refine pm_callV0 K gw_ok wcX7_153 (m_squeeze l Mt1 Wt1 (b0 := b0) (m0 := m0) (by omega) (by simp only [List.length_append]; omega)) rfl (by have := Mt1.1; omega) Mt1.2.1 rfl rfl (Nat.le_of_ble_eq_true rfl) (by decide) dX7_side_10 (q := 13) rfl (fun rt2 ht2 hp => ?_)
  obtain ⟨rfl, gt2, Mt2, Wt2, Qt2, Ft2⟩ := hp
  refine pm_aload_n K dX7_side_13 (q := 14) rfl rfl rfl ?_
  refine pm_iload_n K dX7_side_14 (q := 15) rfl rfl rfl ?_
  refine pm_iload_n K dX7_side_15 (q := 16) rfl rfl rfl ?_
  refine pm_icmp_le K dX7_side_16 (tgt := 23) (q := 19) rfl rfl (fun z => ?_) (fun z => ?_)
  · have hx : m0 ≤ P := (kleI (a := m0) (b := P) rfl rfl (by omega) (by omega)).mp z
    have em : max m0 P = P := Nat.max_eq_right (by omega)
    rw [em] at hb hmx hm1
    refine pm_iload_n K dX7_side_23 (q := 24) rfl rfl rfl ?_
    refine pm_iload_n K dX7_side_24 (q := 25) rfl rfl rfl ?_
    refine pm_callV0 K gw_ok wcX7_156 (m_spread l Mt2 Wt2 (b0 := b0) (m0 := P) hmx hm1 (by simp only [List.length_append]; omega)) rfl (by have := Mt2.1; omega) Mt2.2.1 rfl rfl (Nat.le_of_ble_eq_true rfl) (by decide) dX7_side_25 (q := 28) rfl (fun rt3 ht3 hp => ?_)
    obtain ⟨rfl, gt3, Mt3, Wt3, Qt3, Ft3⟩ := hp
    refine pm_aload_n K dX7_side_28 (q := 29) rfl rfl rfl ?_
    refine pm_iload_n K dX7_side_29 (q := 30) rfl rfl rfl ?_
    refine pm_iload_n K dX7_side_30 (q := 31) rfl rfl rfl ?_
    refine pm_ic0 K dX7_side_31 (q := 32) rfl ?_
    refine pm_callV0 K gw_ok wcX7_149 (m_scan l Mt3 Wt3 (b0 := b0) (m0 := P) (by omega) (by simp only [List.length_append]; omega)) rfl (by have := Mt3.1; omega) Mt3.2.1 rfl rfl (Nat.le_of_ble_eq_true rfl) (by decide) dX7_side_32 (q := 35) rfl (fun rt4 ht4 hp => ?_)
    obtain ⟨rfl, gt4, Mt4, Wt4, Qt4, Ft4⟩ := hp
    exact pm_vret Z dX7_side_35 rfl (Nat.le_of_ble_eq_true rfl) (Nat.le_of_ble_eq_true rfl) ⟨rfl, ⟨rfl, _, Mt4, by unfold tr_side; rw [em]; simpa only [List.append_assoc] using Wt4, (((Qt1.tr Qt2).tr Qt3).tr Qt4), (((Ft1.tr Ft2).tr Ft3).tr Ft4)⟩⟩
  · have hx : ¬ m0 ≤ P := fun y => z ((kleI (a := m0) (b := P) rfl rfl (by omega) (by omega)).mpr y)
    have em : max m0 P = m0 := Nat.max_eq_left (by omega)
    rw [em] at hb hmx hm1
    refine pm_iload_n K dX7_side_19 (q := 20) rfl rfl rfl ?_
    refine pm_goto K dX7_side_20 (q := 24) rfl ?_
    refine pm_iload_n K dX7_side_24 (q := 25) rfl rfl rfl ?_
    refine pm_callV0 K gw_ok wcX7_156 (m_spread l Mt2 Wt2 (b0 := b0) (m0 := m0) hmx hm1 (by simp only [List.length_append]; omega)) rfl (by have := Mt2.1; omega) Mt2.2.1 rfl rfl (Nat.le_of_ble_eq_true rfl) (by decide) dX7_side_25 (q := 28) rfl (fun rt3 ht3 hp => ?_)
    obtain ⟨rfl, gt3, Mt3, Wt3, Qt3, Ft3⟩ := hp
    refine pm_aload_n K dX7_side_28 (q := 29) rfl rfl rfl ?_
    refine pm_iload_n K dX7_side_29 (q := 30) rfl rfl rfl ?_
    refine pm_iload_n K dX7_side_30 (q := 31) rfl rfl rfl ?_
    refine pm_ic0 K dX7_side_31 (q := 32) rfl ?_
    refine pm_callV0 K gw_ok wcX7_149 (m_scan l Mt3 Wt3 (b0 := b0) (m0 := P) (by omega) (by simp only [List.length_append]; omega)) rfl (by have := Mt3.1; omega) Mt3.2.1 rfl rfl (Nat.le_of_ble_eq_true rfl) (by decide) dX7_side_32 (q := 35) rfl (fun rt4 ht4 hp => ?_)
    obtain ⟨rfl, gt4, Mt4, Wt4, Qt4, Ft4⟩ := hp
    exact pm_vret Z dX7_side_35 rfl (Nat.le_of_ble_eq_true rfl) (Nat.le_of_ble_eq_true rfl) ⟨rfl, ⟨rfl, _, Mt4, by unfold tr_side; rw [em]; simpa only [List.append_assoc] using Wt4, (((Qt1.tr Qt2).tr Qt3).tr Qt4), (((Ft1.tr Ft2).tr Ft3).tr Ft4)⟩⟩
set_option maxRecDepth 100000 in
theorem m_joinTrace (l : Launch) {n : Nat} {h : pm_H} {g : Nat → Int32} {A : Nat → Nat → Int32} (M : mo_at n h g A) {w : List Int32} (hw : tw g w) {k P : Nat} {gv : Int32} (hk : k ≤ 36) (hP : (1 ≤ P ∧ P ≤ 24 ∧ gv = nI P) ∨ (¬ (1 ≤ P ∧ P ≤ 24) ∧ gv < 1)) (hb : (w ++ tr_join k P).length + 5000 < 2 ^ 30) : bM0 l yX7_joinTrace cX7_joinTrace 4 none 4 [.ref 112, .int (nI k), .int gv] n h (fun r h' => r = none ∧ ∃ g', mo_at n h' g' A ∧ tw g' (w ++ (tr_join k P)) ∧ gq g g' ∧ mo_fr h h') := by
  refine pm_enter rfl (Nat.le_of_ble_eq_true rfl) (fun G K Z => ?_)
  rcases hP with ⟨p1, p2, rfl⟩ | ⟨hP, hgv⟩
  · unfold tr_join at hb Z
    rw [if_pos (show 1 ≤ P ∧ P ≤ 24 from ⟨p1, p2⟩)] at hb Z
    simp only [List.length_append] at hb
    refine pm_aload_n K dX7_joinTrace_0 (q := 1) rfl rfl rfl ?_
    refine pm_iload_n K dX7_joinTrace_1 (q := 2) rfl rfl rfl ?_
    refine pm_ic0 K dX7_joinTrace_2 (q := 3) rfl ?_
    refine pm_callV0 K gw_ok wcX7_159 (m_sort l M hw (b0 := 0) (m0 := k) (by omega) (by simp only [List.length_append]; omega)) rfl (by have := M.1; omega) M.2.1 rfl rfl (Nat.le_of_ble_eq_true rfl) (by decide) dX7_joinTrace_3 (q := 6) rfl (fun rt1 ht1 hp => ?_)
    obtain ⟨rfl, gt1, Mt1, Wt1, Qt1, Ft1⟩ := hp
    refine pm_aload_n K dX7_joinTrace_6 (q := 7) rfl rfl rfl ?_
    refine pm_iload_n K dX7_joinTrace_7 (q := 8) rfl rfl rfl ?_
    refine pm_ic0 K dX7_joinTrace_8 (q := 9) rfl ?_
    refine pm_ic0 K dX7_joinTrace_9 (q := 10) rfl ?_
    refine pm_callV0 K gw_ok wcX7_149 (m_scan l Mt1 Wt1 (b0 := 0) (m0 := k) (by omega) (by simp only [List.length_append]; omega)) rfl (by have := Mt1.1; omega) Mt1.2.1 rfl rfl (Nat.le_of_ble_eq_true rfl) (by decide) dX7_joinTrace_10 (q := 13) rfl (fun rt2 ht2 hp => ?_)
    obtain ⟨rfl, gt2, Mt2, Wt2, Qt2, Ft2⟩ := hp
    refine pm_aload_n K dX7_joinTrace_13 (q := 14) rfl rfl rfl ?_
    refine pm_iload_n K dX7_joinTrace_14 (q := 15) rfl rfl rfl ?_
    refine pm_ic0 K dX7_joinTrace_15 (q := 16) rfl ?_
    refine pm_ic1 K dX7_joinTrace_16 (q := 17) rfl ?_
    refine pm_callV0 K gw_ok wcX7_149 (m_back l Mt2 Wt2 (b0 := 0) (m0 := k) (by omega) (by simp only [List.length_append]; omega) rfl) rfl (by have := Mt2.1; omega) Mt2.2.1 rfl rfl (Nat.le_of_ble_eq_true rfl) (by decide) dX7_joinTrace_17 (q := 20) rfl (fun rt3 ht3 hp => ?_)
    obtain ⟨rfl, gt3, Mt3, Wt3, Qt3, Ft3⟩ := hp
    refine pm_aload_n K dX7_joinTrace_20 (q := 21) rfl rfl rfl ?_
    refine pm_iload_n K dX7_joinTrace_21 (q := 22) rfl rfl rfl ?_
    refine pm_ic0 K dX7_joinTrace_22 (q := 23) rfl ?_
    refine pm_callV0 K gw_ok wcX7_159 (m_sort l Mt3 Wt3 (b0 := 0) (m0 := k) (by omega) (by simp only [List.length_append]; omega)) rfl (by have := Mt3.1; omega) Mt3.2.1 rfl rfl (Nat.le_of_ble_eq_true rfl) (by decide) dX7_joinTrace_23 (q := 26) rfl (fun rt4 ht4 hp => ?_)
    obtain ⟨rfl, gt4, Mt4, Wt4, Qt4, Ft4⟩ := hp
    refine pm_iload_n K dX7_joinTrace_26 (q := 27) rfl rfl rfl ?_
    refine pm_ic1 K dX7_joinTrace_27 (q := 28) rfl ?_
    refine pm_icmp_ge K dX7_joinTrace_28 (tgt := 32) (q := 31) rfl rfl (fun _ => ?_) (fun z => absurd ((kleI (a := 1) (b := P) rfl rfl (by omega) (by omega)).mpr (by omega)) z)
    refine pm_ic0 K dX7_joinTrace_32 (q := 33) rfl ?_
    refine pm_istore_n K dX7_joinTrace_33 (q := 34) rfl rfl (by decide) rfl ?_
    obtain ⟨w4, hw4⟩ : ∃ z, z = w ++ tr_sort 0 k ++ tr_sc 0 k ++ tr_bk k k ++ tr_sort 0 k := ⟨_, rfl⟩
    have W4 : tw gt4 w4 := by rw [hw4]; exact Wt4
    have hl4 := congrArg List.length hw4
    simp only [List.length_append] at hl4
    have Q4 := (((Qt1.tr Qt2).tr Qt3).tr Qt4)
    have F4 := (((Ft1.tr Ft2).tr Ft3).tr Ft4)
    have hcp := len_cp k
    have hap := len_ap P
    have add : ∀ (m i : Nat) (h1 : pm_H) (g1 : Nat → Int32), i + m = P → mo_at n h1 g1 A → tw g1 (w4 ++ tr_cp k ++ tr_side 0 k P ++ tr_side 40 k P ++ tr_sort 40 P ++ tr_ap i) → gq g g1 → mo_fr h h1 → G 0 0 84 [some (.ref 112), some (.int (nI k)), some (.int (nI P)), some (.int (nI i))] [] n h1 := by
      intro m
      induction m with
      | zero =>
        intro i h1 g1 hi M1 W1 Q1 F1
        have hl := len_ap i
        refine pm_iload_n K dX7_joinTrace_84 (q := 85) rfl rfl rfl ?_
        refine pm_iload_n K dX7_joinTrace_85 (q := 86) rfl rfl rfl ?_
        refine pm_icmp_ge K dX7_joinTrace_86 (tgt := 116) (q := 89) rfl rfl (fun _ => ?_) (fun z => absurd ((kleI (a := P) (b := i) rfl rfl (by omega) (by omega)).mpr (by omega)) z)
        have ei : i = P := by omega
        subst ei
        rw [hw4] at W1
        exact pm_vret Z dX7_joinTrace_116 rfl (Nat.le_of_ble_eq_true rfl) (Nat.le_of_ble_eq_true rfl) ⟨rfl, ⟨rfl, g1, M1, by simpa only [List.append_assoc] using W1, Q1, F1⟩⟩
      | succ m ih =>
        intro i h1 g1 hi M1 W1 Q1 F1
        have hl := len_ap i
        refine pm_iload_n K dX7_joinTrace_84 (q := 85) rfl rfl rfl ?_
        refine pm_iload_n K dX7_joinTrace_85 (q := 86) rfl rfl rfl ?_
        refine pm_icmp_ge K dX7_joinTrace_86 (tgt := 116) (q := 89) rfl rfl (fun z => absurd ((kleI (a := P) (b := i) rfl rfl (by omega) (by omega)).mp z) (by omega)) (fun _ => ?_)
        refine pm_aload_n K dX7_joinTrace_89 (q := 90) rfl rfl rfl ?_
        refine pm_iload_n K dX7_joinTrace_90 (q := 91) rfl rfl rfl ?_
        refine pm_ic0 K dX7_joinTrace_91 (q := 92) rfl ?_
        refine pm_callV0 K gw_ok wcX7_137 (m_trd l M1 W1 (by simp only [List.length_append, List.length_cons, List.length_nil]; omega) i) rfl (by have := M1.1; omega) M1.2.1 rfl rfl (Nat.le_of_ble_eq_true rfl) (by decide) dX7_joinTrace_92 (q := 95) rfl (fun rt1a ht1a hp => ?_)
        obtain ⟨rfl, gt1a, Mt1a, Wt1a, Qt1a, Ft1a⟩ := hp
        refine pm_aload_n K dX7_joinTrace_95 (q := 96) rfl rfl rfl ?_
        refine pm_iload_n K dX7_joinTrace_96 (q := 97) rfl rfl rfl ?_
        refine pm_bipush (v := 40) K dX7_joinTrace_97 (q := 99) rfl (by decide) ?_
        refine pm_iadd K dX7_joinTrace_99 (q := 100) rfl ?_
        refine pm_top (y := nI (i + 40)) (kadd (a := i) (b := 40) rfl rfl) ?_
        refine pm_ic0 K dX7_joinTrace_100 (q := 101) rfl ?_
        refine pm_callV0 K gw_ok wcX7_137 (m_trd l Mt1a Wt1a (by simp only [List.length_append, List.length_cons, List.length_nil]; omega) (i + 40)) rfl (by have := Mt1a.1; omega) Mt1a.2.1 rfl rfl (Nat.le_of_ble_eq_true rfl) (by decide) dX7_joinTrace_101 (q := 104) rfl (fun rt2a ht2a hp => ?_)
        obtain ⟨rfl, gt2a, Mt2a, Wt2a, Qt2a, Ft2a⟩ := hp
        refine pm_aload_n K dX7_joinTrace_104 (q := 105) rfl rfl rfl ?_
        refine pm_iload_n K dX7_joinTrace_105 (q := 106) rfl rfl rfl ?_
        refine pm_ic1 K dX7_joinTrace_106 (q := 107) rfl ?_
        refine pm_callV0 K gw_ok wcX7_137 (m_twr l Mt2a Wt2a (by simp only [List.length_append, List.length_cons, List.length_nil]; omega) i) rfl (by have := Mt2a.1; omega) Mt2a.2.1 rfl rfl (Nat.le_of_ble_eq_true rfl) (by decide) dX7_joinTrace_107 (q := 110) rfl (fun rt3a ht3a hp => ?_)
        obtain ⟨rfl, gt3a, Mt3a, Wt3a, Qt3a, Ft3a⟩ := hp
        refine pm_inc K dX7_joinTrace_110 (q := 113) rfl rfl (by decide) rfl ?_
        refine pm_goto K dX7_joinTrace_113 (q := 84) rfl ?_
        exact ih (i + 1) _ _ (by omega) Mt3a (by rw [tr_ap_s]; simpa only [List.append_assoc, List.cons_append, List.nil_append] using Wt3a) (((Q1.tr Qt1a).tr Qt2a).tr Qt3a) (((F1.tr Ft1a).tr Ft2a).tr Ft3a)
    have cop : ∀ (m i : Nat) (h1 : pm_H) (g1 : Nat → Int32), i + m = k → mo_at n h1 g1 A → tw g1 (w4 ++ tr_cp i) → gq g g1 → mo_fr h h1 → G 0 0 34 [some (.ref 112), some (.int (nI k)), some (.int (nI P)), some (.int (nI i))] [] n h1 := by
      intro m
      induction m with
      | zero =>
        intro i h1 g1 hi M1 W1 Q1 F1
        have hl := len_cp i
        refine pm_iload_n K dX7_joinTrace_34 (q := 35) rfl rfl rfl ?_
        refine pm_iload_n K dX7_joinTrace_35 (q := 36) rfl rfl rfl ?_
        refine pm_icmp_ge K dX7_joinTrace_36 (tgt := 60) (q := 39) rfl rfl (fun _ => ?_) (fun z => absurd ((kleI (a := k) (b := i) rfl rfl (by omega) (by omega)).mpr (by omega)) z)
        have ei : i = k := by omega
        subst ei
        refine pm_aload_n K dX7_joinTrace_60 (q := 61) rfl rfl rfl ?_
        refine pm_iload_n K dX7_joinTrace_61 (q := 62) rfl rfl rfl ?_
        refine pm_iload_n K dX7_joinTrace_62 (q := 63) rfl rfl rfl ?_
        refine pm_ic0 K dX7_joinTrace_63 (q := 64) rfl ?_
        refine pm_callV0 K gw_ok wcX7_162 (m_side l M1 W1 (b0 := 0) (m0 := i) (P := P) hk ⟨p1, p2⟩ (by simp only [List.length_append]; omega)) rfl (by have := M1.1; omega) M1.2.1 rfl rfl (Nat.le_of_ble_eq_true rfl) (by decide) dX7_joinTrace_64 (q := 67) rfl (fun rt1c ht1c hp => ?_)
        obtain ⟨rfl, gt1c, Mt1c, Wt1c, Qt1c, Ft1c⟩ := hp
        refine pm_aload_n K dX7_joinTrace_67 (q := 68) rfl rfl rfl ?_
        refine pm_iload_n K dX7_joinTrace_68 (q := 69) rfl rfl rfl ?_
        refine pm_iload_n K dX7_joinTrace_69 (q := 70) rfl rfl rfl ?_
        refine pm_bipush (v := 40) K dX7_joinTrace_70 (q := 72) rfl (by decide) ?_
        refine pm_callV0 K gw_ok wcX7_162 (m_side l Mt1c Wt1c (b0 := 40) (m0 := i) (P := P) hk ⟨p1, p2⟩ (by simp only [List.length_append]; omega)) rfl (by have := Mt1c.1; omega) Mt1c.2.1 rfl rfl (Nat.le_of_ble_eq_true rfl) (by decide) dX7_joinTrace_72 (q := 75) rfl (fun rt2c ht2c hp => ?_)
        obtain ⟨rfl, gt2c, Mt2c, Wt2c, Qt2c, Ft2c⟩ := hp
        refine pm_aload_n K dX7_joinTrace_75 (q := 76) rfl rfl rfl ?_
        refine pm_iload_n K dX7_joinTrace_76 (q := 77) rfl rfl rfl ?_
        refine pm_bipush (v := 40) K dX7_joinTrace_77 (q := 79) rfl (by decide) ?_
        refine pm_callV0 K gw_ok wcX7_159 (m_sort l Mt2c Wt2c (b0 := 40) (m0 := P) (by omega) (by simp only [List.length_append]; omega)) rfl (by have := Mt2c.1; omega) Mt2c.2.1 rfl rfl (Nat.le_of_ble_eq_true rfl) (by decide) dX7_joinTrace_79 (q := 82) rfl (fun rt3c ht3c hp => ?_)
        obtain ⟨rfl, gt3c, Mt3c, Wt3c, Qt3c, Ft3c⟩ := hp
        refine pm_ic0 K dX7_joinTrace_82 (q := 83) rfl ?_
        refine pm_istore_n K dX7_joinTrace_83 (q := 84) rfl rfl (by decide) rfl ?_
        exact add P 0 _ _ (by omega) Mt3c (by show tw _ (_ ++ []); rw [List.append_nil]; exact Wt3c) (((Q1.tr Qt1c).tr Qt2c).tr Qt3c) (((F1.tr Ft1c).tr Ft2c).tr Ft3c)
      | succ m ih =>
        intro i h1 g1 hi M1 W1 Q1 F1
        have hl := len_cp i
        refine pm_iload_n K dX7_joinTrace_34 (q := 35) rfl rfl rfl ?_
        refine pm_iload_n K dX7_joinTrace_35 (q := 36) rfl rfl rfl ?_
        refine pm_icmp_ge K dX7_joinTrace_36 (tgt := 60) (q := 39) rfl rfl (fun z => absurd ((kleI (a := k) (b := i) rfl rfl (by omega) (by omega)).mp z) (by omega)) (fun _ => ?_)
        refine pm_aload_n K dX7_joinTrace_39 (q := 40) rfl rfl rfl ?_
        refine pm_iload_n K dX7_joinTrace_40 (q := 41) rfl rfl rfl ?_
        refine pm_ic0 K dX7_joinTrace_41 (q := 42) rfl ?_
        refine pm_callV0 K gw_ok wcX7_137 (m_trd l M1 W1 (by simp only [List.length_append, List.length_cons, List.length_nil]; omega) i) rfl (by have := M1.1; omega) M1.2.1 rfl rfl (Nat.le_of_ble_eq_true rfl) (by decide) dX7_joinTrace_42 (q := 45) rfl (fun rt1c ht1c hp => ?_)
        obtain ⟨rfl, gt1c, Mt1c, Wt1c, Qt1c, Ft1c⟩ := hp
        refine pm_aload_n K dX7_joinTrace_45 (q := 46) rfl rfl rfl ?_
        refine pm_iload_n K dX7_joinTrace_46 (q := 47) rfl rfl rfl ?_
        refine pm_bipush (v := 40) K dX7_joinTrace_47 (q := 49) rfl (by decide) ?_
        refine pm_iadd K dX7_joinTrace_49 (q := 50) rfl ?_
        refine pm_top (y := nI (i + 40)) (kadd (a := i) (b := 40) rfl rfl) ?_
        refine pm_ic1 K dX7_joinTrace_50 (q := 51) rfl ?_
        refine pm_callV0 K gw_ok wcX7_137 (m_twr l Mt1c Wt1c (by simp only [List.length_append, List.length_cons, List.length_nil]; omega) (i + 40)) rfl (by have := Mt1c.1; omega) Mt1c.2.1 rfl rfl (Nat.le_of_ble_eq_true rfl) (by decide) dX7_joinTrace_51 (q := 54) rfl (fun rt2c ht2c hp => ?_)
        obtain ⟨rfl, gt2c, Mt2c, Wt2c, Qt2c, Ft2c⟩ := hp
        refine pm_inc K dX7_joinTrace_54 (q := 57) rfl rfl (by decide) rfl ?_
        refine pm_goto K dX7_joinTrace_57 (q := 34) rfl ?_
        exact ih (i + 1) _ _ (by omega) Mt2c (by rw [tr_cp_s]; simpa only [List.append_assoc, List.cons_append, List.nil_append] using Wt2c) ((Q1.tr Qt1c).tr Qt2c) ((F1.tr Ft1c).tr Ft2c)
    exact cop k 0 _ _ (by omega) Mt4 (by show tw _ (w4 ++ []); rw [List.append_nil]; exact W4) Q4 F4
  · unfold tr_join at hb Z
    rw [if_neg hP, List.append_nil] at hb Z
    simp only [List.length_append] at hb
    refine pm_aload_n K dX7_joinTrace_0 (q := 1) rfl rfl rfl ?_
    refine pm_iload_n K dX7_joinTrace_1 (q := 2) rfl rfl rfl ?_
    refine pm_ic0 K dX7_joinTrace_2 (q := 3) rfl ?_
    refine pm_callV0 K gw_ok wcX7_159 (m_sort l M hw (b0 := 0) (m0 := k) (by omega) (by simp only [List.length_append]; omega)) rfl (by have := M.1; omega) M.2.1 rfl rfl (Nat.le_of_ble_eq_true rfl) (by decide) dX7_joinTrace_3 (q := 6) rfl (fun rt1 ht1 hp => ?_)
    obtain ⟨rfl, gt1, Mt1, Wt1, Qt1, Ft1⟩ := hp
    refine pm_aload_n K dX7_joinTrace_6 (q := 7) rfl rfl rfl ?_
    refine pm_iload_n K dX7_joinTrace_7 (q := 8) rfl rfl rfl ?_
    refine pm_ic0 K dX7_joinTrace_8 (q := 9) rfl ?_
    refine pm_ic0 K dX7_joinTrace_9 (q := 10) rfl ?_
    refine pm_callV0 K gw_ok wcX7_149 (m_scan l Mt1 Wt1 (b0 := 0) (m0 := k) (by omega) (by simp only [List.length_append]; omega)) rfl (by have := Mt1.1; omega) Mt1.2.1 rfl rfl (Nat.le_of_ble_eq_true rfl) (by decide) dX7_joinTrace_10 (q := 13) rfl (fun rt2 ht2 hp => ?_)
    obtain ⟨rfl, gt2, Mt2, Wt2, Qt2, Ft2⟩ := hp
    refine pm_aload_n K dX7_joinTrace_13 (q := 14) rfl rfl rfl ?_
    refine pm_iload_n K dX7_joinTrace_14 (q := 15) rfl rfl rfl ?_
    refine pm_ic0 K dX7_joinTrace_15 (q := 16) rfl ?_
    refine pm_ic1 K dX7_joinTrace_16 (q := 17) rfl ?_
    refine pm_callV0 K gw_ok wcX7_149 (m_back l Mt2 Wt2 (b0 := 0) (m0 := k) (by omega) (by simp only [List.length_append]; omega) rfl) rfl (by have := Mt2.1; omega) Mt2.2.1 rfl rfl (Nat.le_of_ble_eq_true rfl) (by decide) dX7_joinTrace_17 (q := 20) rfl (fun rt3 ht3 hp => ?_)
    obtain ⟨rfl, gt3, Mt3, Wt3, Qt3, Ft3⟩ := hp
    refine pm_aload_n K dX7_joinTrace_20 (q := 21) rfl rfl rfl ?_
    refine pm_iload_n K dX7_joinTrace_21 (q := 22) rfl rfl rfl ?_
    refine pm_ic0 K dX7_joinTrace_22 (q := 23) rfl ?_
    refine pm_callV0 K gw_ok wcX7_159 (m_sort l Mt3 Wt3 (b0 := 0) (m0 := k) (by omega) (by simp only [List.length_append]; omega)) rfl (by have := Mt3.1; omega) Mt3.2.1 rfl rfl (Nat.le_of_ble_eq_true rfl) (by decide) dX7_joinTrace_23 (q := 26) rfl (fun rt4 ht4 hp => ?_)
    obtain ⟨rfl, gt4, Mt4, Wt4, Qt4, Ft4⟩ := hp
    refine pm_iload_n K dX7_joinTrace_26 (q := 27) rfl rfl rfl ?_
    refine pm_ic1 K dX7_joinTrace_27 (q := 28) rfl ?_
    refine pm_icmp_ge K dX7_joinTrace_28 (tgt := 32) (q := 31) rfl rfl (fun z => absurd z (Int32.not_le.mpr hgv)) (fun _ => ?_)
    exact pm_vret Z dX7_joinTrace_31 rfl (Nat.le_of_ble_eq_true rfl) (Nat.le_of_ble_eq_true rfl) ⟨rfl, ⟨rfl, _, Mt4, by simpa only [List.append_assoc] using Wt4, (((Qt1.tr Qt2).tr Qt3).tr Qt4), (((Ft1.tr Ft2).tr Ft3).tr Ft4)⟩⟩
set_option maxRecDepth 100000 in
theorem m_partTrace (l : Launch) {n : Nat} {h : pm_H} {g : Nat → Int32} {A : Nat → Nat → Int32} (M : mo_at n h g A) {w : List Int32} (hw : tw g w) {s : Nat} {q : Int32 × Int32 × Int32 × Int32} {L : List Int32} (hs : s < 3) (hq : q = (A 11 s, A 12 s, A 13 s, A 14 s)) (hL : pt_ok q L) (hb : (w ++ L).length + 5000 < 2 ^ 30) : bM0 l yX7_partTrace cX7_partTrace 4 none 5 [.ref 112, .int (nI s)] n h (fun r h' => r = none ∧ ∃ g', mo_at n h' g' A ∧ tw g' (w ++ L) ∧ gq g g' ∧ mo_fr h h') := by
  refine pm_enter rfl (Nat.le_of_ble_eq_true rfl) (fun G K Z => ?_)
  obtain ⟨kd, n0, u, gv, rfl, h24, h36, hL⟩ := hL
  obtain ⟨q1, q2, q3, q4⟩ := pt_eq hq
  simp only [List.length_append] at hb
  rcases hL with ⟨rfl, rfl⟩ | ⟨rfl, rfl⟩ | ⟨rfl, rfl⟩ | ⟨rfl, rfl⟩ | ⟨rfl, P, hP, rfl⟩ | ⟨rfl, rfl⟩
  · unfold pl_0 at hb Z
    simp only [List.length_append] at hb
    refine pm_aload_n K dX7_partTrace_0 (q := 1) rfl rfl rfl ?_
    refine pm_get K inX7 rfl (k := 19) (by decide) wlX7_44 rfl (by have := M.1; omega) M.2.1 rfl dX7_partTrace_1 (q := 4) rfl ?_
    refine pm_iload_n K dX7_partTrace_4 (q := 5) rfl rfl rfl ?_
    refine mo_iald (j := 11) K M (by decide) (by decide) (show s < 3 by omega) dX7_partTrace_5 (q := 6) rfl ?_
    refine pm_top (y := nI (0)) (q1.symm) ?_
    refine pm_istore_n K dX7_partTrace_6 (q := 7) rfl rfl (by decide) rfl ?_
    refine pm_iload_n K dX7_partTrace_7 (q := 8) rfl rfl rfl ?_
    refine pm_ic5 K dX7_partTrace_8 (q := 9) rfl ?_
    refine pm_icmp_ne K dX7_partTrace_9 (tgt := 28) (q := 12) rfl rfl (fun _ => ?_) (fun z => absurd ((keqI (a := 0) (b := 5) rfl rfl (by omega) (by omega)).mp z) (by omega))
    refine pm_aload_n K dX7_partTrace_28 (q := 29) rfl rfl rfl ?_
    refine pm_get K inX7 rfl (k := 20) (by decide) wlX7_47 rfl (by have := M.1; omega) M.2.1 rfl dX7_partTrace_29 (q := 32) rfl ?_
    refine pm_iload_n K dX7_partTrace_32 (q := 33) rfl rfl rfl ?_
    refine mo_iald (j := 12) K M (by decide) (by decide) (show s < 3 by omega) dX7_partTrace_33 (q := 34) rfl ?_
    refine pm_top (y := nI (n0)) (q2.symm) ?_
    refine pm_istore_n K dX7_partTrace_34 (q := 35) rfl rfl (by decide) rfl ?_
    refine pm_iload_n K dX7_partTrace_35 (q := 36) rfl rfl rfl ?_
    refine pm_ic4 K dX7_partTrace_36 (q := 37) rfl ?_
    refine pm_icmp_ne K dX7_partTrace_37 (tgt := 59) (q := 40) rfl rfl (fun _ => ?_) (fun z => absurd ((keqI (a := 0) (b := 4) rfl rfl (by omega) (by omega)).mp z) (by omega))
    refine pm_iload_n K dX7_partTrace_59 (q := 60) rfl rfl rfl ?_
    refine pm_ic2 K dX7_partTrace_60 (q := 61) rfl ?_
    refine pm_icmp_eq K dX7_partTrace_61 (tgt := 74) (q := 64) rfl rfl (fun z => absurd ((keqI (a := 0) (b := 2) rfl rfl (by omega) (by omega)).mp z) (by omega)) (fun _ => ?_)
    refine pm_iload_n K dX7_partTrace_64 (q := 65) rfl rfl rfl ?_
    refine pm_ic3 K dX7_partTrace_65 (q := 66) rfl ?_
    refine pm_icmp_eq K dX7_partTrace_66 (tgt := 74) (q := 69) rfl rfl (fun z => absurd ((keqI (a := 0) (b := 3) rfl rfl (by omega) (by omega)).mp z) (by omega)) (fun _ => ?_)
    refine pm_iload_n K dX7_partTrace_69 (q := 70) rfl rfl rfl ?_
    refine pm_ic5 K dX7_partTrace_70 (q := 71) rfl ?_
    refine pm_icmp_ne K dX7_partTrace_71 (tgt := 80) (q := 74) rfl rfl (fun _ => ?_) (fun z => absurd ((keqI (a := 0) (b := 5) rfl rfl (by omega) (by omega)).mp z) (by omega))
    refine pm_aload_n K dX7_partTrace_80 (q := 81) rfl rfl rfl ?_
    refine pm_iload_n K dX7_partTrace_81 (q := 82) rfl rfl rfl ?_
    refine pm_ic0 K dX7_partTrace_82 (q := 83) rfl ?_
    refine pm_ic0 K dX7_partTrace_83 (q := 84) rfl ?_
    refine pm_callV0 K gw_ok wcX7_149 (m_scan l M hw (b0 := 0) (m0 := n0) (by omega) (by first | omega | (simp only [List.length_append, List.length_cons, List.length_nil]; omega))) rfl (by have := M.1; omega) M.2.1 rfl rfl (Nat.le_of_ble_eq_true rfl) (by decide) dX7_partTrace_84 (q := 87) rfl (fun rt1 ht1 hp => ?_)
    obtain ⟨rfl, gt1, Mt1, Wt1, Qt1, Ft1⟩ := hp
    refine pm_iload_n K dX7_partTrace_87 (q := 88) rfl rfl rfl ?_
    refine pm_ic3 K dX7_partTrace_88 (q := 89) rfl ?_
    refine pm_icmp_ne K dX7_partTrace_89 (tgt := 99) (q := 92) rfl rfl (fun _ => ?_) (fun z => absurd ((keqI (a := 0) (b := 3) rfl rfl (by omega) (by omega)).mp z) (by omega))
    refine pm_iload_n K dX7_partTrace_99 (q := 100) rfl rfl rfl ?_
    refine pm_ic1 K dX7_partTrace_100 (q := 101) rfl ?_
    refine pm_icmp_eq K dX7_partTrace_101 (tgt := 110) (q := 104) rfl rfl (fun z => absurd ((keqI (a := 0) (b := 1) rfl rfl (by omega) (by omega)).mp z) (by omega)) (fun _ => ?_)
    refine pm_aload_n K dX7_partTrace_104 (q := 105) rfl rfl rfl ?_
    refine pm_iload_n K dX7_partTrace_105 (q := 106) rfl rfl rfl ?_
    refine pm_ic0 K dX7_partTrace_106 (q := 107) rfl ?_
    refine pm_callV0 K gw_ok wcX7_153 (m_squeeze l Mt1 Wt1 (b0 := 0) (m0 := n0) (by omega) (by first | omega | (simp only [List.length_append, List.length_cons, List.length_nil]; omega))) rfl (by have := Mt1.1; omega) Mt1.2.1 rfl rfl (Nat.le_of_ble_eq_true rfl) (by decide) dX7_partTrace_107 (q := 110) rfl (fun rt2 ht2 hp => ?_)
    obtain ⟨rfl, gt2, Mt2, Wt2, Qt2, Ft2⟩ := hp
    exact pm_vret Z dX7_partTrace_110 rfl (Nat.le_of_ble_eq_true rfl) (Nat.le_of_ble_eq_true rfl) ⟨rfl, ⟨rfl, _, Mt2, by simpa only [List.append_assoc] using Wt2, (Qt1.tr Qt2), (Ft1.tr Ft2)⟩⟩
  · refine pm_aload_n K dX7_partTrace_0 (q := 1) rfl rfl rfl ?_
    refine pm_get K inX7 rfl (k := 19) (by decide) wlX7_44 rfl (by have := M.1; omega) M.2.1 rfl dX7_partTrace_1 (q := 4) rfl ?_
    refine pm_iload_n K dX7_partTrace_4 (q := 5) rfl rfl rfl ?_
    refine mo_iald (j := 11) K M (by decide) (by decide) (show s < 3 by omega) dX7_partTrace_5 (q := 6) rfl ?_
    refine pm_top (y := nI (1)) (q1.symm) ?_
    refine pm_istore_n K dX7_partTrace_6 (q := 7) rfl rfl (by decide) rfl ?_
    refine pm_iload_n K dX7_partTrace_7 (q := 8) rfl rfl rfl ?_
    refine pm_ic5 K dX7_partTrace_8 (q := 9) rfl ?_
    refine pm_icmp_ne K dX7_partTrace_9 (tgt := 28) (q := 12) rfl rfl (fun _ => ?_) (fun z => absurd ((keqI (a := 1) (b := 5) rfl rfl (by omega) (by omega)).mp z) (by omega))
    refine pm_aload_n K dX7_partTrace_28 (q := 29) rfl rfl rfl ?_
    refine pm_get K inX7 rfl (k := 20) (by decide) wlX7_47 rfl (by have := M.1; omega) M.2.1 rfl dX7_partTrace_29 (q := 32) rfl ?_
    refine pm_iload_n K dX7_partTrace_32 (q := 33) rfl rfl rfl ?_
    refine mo_iald (j := 12) K M (by decide) (by decide) (show s < 3 by omega) dX7_partTrace_33 (q := 34) rfl ?_
    refine pm_top (y := nI (n0)) (q2.symm) ?_
    refine pm_istore_n K dX7_partTrace_34 (q := 35) rfl rfl (by decide) rfl ?_
    refine pm_iload_n K dX7_partTrace_35 (q := 36) rfl rfl rfl ?_
    refine pm_ic4 K dX7_partTrace_36 (q := 37) rfl ?_
    refine pm_icmp_ne K dX7_partTrace_37 (tgt := 59) (q := 40) rfl rfl (fun _ => ?_) (fun z => absurd ((keqI (a := 1) (b := 4) rfl rfl (by omega) (by omega)).mp z) (by omega))
    refine pm_iload_n K dX7_partTrace_59 (q := 60) rfl rfl rfl ?_
    refine pm_ic2 K dX7_partTrace_60 (q := 61) rfl ?_
    refine pm_icmp_eq K dX7_partTrace_61 (tgt := 74) (q := 64) rfl rfl (fun z => absurd ((keqI (a := 1) (b := 2) rfl rfl (by omega) (by omega)).mp z) (by omega)) (fun _ => ?_)
    refine pm_iload_n K dX7_partTrace_64 (q := 65) rfl rfl rfl ?_
    refine pm_ic3 K dX7_partTrace_65 (q := 66) rfl ?_
    refine pm_icmp_eq K dX7_partTrace_66 (tgt := 74) (q := 69) rfl rfl (fun z => absurd ((keqI (a := 1) (b := 3) rfl rfl (by omega) (by omega)).mp z) (by omega)) (fun _ => ?_)
    refine pm_iload_n K dX7_partTrace_69 (q := 70) rfl rfl rfl ?_
    refine pm_ic5 K dX7_partTrace_70 (q := 71) rfl ?_
    refine pm_icmp_ne K dX7_partTrace_71 (tgt := 80) (q := 74) rfl rfl (fun _ => ?_) (fun z => absurd ((keqI (a := 1) (b := 5) rfl rfl (by omega) (by omega)).mp z) (by omega))
    refine pm_aload_n K dX7_partTrace_80 (q := 81) rfl rfl rfl ?_
    refine pm_iload_n K dX7_partTrace_81 (q := 82) rfl rfl rfl ?_
    refine pm_ic0 K dX7_partTrace_82 (q := 83) rfl ?_
    refine pm_ic0 K dX7_partTrace_83 (q := 84) rfl ?_
    refine pm_callV0 K gw_ok wcX7_149 (m_scan l M hw (b0 := 0) (m0 := n0) (by omega) (by first | omega | (simp only [List.length_append, List.length_cons, List.length_nil]; omega))) rfl (by have := M.1; omega) M.2.1 rfl rfl (Nat.le_of_ble_eq_true rfl) (by decide) dX7_partTrace_84 (q := 87) rfl (fun rt1 ht1 hp => ?_)
    obtain ⟨rfl, gt1, Mt1, Wt1, Qt1, Ft1⟩ := hp
    refine pm_iload_n K dX7_partTrace_87 (q := 88) rfl rfl rfl ?_
    refine pm_ic3 K dX7_partTrace_88 (q := 89) rfl ?_
    refine pm_icmp_ne K dX7_partTrace_89 (tgt := 99) (q := 92) rfl rfl (fun _ => ?_) (fun z => absurd ((keqI (a := 1) (b := 3) rfl rfl (by omega) (by omega)).mp z) (by omega))
    refine pm_iload_n K dX7_partTrace_99 (q := 100) rfl rfl rfl ?_
    refine pm_ic1 K dX7_partTrace_100 (q := 101) rfl ?_
    refine pm_icmp_eq K dX7_partTrace_101 (tgt := 110) (q := 104) rfl rfl (fun _ => ?_) (fun z => absurd ((keqI (a := 1) (b := 1) rfl rfl (by omega) (by omega)).mpr (by omega)) z)
    exact pm_vret Z dX7_partTrace_110 rfl (Nat.le_of_ble_eq_true rfl) (Nat.le_of_ble_eq_true rfl) ⟨rfl, ⟨rfl, _, Mt1, by simpa only [List.append_assoc] using Wt1, Qt1, Ft1⟩⟩
  · unfold ap_t at hb Z
    simp only [List.length_append] at hb
    refine pm_aload_n K dX7_partTrace_0 (q := 1) rfl rfl rfl ?_
    refine pm_get K inX7 rfl (k := 19) (by decide) wlX7_44 rfl (by have := M.1; omega) M.2.1 rfl dX7_partTrace_1 (q := 4) rfl ?_
    refine pm_iload_n K dX7_partTrace_4 (q := 5) rfl rfl rfl ?_
    refine mo_iald (j := 11) K M (by decide) (by decide) (show s < 3 by omega) dX7_partTrace_5 (q := 6) rfl ?_
    refine pm_top (y := nI (2)) (q1.symm) ?_
    refine pm_istore_n K dX7_partTrace_6 (q := 7) rfl rfl (by decide) rfl ?_
    refine pm_iload_n K dX7_partTrace_7 (q := 8) rfl rfl rfl ?_
    refine pm_ic5 K dX7_partTrace_8 (q := 9) rfl ?_
    refine pm_icmp_ne K dX7_partTrace_9 (tgt := 28) (q := 12) rfl rfl (fun _ => ?_) (fun z => absurd ((keqI (a := 2) (b := 5) rfl rfl (by omega) (by omega)).mp z) (by omega))
    refine pm_aload_n K dX7_partTrace_28 (q := 29) rfl rfl rfl ?_
    refine pm_get K inX7 rfl (k := 20) (by decide) wlX7_47 rfl (by have := M.1; omega) M.2.1 rfl dX7_partTrace_29 (q := 32) rfl ?_
    refine pm_iload_n K dX7_partTrace_32 (q := 33) rfl rfl rfl ?_
    refine mo_iald (j := 12) K M (by decide) (by decide) (show s < 3 by omega) dX7_partTrace_33 (q := 34) rfl ?_
    refine pm_top (y := nI (n0)) (q2.symm) ?_
    refine pm_istore_n K dX7_partTrace_34 (q := 35) rfl rfl (by decide) rfl ?_
    refine pm_iload_n K dX7_partTrace_35 (q := 36) rfl rfl rfl ?_
    refine pm_ic4 K dX7_partTrace_36 (q := 37) rfl ?_
    refine pm_icmp_ne K dX7_partTrace_37 (tgt := 59) (q := 40) rfl rfl (fun _ => ?_) (fun z => absurd ((keqI (a := 2) (b := 4) rfl rfl (by omega) (by omega)).mp z) (by omega))
    refine pm_iload_n K dX7_partTrace_59 (q := 60) rfl rfl rfl ?_
    refine pm_ic2 K dX7_partTrace_60 (q := 61) rfl ?_
    refine pm_icmp_eq K dX7_partTrace_61 (tgt := 74) (q := 64) rfl rfl (fun _ => ?_) (fun z => absurd ((keqI (a := 2) (b := 2) rfl rfl (by omega) (by omega)).mpr (by omega)) z)
    refine pm_aload_n K dX7_partTrace_74 (q := 75) rfl rfl rfl ?_
    refine pm_iload_n K dX7_partTrace_75 (q := 76) rfl rfl rfl ?_
    refine pm_ic0 K dX7_partTrace_76 (q := 77) rfl ?_
    refine pm_callV0 K gw_ok wcX7_159 (m_sort l M hw (b0 := 0) (m0 := n0) (by omega) (by simp only [List.length_append]; omega)) rfl (by have := M.1; omega) M.2.1 rfl rfl (Nat.le_of_ble_eq_true rfl) (by decide) dX7_partTrace_77 (q := 80) rfl (fun rt1 ht1 hp => ?_)
    obtain ⟨rfl, gt1, Mt1, Wt1, Qt1, Ft1⟩ := hp
    refine pm_aload_n K dX7_partTrace_80 (q := 81) rfl rfl rfl ?_
    refine pm_iload_n K dX7_partTrace_81 (q := 82) rfl rfl rfl ?_
    refine pm_ic0 K dX7_partTrace_82 (q := 83) rfl ?_
    refine pm_ic0 K dX7_partTrace_83 (q := 84) rfl ?_
    refine pm_callV0 K gw_ok wcX7_149 (m_scan l Mt1 Wt1 (b0 := 0) (m0 := n0) (by omega) (by first | omega | (simp only [List.length_append, List.length_cons, List.length_nil]; omega))) rfl (by have := Mt1.1; omega) Mt1.2.1 rfl rfl (Nat.le_of_ble_eq_true rfl) (by decide) dX7_partTrace_84 (q := 87) rfl (fun rt2 ht2 hp => ?_)
    obtain ⟨rfl, gt2, Mt2, Wt2, Qt2, Ft2⟩ := hp
    refine pm_iload_n K dX7_partTrace_87 (q := 88) rfl rfl rfl ?_
    refine pm_ic3 K dX7_partTrace_88 (q := 89) rfl ?_
    refine pm_icmp_ne K dX7_partTrace_89 (tgt := 99) (q := 92) rfl rfl (fun _ => ?_) (fun z => absurd ((keqI (a := 2) (b := 3) rfl rfl (by omega) (by omega)).mp z) (by omega))
    refine pm_iload_n K dX7_partTrace_99 (q := 100) rfl rfl rfl ?_
    refine pm_ic1 K dX7_partTrace_100 (q := 101) rfl ?_
    refine pm_icmp_eq K dX7_partTrace_101 (tgt := 110) (q := 104) rfl rfl (fun z => absurd ((keqI (a := 2) (b := 1) rfl rfl (by omega) (by omega)).mp z) (by omega)) (fun _ => ?_)
    refine pm_aload_n K dX7_partTrace_104 (q := 105) rfl rfl rfl ?_
    refine pm_iload_n K dX7_partTrace_105 (q := 106) rfl rfl rfl ?_
    refine pm_ic0 K dX7_partTrace_106 (q := 107) rfl ?_
    refine pm_callV0 K gw_ok wcX7_153 (m_squeeze l Mt2 Wt2 (b0 := 0) (m0 := n0) (by omega) (by first | omega | (simp only [List.length_append, List.length_cons, List.length_nil]; omega))) rfl (by have := Mt2.1; omega) Mt2.2.1 rfl rfl (Nat.le_of_ble_eq_true rfl) (by decide) dX7_partTrace_107 (q := 110) rfl (fun rt3 ht3 hp => ?_)
    obtain ⟨rfl, gt3, Mt3, Wt3, Qt3, Ft3⟩ := hp
    exact pm_vret Z dX7_partTrace_110 rfl (Nat.le_of_ble_eq_true rfl) (Nat.le_of_ble_eq_true rfl) ⟨rfl, ⟨rfl, _, Mt3, by simpa only [List.append_assoc] using Wt3, ((Qt1.tr Qt2).tr Qt3), ((Ft1.tr Ft2).tr Ft3)⟩⟩
  · unfold pl_3 at hb Z
    simp only [List.length_append] at hb
    refine pm_aload_n K dX7_partTrace_0 (q := 1) rfl rfl rfl ?_
    refine pm_get K inX7 rfl (k := 19) (by decide) wlX7_44 rfl (by have := M.1; omega) M.2.1 rfl dX7_partTrace_1 (q := 4) rfl ?_
    refine pm_iload_n K dX7_partTrace_4 (q := 5) rfl rfl rfl ?_
    refine mo_iald (j := 11) K M (by decide) (by decide) (show s < 3 by omega) dX7_partTrace_5 (q := 6) rfl ?_
    refine pm_top (y := nI (3)) (q1.symm) ?_
    refine pm_istore_n K dX7_partTrace_6 (q := 7) rfl rfl (by decide) rfl ?_
    refine pm_iload_n K dX7_partTrace_7 (q := 8) rfl rfl rfl ?_
    refine pm_ic5 K dX7_partTrace_8 (q := 9) rfl ?_
    refine pm_icmp_ne K dX7_partTrace_9 (tgt := 28) (q := 12) rfl rfl (fun _ => ?_) (fun z => absurd ((keqI (a := 3) (b := 5) rfl rfl (by omega) (by omega)).mp z) (by omega))
    refine pm_aload_n K dX7_partTrace_28 (q := 29) rfl rfl rfl ?_
    refine pm_get K inX7 rfl (k := 20) (by decide) wlX7_47 rfl (by have := M.1; omega) M.2.1 rfl dX7_partTrace_29 (q := 32) rfl ?_
    refine pm_iload_n K dX7_partTrace_32 (q := 33) rfl rfl rfl ?_
    refine mo_iald (j := 12) K M (by decide) (by decide) (show s < 3 by omega) dX7_partTrace_33 (q := 34) rfl ?_
    refine pm_top (y := nI (n0)) (q2.symm) ?_
    refine pm_istore_n K dX7_partTrace_34 (q := 35) rfl rfl (by decide) rfl ?_
    refine pm_iload_n K dX7_partTrace_35 (q := 36) rfl rfl rfl ?_
    refine pm_ic4 K dX7_partTrace_36 (q := 37) rfl ?_
    refine pm_icmp_ne K dX7_partTrace_37 (tgt := 59) (q := 40) rfl rfl (fun _ => ?_) (fun z => absurd ((keqI (a := 3) (b := 4) rfl rfl (by omega) (by omega)).mp z) (by omega))
    refine pm_iload_n K dX7_partTrace_59 (q := 60) rfl rfl rfl ?_
    refine pm_ic2 K dX7_partTrace_60 (q := 61) rfl ?_
    refine pm_icmp_eq K dX7_partTrace_61 (tgt := 74) (q := 64) rfl rfl (fun z => absurd ((keqI (a := 3) (b := 2) rfl rfl (by omega) (by omega)).mp z) (by omega)) (fun _ => ?_)
    refine pm_iload_n K dX7_partTrace_64 (q := 65) rfl rfl rfl ?_
    refine pm_ic3 K dX7_partTrace_65 (q := 66) rfl ?_
    refine pm_icmp_eq K dX7_partTrace_66 (tgt := 74) (q := 69) rfl rfl (fun _ => ?_) (fun z => absurd ((keqI (a := 3) (b := 3) rfl rfl (by omega) (by omega)).mpr (by omega)) z)
    refine pm_aload_n K dX7_partTrace_74 (q := 75) rfl rfl rfl ?_
    refine pm_iload_n K dX7_partTrace_75 (q := 76) rfl rfl rfl ?_
    refine pm_ic0 K dX7_partTrace_76 (q := 77) rfl ?_
    refine pm_callV0 K gw_ok wcX7_159 (m_sort l M hw (b0 := 0) (m0 := n0) (by omega) (by simp only [List.length_append]; omega)) rfl (by have := M.1; omega) M.2.1 rfl rfl (Nat.le_of_ble_eq_true rfl) (by decide) dX7_partTrace_77 (q := 80) rfl (fun rt1 ht1 hp => ?_)
    obtain ⟨rfl, gt1, Mt1, Wt1, Qt1, Ft1⟩ := hp
    refine pm_aload_n K dX7_partTrace_80 (q := 81) rfl rfl rfl ?_
    refine pm_iload_n K dX7_partTrace_81 (q := 82) rfl rfl rfl ?_
    refine pm_ic0 K dX7_partTrace_82 (q := 83) rfl ?_
    refine pm_ic0 K dX7_partTrace_83 (q := 84) rfl ?_
    refine pm_callV0 K gw_ok wcX7_149 (m_scan l Mt1 Wt1 (b0 := 0) (m0 := n0) (by omega) (by first | omega | (simp only [List.length_append, List.length_cons, List.length_nil]; omega))) rfl (by have := Mt1.1; omega) Mt1.2.1 rfl rfl (Nat.le_of_ble_eq_true rfl) (by decide) dX7_partTrace_84 (q := 87) rfl (fun rt2 ht2 hp => ?_)
    obtain ⟨rfl, gt2, Mt2, Wt2, Qt2, Ft2⟩ := hp
    refine pm_iload_n K dX7_partTrace_87 (q := 88) rfl rfl rfl ?_
    refine pm_ic3 K dX7_partTrace_88 (q := 89) rfl ?_
    refine pm_icmp_ne K dX7_partTrace_89 (tgt := 99) (q := 92) rfl rfl (fun z => absurd ((keqI (a := 3) (b := 3) rfl rfl (by omega) (by omega)).mpr (by omega)) z) (fun _ => ?_)
    refine pm_aload_n K dX7_partTrace_92 (q := 93) rfl rfl rfl ?_
    refine pm_iload_n K dX7_partTrace_93 (q := 94) rfl rfl rfl ?_
    refine pm_ic0 K dX7_partTrace_94 (q := 95) rfl ?_
    refine pm_ic1 K dX7_partTrace_95 (q := 96) rfl ?_
    refine pm_callV0 K gw_ok wcX7_149 (m_back l Mt2 Wt2 (b0 := 0) (m0 := n0) (by omega) (by first | omega | (simp only [List.length_append, List.length_cons, List.length_nil]; omega)) rfl) rfl (by have := Mt2.1; omega) Mt2.2.1 rfl rfl (Nat.le_of_ble_eq_true rfl) (by decide) dX7_partTrace_96 (q := 99) rfl (fun rt3 ht3 hp => ?_)
    obtain ⟨rfl, gt3, Mt3, Wt3, Qt3, Ft3⟩ := hp
    refine pm_iload_n K dX7_partTrace_99 (q := 100) rfl rfl rfl ?_
    refine pm_ic1 K dX7_partTrace_100 (q := 101) rfl ?_
    refine pm_icmp_eq K dX7_partTrace_101 (tgt := 110) (q := 104) rfl rfl (fun z => absurd ((keqI (a := 3) (b := 1) rfl rfl (by omega) (by omega)).mp z) (by omega)) (fun _ => ?_)
    refine pm_aload_n K dX7_partTrace_104 (q := 105) rfl rfl rfl ?_
    refine pm_iload_n K dX7_partTrace_105 (q := 106) rfl rfl rfl ?_
    refine pm_ic0 K dX7_partTrace_106 (q := 107) rfl ?_
    refine pm_callV0 K gw_ok wcX7_153 (m_squeeze l Mt3 Wt3 (b0 := 0) (m0 := n0) (by omega) (by first | omega | (simp only [List.length_append, List.length_cons, List.length_nil]; omega))) rfl (by have := Mt3.1; omega) Mt3.2.1 rfl rfl (Nat.le_of_ble_eq_true rfl) (by decide) dX7_partTrace_107 (q := 110) rfl (fun rt4 ht4 hp => ?_)
    obtain ⟨rfl, gt4, Mt4, Wt4, Qt4, Ft4⟩ := hp
    exact pm_vret Z dX7_partTrace_110 rfl (Nat.le_of_ble_eq_true rfl) (Nat.le_of_ble_eq_true rfl) ⟨rfl, ⟨rfl, _, Mt4, by simpa only [List.append_assoc] using Wt4, (((Qt1.tr Qt2).tr Qt3).tr Qt4), (((Ft1.tr Ft2).tr Ft3).tr Ft4)⟩⟩
  · refine pm_aload_n K dX7_partTrace_0 (q := 1) rfl rfl rfl ?_
    refine pm_get K inX7 rfl (k := 19) (by decide) wlX7_44 rfl (by have := M.1; omega) M.2.1 rfl dX7_partTrace_1 (q := 4) rfl ?_
    refine pm_iload_n K dX7_partTrace_4 (q := 5) rfl rfl rfl ?_
    refine mo_iald (j := 11) K M (by decide) (by decide) (show s < 3 by omega) dX7_partTrace_5 (q := 6) rfl ?_
    refine pm_top (y := nI (4)) (q1.symm) ?_
    refine pm_istore_n K dX7_partTrace_6 (q := 7) rfl rfl (by decide) rfl ?_
    refine pm_iload_n K dX7_partTrace_7 (q := 8) rfl rfl rfl ?_
    refine pm_ic5 K dX7_partTrace_8 (q := 9) rfl ?_
    refine pm_icmp_ne K dX7_partTrace_9 (tgt := 28) (q := 12) rfl rfl (fun _ => ?_) (fun z => absurd ((keqI (a := 4) (b := 5) rfl rfl (by omega) (by omega)).mp z) (by omega))
    refine pm_aload_n K dX7_partTrace_28 (q := 29) rfl rfl rfl ?_
    refine pm_get K inX7 rfl (k := 20) (by decide) wlX7_47 rfl (by have := M.1; omega) M.2.1 rfl dX7_partTrace_29 (q := 32) rfl ?_
    refine pm_iload_n K dX7_partTrace_32 (q := 33) rfl rfl rfl ?_
    refine mo_iald (j := 12) K M (by decide) (by decide) (show s < 3 by omega) dX7_partTrace_33 (q := 34) rfl ?_
    refine pm_top (y := nI (n0)) (q2.symm) ?_
    refine pm_istore_n K dX7_partTrace_34 (q := 35) rfl rfl (by decide) rfl ?_
    refine pm_iload_n K dX7_partTrace_35 (q := 36) rfl rfl rfl ?_
    refine pm_ic4 K dX7_partTrace_36 (q := 37) rfl ?_
    refine pm_icmp_ne K dX7_partTrace_37 (tgt := 59) (q := 40) rfl rfl (fun z => absurd ((keqI (a := 4) (b := 4) rfl rfl (by omega) (by omega)).mpr (by omega)) z) (fun _ => ?_)
    refine pm_aload_n K dX7_partTrace_40 (q := 41) rfl rfl rfl ?_
    refine pm_iload_n K dX7_partTrace_41 (q := 42) rfl rfl rfl ?_
    refine pm_aload_n K dX7_partTrace_42 (q := 43) rfl rfl rfl ?_
    refine pm_get K inX7 rfl (k := 21) (by decide) wlX7_50 rfl (by have := M.1; omega) M.2.1 rfl dX7_partTrace_43 (q := 46) rfl ?_
    refine pm_iload_n K dX7_partTrace_46 (q := 47) rfl rfl rfl ?_
    refine mo_iald (j := 13) K M (by decide) (by decide) (show s < 3 by omega) dX7_partTrace_47 (q := 48) rfl ?_
    refine pm_top (y := nI (u)) (q3.symm) ?_
    refine pm_iadd K dX7_partTrace_48 (q := 49) rfl ?_
    refine pm_top (y := nI (n0 + u)) (kadd (a := n0) (b := u) rfl rfl) ?_
    refine pm_aload_n K dX7_partTrace_49 (q := 50) rfl rfl rfl ?_
    refine pm_get K inX7 rfl (k := 22) (by decide) wlX7_53 rfl (by have := M.1; omega) M.2.1 rfl dX7_partTrace_50 (q := 53) rfl ?_
    refine pm_iload_n K dX7_partTrace_53 (q := 54) rfl rfl rfl ?_
    refine mo_iald (j := 14) K M (by decide) (by decide) (show s < 3 by omega) dX7_partTrace_54 (q := 55) rfl ?_
    refine pm_top (y := gv) (q4.symm) ?_
    refine pm_callV0 K gw_ok wcX7_165 (m_joinTrace l M hw (k := n0 + u) (P := P) (gv := gv) h36 hP (by simp only [List.length_append]; omega)) rfl (by have := M.1; omega) M.2.1 rfl rfl (Nat.le_of_ble_eq_true rfl) (by decide) dX7_partTrace_55 (q := 58) rfl (fun rt1 ht1 hp => ?_)
    obtain ⟨rfl, gt1, Mt1, Wt1, Qt1, Ft1⟩ := hp
    exact pm_vret Z dX7_partTrace_58 rfl (Nat.le_of_ble_eq_true rfl) (Nat.le_of_ble_eq_true rfl) ⟨rfl, ⟨rfl, _, Mt1, by simpa only [List.append_assoc] using Wt1, Qt1, Ft1⟩⟩
  · unfold ap_t at hb Z
    simp only [List.length_append] at hb
    refine pm_aload_n K dX7_partTrace_0 (q := 1) rfl rfl rfl ?_
    refine pm_get K inX7 rfl (k := 19) (by decide) wlX7_44 rfl (by have := M.1; omega) M.2.1 rfl dX7_partTrace_1 (q := 4) rfl ?_
    refine pm_iload_n K dX7_partTrace_4 (q := 5) rfl rfl rfl ?_
    refine mo_iald (j := 11) K M (by decide) (by decide) (show s < 3 by omega) dX7_partTrace_5 (q := 6) rfl ?_
    refine pm_top (y := nI (5)) (q1.symm) ?_
    refine pm_istore_n K dX7_partTrace_6 (q := 7) rfl rfl (by decide) rfl ?_
    refine pm_iload_n K dX7_partTrace_7 (q := 8) rfl rfl rfl ?_
    refine pm_ic5 K dX7_partTrace_8 (q := 9) rfl ?_
    refine pm_icmp_ne K dX7_partTrace_9 (tgt := 28) (q := 12) rfl rfl (fun z => absurd ((keqI (a := 5) (b := 5) rfl rfl (by omega) (by omega)).mpr (by omega)) z) (fun _ => ?_)
    refine pm_aload_n K dX7_partTrace_12 (q := 13) rfl rfl rfl ?_
    refine pm_get K inX7 rfl (k := 20) (by decide) wlX7_47 rfl (by have := M.1; omega) M.2.1 rfl dX7_partTrace_13 (q := 16) rfl ?_
    refine pm_iload_n K dX7_partTrace_16 (q := 17) rfl rfl rfl ?_
    refine mo_iald (j := 12) K M (by decide) (by decide) (show s < 3 by omega) dX7_partTrace_17 (q := 18) rfl ?_
    refine pm_top (y := nI (n0)) (q2.symm) ?_
    refine pm_aload_n K dX7_partTrace_18 (q := 19) rfl rfl rfl ?_
    refine pm_get K inX7 rfl (k := 21) (by decide) wlX7_50 rfl (by have := M.1; omega) M.2.1 rfl dX7_partTrace_19 (q := 22) rfl ?_
    refine pm_iload_n K dX7_partTrace_22 (q := 23) rfl rfl rfl ?_
    refine mo_iald (j := 13) K M (by decide) (by decide) (show s < 3 by omega) dX7_partTrace_23 (q := 24) rfl ?_
    refine pm_top (y := nI (u)) (q3.symm) ?_
    refine pm_iadd K dX7_partTrace_24 (q := 25) rfl ?_
    refine pm_top (y := nI (n0 + u)) (kadd (a := n0) (b := u) rfl rfl) ?_
    refine pm_goto K dX7_partTrace_25 (q := 34) rfl ?_
    refine pm_istore_n K dX7_partTrace_34 (q := 35) rfl rfl (by decide) rfl ?_
    refine pm_iload_n K dX7_partTrace_35 (q := 36) rfl rfl rfl ?_
    refine pm_ic4 K dX7_partTrace_36 (q := 37) rfl ?_
    refine pm_icmp_ne K dX7_partTrace_37 (tgt := 59) (q := 40) rfl rfl (fun _ => ?_) (fun z => absurd ((keqI (a := 5) (b := 4) rfl rfl (by omega) (by omega)).mp z) (by omega))
    refine pm_iload_n K dX7_partTrace_59 (q := 60) rfl rfl rfl ?_
    refine pm_ic2 K dX7_partTrace_60 (q := 61) rfl ?_
    refine pm_icmp_eq K dX7_partTrace_61 (tgt := 74) (q := 64) rfl rfl (fun z => absurd ((keqI (a := 5) (b := 2) rfl rfl (by omega) (by omega)).mp z) (by omega)) (fun _ => ?_)
    refine pm_iload_n K dX7_partTrace_64 (q := 65) rfl rfl rfl ?_
    refine pm_ic3 K dX7_partTrace_65 (q := 66) rfl ?_
    refine pm_icmp_eq K dX7_partTrace_66 (tgt := 74) (q := 69) rfl rfl (fun z => absurd ((keqI (a := 5) (b := 3) rfl rfl (by omega) (by omega)).mp z) (by omega)) (fun _ => ?_)
    refine pm_iload_n K dX7_partTrace_69 (q := 70) rfl rfl rfl ?_
    refine pm_ic5 K dX7_partTrace_70 (q := 71) rfl ?_
    refine pm_icmp_ne K dX7_partTrace_71 (tgt := 80) (q := 74) rfl rfl (fun z => absurd ((keqI (a := 5) (b := 5) rfl rfl (by omega) (by omega)).mpr (by omega)) z) (fun _ => ?_)
    refine pm_aload_n K dX7_partTrace_74 (q := 75) rfl rfl rfl ?_
    refine pm_iload_n K dX7_partTrace_75 (q := 76) rfl rfl rfl ?_
    refine pm_ic0 K dX7_partTrace_76 (q := 77) rfl ?_
    refine pm_callV0 K gw_ok wcX7_159 (m_sort l M hw (b0 := 0) (m0 := n0 + u) (by omega) (by simp only [List.length_append]; omega)) rfl (by have := M.1; omega) M.2.1 rfl rfl (Nat.le_of_ble_eq_true rfl) (by decide) dX7_partTrace_77 (q := 80) rfl (fun rt1 ht1 hp => ?_)
    obtain ⟨rfl, gt1, Mt1, Wt1, Qt1, Ft1⟩ := hp
    refine pm_aload_n K dX7_partTrace_80 (q := 81) rfl rfl rfl ?_
    refine pm_iload_n K dX7_partTrace_81 (q := 82) rfl rfl rfl ?_
    refine pm_ic0 K dX7_partTrace_82 (q := 83) rfl ?_
    refine pm_ic0 K dX7_partTrace_83 (q := 84) rfl ?_
    refine pm_callV0 K gw_ok wcX7_149 (m_scan l Mt1 Wt1 (b0 := 0) (m0 := n0 + u) (by omega) (by first | omega | (simp only [List.length_append, List.length_cons, List.length_nil]; omega))) rfl (by have := Mt1.1; omega) Mt1.2.1 rfl rfl (Nat.le_of_ble_eq_true rfl) (by decide) dX7_partTrace_84 (q := 87) rfl (fun rt2 ht2 hp => ?_)
    obtain ⟨rfl, gt2, Mt2, Wt2, Qt2, Ft2⟩ := hp
    refine pm_iload_n K dX7_partTrace_87 (q := 88) rfl rfl rfl ?_
    refine pm_ic3 K dX7_partTrace_88 (q := 89) rfl ?_
    refine pm_icmp_ne K dX7_partTrace_89 (tgt := 99) (q := 92) rfl rfl (fun _ => ?_) (fun z => absurd ((keqI (a := 5) (b := 3) rfl rfl (by omega) (by omega)).mp z) (by omega))
    refine pm_iload_n K dX7_partTrace_99 (q := 100) rfl rfl rfl ?_
    refine pm_ic1 K dX7_partTrace_100 (q := 101) rfl ?_
    refine pm_icmp_eq K dX7_partTrace_101 (tgt := 110) (q := 104) rfl rfl (fun z => absurd ((keqI (a := 5) (b := 1) rfl rfl (by omega) (by omega)).mp z) (by omega)) (fun _ => ?_)
    refine pm_aload_n K dX7_partTrace_104 (q := 105) rfl rfl rfl ?_
    refine pm_iload_n K dX7_partTrace_105 (q := 106) rfl rfl rfl ?_
    refine pm_ic0 K dX7_partTrace_106 (q := 107) rfl ?_
    refine pm_callV0 K gw_ok wcX7_153 (m_squeeze l Mt2 Wt2 (b0 := 0) (m0 := n0 + u) (by omega) (by first | omega | (simp only [List.length_append, List.length_cons, List.length_nil]; omega))) rfl (by have := Mt2.1; omega) Mt2.2.1 rfl rfl (Nat.le_of_ble_eq_true rfl) (by decide) dX7_partTrace_107 (q := 110) rfl (fun rt3 ht3 hp => ?_)
    obtain ⟨rfl, gt3, Mt3, Wt3, Qt3, Ft3⟩ := hp
    exact pm_vret Z dX7_partTrace_110 rfl (Nat.le_of_ble_eq_true rfl) (Nat.le_of_ble_eq_true rfl) ⟨rfl, ⟨rfl, _, Mt3, by simpa only [List.append_assoc] using Wt3, ((Qt1.tr Qt2).tr Qt3), ((Ft1.tr Ft2).tr Ft3)⟩⟩
set_option maxRecDepth 100000 in
theorem m_write (l : Launch) {n : Nat} {h : pm_H} {g : Nat → Int32} {A : Nat → Nat → Int32} (M : mo_at n h g A) {pa : List (Int32 × Int32 × Int32 × Int32)} {la : Nat} {F : List Int32} (hp : g 18 = nI pa.length ∧ pa.length ≤ 3 ∧ ∀ s, s < pa.length → pa[s]? = some (A 11 s, A 12 s, A 13 s, A 14 s)) (hla : g 23 = nI la ∧ la ≤ 24) (hT : tr_rel pa la F) (hb : F.length + 5000 < 2 ^ 30) (x : Int32) : bM0 l yX7_write cX7_write 3 none 6 [.ref 112, .int x] n h (fun r h' => r = none ∧ ∃ g', mo_at n h' g' A ∧ g' 24 = nI F.length ∧ g' 26 = so_nth F x ∧ gr g g' ∧ mo_fr h h') := by
  refine pm_enter rfl (Nat.le_of_ble_eq_true rfl) (fun G K Z => ?_)
  obtain ⟨pL, h0, hs, hF⟩ := hT
  have hp3 := hp.2.1
  have h24 := hla.2
  have hmono := tr_mono hs
  refine pm_aload_n K dX7_write_0 (q := 1) rfl rfl rfl ?_
  refine pm_iload_n K dX7_write_1 (q := 2) rfl rfl rfl ?_
  refine mo_put (k := 25) K M (by decide) wlX7_131 dX7_write_2 (q := 5) rfl (fun hm1 M1 Fm1 => ?_)
  refine pm_aload_n K dX7_write_5 (q := 6) rfl rfl rfl ?_
  refine pm_ic0 K dX7_write_6 (q := 7) rfl ?_
  refine mo_put (k := 24) K M1 (by decide) wlX7_128 dX7_write_7 (q := 10) rfl (fun hm2 M2 Fm2 => ?_)
  refine pm_aload_n K dX7_write_10 (q := 11) rfl rfl rfl ?_
  refine pm_icm1 K dX7_write_11 (q := 12) rfl ?_
  refine mo_put (k := 26) K M2 (by decide) wlX7_134 dX7_write_12 (q := 15) rfl (fun hm3 M3 Fm3 => ?_)
  refine pm_ic0 K dX7_write_15 (q := 16) rfl ?_
  refine pm_istore_n K dX7_write_16 (q := 17) rfl rfl (by decide) rfl ?_
  obtain ⟨g0, hg0⟩ : ∃ z, z = upd (upd (upd g 25 x) 24 0) 26 (-1) := ⟨_, rfl⟩
  have M0 : mo_at n hm3 g0 A := by rw [hg0]; exact M3
  have W0 : tw g0 [] := by rw [hg0]; exact ⟨rfl, (so_nil x).symm⟩
  have R0 : gr g g0 := by rw [hg0]; exact gr_z _ _ _ _
  have e25 : g0 25 = x := by rw [hg0]; rfl
  have loop : ∀ (m s : Nat) (h1 : pm_H) (g1 : Nat → Int32), s + m = pa.length → mo_at n h1 g1 A → tw g1 (pL s) → gq g0 g1 → mo_fr h h1 → G 0 0 17 [some (.ref 112), some (.int x), some (.int (nI s))] [] n h1 := by
    intro m
    induction m with
    | zero =>
      intro s h1 g1 hsm M1 W1 Q1 F1
      refine pm_iload_n K dX7_write_17 (q := 18) rfl rfl rfl ?_
      refine pm_aload_n K dX7_write_18 (q := 19) rfl rfl rfl ?_
      refine pm_get K inX7 rfl (k := 18) (by decide) wlX7_99 rfl (by have := M1.1; omega) M1.2.1 rfl dX7_write_19 (q := 22) rfl ?_
      refine pm_top (y := nI (pa.length)) ((Q1 18 (by decide) (by decide)).trans ((R0 18 (by decide)).trans hp.1)) ?_
      refine pm_icmp_ge K dX7_write_22 (tgt := 36) (q := 25) rfl rfl (fun _ => ?_) (fun z => absurd ((kleI (a := pa.length) (b := s) rfl rfl (by omega) (by omega)).mpr (by omega)) z)
      have es : s = pa.length := by omega
      subst es
      refine pm_aload_n K dX7_write_36 (q := 37) rfl rfl rfl ?_
      refine pm_aload_n K dX7_write_37 (q := 38) rfl rfl rfl ?_
      refine pm_get K inX7 rfl (k := 23) (by decide) wlX7_108 rfl (by have := M1.1; omega) M1.2.1 rfl dX7_write_38 (q := 41) rfl ?_
      refine pm_top (y := nI (la)) ((Q1 23 (by decide) (by decide)).trans ((R0 23 (by decide)).trans hla.1)) ?_
      refine pm_ic0 K dX7_write_41 (q := 42) rfl ?_
      refine pm_callV0 K gw_ok wcX7_159 (m_sort l M1 W1 (b0 := 0) (m0 := la) (by omega) (by rw [← hF]; omega)) rfl (by have := M1.1; omega) M1.2.1 rfl rfl (Nat.le_of_ble_eq_true rfl) (by decide) dX7_write_42 (q := 45) rfl (fun rt1 ht1 hp => ?_)
      obtain ⟨rfl, gt1, Mt1, Wt1, Qt1, Ft1⟩ := hp
      exact pm_vret Z dX7_write_45 rfl (Nat.le_of_ble_eq_true rfl) (Nat.le_of_ble_eq_true rfl) ⟨rfl, ⟨rfl, _, Mt1, by rw [hF]; exact Wt1.1, by rw [hF, ← e25, ← ((Q1.tr Qt1) 25 (by decide) (by decide))]; exact Wt1.2, gr_q R0 (Q1.tr Qt1), (F1.tr Ft1)⟩⟩
    | succ m ih =>
      intro s h1 g1 hsm M1 W1 Q1 F1
      refine pm_iload_n K dX7_write_17 (q := 18) rfl rfl rfl ?_
      refine pm_aload_n K dX7_write_18 (q := 19) rfl rfl rfl ?_
      refine pm_get K inX7 rfl (k := 18) (by decide) wlX7_99 rfl (by have := M1.1; omega) M1.2.1 rfl dX7_write_19 (q := 22) rfl ?_
      refine pm_top (y := nI (pa.length)) ((Q1 18 (by decide) (by decide)).trans ((R0 18 (by decide)).trans hp.1)) ?_
      refine pm_icmp_ge K dX7_write_22 (tgt := 36) (q := 25) rfl rfl (fun z => absurd ((kleI (a := pa.length) (b := s) rfl rfl (by omega) (by omega)).mp z) (by omega)) (fun _ => ?_)
      obtain ⟨q, L, e1, e2, e3⟩ := hs s (by omega)
      have hms := hmono (s + 1) (by omega)
      have hFl := congrArg List.length hF
      rw [List.length_append] at hFl
      refine pm_aload_n K dX7_write_25 (q := 26) rfl rfl rfl ?_
      refine pm_iload_n K dX7_write_26 (q := 27) rfl rfl rfl ?_
      refine pm_callV0 K gw_ok wcX7_168 (m_partTrace l M1 W1 (s := s) (q := q) (L := L) (by omega) (Option.some.inj (e1.symm.trans (hp.2.2 s (by omega)))) e2 (by rw [← e3]; omega)) rfl (by have := M1.1; omega) M1.2.1 rfl rfl (Nat.le_of_ble_eq_true rfl) (by decide) dX7_write_27 (q := 30) rfl (fun rt1 ht1 hp => ?_)
      obtain ⟨rfl, gt1, Mt1, Wt1, Qt1, Ft1⟩ := hp
      refine pm_inc K dX7_write_30 (q := 33) rfl rfl (by decide) rfl ?_
      refine pm_goto K dX7_write_33 (q := 17) rfl ?_
      exact ih (s + 1) _ _ (by omega) Mt1 (by rw [e3]; exact Wt1) (Q1.tr Qt1) (F1.tr Ft1)
  exact loop pa.length 0 _ g0 (by omega) M0 (by rw [h0]; exact W0) gq.rf ((Fm1.tr Fm2).tr Fm3)
set_option maxRecDepth 100000 in
theorem m_length (l : Launch) {n : Nat} {h : pm_H} {T : Nat → List bg_T} {ch : List (Int32 × bg_T)} {pl : Bool} {so : Int32} {sc : Nat} {S : Nat → Nat → Int32} {lr : List bg_T} {pa : List (Int32 × Int32 × Int32 × Int32)} {la : Nat} (X : m_at n h T ch pl so sc S lr pa la) {F : List Int32} (hT : tr_rel pa la F) (hb : F.length + 5000 < 2 ^ 30) : bM0 l yX7_length cX7_length 1 (some (.int)) 7 [.ref 112] n h (fun r h' => r = some (.int (nI F.length)) ∧ m_at n h' T ch pl so sc S lr pa la ∧ mo_fr h h') := by
  refine pm_enter rfl (Nat.le_of_ble_eq_true rfl) (fun G K Z => ?_)
  obtain ⟨g, A, M, c1, c2, c3, c4, c5, c6, c7, c8, c9⟩ := X
  refine pm_aload_n K dX7_length_0 (q := 1) rfl rfl rfl ?_
  refine pm_icm1 K dX7_length_1 (q := 2) rfl ?_
  refine pm_callV0 K gw_ok wcX7_171 (m_write l M c8 c9 hT hb (-1)) rfl (by have := M.1; omega) M.2.1 rfl rfl (Nat.le_of_ble_eq_true rfl) (by decide) dX7_length_2 (q := 5) rfl (fun r2 h2 hp => ?_)
  obtain ⟨rfl, g2, M2, e24, e26, R2, F2⟩ := hp
  refine pm_aload_n K dX7_length_5 (q := 6) rfl rfl rfl ?_
  refine pm_get K inX7 rfl (k := 24) (by decide) wlX7_128 rfl (by have := M2.1; omega) M2.2.1 rfl dX7_length_6 (q := 9) rfl ?_
  refine pm_top (y := nI F.length) (e24) ?_
  exact pm_iret Z dX7_length_9 rfl rfl (Nat.le_of_ble_eq_true rfl) (Nat.le_of_ble_eq_true rfl) ⟨rfl, ⟨rfl, ⟨g2, A, M2, c1, (R2 2 (by decide)).trans c2, (R2 3 (by decide)).trans c3, ⟨(R2 4 (by decide)).trans c4.1, c4.2⟩, c5, ⟨(R2 9 (by decide)).trans c6.1, c6.2⟩, ⟨(R2 17 (by decide)).trans c7.1, c7.2⟩, ⟨(R2 18 (by decide)).trans c8.1, c8.2⟩, ⟨(R2 23 (by decide)).trans c9.1, c9.2⟩⟩, F2⟩⟩
set_option maxRecDepth 100000 in
theorem m_access (l : Launch) {n : Nat} {h : pm_H} {T : Nat → List bg_T} {ch : List (Int32 × bg_T)} {pl : Bool} {so : Int32} {sc : Nat} {S : Nat → Nat → Int32} {lr : List bg_T} {pa : List (Int32 × Int32 × Int32 × Int32)} {la : Nat} (X : m_at n h T ch pl so sc S lr pa la) {F : List Int32} (hT : tr_rel pa la F) (hb : F.length + 5000 < 2 ^ 30) (k0 : Int32) : bM0 l yX7_access cX7_access 2 (some (.int)) 7 [.ref 112, .int k0] n h (fun r h' => r = some (.int (so_nth F k0)) ∧ m_at n h' T ch pl so sc S lr pa la ∧ mo_fr h h') := by
  refine pm_enter rfl (Nat.le_of_ble_eq_true rfl) (fun G K Z => ?_)
  obtain ⟨g, A, M, c1, c2, c3, c4, c5, c6, c7, c8, c9⟩ := X
  refine pm_aload_n K dX7_access_0 (q := 1) rfl rfl rfl ?_
  refine pm_iload_n K dX7_access_1 (q := 2) rfl rfl rfl ?_
  refine pm_callV0 K gw_ok wcX7_171 (m_write l M c8 c9 hT hb k0) rfl (by have := M.1; omega) M.2.1 rfl rfl (Nat.le_of_ble_eq_true rfl) (by decide) dX7_access_2 (q := 5) rfl (fun r2 h2 hp => ?_)
  obtain ⟨rfl, g2, M2, e24, e26, R2, F2⟩ := hp
  refine pm_aload_n K dX7_access_5 (q := 6) rfl rfl rfl ?_
  refine pm_get K inX7 rfl (k := 26) (by decide) wlX7_134 rfl (by have := M2.1; omega) M2.2.1 rfl dX7_access_6 (q := 9) rfl ?_
  refine pm_top (y := so_nth F k0) (e26) ?_
  exact pm_iret Z dX7_access_9 rfl rfl (Nat.le_of_ble_eq_true rfl) (Nat.le_of_ble_eq_true rfl) ⟨rfl, ⟨rfl, ⟨g2, A, M2, c1, (R2 2 (by decide)).trans c2, (R2 3 (by decide)).trans c3, ⟨(R2 4 (by decide)).trans c4.1, c4.2⟩, c5, ⟨(R2 9 (by decide)).trans c6.1, c6.2⟩, ⟨(R2 17 (by decide)).trans c7.1, c7.2⟩, ⟨(R2 18 (by decide)).trans c8.1, c8.2⟩, ⟨(R2 23 (by decide)).trans c9.1, c9.2⟩⟩, F2⟩⟩
