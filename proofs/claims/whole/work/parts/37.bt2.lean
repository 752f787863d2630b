/-! The system: steps, run, apply. -/
/-- the first place of each value -/
def fs {β : Type} [DecidableEq β] (g : Nat → β) (k : Nat) : Bool := (List.range k).all (fun q => !(decide (g q = g k)))
theorem fs_iff {β : Type} [DecidableEq β] (g : Nat → β) (k : Nat) : fs g k = true ↔ ∀ q, q < k → ¬ g q = g k := by
  unfold fs
  rw [List.all_eq_true]
  constructor
  · intro h q hq z
    have := h q (List.mem_range.mpr hq)
    rw [decide_eq_true z] at this
    cases this
  · intro h q hq
    rw [decide_eq_false (h q (List.mem_range.mp hq))]
    rfl
theorem fs_ok {β : Type} [DecidableEq β] (g : Nat → β) (m : Nat) : ((nw_mk (fs g) m).map g).Nodup ∧ ∀ b, b ∈ (nw_mk (fs g) m).map g ↔ ∃ p, p < m ∧ g p = b := by
  constructor
  · rw [List.Nodup, List.pairwise_map]
    have hlt : (nw_mk (fs g) m).Pairwise (· < ·) := List.Pairwise.filter _ List.pairwise_lt_range
    refine hlt.imp_of_mem (fun {a b} ha hb hab he => ?_)
    exact (fs_iff g b).mp (nw_mk_mem.mp hb).2 a hab he
  · intro b
    constructor
    · intro h
      obtain ⟨p, hp, rfl⟩ := List.mem_map.mp h
      exact ⟨p, (nw_mk_mem.mp hp).1, rfl⟩
    · rintro ⟨p, hp, hb⟩
      obtain ⟨k, hk, hmin⟩ := pk_least (fun p => p < m ∧ g p = b) ⟨p, hp, hb⟩
      refine List.mem_map.mpr ⟨k, nw_mk_mem.mpr ⟨hk.1, (fs_iff g k).mpr (fun q hq z => ?_)⟩, hk.2⟩
      exact hmin q hq ⟨Nat.lt_trans hq hk.1, z.trans hk.2⟩
def dd (l : List bg_T) : List bg_T := (nw_mk (fs (fun k => l.getD k (0, 0, 0))) l.length).map (fun k => l.getD k (0, 0, 0))
theorem dd_ok (l : List bg_T) : (dd l).Nodup ∧ ∀ t, t ∈ dd l ↔ t ∈ l := by
  obtain ⟨h1, h2⟩ := fs_ok (fun k => l.getD k (0, 0, 0)) l.length
  refine ⟨h1, fun t => (h2 t).trans ?_⟩
  have := mk_getD l (0, 0, 0)
  constructor
  · rintro ⟨p, hp, rfl⟩
    have h3 : l.getD p (0, 0, 0) ∈ (List.range l.length).map (fun p => l.getD p (0, 0, 0)) := List.mem_map.mpr ⟨p, List.mem_range.mpr hp, rfl⟩
    rw [this] at h3
    exact h3
  · intro h
    rw [← this] at h
    obtain ⟨p, hp, e⟩ := List.mem_map.mp h
    exact ⟨p, List.mem_range.mp hp, e⟩
theorem dd_perm {l l1 : List bg_T} (h1 : l1.Nodup) (h2 : ∀ t, t ∈ l1 ↔ t ∈ l) : l1.Perm (dd l) := (List.perm_ext_iff_of_nodup h1 (dd_ok l).1).mpr (fun t => (h2 t).trans ((dd_ok l).2 t).symm)
def gp1 (g a : Int32) (l : List bg_T) (k : Int32) : bg_T := (k, (gsl g a l k).1, nI (gsl g a l k).2)
def gp (g a : Int32) (l : List bg_T) : List bg_T := (nw_mk (fs (fun k => bg_col g (l.getD k (0, 0, 0)))) l.length).map (fun k => gp1 g a l (bg_col g (l.getD k (0, 0, 0))))
theorem gp_is (g a : Int32) (l : List bg_T) : gp_ok g a l (gp g a l) := by
  obtain ⟨h1, h2⟩ := fs_ok (fun k => bg_col g (l.getD k (0, 0, 0))) l.length
  have e : gp g a l = ((nw_mk (fs (fun k => bg_col g (l.getD k (0, 0, 0)))) l.length).map (fun k => bg_col g (l.getD k (0, 0, 0)))).map (gp1 g a l) := by
    unfold gp
    rw [List.map_map]
    rfl
  have hmem : ∀ k, k ∈ (nw_mk (fs (fun k => bg_col g (l.getD k (0, 0, 0)))) l.length).map (fun k => bg_col g (l.getD k (0, 0, 0))) ↔ ∃ u ∈ l, bg_col g u = k := fun k => by
    rw [h2]
    have := mk_getD l (0, 0, 0)
    constructor
    · rintro ⟨p, hp, rfl⟩
      have h3 : l.getD p (0, 0, 0) ∈ (List.range l.length).map (fun p => l.getD p (0, 0, 0)) := List.mem_map.mpr ⟨p, List.mem_range.mpr hp, rfl⟩
      rw [this] at h3
      exact ⟨_, h3, rfl⟩
    · rintro ⟨u, hu, rfl⟩
      rw [← this] at hu
      obtain ⟨p, hp, e⟩ := List.mem_map.mp hu
      exact ⟨p, List.mem_range.mp hp, by rw [← e]⟩
  rw [e]
  constructor
  · rw [List.map_map]
    have : ((fun t : bg_T => t.1) ∘ gp1 g a l) = id := rfl
    rw [this, List.map_id]
    exact h1
  · intro t
    rw [List.mem_map]
    constructor
    · rintro ⟨k, hk, rfl⟩
      obtain ⟨u, hu, rfl⟩ := (hmem k).mp hk
      exact ⟨u, hu, rfl⟩
    · rintro ⟨u, hu, rfl⟩
      exact ⟨bg_col g u, (hmem _).mpr ⟨u, hu, rfl⟩, rfl⟩
theorem gp_nd {g a : Int32} {l l1 : List bg_T} (h : gp_ok g a l l1) : l1.Nodup := by
  have := h.1
  rw [List.Nodup, List.pairwise_map] at this
  exact this.imp (fun h z => h (by rw [z]))
theorem gp_perm {g a : Int32} {l l1 : List bg_T} (h : gp_ok g a l l1) : l1.Perm (gp g a l) := (List.perm_ext_iff_of_nodup (gp_nd h) (gp_nd (gp_is g a l))).mpr (fun t => (h.2 t).trans ((gp_is g a l).2 t).symm)
def sp (T : Nat → List bg_T) (s : Nat → Int32) (l : List bg_T) : List bg_T := if s 0 = 0 then l.filter (fun t => op_m (bg_col (s 1) t) (s 2) (s 3)) else if s 0 = 1 then l.map (fun t => (bg_col (s 1) t, bg_col (s 2) t, bg_col (s 3) t)) else if s 0 = 2 then dd l else if s 0 = 3 then gp (s 1) (s 2) l else jn_naive (l.map (kx (s 2))) ((T (s 1).toNatClampNeg).map (kx (s 3)))
section SPP
variable {T : Nat → List bg_T} {s : Nat → Int32} {l : List bg_T}
theorem sp_0 (h : s 0 = 0) : sp T s l = l.filter (fun t => op_m (bg_col (s 1) t) (s 2) (s 3)) := if_pos h
theorem sp_1 (h : s 0 = 1) : sp T s l = l.map (fun t => (bg_col (s 1) t, bg_col (s 2) t, bg_col (s 3) t)) := by
  unfold sp
  rw [h, if_neg (by decide), if_pos rfl]
theorem sp_2 (h : s 0 = 2) : sp T s l = dd l := by
  unfold sp
  rw [h, if_neg (by decide), if_neg (by decide), if_pos rfl]
theorem sp_3 (h : s 0 = 3) : sp T s l = gp (s 1) (s 2) l := by
  unfold sp
  rw [h, if_neg (by decide), if_neg (by decide), if_neg (by decide), if_pos rfl]
theorem sp_4 (h : s 0 = 4) : sp T s l = jn_naive (l.map (kx (s 2))) ((T (s 1).toNatClampNeg).map (kx (s 3))) := by
  unfold sp
  rw [h, if_neg (by decide), if_neg (by decide), if_neg (by decide), if_neg (by decide)]
end SPP
theorem sp_perm (T : Nat → List bg_T) (s : Nat → Int32) {l l' : List bg_T} (h : l.Perm l') : (sp T s l).Perm (sp T s l') := by
  unfold sp
  split
  · exact h.filter _
  · split
    · exact h.map _
    · split
      · exact (dd_perm (dd_ok l).1 (fun t => ((dd_ok l).2 t).trans h.mem_iff))
      · split
        · have h1 := gp_is (s 1) (s 2) l
          refine gp_perm ⟨h1.1, fun t => (h1.2 t).trans ?_⟩
          constructor
          · rintro ⟨u, hu, rfl⟩
            exact ⟨u, h.mem_iff.mp hu, by rw [gsl_perm h]⟩
          · rintro ⟨u, hu, rfl⟩
            exact ⟨u, h.mem_iff.mpr hu, by rw [gsl_perm h]⟩
        · exact jn_naive_perm (h.map _) (List.Perm.refl _)
def sp_tr (k : Int32) (n u m : Nat) : List Int32 := if k = 0 then tr_sc 0 n ++ tr_sqs 0 n (so_k n) else if k = 1 then tr_sc 0 n else if k = 2 then tr_sort 0 n ++ (tr_sc 0 n ++ tr_sqs 0 n (so_k n)) else if k = 3 then tr_sort 0 n ++ (tr_sc 0 n ++ (tr_bk n n ++ tr_sqs 0 n (so_k n))) else tr_join (n + u) m
def st_ok (s : Nat → Int32) : Prop := s 0 = 0 ∨ s 0 = 1 ∨ s 0 = 2 ∨ s 0 = 3 ∨ (s 0 = 4 ∧ tb (s 1) = true)
/-- the rows behind s steps of a plan, and the trace so far -/
def rn_L (T : Nat → List bg_T) (S : Nat → Nat → Int32) (j : Nat) : Nat → List bg_T
  | 0 => T j
  | s + 1 => sp T (S s) (rn_L T S j s)
def rn_t (T : Nat → List bg_T) (S : Nat → Nat → Int32) (j : Nat) : Nat → List Int32
  | 0 => []
  | s + 1 => rn_t T S j s ++ sp_tr (S s 0) (rn_L T S j s).length (T (S s 1).toNatClampNeg).length (rn_L T S j (s + 1)).length
def ap_t (n : Nat) : List Int32 := tr_sort 0 n ++ (tr_sc 0 n ++ tr_sqs 0 n (so_k n))
set_option maxRecDepth 100000 in
theorem c_perform (l : Launch) {n : Nat} {h : pm_H} {T : Nat → List bg_T} {lp ld lr : List bg_T} {pt : Int32} {sc : Nat} {S : Nat → Nat → Int32} {ts : List Int32} (X : x_at n h T lp ld lr pt sc S ts) {j : Nat} (hj : j < 3) (hst : st_ok (S j)) : bM0 l yX6_perform cX6_perform 2 (some (.boolean)) 5 [.ref 0, .ref (109 + j)] n h (fun r h' => ∃ l1, l1.Perm (sp T (S j) lr) ∧ r = some (.int (b2i (decide (l1.length ≤ 24)))) ∧ x_at n h' T lp ld (if l1.length ≤ 24 then l1 else lr) pt sc S (tk (ts ++ sp_tr (S j 0) lr.length (T (S j 1).toNatClampNeg).length l1.length)) ∧ y_fr h h') := by
  refine pm_enter rfl (Nat.le_of_ble_eq_true rfl) (fun G K Z => ?_)
  have X0 := X
  obtain ⟨⟨hn, ⟨tf, x1, xtf⟩, ⟨sf, x2, xsf⟩, x94, x95⟩, x0, xlp, xld, xlr, xso, xsr, xt, xs⟩ := X
  obtain ⟨L, HL⟩ := xso
  have hl24 := xlr.2.1
  refine pm_aload_n K dX6_perform_0 (q := 1) rfl rfl rfl ?_
  refine pm_get K inX4 rfl (k := 0) (by decide) wlX6_125 rfl (by omega) (xs j hj) rfl dX6_perform_1 (q := 4) rfl ?_
  rcases hst with h0 | h0 | h0 | h0 | ⟨h0, ht⟩
  · refine pm_tableIn (off := 32) K dX6_perform_4 (by rw [h0]; decide) (by rw [h0]; decide) (by rw [h0]; rfl) (q := 36) rfl ?_
    refine pm_aload_n K dX6_perform_36 (q := 37) rfl rfl rfl ?_
    refine pm_get K inX6 rfl (k := 6) (by decide) wlX6_46 rfl (by omega) x0 rfl dX6_perform_37 (q := 40) rfl ?_
    refine pm_aload_n K dX6_perform_40 (q := 41) rfl rfl rfl ?_
    refine pm_get K inX6 rfl (k := 4) (by decide) wlX6_31 rfl (by omega) x0 rfl dX6_perform_41 (q := 44) rfl ?_
    refine pm_aload_n K dX6_perform_44 (q := 45) rfl rfl rfl ?_
    refine pm_get K inX4 rfl (k := 1) (by decide) wlX6_128 rfl (by omega) (xs j hj) rfl dX6_perform_45 (q := 48) rfl ?_
    refine pm_aload_n K dX6_perform_48 (q := 49) rfl rfl rfl ?_
    refine pm_get K inX4 rfl (k := 2) (by decide) wlX6_131 rfl (by omega) (xs j hj) rfl dX6_perform_49 (q := 52) rfl ?_
    refine pm_aload_n K dX6_perform_52 (q := 53) rfl rfl rfl ?_
    refine pm_get K inX4 rfl (k := 3) (by decide) wlX6_134 rfl (by omega) (xs j hj) rfl dX6_perform_53 (q := 56) rfl ?_
    refine pm_callV0 K gw_ok wcX6_137 (c_keepMatching l HL hn x94 xlr (by omega) (S j 1) (S j 2) (S j 3)) rfl (by omega) x94 rfl rfl (Nat.le_of_ble_eq_true rfl) (by decide) dX6_perform_56 (q := 59) rfl (fun r1 h1 hp => ?_)
    obtain ⟨rfl, ⟨L2, HL2⟩, B2, F2⟩ := hp
    have hle : (lr.filter (fun t => op_m (bg_col (S j 1) t) (S j 2) (S j 3))).length ≤ 24 := Nat.le_trans (List.length_filter_le _ _) hl24
    refine pm_ic1 K dX6_perform_59 (q := 60) rfl ?_
    exact pm_iret Z dX6_perform_60 rfl rfl (Nat.le_of_ble_eq_true rfl) (Nat.le_of_ble_eq_true rfl) ⟨rfl, ⟨(lr.filter (fun t => op_m (bg_col (S j 1) t) (S j 2) (S j 3))), by rw [sp_0 h0], by rw [decide_eq_true hle]; rfl, by rw [if_pos hle, h0]; exact X0.res (fun q a b c => F2 q a c) B2 ⟨L2, HL2⟩ (by obtain ⟨sr, hs1, hs2⟩ := xsr; exact ⟨sr, (F2 96 (by omega) (by omega)).trans hs1, hs2⟩), fun q hq => F2 q (by omega) (by omega)⟩⟩
  · refine pm_tableIn (off := 57) K dX6_perform_4 (by rw [h0]; decide) (by rw [h0]; decide) (by rw [h0]; rfl) (q := 61) rfl ?_
    refine pm_aload_n K dX6_perform_61 (q := 62) rfl rfl rfl ?_
    refine pm_get K inX6 rfl (k := 6) (by decide) wlX6_46 rfl (by omega) x0 rfl dX6_perform_62 (q := 65) rfl ?_
    refine pm_aload_n K dX6_perform_65 (q := 66) rfl rfl rfl ?_
    refine pm_get K inX6 rfl (k := 4) (by decide) wlX6_31 rfl (by omega) x0 rfl dX6_perform_66 (q := 69) rfl ?_
    refine pm_aload_n K dX6_perform_69 (q := 70) rfl rfl rfl ?_
    refine pm_get K inX4 rfl (k := 1) (by decide) wlX6_128 rfl (by omega) (xs j hj) rfl dX6_perform_70 (q := 73) rfl ?_
    refine pm_aload_n K dX6_perform_73 (q := 74) rfl rfl rfl ?_
    refine pm_get K inX4 rfl (k := 2) (by decide) wlX6_131 rfl (by omega) (xs j hj) rfl dX6_perform_74 (q := 77) rfl ?_
    refine pm_aload_n K dX6_perform_77 (q := 78) rfl rfl rfl ?_
    refine pm_get K inX4 rfl (k := 3) (by decide) wlX6_134 rfl (by omega) (xs j hj) rfl dX6_perform_78 (q := 81) rfl ?_
    refine pm_callV0 K gw_ok wcX6_141 (c_rearrange l HL hn x94 xlr (by omega) (S j 1) (S j 2) (S j 3)) rfl (by omega) x94 rfl rfl (Nat.le_of_ble_eq_true rfl) (by decide) dX6_perform_81 (q := 84) rfl (fun r1 h1 hp => ?_)
    obtain ⟨rfl, ⟨L2, HL2⟩, B2, F2⟩ := hp
    have hle : (lr.map (fun t => (bg_col (S j 1) t, bg_col (S j 2) t, bg_col (S j 3) t))).length ≤ 24 := by rw [List.length_map]; exact hl24
    refine pm_ic1 K dX6_perform_84 (q := 85) rfl ?_
    exact pm_iret Z dX6_perform_85 rfl rfl (Nat.le_of_ble_eq_true rfl) (Nat.le_of_ble_eq_true rfl) ⟨rfl, ⟨(lr.map (fun t => (bg_col (S j 1) t, bg_col (S j 2) t, bg_col (S j 3) t))), by rw [sp_1 h0], by rw [decide_eq_true hle]; rfl, by rw [if_pos hle, h0]; exact X0.res (fun q a b c => F2 q a c) B2 ⟨L2, HL2⟩ (by obtain ⟨sr, hs1, hs2⟩ := xsr; exact ⟨sr, (F2 96 (by omega) (by omega)).trans hs1, hs2⟩), fun q hq => F2 q (by omega) (by omega)⟩⟩
  · refine pm_tableIn (off := 82) K dX6_perform_4 (by rw [h0]; decide) (by rw [h0]; decide) (by rw [h0]; rfl) (q := 86) rfl ?_
    refine pm_aload_n K dX6_perform_86 (q := 87) rfl rfl rfl ?_
    refine pm_get K inX6 rfl (k := 6) (by decide) wlX6_46 rfl (by omega) x0 rfl dX6_perform_87 (q := 90) rfl ?_
    refine pm_aload_n K dX6_perform_90 (q := 91) rfl rfl rfl ?_
    refine pm_get K inX6 rfl (k := 4) (by decide) wlX6_31 rfl (by omega) x0 rfl dX6_perform_91 (q := 94) rfl ?_
    refine pm_callV0 K gw_ok wcX6_144 (c_keepDifferent l HL hn x94 xlr (by omega)) rfl (by omega) x94 rfl rfl (Nat.le_of_ble_eq_true rfl) (by decide) dX6_perform_94 (q := 97) rfl (fun r1 h1 hp => ?_)
    obtain ⟨rfl, l1, hn1, hm1, ⟨L2, HL2⟩, B2, F2⟩ := hp
    have hle : l1.length ≤ 24 := (B2.2.1)
    refine pm_ic1 K dX6_perform_97 (q := 98) rfl ?_
    exact pm_iret Z dX6_perform_98 rfl rfl (Nat.le_of_ble_eq_true rfl) (Nat.le_of_ble_eq_true rfl) ⟨rfl, ⟨l1, by rw [sp_2 h0]; exact dd_perm hn1 hm1, by rw [decide_eq_true hle]; rfl, by rw [if_pos hle, h0]; exact X0.res (fun q a b c => F2 q a c) B2 ⟨L2, HL2⟩ (by obtain ⟨sr, hs1, hs2⟩ := xsr; exact ⟨sr, (F2 96 (by omega) (by omega)).trans hs1, hs2⟩), fun q hq => F2 q (by omega) (by omega)⟩⟩
  · refine pm_tableIn (off := 95) K dX6_perform_4 (by rw [h0]; decide) (by rw [h0]; decide) (by rw [h0]; rfl) (q := 99) rfl ?_
    refine pm_aload_n K dX6_perform_99 (q := 100) rfl rfl rfl ?_
    refine pm_get K inX6 rfl (k := 6) (by decide) wlX6_46 rfl (by omega) x0 rfl dX6_perform_100 (q := 103) rfl ?_
    refine pm_aload_n K dX6_perform_103 (q := 104) rfl rfl rfl ?_
    refine pm_get K inX6 rfl (k := 4) (by decide) wlX6_31 rfl (by omega) x0 rfl dX6_perform_104 (q := 107) rfl ?_
    refine pm_aload_n K dX6_perform_107 (q := 108) rfl rfl rfl ?_
    refine pm_get K inX4 rfl (k := 1) (by decide) wlX6_128 rfl (by omega) (xs j hj) rfl dX6_perform_108 (q := 111) rfl ?_
    refine pm_aload_n K dX6_perform_111 (q := 112) rfl rfl rfl ?_
    refine pm_get K inX4 rfl (k := 2) (by decide) wlX6_131 rfl (by omega) (xs j hj) rfl dX6_perform_112 (q := 115) rfl ?_
    refine pm_callV0 K gw_ok wcX6_147 (c_totalUp l HL hn x94 xlr (by omega) (S j 1) (S j 2)) rfl (by omega) x94 rfl rfl (Nat.le_of_ble_eq_true rfl) (by decide) dX6_perform_115 (q := 118) rfl (fun r1 h1 hp => ?_)
    obtain ⟨rfl, l1, hg1, hlen1, ⟨L2, HL2⟩, B2, F2⟩ := hp
    have hle : l1.length ≤ 24 := (B2.2.1)
    refine pm_ic1 K dX6_perform_118 (q := 119) rfl ?_
    exact pm_iret Z dX6_perform_119 rfl rfl (Nat.le_of_ble_eq_true rfl) (Nat.le_of_ble_eq_true rfl) ⟨rfl, ⟨l1, by rw [sp_3 h0]; exact gp_perm hg1, by rw [decide_eq_true hle]; rfl, by rw [if_pos hle, h0]; exact X0.res (fun q a b c => F2 q a c) B2 ⟨L2, HL2⟩ (by obtain ⟨sr, hs1, hs2⟩ := xsr; exact ⟨sr, (F2 96 (by omega) (by omega)).trans hs1, hs2⟩), fun q hq => F2 q (by omega) (by omega)⟩⟩
  · refine pm_tableOut K dX6_perform_4 (by rw [h0]; decide) (q := 120) rfl ?_
    obtain ⟨m, hm, e1⟩ := tb_ok ht
    obtain ⟨sr, hs1, hs2⟩ := xsr
    have emm : (S j 1).toNatClampNeg = m := by rw [e1]; exact nI_clamp (by omega)
    refine pm_aload_n K dX6_perform_120 (q := 121) rfl rfl rfl ?_
    refine pm_get K inX4 rfl (k := 1) (by decide) wlX6_128 rfl (by omega) (xs j hj) rfl dX6_perform_121 (q := 124) rfl ?_
    refine pm_callS0 K gw_ok wcX6_65 (c_isTable l (S j 1)) rfl rfl (Nat.le_of_ble_eq_true rfl) (by decide) dX6_perform_124 (q := 127) rfl (fun rs hs hp => ?_)
    obtain ⟨rfl, e2⟩ := hp
    rw [e2, ht]
    refine pm_if_eq K dX6_perform_127 (tgt := 165) (q := 130) rfl rfl (fun z => absurd z (by decide)) (fun _ => ?_)
    refine pm_aload_n K dX6_perform_130 (q := 131) rfl rfl rfl ?_
    refine pm_get K inX6 rfl (k := 7) (by decide) wlX6_53 rfl (by omega) x0 rfl dX6_perform_131 (q := 134) rfl ?_
    refine pm_aload_n K dX6_perform_134 (q := 135) rfl rfl rfl ?_
    refine pm_get K inX6 rfl (k := 4) (by decide) wlX6_31 rfl (by omega) x0 rfl dX6_perform_135 (q := 138) rfl ?_
    refine pm_aload_n K dX6_perform_138 (q := 139) rfl rfl rfl ?_
    refine pm_get K inX6 rfl (k := 0) (by decide) wlX6_11 rfl (by omega) x0 rfl dX6_perform_139 (q := 142) rfl ?_
    refine pm_aload_n K dX6_perform_142 (q := 143) rfl rfl rfl ?_
    refine pm_get K inX4 rfl (k := 1) (by decide) wlX6_128 rfl (by omega) (xs j hj) rfl dX6_perform_143 (q := 146) rfl ?_
    rw [e1]
    refine pm_aaldN K (by omega) x1 rfl hm (by decide) (xtf m hm) dX6_perform_146 (q := 147) rfl ?_
    refine pm_aload_n K dX6_perform_147 (q := 148) rfl rfl rfl ?_
    refine pm_get K inX4 rfl (k := 2) (by decide) wlX6_131 rfl (by omega) (xs j hj) rfl dX6_perform_148 (q := 151) rfl ?_
    refine pm_aload_n K dX6_perform_151 (q := 152) rfl rfl rfl ?_
    refine pm_get K inX4 rfl (k := 3) (by decide) wlX6_134 rfl (by omega) (xs j hj) rfl dX6_perform_152 (q := 155) rfl ?_
    refine pm_callV0 K gw_ok wcX6_151 (c_match l HL hn x95 hs1 hs2 xlr (xt m hm) (by omega) (by omega) (S j 2) (S j 3)) rfl (by omega) x95 rfl rfl (Nat.le_of_ble_eq_true rfl) (by decide) dX6_perform_155 (q := 158) rfl (fun r1 h1 hp => ?_)
    obtain ⟨l1, hp1, rfl, HS2, B2, HR2, F2⟩ := hp
    have hsp : l1.Perm (sp T (S j) lr) := by rw [sp_4 h0, emm]; exact hp1
    have X2 : x_at n h1 T lp ld (if l1.length ≤ 24 then l1 else lr) pt sc S (tk (ts ++ sp_tr (S j 0) lr.length (T (S j 1).toNatClampNeg).length l1.length)) := by rw [h0, emm]; exact X0.res F2 B2 HS2 HR2
    have hy : y_fr h h1 := fun q hq => F2 q (by omega) (by omega) (by omega)
    by_cases hle : l1.length ≤ 24
    · rw [decide_eq_true hle]
      refine pm_if_eq K dX6_perform_158 (tgt := 165) (q := 161) rfl rfl (fun z => absurd z (by decide)) (fun _ => ?_)
      refine pm_ic1 K dX6_perform_161 (q := 162) rfl ?_
      refine pm_goto K dX6_perform_162 (q := 166) rfl ?_
      exact pm_iret Z dX6_perform_166 rfl rfl (Nat.le_of_ble_eq_true rfl) (Nat.le_of_ble_eq_true rfl) ⟨rfl, ⟨l1, hsp, by rw [decide_eq_true hle]; rfl, X2, hy⟩⟩
    · rw [decide_eq_false hle]
      refine pm_if_eq K dX6_perform_158 (tgt := 165) (q := 161) rfl rfl (fun _ => ?_) (fun z => absurd z (fun z => z rfl))
      refine pm_ic0 K dX6_perform_165 (q := 166) rfl ?_
      exact pm_iret Z dX6_perform_166 rfl rfl (Nat.le_of_ble_eq_true rfl) (Nat.le_of_ble_eq_true rfl) ⟨rfl, ⟨l1, hsp, by rw [decide_eq_false hle]; rfl, X2, hy⟩⟩
set_option maxRecDepth 100000 in
theorem c_run (l : Launch) {n : Nat} {h : pm_H} {T : Nat → List bg_T} {lp ld lr : List bg_T} {pt : Int32} {sc : Nat} {S : Nat → Nat → Int32} {ts : List Int32} (X : x_at n h T lp ld lr pt sc S ts) (hsc : sc ≤ 3) (hst : ∀ s, s < sc → st_ok (S s)) : bM0 l yX6_run cX6_run 2 (some (.int)) 6 [.ref 0] n h (fun r h' => (tb pt = false ∧ r = some (.int (-1)) ∧ h' = h) ∨ (tb pt = true ∧ y_fr h h' ∧ ((∃ s, s < sc ∧ (∀ i, i < s → (rn_L T S pt.toNatClampNeg (i + 1)).length ≤ 24) ∧ 24 < (rn_L T S pt.toNatClampNeg (s + 1)).length ∧ r = some (.int (-2)) ∧ x_at n h' T lp ld [] pt sc S (tk (rn_t T S pt.toNatClampNeg (s + 1)))) ∨ ((∀ i, i < sc → (rn_L T S pt.toNatClampNeg (i + 1)).length ≤ 24) ∧ ∃ l1, l1.Perm (rn_L T S pt.toNatClampNeg sc) ∧ l1.Pairwise bg_le ∧ r = some (.int (nI l1.length)) ∧ x_at n h' T lp ld l1 pt sc S (tk (rn_t T S pt.toNatClampNeg sc ++ tr_sort 0 l1.length)))))) := by
  refine pm_enter rfl (Nat.le_of_ble_eq_true rfl) (fun G K Z => ?_)
  have X0 := X
  obtain ⟨⟨hn, ⟨tf, x1, xtf⟩, ⟨sf, x2, xsf⟩, x94, x95⟩, x0, xlp, xld, xlr, xso, xsr, xt, xs⟩ := X
  refine pm_aload_n K dX6_run_0 (q := 1) rfl rfl rfl ?_
  refine pm_get K inX6 rfl (k := 8) (by decide) wlX6_57 rfl (by omega) x0 rfl dX6_run_1 (q := 4) rfl ?_
  refine pm_callS0 K gw_ok wcX6_65 (c_isTable l pt) rfl rfl (Nat.le_of_ble_eq_true rfl) (by decide) dX6_run_4 (q := 7) rfl (fun rs hs hp => ?_)
  obtain ⟨rfl, e1⟩ := hp
  rw [e1]
  cases ht : tb pt
  · refine pm_if_ne K dX6_run_7 (tgt := 12) (q := 10) rfl rfl (fun z => absurd z (fun z => z rfl)) (fun _ => ?_)
    refine pm_icm1 K dX6_run_10 (q := 11) rfl ?_
    exact pm_iret Z dX6_run_11 rfl rfl (Nat.le_of_ble_eq_true rfl) (Nat.le_of_ble_eq_true rfl) ⟨rfl, (Or.inl ⟨ht, rfl, rfl⟩)⟩
  · refine pm_if_ne K dX6_run_7 (tgt := 12) (q := 10) rfl rfl (fun _ => ?_) (fun z => absurd z (fun z => absurd z (by decide)))
    obtain ⟨j, hj, ej⟩ := tb_ok ht
    have ejn : pt.toNatClampNeg = j := by rw [ej]; exact nI_clamp (by omega)
    rw [ejn] at Z
    obtain ⟨L, ix, R, HA, hi, hL⟩ := xso
    refine pm_aload_n K dX6_run_12 (q := 13) rfl rfl rfl ?_
    refine pm_get K inX6 rfl (k := 5) (by decide) wlX6_37 rfl (by omega) x0 rfl dX6_run_13 (q := 16) rfl ?_
    refine pm_callV0 K gw_ok wcX6_83 (c_startTrace l HA) rfl (by omega) HA.2.1 rfl rfl (Nat.le_of_ble_eq_true rfl) (by decide) dX6_run_16 (q := 19) rfl (fun r1 h1 hp => ?_)
    obtain ⟨rfl, HA1, F1⟩ := hp
    have X1 : x_at n h1 T lp ld lr pt sc S [] := X0.res (fun q a b c => F1 q (by omega)) (xlr.fr (Nat.le_refl _) (fun q a c => F1 q (by omega))) ⟨L, ix, R, HA1, hi, hL⟩ (by obtain ⟨sr, hs1, hs2⟩ := xsr; exact ⟨sr, (F1 96 (by omega)).trans hs1, hs2⟩)
    have Y1 : y_fr h h1 := fun q hq => F1 q (by omega)
    clear X0 hn x1 x2 x94 x95 x0 xlp xld xlr xsr xt xs
    have X0 := X1
    obtain ⟨⟨hn, ⟨tf1, x1, xtf1⟩, ⟨sf1, x2, xsf1⟩, x94, x95⟩, x0, xlp, xld, xlr, xso, xsr, xt, xs⟩ := X1
    refine pm_aload_n K dX6_run_19 (q := 20) rfl rfl rfl ?_
    refine pm_get K inX6 rfl (k := 4) (by decide) wlX6_31 rfl (by omega) x0 rfl dX6_run_20 (q := 23) rfl ?_
    refine pm_aload_n K dX6_run_23 (q := 24) rfl rfl rfl ?_
    refine pm_get K inX6 rfl (k := 0) (by decide) wlX6_11 rfl (by omega) x0 rfl dX6_run_24 (q := 27) rfl ?_
    refine pm_aload_n K dX6_run_27 (q := 28) rfl rfl rfl ?_
    refine pm_get K inX6 rfl (k := 8) (by decide) wlX6_57 rfl (by omega) x0 rfl dX6_run_28 (q := 31) rfl ?_
    rw [ej]
    refine pm_aaldN K (by omega) x1 rfl hj (by decide) (xtf1 j hj) dX6_run_31 (q := 32) rfl ?_
    refine pm_callV0 K gw_ok wcX6_86 (c_bbecome l xlr (xt j hj) (by omega)) rfl (by omega) xlr.2.2.2.1 rfl rfl (Nat.le_of_ble_eq_true rfl) (by decide) dX6_run_32 (q := 35) rfl (fun r2 h2 hp => ?_)
    obtain ⟨rfl, B2, F2⟩ := hp
    rw [List.take_of_length_le (Nat.le_trans (xt j hj).2.1 (by decide))] at B2
    refine pm_ic0 K dX6_run_35 (q := 36) rfl ?_
    refine pm_istore_n K dX6_run_36 (q := 37) rfl rfl (by decide) rfl ?_
    have X2 : x_at n h2 T lp ld (T j) pt sc S [] := X0.res (fun q a b c => F2 q c) B2 (by obtain ⟨L, hL⟩ := xso; exact ⟨L, hL.mv (fun q hq => F2 q (by omega))⟩) (by obtain ⟨sr, hs1, hs2⟩ := xsr; exact ⟨sr, (F2 96 (by omega)).trans hs1, hs2⟩)
    have Y2 : y_fr h h2 := fun q hq => (F2 q (by omega)).trans (Y1 q hq)
    clear X0 hn x1 x2 x94 x95 x0 xlp xld xlr xso xsr xt xs
    have loop : ∀ (k s : Nat) (h3 : pm_H) (l3 : List bg_T), s + k = sc → l3.Perm (rn_L T S j s) → (∀ i, i < s → (rn_L T S j (i + 1)).length ≤ 24) → x_at n h3 T lp ld l3 pt sc S (tk (rn_t T S j s)) → y_fr h h3 → G 0 0 37 [some (.ref 0), some (.int (nI s))] [] n h3 := by
      intro k
      induction k with
      | zero =>
        intro s h3 l3 hk hp3 hr3 X Y3
        have X0 := X
        obtain ⟨⟨hn, ⟨tf, x1, xtf⟩, ⟨sf, x2, xsf⟩, x94, x95⟩, x0, xlp, xld, xlr, xso, xsr, xt, xs⟩ := X
        refine pm_iload_n K dX6_run_37 (q := 38) rfl rfl rfl ?_
        refine pm_aload_n K dX6_run_38 (q := 39) rfl rfl rfl ?_
        refine pm_get K inX6 rfl (k := 9) (by decide) wlX6_61 rfl (by omega) x0 rfl dX6_run_39 (q := 42) rfl ?_
        refine pm_icmp_ge K dX6_run_42 (tgt := 79) (q := 45) rfl rfl (fun _ => ?_) (fun z => absurd z (fun z => z (nI_le (by omega) (by omega))))
        have es : s = sc := by omega
        subst es
        obtain ⟨L3, HL3⟩ := xso
        refine pm_aload_n K dX6_run_79 (q := 80) rfl rfl rfl ?_
        refine pm_get K inX6 rfl (k := 6) (by decide) wlX6_46 rfl (by omega) x0 rfl dX6_run_80 (q := 83) rfl ?_
        refine pm_aload_n K dX6_run_83 (q := 84) rfl rfl rfl ?_
        refine pm_get K inX6 rfl (k := 4) (by decide) wlX6_31 rfl (by omega) x0 rfl dX6_run_84 (q := 87) rfl ?_
        refine pm_callV0 K gw_ok wcX6_97 (c_order l HL3 hn x94 xlr (by omega)) rfl (by omega) x94 rfl rfl (Nat.le_of_ble_eq_true rfl) (by decide) dX6_run_87 (q := 90) rfl (fun r4 h4 hp => ?_)
        obtain ⟨rfl, l4, hp4, hs4, ⟨L4, HL4⟩, B4, F4⟩ := hp
        rw [tk_app] at HL4
        have el : l4.length = l3.length := hp4.length_eq
        rw [← el] at HL4
        have X4 := X0.res (fun q a b c => F4 q a c) B4 ⟨L4, HL4⟩ (by obtain ⟨sr, hs1, hs2⟩ := xsr; exact ⟨sr, (F4 96 (by omega) (by omega)).trans hs1, hs2⟩)
        refine pm_aload_n K dX6_run_90 (q := 91) rfl rfl rfl ?_
        refine pm_get K inX6 rfl (k := 4) (by decide) wlX6_31 rfl (by omega) X4.2.1 rfl dX6_run_91 (q := 94) rfl ?_
        refine pm_get K inX0 rfl (k := 3) (by decide) wlX6_73 rfl (by omega) B4.2.2.2.1 rfl dX6_run_94 (q := 97) rfl ?_
        exact pm_iret Z dX6_run_97 rfl rfl (Nat.le_of_ble_eq_true rfl) (Nat.le_of_ble_eq_true rfl) ⟨rfl, (Or.inr ⟨ht, fun q hq => (F4 q (by omega) (by omega)).trans (Y3 q hq), Or.inr ⟨hr3, l4, hp4.trans hp3, hs4, rfl, X4⟩⟩)⟩
      | succ k ih =>
        intro s h3 l3 hk hp3 hr3 X Y3
        have X0 := X
        obtain ⟨⟨hn, ⟨tf, x1, xtf⟩, ⟨sf, x2, xsf⟩, x94, x95⟩, x0, xlp, xld, xlr, xso, xsr, xt, xs⟩ := X
        refine pm_iload_n K dX6_run_37 (q := 38) rfl rfl rfl ?_
        refine pm_aload_n K dX6_run_38 (q := 39) rfl rfl rfl ?_
        refine pm_get K inX6 rfl (k := 9) (by decide) wlX6_61 rfl (by omega) x0 rfl dX6_run_39 (q := 42) rfl ?_
        refine pm_icmp_ge K dX6_run_42 (tgt := 79) (q := 45) rfl rfl (fun z => absurd z (nI_ge (by omega) (by omega))) (fun _ => ?_)
        refine pm_iload_n K dX6_run_45 (q := 46) rfl rfl rfl ?_
        refine pm_ic3 K dX6_run_46 (q := 47) rfl ?_
        refine pm_icmp_ge K dX6_run_47 (tgt := 79) (q := 50) rfl rfl (fun z => absurd z (nI_ge (b := 3) (by omega) (by decide))) (fun _ => ?_)
        refine pm_aload_n K dX6_run_50 (q := 51) rfl rfl rfl ?_
        refine pm_aload_n K dX6_run_51 (q := 52) rfl rfl rfl ?_
        refine pm_get K inX6 rfl (k := 1) (by decide) wlX6_17 rfl (by omega) x0 rfl dX6_run_52 (q := 55) rfl ?_
        refine pm_iload_n K dX6_run_55 (q := 56) rfl rfl rfl ?_
        refine pm_aaldN K (by omega) x2 rfl (by omega) (by decide) (xsf s (by omega)) dX6_run_56 (q := 57) rfl ?_
        refine pm_callV0 K gw_ok wcX6_90 (c_perform l X0 (j := s) (by omega) (hst s (by omega))) rfl (by omega) x0 rfl rfl (Nat.le_of_ble_eq_true rfl) (by decide) dX6_run_57 (q := 60) rfl (fun r4 h4 hp => ?_)
        obtain ⟨l4, hp4, rfl, X4, F4⟩ := hp
        have Y4 : y_fr h h4 := fun q hq => (F4 q hq).trans (Y3 q hq)
        have hp5 : l4.Perm (rn_L T S j (s + 1)) := hp4.trans (sp_perm T (S s) hp3)
        rw [tk_app, hp3.length_eq, hp5.length_eq] at X4
        have e5 := hp5.length_eq
        by_cases hle : (rn_L T S j (s + 1)).length ≤ 24
        · rw [e5, decide_eq_true hle]
          rw [if_pos hle] at X4
          refine pm_if_ne K dX6_run_60 (tgt := 73) (q := 63) rfl rfl (fun _ => ?_) (fun z => absurd z (fun z => absurd z (by decide)))
          refine pm_inc K dX6_run_73 (q := 76) rfl rfl (by decide) rfl ?_
          refine pm_goto K dX6_run_76 (q := 37) rfl ?_
          exact ih (s + 1) h4 l4 (by omega) hp5 (fun i hi => by rcases Nat.lt_succ_iff_lt_or_eq.mp hi with z | rfl; exact hr3 i z; exact hle) X4 Y4
        · rw [e5, decide_eq_false hle]
          rw [if_neg hle] at X4
          refine pm_if_ne K dX6_run_60 (tgt := 73) (q := 63) rfl rfl (fun z => absurd z (fun z => z rfl)) (fun _ => ?_)
          refine pm_aload_n K dX6_run_63 (q := 64) rfl rfl rfl ?_
          refine pm_get K inX6 rfl (k := 4) (by decide) wlX6_31 rfl (by omega) X4.2.1 rfl dX6_run_64 (q := 67) rfl ?_
          refine pm_callV0 K gw_ok wcX6_94 (c_bclear l X4.2.2.2.2.1) rfl (by omega) X4.2.2.2.2.1.2.2.2.1 rfl rfl (Nat.le_of_ble_eq_true rfl) (by decide) dX6_run_67 (q := 70) rfl (fun r5 h5 hp => ?_)
          obtain ⟨rfl, B5, F5⟩ := hp
          have X5 := X4.res (fun q a b c => F5 q c) B5 (by obtain ⟨L, hL⟩ := X4.2.2.2.2.2.1; exact ⟨L, hL.mv (fun q hq => F5 q (by omega))⟩) (by obtain ⟨sr, hs1, hs2⟩ := X4.2.2.2.2.2.2.1; exact ⟨sr, (F5 96 (by omega)).trans hs1, hs2⟩)
          refine pm_bipush (v := -2) K dX6_run_70 (q := 72) rfl (by decide) ?_
          exact pm_iret Z dX6_run_72 rfl rfl (Nat.le_of_ble_eq_true rfl) (Nat.le_of_ble_eq_true rfl) ⟨rfl, (Or.inr ⟨ht, fun q hq => (F5 q (by omega)).trans (Y4 q hq), Or.inl ⟨s, by omega, hr3, by omega, rfl, X5⟩⟩)⟩
    have := loop sc 0 h2 (T j) (by omega) (List.Perm.refl _) (fun i hi => absurd hi (Nat.not_lt_zero _)) X2 Y2
    exact this
set_option maxRecDepth 100000 in
theorem c_apply (l : Launch) {n : Nat} {h : pm_H} {T : Nat → List bg_T} {lp ld lr : List bg_T} {pt : Int32} {sc : Nat} {S : Nat → Nat → Int32} {ts : List Int32} (X : x_at n h T lp ld lr pt sc S ts) (t : Int32) : bM0 l yX6_apply cX6_apply 3 (some (.int)) 5 [.ref 0, .int t] n h (fun r h' => (tb t = false ∧ r = some (.int (-1)) ∧ h' = h) ∨ (tb t = true ∧ y_fr h h' ∧ ∃ l1, l1.Perm (bt_batch (T t.toNatClampNeg) lp ld) ∧ r = some (.int (if l1.length ≤ 12 then nI l1.length else -2)) ∧ x_at n h' (if l1.length ≤ 12 then va_up T t.toNatClampNeg l1 else T) [] [] lr pt sc S (tk (ap_t ((T t.toNatClampNeg).length + lp.length + ld.length))))) := by
  refine pm_enter rfl (Nat.le_of_ble_eq_true rfl) (fun G K Z => ?_)
  have X0 := X
  obtain ⟨⟨hn, ⟨tf, x1, xtf⟩, ⟨sf, x2, xsf⟩, x94, x95⟩, x0, xlp, xld, xlr, xso, xsr, xt, xs⟩ := X
  refine pm_iload_n K dX6_apply_0 (q := 1) rfl rfl rfl ?_
  refine pm_callS0 K gw_ok wcX6_65 (c_isTable l t) rfl rfl (Nat.le_of_ble_eq_true rfl) (by decide) dX6_apply_1 (q := 4) rfl (fun rs hs hp => ?_)
  obtain ⟨rfl, e1⟩ := hp
  rw [e1]
  cases ht : tb t
  · refine pm_if_ne K dX6_apply_4 (tgt := 9) (q := 7) rfl rfl (fun z => absurd z (fun z => z rfl)) (fun _ => ?_)
    refine pm_icm1 K dX6_apply_7 (q := 8) rfl ?_
    exact pm_iret Z dX6_apply_8 rfl rfl (Nat.le_of_ble_eq_true rfl) (Nat.le_of_ble_eq_true rfl) ⟨rfl, (Or.inl ⟨ht, rfl, rfl⟩)⟩
  · refine pm_if_ne K dX6_apply_4 (tgt := 9) (q := 7) rfl rfl (fun _ => ?_) (fun z => absurd z (fun z => absurd z (by decide)))
    obtain ⟨j, hj, ej⟩ := tb_ok ht
    have ejn : t.toNatClampNeg = j := by rw [ej]; exact nI_clamp (by omega)
    rw [ejn] at Z
    rw [ej]
    obtain ⟨L, ix, R, HA, hi, hL⟩ := xso
    refine pm_aload_n K dX6_apply_9 (q := 10) rfl rfl rfl ?_
    refine pm_get K inX6 rfl (k := 5) (by decide) wlX6_37 rfl (by omega) x0 rfl dX6_apply_10 (q := 13) rfl ?_
    refine pm_callV0 K gw_ok wcX6_83 (c_startTrace l HA) rfl (by omega) HA.2.1 rfl rfl (Nat.le_of_ble_eq_true rfl) (by decide) dX6_apply_13 (q := 16) rfl (fun r1 h1 hp => ?_)
    obtain ⟨rfl, HA1, F1⟩ := hp
    have X1 : x_at n h1 T lp ld lr pt sc S [] := X0.res (fun q a b c => F1 q (by omega)) (xlr.fr (Nat.le_refl _) (fun q a c => F1 q (by omega))) ⟨L, ix, R, HA1, hi, hL⟩ (by obtain ⟨sr, hs1, hs2⟩ := xsr; exact ⟨sr, (F1 96 (by omega)).trans hs1, hs2⟩)
    have Y1 : y_fr h h1 := fun q hq => F1 q (by omega)
    clear X0 hn x1 x2 x94 x95 x0 xlp xld xlr xsr xt xs
    have X0 := X1
    obtain ⟨⟨hn, ⟨tf1, x1, xtf1⟩, ⟨sf1, x2, xsf1⟩, x94, x95⟩, x0, xlp, xld, xlr, xso, xsr, xt, xs⟩ := X1
    obtain ⟨L1, HL1⟩ := xso
    refine pm_aload_n K dX6_apply_16 (q := 17) rfl rfl rfl ?_
    refine pm_get K inX6 rfl (k := 6) (by decide) wlX6_46 rfl (by omega) x0 rfl dX6_apply_17 (q := 20) rfl ?_
    refine pm_aload_n K dX6_apply_20 (q := 21) rfl rfl rfl ?_
    refine pm_get K inX6 rfl (k := 0) (by decide) wlX6_11 rfl (by omega) x0 rfl dX6_apply_21 (q := 24) rfl ?_
    refine pm_iload_n K dX6_apply_24 (q := 25) rfl rfl rfl ?_
    refine pm_aaldN K (by omega) x1 rfl hj (by decide) (xtf1 j hj) dX6_apply_25 (q := 26) rfl ?_
    refine pm_aload_n K dX6_apply_26 (q := 27) rfl rfl rfl ?_
    refine pm_get K inX6 rfl (k := 2) (by decide) wlX6_24 rfl (by omega) x0 rfl dX6_apply_27 (q := 30) rfl ?_
    refine pm_aload_n K dX6_apply_30 (q := 31) rfl rfl rfl ?_
    refine pm_get K inX6 rfl (k := 3) (by decide) wlX6_28 rfl (by omega) x0 rfl dX6_apply_31 (q := 34) rfl ?_
    refine pm_callV0 K gw_ok wcX6_104 (c_change l HL1 hn x94 (xt j hj) xlp xld (by omega) (by omega) (by omega)) rfl (by omega) x94 rfl rfl (Nat.le_of_ble_eq_true rfl) (by decide) dX6_apply_34 (q := 37) rfl (fun r2 h2 hp => ?_)
    obtain ⟨l1, hp1, rfl, ⟨L2, HL2⟩, B2, F2⟩ := hp
    rw [List.nil_append] at HL2
    have B32 : bg_at n h2 3 6 lp := xlp.fr (Nat.le_refl _) (fun q a c => F2 q (by omega) (by omega))
    refine pm_istore_n K dX6_apply_37 (q := 38) rfl rfl (by decide) rfl ?_
    refine pm_aload_n K dX6_apply_38 (q := 39) rfl rfl rfl ?_
    refine pm_get K inX6 rfl (k := 2) (by decide) wlX6_24 rfl (by omega) ((F2 0 (by omega) (by omega)).trans x0) rfl dX6_apply_39 (q := 42) rfl ?_
    refine pm_callV0 K gw_ok wcX6_94 (c_bclear l B32) rfl (by omega) B32.2.2.2.1 rfl rfl (Nat.le_of_ble_eq_true rfl) (by decide) dX6_apply_42 (q := 45) rfl (fun r3 h3 hp => ?_)
    obtain ⟨rfl, B3, F3⟩ := hp
    have B73 : bg_at n h3 7 6 ld := xld.fr (Nat.le_refl _) (fun q a c => (F3 q (by omega)).trans (F2 q (by omega) (by omega)))
    refine pm_aload_n K dX6_apply_45 (q := 46) rfl rfl rfl ?_
    refine pm_get K inX6 rfl (k := 3) (by decide) wlX6_28 rfl (by omega) ((F3 0 (by omega)).trans ((F2 0 (by omega) (by omega)).trans x0)) rfl dX6_apply_46 (q := 49) rfl ?_
    refine pm_callV0 K gw_ok wcX6_94 (c_bclear l B73) rfl (by omega) B73.2.2.2.1 rfl rfl (Nat.le_of_ble_eq_true rfl) (by decide) dX6_apply_49 (q := 52) rfl (fun r4 h4 hp => ?_)
    obtain ⟨rfl, B4, F4⟩ := hp
    have FF : ∀ q, (q < 3 ∨ 10 < q) → (q < 15 ∨ 93 < q) → (q < 97 + 4 * j ∨ 97 + 4 * j + 3 < q) → h4 q = h1 q := fun q a b c => by rw [F4 q (by omega), F3 q (by omega), F2 q b c]
    have XX : x_at n h4 (if l1.length ≤ 12 then va_up T j l1 else T) [] [] lr pt sc S (tk (ap_t ((T j).length + lp.length + ld.length))) := by
      refine ⟨⟨hn, ⟨tf1, (FF 1 (by omega) (by omega) (by omega)).trans x1, xtf1⟩, ⟨sf1, (FF 2 (by omega) (by omega) (by omega)).trans x2, xsf1⟩, (FF 94 (by omega) (by omega) (by omega)).trans x94, (FF 95 (by omega) (by omega) (by omega)).trans x95⟩, (FF 0 (by omega) (by omega) (by omega)).trans x0, B3.fr (Nat.le_refl _) (fun q a c => F4 q (by omega)), B4, xlr.fr (Nat.le_refl _) (fun q a c => FF q (by omega) (by omega) (by omega)), ⟨L2, HL2.mv (fun q hq => by rw [F4 q (by omega), F3 q (by omega)])⟩, ?_, fun u hu => ?_, fun s hs => (FF _ (by omega) (by omega) (by omega)).trans (xs s hs)⟩
      · obtain ⟨sr, hs1, hs2⟩ := xsr
        exact ⟨sr, (FF 96 (by omega) (by omega) (by omega)).trans hs1, hs2⟩
      · have B5 := B2.fr (Nat.le_refl _) (h' := h4) (fun q a c => by rw [F4 q (by omega), F3 q (by omega)])
        by_cases eu : u = j
        · subst eu
          by_cases hle : l1.length ≤ 12
          · rw [if_pos hle] at B5 ⊢
            simp only [va_up, if_true]
            exact B5
          · rw [if_neg hle] at B5 ⊢
            exact B5
        · have e9 : (if l1.length ≤ 12 then va_up T j l1 else T) u = T u := by
            split
            · simp only [va_up, eu, if_false]
            · rfl
          rw [e9]
          exact (xt u hu).fr (Nat.le_refl _) (fun q a c => FF q (by omega) (by omega) (by omega))
    have hy : y_fr h h4 := fun q hq => (FF q (by omega) (by omega) (by omega)).trans (Y1 q hq)
    by_cases hle : l1.length ≤ 12
    · rw [decide_eq_true hle]
      have B5 := XX.2.2.2.2.2.2.2.1 j hj
      rw [if_pos hle] at B5
      simp only [va_up, if_true] at B5
      refine pm_iload_n K dX6_apply_52 (q := 53) rfl rfl rfl ?_
      refine pm_if_eq K dX6_apply_53 (tgt := 68) (q := 56) rfl rfl (fun z => absurd z (by decide)) (fun _ => ?_)
      refine pm_aload_n K dX6_apply_56 (q := 57) rfl rfl rfl ?_
      refine pm_get K inX6 rfl (k := 0) (by decide) wlX6_11 rfl (by omega) XX.2.1 rfl dX6_apply_57 (q := 60) rfl ?_
      refine pm_iload_n K dX6_apply_60 (q := 61) rfl rfl rfl ?_
      refine pm_aaldN K (by omega) ((FF 1 (by omega) (by omega) (by omega)).trans x1) rfl hj (by decide) (xtf1 j hj) dX6_apply_61 (q := 62) rfl ?_
      refine pm_get K inX0 rfl (k := 3) (by decide) wlX6_73 rfl (by omega) B5.2.2.2.1 rfl dX6_apply_62 (q := 65) rfl ?_
      refine pm_goto K dX6_apply_65 (q := 70) rfl ?_
      exact pm_iret Z dX6_apply_70 rfl rfl (Nat.le_of_ble_eq_true rfl) (Nat.le_of_ble_eq_true rfl) ⟨rfl, (Or.inr ⟨ht, hy, l1, hp1, by rw [if_pos hle], XX⟩)⟩
    · rw [decide_eq_false hle]
      refine pm_iload_n K dX6_apply_52 (q := 53) rfl rfl rfl ?_
      refine pm_if_eq K dX6_apply_53 (tgt := 68) (q := 56) rfl rfl (fun _ => ?_) (fun z => absurd z (fun z => z rfl))
      refine pm_bipush (v := -2) K dX6_apply_68 (q := 70) rfl (by decide) ?_
      exact pm_iret Z dX6_apply_70 rfl rfl (Nat.le_of_ble_eq_true rfl) (Nat.le_of_ble_eq_true rfl) ⟨rfl, (Or.inr ⟨ht, hy, l1, hp1, by rw [if_neg hle], XX⟩)⟩
