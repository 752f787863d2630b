/-! The join: its rows behind the counts and the second sort. -/
def kx (c : Int32) (t : bg_T) : jn_T := (bg_col c t, t.2.1, t.2.2)
def jn_X (x y : Int32) (l lt : List bg_T) (L : Nat → rw_T) : Nat → rw_T := so_map l.length lt.length (fun r f => so_key y 1 (lt.getD r (0, 0, 0)) f) (so_map 0 l.length (fun r f => so_key x 0 (l.getD r (0, 0, 0)) f) (so_map 0 76 (fun _ f => rw_disc f) L))
def jn_1 (x y : Int32) (l lt : List bg_T) (L : Nat → rw_T) : Nat → rw_T := so_sort 0 (l.length + lt.length) (jn_X x y l lt L)
def jn_N (x y : Int32) (l lt : List bg_T) (L : Nat → rw_T) : Nat → rw_T := so_map 0 (l.length + lt.length) (cf_F (jn_1 x y l lt L)) (jn_1 x y l lt L)
def jn_N2 (x y : Int32) (l lt : List bg_T) (L : Nat → rw_T) : Nat → rw_T := so_bk 0 (l.length + lt.length) (cb_F (jn_N x y l lt L) (l.length + lt.length)) (jn_N x y l lt L)
def jn_2 (x y : Int32) (l lt : List bg_T) (L : Nat → rw_T) : Nat → rw_T := so_sort 0 (l.length + lt.length) (jn_N2 x y l lt L)
section JPR
variable {x y : Int32} {l lt : List bg_T} {L : Nat → rw_T}
theorem jn_lay {p : Nat} (hp : p < l.length + lt.length) : ∃ (c : Int32) (t : bg_T) (sd : Int32) (f : rw_T), jn_X x y l lt L p = so_key c sd t f ∧ (jn_C (l.map (kx x)) (lt.map (kx y)))[p]? = some (kx c t, sd) ∧ (sd = 0 ∨ sd = 1) := by
  have hg : ∀ (l : List bg_T) (i : Nat), i < l.length → l[i]? = some (l.getD i (0, 0, 0)) := fun l i h => by
    rw [List.getD_eq_getElem?_getD, List.getElem?_eq_getElem h]
    rfl
  unfold jn_C
  rw [List.map_map, List.map_map]
  by_cases h1 : p < l.length
  · refine ⟨x, l.getD p (0, 0, 0), 0, so_map 0 76 (fun _ f => rw_disc f) L p, ?_, ?_, Or.inl rfl⟩
    · unfold jn_X
      rw [so_map_no (by omega), so_map_in h1]
    · rw [List.getElem?_append_left (by rw [List.length_map]; exact h1), List.getElem?_map, hg l p h1]
      rfl
  · refine ⟨y, lt.getD (p - l.length) (0, 0, 0), 1, so_map 0 l.length (fun r f => so_key x 0 (l.getD r (0, 0, 0)) f) (so_map 0 76 (fun _ f => rw_disc f) L) p, ?_, ?_, Or.inr rfl⟩
    · unfold jn_X
      have := so_map_off (b := l.length) (m := lt.length) (F := fun r f => so_key y 1 (lt.getD r (0, 0, 0)) f) (M := so_map 0 l.length (fun r f => so_key x 0 (l.getD r (0, 0, 0)) f) (so_map 0 76 (fun _ f => rw_disc f) L)) (p := p - l.length) (by omega)
      rw [show l.length + (p - l.length) = p by omega] at this
      exact this
    · rw [List.getElem?_append_right (by rw [List.length_map]; omega), List.length_map, List.getElem?_map, hg lt _ (by omega)]
      rfl
theorem jn_XQ : (List.range (l.length + lt.length)).map (fun p => jQ (jn_X x y l lt L p)) = jn_C (l.map (kx x)) (lt.map (kx y)) := by
  apply List.ext_getElem?
  intro i
  rw [List.getElem?_map]
  by_cases h : i < l.length + lt.length
  · obtain ⟨c, t, sd, f, e1, e2, -⟩ := jn_lay (x := x) (y := y) (L := L) h
    rw [List.getElem?_range h, e2, Option.map_some, e1]
    rfl
  · rw [List.getElem?_eq_none (by rw [List.length_range]; omega), List.getElem?_eq_none (by simp [jn_C]; omega)]
    rfl
theorem jn_1Q : ((List.range (l.length + lt.length)).map (fun p => jQ (jn_1 x y l lt L p))).Perm (jn_C (l.map (kx x)) (lt.map (kx y))) := by
  have := (so_sort_sp 0 (l.length + lt.length) (jn_X x y l lt L)).1.1.map jQ
  rw [nw_ls0, nw_ls0, jn_XQ] at this
  exact this
theorem jn_1s : ∀ i j, i ≤ j → j < l.length + lt.length → (jn_1 x y l lt L i 3).toInt ≤ (jn_1 x y l lt L j 3).toInt := fun i j h1 h2 => by
  have := ky_sorted (X := jn_X x y l lt L) (m := l.length + lt.length) (fun p hp => by
    obtain ⟨c, t, sd, f, e1, -⟩ := jn_lay (x := x) (y := y) (L := L) hp
    rw [e1]
    exact ⟨rfl, rfl, rfl⟩) i j h1 h2
  unfold jn_1
  omega
theorem jn_1d {p : Nat} (hp : p < l.length + lt.length) : jn_1 x y l lt L p 4 = 0 ∨ jn_1 x y l lt L p 4 = 1 := by
  obtain ⟨q, hq, e⟩ := so_sort_mem (X := jn_X x y l lt L) hp
  obtain ⟨c, t, sd, f, e1, -, e3⟩ := jn_lay (x := x) (y := y) (L := L) hq
  unfold jn_1
  rw [e, e1]
  exact e3
theorem jn_Nf {p : Nat} (hp : p < l.length + lt.length) : jn_N x y l lt L p 3 = jn_1 x y l lt L p 3 ∧ jn_N x y l lt L p 5 = nI (ct2 (jn_1 x y l lt L) (p + 1) (jn_1 x y l lt L p 3)).1 ∧ jn_N x y l lt L p 6 = nI (ct2 (jn_1 x y l lt L) (p + 1) (jn_1 x y l lt L p 3)).2 := by
  have hc := cf_ct (M := jn_1 x y l lt L) jn_1s p hp
  unfold jn_N
  rw [so_map_in hp]
  refine ⟨rfl, ?_, ?_⟩
  · show nI (cf_a _ (p + 1)).2.1 = _
    rw [hc]
  · show nI (cf_a _ (p + 1)).2.2 = _
    rw [hc]
theorem jn_cntA (q : Int32) : ct2 (jn_1 x y l lt L) (l.length + lt.length) q = (jn_ct (fun a : jn_T => a.1) (l.map (kx x)) q, jn_ct (fun a : jn_T => a.1) (lt.map (kx y)) q) := by
  rw [ct2_list, jn_ct_perm _ (jn_lP jn_1Q) q, jn_ct_perm _ (jn_rP jn_1Q) q]
theorem jn_num : (cb_a (jn_N x y l lt L) (l.length + lt.length) (l.length + lt.length)).2.2.2 = nI (jn_naive (l.map (kx x)) (lt.map (kx y))).length := by
  have hlen : (jn_naive (l.map (kx x)) (lt.map (kx y))).length = sg (cn_g (jn_1 x y l lt L) (l.length + lt.length)) (l.length + lt.length) := by
    rw [← cn_pairs jn_1s, sg_sum, ← jn_stL jn_1Q, ms_sum]
    congr 1
    apply List.map_congr_left
    intro p _
    unfold jn_cL cn_v
    rw [jn_cntA]
  by_cases h : l.length + lt.length = 0
  · rw [hlen, h]
    rfl
  · obtain ⟨-, -, -, s, h1, h2⟩ := cb_ct (M := jn_1 x y l lt L) (N := jn_N x y l lt L) (m := l.length + lt.length) jn_1s (fun p hp => jn_Nf hp) (l.length + lt.length - 1) 0 (by omega)
    rw [Nat.sub_zero] at h1
    rw [h1, hlen, ← h2]
    rfl
theorem jn_N2f {p : Nat} (hp : p < l.length + lt.length) : jQ (jn_N2 x y l lt L p) = jQ (jn_1 x y l lt L p) ∧ jn_N2 x y l lt L p 5 = nI (jn_ct (fun a : jn_T => a.1) (l.map (kx x)) (jn_N2 x y l lt L p 3)) ∧ jn_N2 x y l lt L p 6 = nI (jn_ct (fun a : jn_T => a.1) (lt.map (kx y)) (jn_N2 x y l lt L p 3)) ∧ jn_N2 x y l lt L p 7 = jn_N2 x y l lt L p 4 ∧ jn_N2 x y l lt L p 8 = jn_N2 x y l lt L p 3 ∧ jn_N2 x y l lt L p 9 = 0 := by
  obtain ⟨c1, c2, c3, -⟩ := cb_ct (M := jn_1 x y l lt L) (N := jn_N x y l lt L) (m := l.length + lt.length) jn_1s (fun p hp => jn_Nf hp) (l.length + lt.length - p - 1) p (by omega)
  have e : jn_N2 x y l lt L p = cb_F (jn_N x y l lt L) (l.length + lt.length) p (jn_N x y l lt L p) := so_bk_in (Nat.zero_le _) hp
  have e2 : jn_N x y l lt L p = cf_F (jn_1 x y l lt L) p (jn_1 x y l lt L p) := so_map_in hp
  have e3 : jn_N2 x y l lt L p 3 = jn_1 x y l lt L p 3 := by rw [e, e2]; rfl
  rw [e3]
  refine ⟨by rw [e, e2]; rfl, ?_, ?_, by rw [e]; rfl, by rw [e, e2]; rfl, by rw [e]; rfl⟩
  · rw [e]
    show (cb_a _ _ _).2.1 = _
    rw [c2, jn_cntA]
  · rw [e]
    show (cb_a _ _ _).2.2.1 = _
    rw [c3, jn_cntA]
theorem jn_2m {p : Nat} (hp : p < l.length + lt.length) : ∃ q, q < l.length + lt.length ∧ jn_2 x y l lt L p = jn_N2 x y l lt L q := so_sort_mem (X := jn_N2 x y l lt L) hp
theorem jn_2Q : ((List.range (l.length + lt.length)).map (fun p => jQ (jn_2 x y l lt L p))).Perm (jn_C (l.map (kx x)) (lt.map (kx y))) := by
  have := (so_sort_sp 0 (l.length + lt.length) (jn_N2 x y l lt L)).1.1.map jQ
  rw [nw_ls0, nw_ls0] at this
  refine List.Perm.trans this ?_
  have e : (List.range (l.length + lt.length)).map (fun p => jQ (jn_N2 x y l lt L p)) = (List.range (l.length + lt.length)).map (fun p => jQ (jn_1 x y l lt L p)) := by
    apply List.map_congr_left
    intro p hp
    exact (jn_N2f (List.mem_range.mp hp)).1
  rw [e]
  exact jn_1Q
theorem jn_2s : ∀ i j, i ≤ j → j < l.length + lt.length → (jn_2 x y l lt L i 4).toInt < (jn_2 x y l lt L j 4).toInt ∨ (jn_2 x y l lt L i 4).toInt = (jn_2 x y l lt L j 4).toInt ∧ (jn_2 x y l lt L i 3).toInt ≤ (jn_2 x y l lt L j 3).toInt := by
  intro i j hij hj
  have hl := so_sort_le 0 (l.length + lt.length) (jn_N2 x y l lt L) (j - i) i (by omega)
  rw [show i + (j - i) = j by omega, Nat.zero_add, Nat.zero_add, rw_lt_no] at hl
  have hk : ∀ p, p < l.length + lt.length → jn_2 x y l lt L p 7 = jn_2 x y l lt L p 4 ∧ jn_2 x y l lt L p 8 = jn_2 x y l lt L p 3 ∧ jn_2 x y l lt L p 9 = 0 := fun p hp => by
    obtain ⟨q, hq, e⟩ := jn_2m (x := x) (y := y) (L := L) hp
    rw [e]
    exact (jn_N2f hq).2.2.2
  obtain ⟨a1, a2, a3⟩ := hk i (by omega)
  obtain ⟨b1, b2, b3⟩ := hk j hj
  unfold jn_2 at a1 a2 a3 b1 b2 b3 ⊢
  rw [a1, a2, a3, b1, b2, b3] at hl
  omega
theorem jn_2c (h24 : l.length ≤ 24) (h12 : lt.length ≤ 12) {p : Nat} (hp : p < l.length + lt.length) : (ms_c 0 (jn_2 x y l lt L p) = nI (jn_cL (jn_2 x y l lt L) (lt.map (kx y)) p) ∧ jn_cL (jn_2 x y l lt L) (lt.map (kx y)) p < 1000) ∧ ms_c 1 (jn_2 x y l lt L p) = nI (jn_cR (jn_2 x y l lt L) (l.map (kx x)) p) ∧ jn_cR (jn_2 x y l lt L) (l.map (kx x)) p < 1000 := by
  obtain ⟨q, hq, e⟩ := jn_2m (x := x) (y := y) (L := L) hp
  obtain ⟨a1, a2, a3, -⟩ := jn_N2f (x := x) (y := y) (L := L) hq
  have a4 : jn_N2 x y l lt L q 4 = jn_1 x y l lt L q 4 := congrArg Prod.snd a1
  have hd := jn_1d (x := x) (y := y) (L := L) hq
  rw [← a4] at hd
  have b1 : ∀ z, jn_ct (fun a : jn_T => a.1) (lt.map (kx y)) z < 1000 := fun z => Nat.lt_of_le_of_lt (List.length_filter_le _ _) (by rw [List.length_map]; omega)
  have b2 : ∀ z, jn_ct (fun a : jn_T => a.1) (l.map (kx x)) z < 1000 := fun z => Nat.lt_of_le_of_lt (List.length_filter_le _ _) (by rw [List.length_map]; omega)
  unfold jn_cL jn_cR ms_c rw_partners
  rw [e]
  rcases hd with h | h
  · have h1 : ¬ jn_N2 x y l lt L q 4 = 1 := by rw [h]; decide
    rw [if_pos h, if_pos h, if_neg h1, if_pos h, if_pos h]
    exact ⟨⟨a3, b1 _⟩, rfl, by decide⟩
  · have h0 : ¬ jn_N2 x y l lt L q 4 = 0 := by rw [h]; decide
    rw [if_neg h0, if_pos h, if_neg h0, if_neg h0, if_neg h0]
    exact ⟨⟨rfl, by decide⟩, a2, b2 _⟩
theorem jn_2o {i : Nat} (h : l.length + lt.length ≤ i) (h2 : i < 76) : rw_dead (jn_2 x y l lt L i) := by
  have e : jn_2 x y l lt L i = rw_disc (L i) := by
    unfold jn_2
    rw [(so_sort_sp 0 _ _).1.2 i (by omega)]
    unfold jn_N2
    rw [so_bk_out (by omega)]
    unfold jn_N
    rw [so_map_no (by omega)]
    unfold jn_1
    rw [(so_sort_sp 0 _ _).1.2 i (by omega)]
    unfold jn_X
    rw [so_map_no (by omega), so_map_no (by omega), so_map_in h2]
  rw [e]
  exact rw_dead_disc _
end JPR
