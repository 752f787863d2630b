/-! The join: the pairs that lie side by side in the end. -/
section JFIN
variable {M EL ER : Nat → rw_T} {k P : Nat} {A0 B0 : List jn_T}
def jn_cL (M : Nat → rw_T) (B0 : List jn_T) (p : Nat) : Nat := if M p 4 = 0 then jn_ct (fun a : jn_T => a.1) B0 (M p 3) else 0
def jn_cR (M : Nat → rw_T) (A0 : List jn_T) (p : Nat) : Nat := if M p 4 = 0 then 0 else jn_ct (fun a : jn_T => a.1) A0 (M p 3)
def jn_C (A0 B0 : List jn_T) : List (jn_T × Int32) := A0.map (fun t => (t, (0 : Int32))) ++ B0.map (fun t => (t, (1 : Int32)))
theorem jn_lP (hQ : ((List.range k).map (fun p => jQ (M p))).Perm (jn_C A0 B0)) : (jn_l ((List.range k).map (fun p => jQ (M p)))).Perm A0 := by
  have h : (jn_l ((List.range k).map (fun p => jQ (M p)))).Perm (jn_l (jn_C A0 B0)) := (hQ.filter _).map _
  unfold jn_C at h
  rw [jn_lC] at h
  exact h
theorem jn_rP (hQ : ((List.range k).map (fun p => jQ (M p))).Perm (jn_C A0 B0)) : (jn_r ((List.range k).map (fun p => jQ (M p)))).Perm B0 := by
  have h : (jn_r ((List.range k).map (fun p => jQ (M p)))).Perm (jn_r (jn_C A0 B0)) := (hQ.filter _).map _
  unfold jn_C at h
  rw [jn_rC] at h
  exact h
theorem jn_lM (M : Nat → rw_T) (k : Nat) : jn_l ((List.range k).map (fun p => jQ (M p))) = ((List.range k).filter (fun p => decide (M p 4 = 0))).map (fun p => pj (M p)) := by
  unfold jn_l
  rw [List.filter_map, List.map_map]
  rfl
theorem jn_rM (M : Nat → rw_T) (k : Nat) : jn_r ((List.range k).map (fun p => jQ (M p))) = ((List.range k).filter (fun p => !(decide (M p 4 = 0)))).map (fun p => pj (M p)) := by
  unfold jn_r
  rw [List.filter_map, List.map_map]
  rfl
theorem jn_stL (hQ : ((List.range k).map (fun p => jQ (M p))).Perm (jn_C A0 B0)) : ms_st (jn_cL M B0) k = (jn_naive A0 B0).length := by
  rw [ms_sum, jn_naive_len]
  have h := jn_psum (hQ.map (fun u => if u.2 = 0 then jn_ct (fun a : jn_T => a.1) B0 u.1.1 else 0))
  rw [List.map_map] at h
  refine Eq.trans ?_ (h.trans ?_)
  · rfl
  · unfold jn_C
    rw [List.map_append, List.sum_append, List.map_map, List.map_map]
    have e0 : (B0.map ((fun u : jn_T × Int32 => if u.2 = 0 then jn_ct (fun a : jn_T => a.1) B0 u.1.1 else 0) ∘ fun t => (t, (1 : Int32)))).sum = 0 := by
      have : ((fun u : jn_T × Int32 => if u.2 = 0 then jn_ct (fun a : jn_T => a.1) B0 u.1.1 else 0) ∘ fun t => (t, (1 : Int32))) = fun _ => 0 := by
        funext t
        show (if (1 : Int32) = 0 then jn_ct (fun a : jn_T => a.1) B0 t.1 else 0) = 0
        rw [if_neg (by decide)]
      rw [this, List.map_const', List.sum_replicate_nat]
      omega
    rw [e0, Nat.add_zero]
    rfl
theorem jn_stR (hQ : ((List.range k).map (fun p => jQ (M p))).Perm (jn_C A0 B0)) : ms_st (jn_cR M A0) k = (jn_naive A0 B0).length := by
  rw [ms_sum, jn_naive_len2]
  have h := jn_psum (hQ.map (fun u => if u.2 = 0 then 0 else jn_ct (fun a : jn_T => a.1) A0 u.1.1))
  rw [List.map_map] at h
  refine Eq.trans ?_ (h.trans ?_)
  · rfl
  · unfold jn_C
    rw [List.map_append, List.sum_append, List.map_map, List.map_map]
    have e0 : (A0.map ((fun u : jn_T × Int32 => if u.2 = 0 then 0 else jn_ct (fun a : jn_T => a.1) A0 u.1.1) ∘ fun t => (t, (0 : Int32)))).sum = 0 := by
      have : ((fun u : jn_T × Int32 => if u.2 = 0 then 0 else jn_ct (fun a : jn_T => a.1) A0 u.1.1) ∘ fun t => (t, (0 : Int32))) = fun _ => 0 := by
        funext t
        show (if (0 : Int32) = 0 then 0 else jn_ct (fun a : jn_T => a.1) A0 t.1) = 0
        rw [if_pos rfl]
      rw [this, List.map_const', List.sum_replicate_nat]
      omega
    rw [e0, Nat.zero_add]
    rfl
theorem jn_fin (hQ : ((List.range k).map (fun p => jQ (M p))).Perm (jn_C A0 B0)) (hP : P = (jn_naive A0 B0).length) (hA1 : A0.length < 1000)
    (hs : ∀ i j, i ≤ j → j < k → (M i 4).toInt < (M j 4).toInt ∨ (M i 4).toInt = (M j 4).toInt ∧ (M i 3).toInt ≤ (M j 3).toInt)
    (hl : ∀ p, p < k → ∀ i, i < jn_cL M B0 p → pj (EL (ms_st (jn_cL M B0) p + i)) = pj (M p))
    (hr : ∀ p, p < k → ∀ i, i < jn_cR M A0 p → pj (ER (40 + (ms_st (jn_cR M A0) p + i))) = pj (M p) ∧ ER (40 + (ms_st (jn_cR M A0) p + i)) 7 = M p 3 ∧ ER (40 + (ms_st (jn_cR M A0) p + i)) 8 = nI i ∧ ER (40 + (ms_st (jn_cR M A0) p + i)) 9 = 0) :
    ((List.range P).map (fun p => jn_f (pj (EL p)) (pj (so_sort 40 P ER (40 + p))))).Perm (jn_naive A0 B0) := by
  have hstL : ms_st (jn_cL M B0) k = P := by rw [hP]; exact jn_stL hQ
  have hstR : ms_st (jn_cR M A0) k = P := by rw [hP]; exact jn_stR hQ
  have hAP := jn_lP hQ
  have hBP := jn_rP hQ
  have hcA : ∀ q, jn_ct (fun a : jn_T => a.1) (jn_l ((List.range k).map (fun p => jQ (M p)))) q = jn_ct (fun a : jn_T => a.1) A0 q := fun q => jn_ct_perm _ hAP q
  have hcB : ∀ q, jn_ct (fun a : jn_T => a.1) (jn_r ((List.range k).map (fun p => jQ (M p)))) q = jn_ct (fun a : jn_T => a.1) B0 q := fun q => jn_ct_perm _ hBP q
  have hcle : ∀ q, jn_ct (fun a : jn_T => a.1) A0 q < 1000 := fun q => Nat.lt_of_le_of_lt (List.length_filter_le _ _) hA1
  have hG : (List.range P).map (fun p => pj (EL p)) = (jn_l ((List.range k).map (fun p => jQ (M p)))).flatMap (fun a => List.replicate (jn_ct (fun a : jn_T => a.1) (jn_r ((List.range k).map (fun p => jQ (M p)))) a.1) a) := by
    rw [← hstL, ex_list (jn_cL M B0) (fun p => pj (EL p)) (fun p _ => pj (M p)) k hl, jn_lM, List.flatMap_map, ← jn_flif]
    congr 1
    funext p
    rw [hcB, List.map_const', List.length_range]
    unfold jn_cL
    by_cases h : M p 4 = 0
    · rw [if_pos h, if_pos (decide_eq_true h)]
      rfl
    · rw [if_neg h, if_neg (by rw [decide_eq_false h]; decide)]
      rfl
  have hS0 : (nw_ls 40 P ER).map (fun f => (pj f, (f 8).toBitVec.toNat)) = (jn_r ((List.range k).map (fun p => jQ (M p)))).flatMap (fun r => (List.range (jn_ct (fun a : jn_T => a.1) (jn_l ((List.range k).map (fun p => jQ (M p)))) r.1)).map (fun c => (r, c))) := by
    unfold nw_ls
    rw [List.map_map, ← hstR]
    refine (ex_list (jn_cR M A0) ((fun f : rw_T => (pj f, (f 8).toBitVec.toNat)) ∘ fun i => ER (40 + i)) (fun p i => (pj (M p), i)) k (fun p hp i hi => ?_)).trans ?_
    · obtain ⟨a1, -, a3, -⟩ := hr p hp i hi
      show (pj (ER (40 + _)), (ER (40 + _) 8).toBitVec.toNat) = _
      have : i < 1000 := by
        unfold jn_cR at hi
        split at hi
        · omega
        · exact Nat.lt_trans hi (hcle _)
      rw [a1, a3, pk_tn (by omega)]
    · rw [jn_rM, List.flatMap_map, ← jn_flif]
      congr 1
      funext p
      rw [hcA]
      unfold jn_cR
      by_cases h : M p 4 = 0
      · rw [if_pos h, if_neg (by rw [decide_eq_true h]; decide)]
        rfl
      · rw [if_neg h, if_pos (by rw [decide_eq_false h]; rfl)]
        rfl
  have hsp := (so_sort_sp 40 P ER).1.1
  have hS1 := hsp.map (fun f : rw_T => (pj f, (f 8).toBitVec.toNat))
  rw [hS0] at hS1
  have hrow : ∀ f ∈ nw_ls 40 P (so_sort 40 P ER), f 7 = f 3 ∧ (f 8).toInt = ((f 8).toBitVec.toNat : Int) ∧ f 9 = 0 := by
    intro f hf
    obtain ⟨q, hq, rfl⟩ := nw_ls_mem.mp (hsp.mem_iff.mp hf)
    rw [← hstR] at hq
    obtain ⟨p, hp, i, hi, rfl⟩ := ms_split (jn_cR M A0) hq
    obtain ⟨a1, a2, a3, a4⟩ := hr p hp i hi
    have hi2 : i < 1000 := by
      unfold jn_cR at hi
      split at hi
      · omega
      · exact Nat.lt_trans hi (hcle _)
    refine ⟨?_, ?_, a4⟩
    · rw [a2]
      exact (congrArg Prod.fst a1).symm
    · rw [a3, nI_toInt (by omega), pk_tn (by omega)]
  have hs2 : (((nw_ls 40 P (so_sort 40 P ER)).map (fun f : rw_T => (pj f, (f 8).toBitVec.toNat))).map (fun s => (s.1.1, s.2))).Pairwise jn_le := by
    rw [List.map_map, List.pairwise_map]
    refine (so_sort_pw 40 P ER).imp_of_mem (fun {x y} hx hy h => ?_)
    obtain ⟨a1, a2, a3⟩ := hrow x hx
    obtain ⟨b1, b2, b3⟩ := hrow y hy
    rw [rw_lt_no, a1, a2, a3, b1, b2, b3] at h
    show x 3 < y 3 ∨ (x 3 = y 3 ∧ (x 8).toBitVec.toNat ≤ (y 8).toBitVec.toNat)
    rw [Int32.lt_iff_toInt_lt]
    by_cases e : (x 3).toInt < (y 3).toInt
    · exact Or.inl e
    · exact Or.inr ⟨Int32.toInt_inj.mp (by omega), by omega⟩
  have hA : (jn_l ((List.range k).map (fun p => jQ (M p)))).Pairwise (fun a b => a.1 ≤ b.1) := by
    rw [jn_lM, List.pairwise_map]
    have hlt : ((List.range k).filter (fun p => decide (M p 4 = 0))).Pairwise (· < ·) := List.Pairwise.filter _ List.pairwise_lt_range
    refine hlt.imp_of_mem (fun {x y} hx hy hxy => ?_)
    have h1 := List.mem_filter.mp hx
    have h2 := List.mem_filter.mp hy
    have e1 := of_decide_eq_true h1.2
    have e2 := of_decide_eq_true h2.2
    have := hs x y (by omega) (List.mem_range.mp h2.1)
    rw [e1, e2] at this
    show M x 3 ≤ M y 3
    rw [Int32.le_iff_toInt_le]
    omega
  have hj := jn_pairs (k := fun a : jn_T => a.1) (kB := fun a : jn_T => a.1) jn_f hA hS1 hs2
  rw [← hG] at hj
  have ez : List.zipWith (fun a s => jn_f a s.1) ((List.range P).map (fun p => pj (EL p))) ((nw_ls 40 P (so_sort 40 P ER)).map (fun f : rw_T => (pj f, (f 8).toBitVec.toNat))) = (List.range P).map (fun p => jn_f (pj (EL p)) (pj (so_sort 40 P ER (40 + p)))) := by
    unfold nw_ls
    rw [List.map_map, List.zipWith_map, List.zipWith_self]
    rfl
  rw [ez] at hj
  refine hj.trans ?_
  have h3 := jn_swap (fun (a r : jn_T) => a.1 == r.1) jn_f (jn_r ((List.range k).map (fun p => jQ (M p)))) (jn_l ((List.range k).map (fun p => jQ (M p))))
  exact h3.symm.trans (jn_naive_perm hAP hBP)
end JFIN
