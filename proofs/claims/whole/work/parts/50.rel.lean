/-! The system and the reference, side by side. -/
section FRX
variable {n n' : Nat} {h h' : pm_H} {T : Nat → List bg_T} {lp ld lr : List bg_T} {pt : Int32} {sc : Nat} {S : Nat → Nat → Int32} {ts : List Int32}
theorem x_at.mo (X : x_at n h T lp ld lr pt sc S ts) (hn : n ≤ n') (hf : mo_fr h h') : x_at n' h' T lp ld lr pt sc S ts := by
  obtain ⟨⟨a1, ⟨f, a2, a3⟩, ⟨g, a4, a5⟩, a6, a7⟩, b0, b1, b2, b3, ⟨L, ix, R, HA, hi, hL⟩, ⟨sr, b5, b6⟩, b7, b8⟩ := X
  have HA2 : so_at n' h' ix R ts := by
    have := HA.mv (h' := h') (fun q hq => hf q (by omega))
    exact ⟨by have := this.1; omega, this.2⟩
  exact ⟨⟨by omega, ⟨f, (hf 1 (by omega)).trans a2, a3⟩, ⟨g, (hf 2 (by omega)).trans a4, a5⟩, (hf 94 (by omega)).trans a6, (hf 95 (by omega)).trans a7⟩, (hf 0 (by omega)).trans b0, b1.fr hn (fun q _ _ => hf q (by omega)), b2.fr hn (fun q _ _ => hf q (by omega)), b3.fr hn (fun q _ _ => hf q (by omega)), ⟨L, ix, R, HA2, hi, hL⟩, ⟨sr, (hf 96 (by omega)).trans b5, b6⟩, fun t ht => (b7 t ht).fr hn (fun q _ _ => hf q (by omega)), fun s hs => (hf (109 + s) (by omega)).trans (b8 s hs)⟩
end FRX
section FRM
variable {n : Nat} {h h' : pm_H} {T : Nat → List bg_T} {ch : List (Int32 × bg_T)} {pl : Bool} {so : Int32} {sc : Nat} {S : Nat → Nat → Int32} {lr : List bg_T} {pa : List (Int32 × Int32 × Int32 × Int32)} {la : Nat}
theorem m_at.y (X : m_at n h T ch pl so sc S lr pa la) (hf : y_fr h h') : m_at n h' T ch pl so sc S lr pa la := by
  obtain ⟨g, A, M, C⟩ := X
  exact ⟨g, A, ⟨M.1, (hf 112 (by omega)).trans M.2.1, fun j hj => (hf (113 + j) (by omega)).trans (M.2.2 j hj)⟩, C⟩
theorem m_at.le (X : m_at n h T ch pl so sc S lr pa la) : (∀ t, t < 3 → (T t).length ≤ 12) ∧ sc ≤ 3 ∧ ch.length ≤ 6 ∧ 127 < n := by
  obtain ⟨g, A, M, c1, c2, c3, c4, c5, c6, -⟩ := X
  exact ⟨fun t ht => (c1 t ht).1, c4.2, c6.2.1, M.1⟩
end FRM
theorem y_fr.rf {h : pm_H} : y_fr h h := fun _ _ => rfl
def puts (ch : List (Int32 × bg_T)) : List bg_T := (ch.filter (fun c => decide (c.1 = 0))).map (fun c => c.2)
def drps (ch : List (Int32 × bg_T)) : List bg_T := (ch.filter (fun c => !(decide (c.1 = 0)))).map (fun c => c.2)
theorem pd_len (ch : List (Int32 × bg_T)) : (puts ch).length + (drps ch).length = ch.length := by
  unfold puts drps
  rw [List.length_map, List.length_map]
  induction ch with
  | nil => rfl
  | cons c ch ih =>
    by_cases h : c.1 = 0
    · rw [List.filter_cons, List.filter_cons, if_pos (by rw [decide_eq_true h]), if_neg (by rw [decide_eq_true h]; decide), List.length_cons, List.length_cons]
      omega
    · rw [List.filter_cons, List.filter_cons, if_neg (by rw [decide_eq_false h]; decide), if_pos (by rw [decide_eq_false h]; rfl), List.length_cons, List.length_cons]
      omega
theorem nd_drps (ch : List (Int32 × bg_T)) (t : bg_T) : nd ch t = !((drps ch).any (fun d => decide (d.1 = t.1))) := by
  induction ch with
  | nil => rfl
  | cons c ch ih =>
    have e1 : nd (c :: ch) t = (!(decide (¬ c.1 = 0 ∧ c.2.1 = t.1)) && nd ch t) := rfl
    rw [e1, ih]
    unfold drps
    by_cases h : c.1 = 0
    · rw [List.filter_cons, if_neg (by rw [decide_eq_true h]; decide), decide_eq_false (fun z => z.1 h)]
      rfl
    · rw [List.filter_cons, if_pos (by rw [decide_eq_false h]; rfl), List.map_cons, List.any_cons]
      by_cases h2 : c.2.1 = t.1
      · rw [decide_eq_true (show ¬ c.1 = 0 ∧ c.2.1 = t.1 from ⟨h, h2⟩), decide_eq_true h2]; rfl
      · rw [decide_eq_false (fun z : ¬ c.1 = 0 ∧ c.2.1 = t.1 => h2 z.2), decide_eq_false h2]; rfl
theorem mb_batch {lt lt' : List bg_T} (hp : lt.Perm lt') (ch : List (Int32 × bg_T)) : (bt_batch lt (puts ch) (drps ch)).Perm (mb lt' ch) := by
  unfold bt_batch mb
  refine List.Perm.append ?_ (List.Perm.refl _)
  have e : nd ch = fun t => !((drps ch).any (fun d => decide (d.1 = t.1))) := funext (nd_drps ch)
  rw [e]
  exact hp.filter _
theorem bg_sum_perm {l l' : List bg_T} (h : l.Perm l') : bg_sum l = bg_sum l' := by
  unfold bg_sum
  refine List.Perm.foldl_eq' h (fun x _ y _ z => ?_) 0
  rw [Int32.add_assoc, Int32.add_assoc, Int32.add_comm (bg_mix x)]
/-- what ties the two together -/
def RLp (T T' : Nat → List bg_T) (lp ld : List bg_T) (pt : Int32) (sc : Nat) (S : Nat → Nat → Int32) (ts : List Int32) (ch : List (Int32 × bg_T)) (pl : Bool) (so : Int32) (pa : List (Int32 × Int32 × Int32 × Int32)) (la : Nat) : Prop :=
  (∀ t, t < 3 → (T t).Perm (T' t)) ∧ (lp = puts ch ∧ ld = drps ch) ∧ ((pl = false ∧ pt = -1) ∨ (pl = true ∧ tb pt = true ∧ so = pt)) ∧ (∀ s, s < sc → st_k (S s)) ∧ tr_rel pa la ts ∧ ts.length ≤ 14688
def RL (n : Nat) (h : pm_H) : Prop := ∃ (T T' : Nat → List bg_T) (lp ld lr : List bg_T) (pt : Int32) (sc : Nat) (S : Nat → Nat → Int32) (ts : List Int32) (ch : List (Int32 × bg_T)) (pl : Bool) (so : Int32) (pa : List (Int32 × Int32 × Int32 × Int32)) (la : Nat), x_at n h T lp ld lr pt sc S ts ∧ m_at n h T' ch pl so sc S lr pa la ∧ RLp T T' lp ld pt sc S ts ch pl so pa la
section STEP
variable {n : Nat} {h h1 h2 : pm_H} {T T' : Nat → List bg_T} {lp ld lr : List bg_T} {pt : Int32} {sc : Nat} {S : Nat → Nat → Int32} {ts : List Int32} {ch : List (Int32 × bg_T)} {pl : Bool} {so : Int32} {pa : List (Int32 × Int32 × Int32 × Int32)} {la : Nat}
theorem RL.mk (X : x_at n h1 T lp ld lr pt sc S ts) (M : m_at n h2 T' ch pl so sc S lr pa la) (F : mo_fr h1 h2) (R : RLp T T' lp ld pt sc S ts ch pl so pa la) : RL n h2 := ⟨T, T', lp, ld, lr, pt, sc, S, ts, ch, pl, so, pa, la, X.mo (Nat.le_refl _) F, M, R⟩
theorem RLp.len (R : RLp T T' lp ld pt sc S ts ch pl so pa la) {t : Int32} (ht : tb t = true) : (T t.toNatClampNeg).length = (T' t.toNatClampNeg).length := by
  obtain ⟨j, hj, e⟩ := tb_ok ht
  rw [e, nI_clamp (by omega)]
  exact (R.1 j hj).length_eq
theorem RLp.rows (R : RLp T T' lp ld pt sc S ts ch pl so pa la) (t : Int32) : (if tb t = true then nI (T t.toNatClampNeg).length else -1) = (if tb t = true then nI (T' t.toNatClampNeg).length else (-1 : Int32)) := by
  by_cases ht : tb t = true
  · rw [if_pos ht, if_pos ht, R.len ht]
  · rw [if_neg ht, if_neg ht]
theorem RLp.sum (R : RLp T T' lp ld pt sc S ts ch pl so pa la) (t : Int32) : (if tb t = true then bg_sum (T t.toNatClampNeg) else 0) = (if tb t = true then bg_sum (T' t.toNatClampNeg) else (0 : Int32)) := by
  by_cases ht : tb t = true
  · rw [if_pos ht, if_pos ht]
    obtain ⟨j, hj, e⟩ := tb_ok ht
    rw [e, nI_clamp (by omega)]
    exact bg_sum_perm (R.1 j hj)
  · rw [if_neg ht, if_neg ht]
theorem RLp.add1 (R : RLp T T' lp ld pt sc S ts ch pl so pa la) (t : Int32) : (tb t && decide ((T t.toNatClampNeg).length < 12)) = (tb t && decide ((T' t.toNatClampNeg).length < 12)) := by
  by_cases ht : tb t = true
  · rw [R.len ht]
  · rw [Bool.not_eq_true] at ht
    rw [ht]; rfl
theorem perm_up {T T' : Nat → List bg_T} (hT : ∀ t, t < 3 → (T t).Perm (T' t)) {k : Nat} {l l' : List bg_T} (hl : l.Perm l') : ∀ t, t < 3 → (va_up T k l t).Perm (va_up T' k l' t) := fun t ht => by
  by_cases e : t = k
  · rw [show va_up T k l t = l from if_pos e, show va_up T' k l' t = l' from if_pos e]; exact hl
  · rw [show va_up T k l t = T t from if_neg e, show va_up T' k l' t = T' t from if_neg e]; exact hT t ht
theorem RLp.add (R : RLp T T' lp ld pt sc S ts ch pl so pa la) (t a b c : Int32) : RLp (if (tb t && decide ((T t.toNatClampNeg).length < 12)) = true then va_up T t.toNatClampNeg (T t.toNatClampNeg ++ [(a, b, c)]) else T) (if (tb t && decide ((T' t.toNatClampNeg).length < 12)) = true then va_up T' t.toNatClampNeg (T' t.toNatClampNeg ++ [(a, b, c)]) else T') lp ld pt sc S ts ch pl so pa la := by
  rw [← R.add1 t]
  by_cases hk : (tb t && decide ((T t.toNatClampNeg).length < 12)) = true
  · rw [if_pos hk, if_pos hk]
    obtain ⟨j, hj, e⟩ := tb_ok (Bool.and_eq_true_iff.mp hk).1
    refine ⟨perm_up R.1 ?_, R.2⟩
    rw [e, nI_clamp (by omega)]
    exact (R.1 j hj).append_right _
  · rw [if_neg hk, if_neg hk]; exact R
theorem RLp.plan (R : RLp T T' lp ld pt sc S ts ch pl so pa la) (t : Int32) : RLp T T' lp ld (if tb t = true then t else pt) (if tb t = true then 0 else sc) S ts ch (if tb t = true then true else pl) (if tb t = true then t else so) pa la := by
  by_cases ht : tb t = true
  · rw [if_pos ht, if_pos ht, if_pos ht, if_pos ht]
    exact ⟨R.1, R.2.1, Or.inr ⟨rfl, ht, rfl⟩, fun s hs => absurd hs (Nat.not_lt_zero _), R.2.2.2.2⟩
  · rw [if_neg ht, if_neg ht, if_neg ht, if_neg ht]; exact R
theorem tb_m1 : tb (-1) = false := by decide
theorem RLp.ok (R : RLp T T' lp ld pt sc S ts ch pl so pa la) (B : Bool) : (B && decide (¬ pt = -1 ∧ sc < 3)) = (pl && (decide (sc < 3) && B)) := by
  rcases R.2.2.1 with ⟨rfl, e⟩ | ⟨rfl, ht, -⟩
  · rw [decide_eq_false (fun z => z.1 e), Bool.and_false, Bool.false_and]
  · have hne : ¬ pt = -1 := fun z => by rw [z, tb_m1] at ht; cases ht
    rw [Bool.true_and, Bool.and_comm]
    congr 1
    exact decide_eq_decide.mpr ⟨fun z => z.2, fun z => ⟨hne, z⟩⟩
theorem RLp.step (R : RLp T T' lp ld pt sc S ts ch pl so pa la) {ok ok' : Bool} (e : ok = ok') {f : Nat → Int32} (hf : ok = true → st_k f) : RLp T T' lp ld pt (if ok = true then sc + 1 else sc) (if ok = true then va_up S sc f else S) ts ch pl so pa la ∧ (if ok = true then sc + 1 else sc) = (if ok' = true then sc + 1 else sc) ∧ (if ok = true then va_up S sc f else S) = (if ok' = true then va_up S sc f else S) := by
  subst e
  refine ⟨?_, rfl, rfl⟩
  cases ok with
  | false => exact R
  | true =>
    refine ⟨R.1, R.2.1, R.2.2.1, fun s hs => ?_, R.2.2.2.2⟩
    have hs : s < sc + 1 := hs
    show st_k (va_up S sc f s)
    by_cases e2 : s = sc
    · rw [show va_up S sc f s = f from if_pos e2]; exact hf rfl
    · rw [show va_up S sc f s = S s from if_neg e2]; exact R.2.2.2.1 s (by omega)
theorem RLp.chl (R : RLp T T' lp ld pt sc S ts ch pl so pa la) : decide (lp.length + ld.length < 6) = decide (ch.length < 6) := by
  rw [R.2.1.1, R.2.1.2, pd_len]
theorem RLp.put (R : RLp T T' lp ld pt sc S ts ch pl so pa la) (a b c : Int32) : RLp T T' (if (decide (lp.length + ld.length < 6)) = true then lp ++ [(a, b, c)] else lp) ld pt sc S ts (if ch.length < 6 then ch ++ [(0, a, b, c)] else ch) pl so pa la := by
  rw [R.chl]
  by_cases hk : ch.length < 6
  · rw [if_pos hk, if_pos (decide_eq_true hk)]
    refine ⟨R.1, ⟨?_, ?_⟩, R.2.2⟩
    · rw [R.2.1.1]; unfold puts; rw [List.filter_append, List.map_append]; rfl
    · rw [R.2.1.2]; unfold drps; rw [List.filter_append, List.map_append]; exact (List.append_nil _).symm
  · rw [if_neg hk, if_neg (by rw [decide_eq_false hk]; decide)]; exact R
theorem RLp.drop (R : RLp T T' lp ld pt sc S ts ch pl so pa la) (a : Int32) : RLp T T' lp (if (decide (lp.length + ld.length < 6)) = true then ld ++ [(a, 0, 0)] else ld) pt sc S ts (if ch.length < 6 then ch ++ [(1, a, 0, 0)] else ch) pl so pa la := by
  rw [R.chl]
  by_cases hk : ch.length < 6
  · rw [if_pos hk, if_pos (decide_eq_true hk)]
    refine ⟨R.1, ⟨?_, ?_⟩, R.2.2⟩
    · rw [R.2.1.1]; unfold puts; rw [List.filter_append, List.map_append]; exact (List.append_nil _).symm
    · rw [R.2.1.2]; unfold drps; rw [List.filter_append, List.map_append]; rfl
  · rw [if_neg hk, if_neg (by rw [decide_eq_false hk]; decide)]; exact R
theorem sort_eq {l l' : List bg_T} (h : l.Perm l') (h1 : l.Pairwise bg_le) (h2 : l'.Pairwise bg_le) : l = l' := List.Perm.eq_of_pairwise (le := bg_le) (fun a b _ _ x y => bg_le_anti x y) h1 h2 h
/-- run, on both sides -/
theorem s_run {r1 r2 : Option Value} (X : x_at n h T lp ld lr pt sc S ts) (M : m_at n h1 T' ch pl so sc S lr pa la) (R : RLp T T' lp ld pt sc S ts ch pl so pa la)
    (P1 : (tb pt = false ∧ r1 = some (.int (-1)) ∧ h1 = h) ∨ (tb pt = true ∧ y_fr h h1 ∧ ((∃ s, s < sc ∧ (∀ i, i < s → (rn_L T S pt.toNatClampNeg (i + 1)).length ≤ 24) ∧ 24 < (rn_L T S pt.toNatClampNeg (s + 1)).length ∧ r1 = some (.int (-2)) ∧ x_at n h1 T lp ld [] pt sc S (tk (rn_t T S pt.toNatClampNeg (s + 1)))) ∨ ((∀ i, i < sc → (rn_L T S pt.toNatClampNeg (i + 1)).length ≤ 24) ∧ ∃ l1, l1.Perm (rn_L T S pt.toNatClampNeg sc) ∧ l1.Pairwise bg_le ∧ r1 = some (.int (nI l1.length)) ∧ x_at n h1 T lp ld l1 pt sc S (tk (rn_t T S pt.toNatClampNeg sc ++ tr_sort 0 l1.length))))))
    (P2 : (pl = false ∧ r2 = some (.int (-1)) ∧ h2 = h1) ∨ (pl = true ∧ mo_fr h1 h2 ∧ ((∃ s, s < sc ∧ (∀ i, i < s → (rn_L T' S so.toNatClampNeg (i + 1)).length ≤ 24) ∧ 24 < (rn_L T' S so.toNatClampNeg (s + 1)).length ∧ r2 = some (.int (-2)) ∧ m_at n h2 T' ch pl so sc S [] (rn_p T' S so.toNatClampNeg (s + 1)) 0) ∨ ((∀ i, i < sc → (rn_L T' S so.toNatClampNeg (i + 1)).length ≤ 24) ∧ ∃ l1, l1.Perm (rn_L T' S so.toNatClampNeg sc) ∧ l1.Pairwise bg_le ∧ r2 = some (.int (nI l1.length)) ∧ m_at n h2 T' ch pl so sc S l1 (rn_p T' S so.toNatClampNeg sc) l1.length)))) :
    ∃ v : Int32, r1 = some (.int v) ∧ r2 = some (.int v) ∧ RL n h2 := by
  obtain ⟨hT12, hsc, -, -⟩ := M.le
  rcases P1 with ⟨p1, p2, p3⟩ | ⟨p1, p2, p3⟩
  · have hpl : pl = false := by
      rcases R.2.2.1 with ⟨z, -⟩ | ⟨-, z, -⟩
      · exact z
      · rw [p1] at z; cases z
    rcases P2 with ⟨q1, q2, q3⟩ | ⟨q1, -⟩
    · subst p3; subst q3
      exact ⟨-1, p2, q2, RL.mk X M mo_fr.rf R⟩
    · rw [hpl] at q1; cases q1
  · have hpl : pl = true ∧ so = pt := by
      rcases R.2.2.1 with ⟨-, z⟩ | ⟨z, -, z2⟩
      · rw [z, tb_m1] at p1; cases p1
      · exact ⟨z, z2⟩
    obtain ⟨hpl, rfl⟩ := hpl
    rcases P2 with ⟨q1, -⟩ | ⟨-, q2, q3⟩
    · rw [hpl] at q1; cases q1
    obtain ⟨j, hj, ej⟩ := tb_ok p1
    have ej2 : so.toNatClampNeg = j := by rw [ej, nI_clamp (by omega)]
    rw [ej2] at p3 q3
    have hst := R.2.2.2.1
    have hpm : ∀ s, s ≤ sc → (rn_L T S j s).Perm (rn_L T' S j s) := fun s hs => rn_perm R.1 hj (fun i hi => hst i (by omega))
    rcases p3 with ⟨s, s1, s2, s3, s4, s5⟩ | ⟨s2, l1, u1, u2, u3, u4⟩
    · rcases q3 with ⟨s', s1', s2', s3', s4', s5'⟩ | ⟨s2', -⟩
      · have es : s = s' := by
          rcases Nat.lt_trichotomy s s' with z | z | z
          · have := s2' s z
            rw [← (hpm (s + 1) (by omega)).length_eq] at this
            omega
          · exact z
          · have := s2 s' z
            rw [(hpm (s' + 1) (by omega)).length_eq] at this
            omega
        subst es
        have et := rn_teq R.1 (S := S) hj (s := s + 1) (fun i hi => hst i (by omega))
        have hlen := rn_len (T := T') (S := S) hj hT12 (s := s + 1) (by omega) (fun i hi => hst i (by omega)) (fun i hi => s2' i (by omega))
        rw [et, tk_id (by omega)] at s5
        refine ⟨-2, s4, s4', RL.mk s5 s5' q2 ⟨R.1, R.2.1, R.2.2.1, hst, ?_, by omega⟩⟩
        have := rn_rel (T := T') (S := S) hj hT12 (s := s + 1) (fun i hi => hst i (by omega)) (fun i hi => s2' i (by omega)) 0
        rw [show tr_sort 0 0 = [] from rfl, List.append_nil] at this
        exact this
      · exfalso
        have := s2' s s1
        rw [← (hpm (s + 1) (by omega)).length_eq] at this
        omega
    · rcases q3 with ⟨s', s1', s2', s3', -⟩ | ⟨s2', l1', u1', u2', u3', u4'⟩
      · exfalso
        have := s2 s' s1'
        rw [(hpm (s' + 1) (by omega)).length_eq] at this
        omega
      · have el : l1 = l1' := sort_eq (u1.trans ((hpm sc (Nat.le_refl _)).trans u1'.symm)) u2 u2'
        subst el
        have et := rn_teq R.1 (S := S) hj (s := sc) hst
        have hlen := rn_len (T := T') (S := S) hj hT12 hsc hst (fun i hi => s2' i (by omega))
        have h24 : l1.length ≤ 24 := by rw [u1'.length_eq]; exact rn_le hj hT12 s2'
        have hs := b_sort24 l1.length (by omega)
        rw [et, tk_id (by rw [List.length_append, l_sort]; omega)] at u4
        refine ⟨_, u3, u3', RL.mk u4 u4' q2 ⟨R.1, R.2.1, R.2.2.1, hst, ?_, by rw [List.length_append, l_sort]; omega⟩⟩
        exact rn_rel hj hT12 hst (fun i hi => s2' i (by omega)) _
/-- apply, on both sides -/
theorem s_apply {r1 r2 : Option Value} (t : Int32) (X : x_at n h T lp ld lr pt sc S ts) (M : m_at n h1 T' ch pl so sc S lr pa la) (R : RLp T T' lp ld pt sc S ts ch pl so pa la)
    (P1 : (tb t = false ∧ r1 = some (.int (-1)) ∧ h1 = h) ∨ (tb t = true ∧ y_fr h h1 ∧ ∃ l1, l1.Perm (bt_batch (T t.toNatClampNeg) lp ld) ∧ r1 = some (.int (if l1.length ≤ 12 then nI l1.length else -2)) ∧ x_at n h1 (if l1.length ≤ 12 then va_up T t.toNatClampNeg l1 else T) [] [] lr pt sc S (tk (ap_t ((T t.toNatClampNeg).length + lp.length + ld.length)))))
    (P2 : (tb t = false ∧ r2 = some (.int (-1)) ∧ h2 = h1) ∨ (tb t = true ∧ mo_fr h1 h2 ∧ r2 = some (.int (if (mb (T' t.toNatClampNeg) ch).length ≤ 12 then nI (mb (T' t.toNatClampNeg) ch).length else -2)) ∧ m_at n h2 (if (mb (T' t.toNatClampNeg) ch).length ≤ 12 then va_up T' t.toNatClampNeg (mb (T' t.toNatClampNeg) ch) else T') [] pl so sc S lr [(5, nI (T' t.toNatClampNeg).length, nI ch.length, 0)] 0)) :
    ∃ v : Int32, r1 = some (.int v) ∧ r2 = some (.int v) ∧ RL n h2 := by
  obtain ⟨hT12, hsc, hc6, -⟩ := M.le
  rcases P1 with ⟨p1, p2, p3⟩ | ⟨p1, p2, l1, p3, p4, p5⟩
  · rcases P2 with ⟨q1, q2, q3⟩ | ⟨q1, -⟩
    · subst p3; subst q3
      exact ⟨-1, p2, q2, RL.mk X M mo_fr.rf R⟩
    · rw [p1] at q1; cases q1
  · rcases P2 with ⟨q1, -⟩ | ⟨-, q2, q3, q4⟩
    · rw [p1] at q1; cases q1
    obtain ⟨j, hj, ej⟩ := tb_ok p1
    have ej2 : t.toNatClampNeg = j := by rw [ej, nI_clamp (by omega)]
    rw [ej2] at p3 p5 q3 q4
    have hp : l1.Perm (mb (T' j) ch) := by
      rw [R.2.1.1, R.2.1.2] at p3
      exact p3.trans (mb_batch (R.1 j hj) ch)
    have el := hp.length_eq
    have eL : (T j).length + lp.length + ld.length = (T' j).length + ch.length := by
      have := pd_len ch
      rw [R.2.1.1, R.2.1.2, (R.1 j hj).length_eq]
      omega
    have h12 := hT12 j hj
    have hal := l_ap (n := (T' j).length + ch.length) (by omega)
    rw [eL, tk_id (by omega)] at p5
    rw [← el] at q3 q4
    have hR : ∀ U U' : Nat → List bg_T, (∀ t, t < 3 → (U t).Perm (U' t)) → RLp U U' [] [] pt sc S (ap_t ((T' j).length + ch.length)) [] pl so [(5, nI (T' j).length, nI ch.length, 0)] 0 := fun U U' hU => by
      refine ⟨hU, ⟨rfl, rfl⟩, R.2.2.1, R.2.2.2.1, ⟨fun s => if s = 0 then [] else ap_t ((T' j).length + ch.length), rfl, fun s hs => ?_, ?_⟩, by omega⟩
      · have e0 : s = 0 := by simp at hs; exact hs
        subst e0
        exact ⟨_, ap_t ((T' j).length + ch.length), rfl, ⟨5, (T' j).length, ch.length, 0, rfl, by omega, by omega, Or.inr (Or.inr (Or.inr (Or.inr (Or.inr ⟨rfl, rfl⟩))))⟩, rfl⟩
      · exact (List.append_nil _).symm
    refine ⟨_, p4, q3, ?_⟩
    by_cases hle : l1.length ≤ 12
    · rw [if_pos hle] at p5 q4
      exact RL.mk p5 q4 q2 (hR _ _ (perm_up R.1 hp))
    · rw [if_neg hle] at p5 q4
      exact RL.mk p5 q4 q2 (hR _ _ R.1)
end STEP
