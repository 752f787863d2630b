/-! The store: its accesses. -/
def so_rd (p : Nat) : Int32 := nI (2 * p)
def so_wr (p : Nat) : Int32 := nI (2 * p + 1)
theorem so_rd_eq (p : Nat) : 2 * nI p = so_rd p := by
  show nI 2 * nI p = nI (2 * p)
  rw [pk_mul]
theorem so_wr_eq (p : Nat) : 2 * nI p + 1 = so_wr p := by
  rw [so_rd_eq]
  show nI (2 * p) + 1 = nI (2 * p + 1)
  rw [nI_succ]
theorem so_id (ix : Nat → Nat) (p : Nat) : va_up ix p (ix p) = ix := by
  funext k
  by_cases h : k = p <;> simp [va_up, h]
def so_nth (ts : List Int32) (k : Int32) : Int32 := if k < 0 ∨ nI ts.length ≤ k then -1 else match ts[k.toNatClampNeg]? with
  | some t => t
  | none => -1
theorem so_nth_at {ts : List Int32} {j : Nat} {t : Int32} (hg : ts[j]? = some t) (hj : j < ts.length) (hl : ts.length < 2 ^ 31) : so_nth ts (nI j) = t := by
  unfold so_nth
  rw [if_neg, nI_clamp (by omega), hg]
  rintro (z | z)
  · exact nI_pos (by omega) z
  · exact nI_ge hj hl z
theorem so_note {n : Nat} {h : pm_H} {ix : Nat → Nat} {R : Nat → rw_T} {ts : List Int32} {tf : Nat → Int32} (H : so_at n h ix R ts) (g17 : h 17 = pm_I tInt 14688 tf) (gtf : ∀ i, i < ts.length → ts[i]? = some (tf i)) (hlt : ts.length < 14688) (x : Int32) : so_at n (va_up (va_up h 17 (pm_I tInt 14688 (upd tf ts.length x))) 15 (pm_O cStore [.ref 16, .ref 17, .int (nI ts.length + 1)])) ix R (ts ++ [x]) := by
  obtain ⟨g0, g15, ⟨pf, g16, gpf⟩, -, gix, gR, gts⟩ := H
  refine ⟨g0, ?_, ⟨pf, pm_ne (by decide) (pm_ne (by decide) g16), gpf⟩, ⟨upd tf ts.length x, pm_ne (by decide) (pm_same _ _ _), fun i hi => ?_⟩, gix, fun j hj => ⟨pm_ne (by omega) (pm_ne (by omega) (gR j hj).1), (gR j hj).2⟩, by rw [List.length_append]; exact hlt⟩
  · rw [pm_same, List.length_append, ← nI_succ]; rfl
  · rw [List.length_append, List.length_singleton] at hi
    by_cases e : i = ts.length
    · subst e
      rw [List.getElem?_append_right (Nat.le_refl _), Nat.sub_self]
      simp [upd]
    · rw [List.getElem?_append_left (by omega), gtf i (by omega)]
      simp [upd, e]
theorem so_put {n : Nat} {h : pm_H} {ix : Nat → Nat} {R : Nat → rw_T} {ts : List Int32} {pf : Nat → Option Nat} (H : so_at n h ix R ts) (g16 : h 16 = pm_R tRow 76 pf) (gpf : ∀ i, i < 76 → pf i = some (18 + ix i)) {p j : Nat} (hp : p < 76) (hj : j < 76) : so_at n (va_up h 16 (pm_R tRow 76 (va_up pf p (some (18 + j))))) (va_up ix p j) R ts := by
  obtain ⟨g0, g15, -, ⟨tf, g17, gtf⟩, gix, gR, gts⟩ := H
  refine ⟨g0, pm_ne (by decide) g15, ⟨_, pm_same _ _ _, fun i hi => ?_⟩, ⟨tf, pm_ne (by decide) g17, gtf⟩, fun i hi => ?_, fun k hk => ⟨pm_ne (by omega) (gR k hk).1, (gR k hk).2⟩, gts⟩
  · by_cases e : i = p
    · subst e; simp [va_up]
    · simp [va_up, e, gpf i hi]
  · by_cases e : i = p
    · subst e; simp [va_up, hj]
    · simp [va_up, e, gix i hi]
set_option maxRecDepth 100000 in
theorem c_note (l : Launch) {n : Nat} {h : pm_H} {ix : Nat → Nat} {R : Nat → rw_T} {ts : List Int32} (H : so_at n h ix R ts) (x : Int32) : bM0 l yX5_note cX5_note 2 none 0 [.ref 15, .int x] n h (fun r h' => r = none ∧ so_at n h' ix R (tk (ts ++ [x])) ∧ (∀ q, q ≠ 15 → q ≠ 17 → h' q = h q)) := by
  refine pm_enter rfl (Nat.le_of_ble_eq_true rfl) (fun G K Z => ?_)
  have H0 := H
  obtain ⟨g0, g15, ⟨pf, g16, gpf⟩, ⟨tf, g17, gtf⟩, gix, gR, gts⟩ := H
  refine pm_aload_n K dX5_note_0 (q := 1) rfl rfl rfl ?_
  refine pm_get K inX5 rfl (k := 2) (by decide) wlX5_21 rfl (by omega) g15 rfl dX5_note_1 (q := 4) rfl ?_
  refine pm_sipush (v := nI 14688) K dX5_note_4 (q := 7) rfl (by decide) ?_
  refine pm_icmp_ge K dX5_note_7 (tgt := 30) (q := 10) rfl rfl (fun hx => ?_) (fun hx => ?_)
  · have hge : 14688 ≤ ts.length := (nI_leI (by decide) (by omega)).mp hx
    exact pm_vret Z dX5_note_30 rfl (Nat.le_of_ble_eq_true rfl) (Nat.le_of_ble_eq_true rfl) ⟨rfl, ⟨rfl, by rw [show tk (ts ++ [x]) = ts by unfold tk; rw [List.take_append_of_le_length hge, List.take_of_length_le (by omega)]]; exact H0, fun _ _ _ => rfl⟩⟩
  · have hlt : ts.length < 14688 := Nat.lt_of_not_le (fun z => hx ((nI_leI (by decide) (by omega)).mpr z))
    refine pm_aload_n K dX5_note_10 (q := 11) rfl rfl rfl ?_
    refine pm_get K inX5 rfl (k := 1) (by decide) wlX5_17 rfl (by omega) g15 rfl dX5_note_11 (q := 14) rfl ?_
    refine pm_aload_n K dX5_note_14 (q := 15) rfl rfl rfl ?_
    refine pm_get K inX5 rfl (k := 2) (by decide) wlX5_21 rfl (by omega) g15 rfl dX5_note_15 (q := 18) rfl ?_
    refine pm_iload_n K dX5_note_18 (q := 19) rfl rfl rfl ?_
    refine pm_iastN K (by omega) g17 rfl hlt (by decide) dX5_note_19 (q := 20) rfl ?_
    refine pm_aload_n K dX5_note_20 (q := 21) rfl rfl rfl ?_
    refine pm_dup K dX5_note_21 (q := 22) rfl ?_
    refine pm_get K inX5 rfl (k := 2) (by decide) wlX5_21 rfl (by omega) (pm_ne (by decide) g15) rfl dX5_note_22 (q := 25) rfl ?_
    refine pm_ic1 K dX5_note_25 (q := 26) rfl ?_
    refine pm_iadd K dX5_note_26 (q := 27) rfl ?_
    refine pm_put (fs' := [.ref 16, .ref 17, .int (nI ts.length + 1)]) K inX5 tyX5 tyX5_ok nmX5 rfl (k := 2) (by decide) wlX5_21 rfl rfl (fun _ => ⟨rfl, rfl⟩) (by omega) (pm_ne (by decide) g15) (Nat.le_of_ble_eq_true rfl) rfl dX5_note_27 (q := 30) rfl ?_
    exact pm_vret Z dX5_note_30 rfl (Nat.le_of_ble_eq_true rfl) (Nat.le_of_ble_eq_true rfl) ⟨rfl, ⟨rfl, by rw [show tk (ts ++ [x]) = ts ++ [x] by unfold tk; exact List.take_of_length_le (by rw [List.length_append]; exact hlt)]; exact so_note H0 g17 gtf hlt x, fun q a b => by rw [pm_ne a rfl, pm_ne b rfl]⟩⟩
set_option maxRecDepth 100000 in
theorem c_at (l : Launch) {n : Nat} {h : pm_H} {ix : Nat → Nat} {R : Nat → rw_T} {ts : List Int32} (H : so_at n h ix R ts) {p : Nat} (hp : p < 76) : bM0 l yX5_at cX5_at 2 (some (.object "BlindTables$Row")) 0 [.ref 15, .int (nI p)] n h (fun r h' => r = some (.ref (18 + ix p)) ∧ h' = h) := by
  refine pm_enter rfl (Nat.le_of_ble_eq_true rfl) (fun G K Z => ?_)
  obtain ⟨g0, g15, ⟨pf, g16, gpf⟩, ⟨tf, g17, gtf⟩, gix, gR, gts⟩ := H
  refine pm_aload_n K dX5_at_0 (q := 1) rfl rfl rfl ?_
  refine pm_get K inX5 rfl (k := 0) (by decide) wlX5_13 rfl (by omega) g15 rfl dX5_at_1 (q := 4) rfl ?_
  refine pm_iload_n K dX5_at_4 (q := 5) rfl rfl rfl ?_
  refine pm_if_lt K dX5_at_5 (tgt := 18) (q := 8) rfl rfl (fun z => absurd z (nI_pos (by omega))) (fun _ => ?_)
  refine pm_iload_n K dX5_at_8 (q := 9) rfl rfl rfl ?_
  refine pm_bipush (v := nI 76) K dX5_at_9 (q := 11) rfl (by decide) ?_
  refine pm_icmp_ge K dX5_at_11 (tgt := 18) (q := 14) rfl rfl (fun z => absurd z (nI_ge hp (by decide))) (fun _ => ?_)
  refine pm_iload_n K dX5_at_14 (q := 15) rfl rfl rfl ?_
  refine pm_goto K dX5_at_15 (q := 19) rfl ?_
  refine pm_aaldN K (by omega) g16 rfl hp (by decide) (gpf p hp) dX5_at_19 (q := 20) rfl ?_
  exact pm_aret Z dX5_at_20 rfl (Nat.le_of_ble_eq_true rfl) (Nat.le_of_ble_eq_true rfl) ⟨rfl, ⟨rfl, rfl⟩⟩
set_option maxRecDepth 100000 in
theorem c_read (l : Launch) {n : Nat} {h : pm_H} {ix : Nat → Nat} {R : Nat → rw_T} {ts : List Int32} (H : so_at n h ix R ts) {p : Nat} (hp : p < 76) : bM0 l yX5_read cX5_read 2 (some (.object "BlindTables$Row")) 1 [.ref 15, .int (nI p)] n h (fun r h' => r = some (.ref (18 + ix p)) ∧ so_at n h' ix R (tk (ts ++ [so_rd p])) ∧ (∀ q, q ≠ 15 → q ≠ 17 → h' q = h q)) := by
  refine pm_enter rfl (Nat.le_of_ble_eq_true rfl) (fun G K Z => ?_)
  refine pm_aload_n K dX5_read_0 (q := 1) rfl rfl rfl ?_
  refine pm_ic2 K dX5_read_1 (q := 2) rfl ?_
  refine pm_iload_n K dX5_read_2 (q := 3) rfl rfl rfl ?_
  refine pm_imul K dX5_read_3 (q := 4) rfl ?_
  refine pm_callV0 K gw_ok wcX5_26 (c_note l H (2 * nI p)) rfl (by have := H.1; omega) H.2.1 rfl rfl (Nat.le_of_ble_eq_true rfl) (by decide) dX5_read_4 (q := 7) rfl (fun r1 h1 hp => ?_)
  obtain ⟨rfl, H1, F1⟩ := hp
  rw [so_rd_eq] at H1
  refine pm_aload_n K dX5_read_7 (q := 8) rfl rfl rfl ?_
  refine pm_iload_n K dX5_read_8 (q := 9) rfl rfl rfl ?_
  refine pm_callV0 K gw_ok wcX5_30 (c_at l H1 hp) rfl (by have := H1.1; omega) H1.2.1 rfl rfl (Nat.le_of_ble_eq_true rfl) (by decide) dX5_read_9 (q := 12) rfl (fun r2 h2 hq2 => ?_)
  obtain ⟨rfl, rfl⟩ := hq2
  exact pm_aret Z dX5_read_12 rfl (Nat.le_of_ble_eq_true rfl) (Nat.le_of_ble_eq_true rfl) ⟨rfl, ⟨rfl, H1, F1⟩⟩
set_option maxRecDepth 100000 in
theorem c_write (l : Launch) {n : Nat} {h : pm_H} {ix : Nat → Nat} {R : Nat → rw_T} {ts : List Int32} (H : so_at n h ix R ts) {p j : Nat} (hp : p < 76) (hj : j < 76) : bM0 l yX5_write cX5_write 3 none 1 [.ref 15, .int (nI p), .ref (18 + j)] n h (fun r h' => r = none ∧ so_at n h' (va_up ix p j) R (tk (ts ++ [so_wr p])) ∧ (∀ q, q < 15 ∨ 17 < q → h' q = h q)) := by
  refine pm_enter rfl (Nat.le_of_ble_eq_true rfl) (fun G K Z => ?_)
  refine pm_aload_n K dX5_write_0 (q := 1) rfl rfl rfl ?_
  refine pm_ic2 K dX5_write_1 (q := 2) rfl ?_
  refine pm_iload_n K dX5_write_2 (q := 3) rfl rfl rfl ?_
  refine pm_imul K dX5_write_3 (q := 4) rfl ?_
  refine pm_ic1 K dX5_write_4 (q := 5) rfl ?_
  refine pm_iadd K dX5_write_5 (q := 6) rfl ?_
  refine pm_callV0 K gw_ok wcX5_26 (c_note l H (2 * nI p + 1)) rfl (by have := H.1; omega) H.2.1 rfl rfl (Nat.le_of_ble_eq_true rfl) (by decide) dX5_write_6 (q := 9) rfl (fun r2 h1 hq2 => ?_)
  obtain ⟨rfl, H, F1⟩ := hq2
  rw [so_wr_eq] at H
  have H1 := H
  obtain ⟨g0, g15, ⟨pf, g16, gpf⟩, ⟨tf, g17, gtf⟩, gix, gR, gts⟩ := H
  refine pm_iload_n K dX5_write_9 (q := 10) rfl rfl rfl ?_
  refine pm_if_lt K dX5_write_10 (tgt := 26) (q := 13) rfl rfl (fun z => absurd z (nI_pos (by omega))) (fun _ => ?_)
  refine pm_iload_n K dX5_write_13 (q := 14) rfl rfl rfl ?_
  refine pm_bipush (v := nI 76) K dX5_write_14 (q := 16) rfl (by decide) ?_
  refine pm_icmp_ge K dX5_write_16 (tgt := 26) (q := 19) rfl rfl (fun z => absurd z (nI_ge hp (by decide))) (fun _ => ?_)
  refine pm_aload_n K dX5_write_19 (q := 20) rfl rfl rfl ?_
  refine pm_get K inX5 rfl (k := 0) (by decide) wlX5_13 rfl (by omega) g15 rfl dX5_write_20 (q := 23) rfl ?_
  refine pm_iload_n K dX5_write_23 (q := 24) rfl rfl rfl ?_
  refine pm_aload_n K dX5_write_24 (q := 25) rfl rfl rfl ?_
  refine pm_aastN K (by omega) g16 (by omega) (gR j hj).1 rfl rfl hp (by decide) dX5_write_25 (q := 26) rfl ?_
  exact pm_vret Z dX5_write_26 rfl (Nat.le_of_ble_eq_true rfl) (Nat.le_of_ble_eq_true rfl) ⟨rfl, ⟨rfl, so_put H1 g16 gpf hp hj, fun q hq => by rw [pm_ne (by omega) rfl]; exact F1 q (by omega) (by omega)⟩⟩
set_option maxRecDepth 100000 in
theorem c_startTrace (l : Launch) {n : Nat} {h : pm_H} {ix : Nat → Nat} {R : Nat → rw_T} {ts : List Int32} (H : so_at n h ix R ts) : bM0 l yX5_startTrace cX5_startTrace 1 none 0 [.ref 15] n h (fun r h' => r = none ∧ so_at n h' ix R [] ∧ (∀ q, q ≠ 15 → h' q = h q)) := by
  refine pm_enter rfl (Nat.le_of_ble_eq_true rfl) (fun G K Z => ?_)
  obtain ⟨g0, g15, ⟨pf, g16, gpf⟩, ⟨tf, g17, gtf⟩, gix, gR, gts⟩ := H
  refine pm_aload_n K dX5_startTrace_0 (q := 1) rfl rfl rfl ?_
  refine pm_ic0 K dX5_startTrace_1 (q := 2) rfl ?_
  refine pm_put (fs' := [.ref 16, .ref 17, .int 0]) K inX5 tyX5 tyX5_ok nmX5 rfl (k := 2) (by decide) wlX5_21 rfl rfl (fun _ => ⟨rfl, rfl⟩) (by omega) g15 (Nat.le_of_ble_eq_true rfl) rfl dX5_startTrace_2 (q := 5) rfl ?_
  exact pm_vret Z dX5_startTrace_5 rfl (Nat.le_of_ble_eq_true rfl) (Nat.le_of_ble_eq_true rfl) ⟨rfl, ⟨rfl, ⟨g0, pm_same _ _ _, ⟨pf, pm_ne (by decide) g16, gpf⟩, ⟨tf, pm_ne (by decide) g17, fun i hi => absurd hi (Nat.not_lt_zero _)⟩, gix, fun j hj => ⟨pm_ne (by omega) (gR j hj).1, (gR j hj).2⟩, Nat.zero_le _⟩, fun q hq => pm_ne hq rfl⟩⟩
set_option maxRecDepth 100000 in
theorem c_notedAt (l : Launch) {n : Nat} {h : pm_H} {ix : Nat → Nat} {R : Nat → rw_T} {ts : List Int32} (H : so_at n h ix R ts) (k : Int32) : bM0 l yX5_notedAt cX5_notedAt 2 (some (.int)) 0 [.ref 15, .int k] n h (fun r h' => r = some (.int (so_nth ts k)) ∧ h' = h) := by
  refine pm_enter rfl (Nat.le_of_ble_eq_true rfl) (fun G K Z => ?_)
  obtain ⟨g0, g15, ⟨pf, g16, gpf⟩, ⟨tf, g17, gtf⟩, gix, gR, gts⟩ := H
  refine pm_iload_n K dX5_notedAt_0 (q := 1) rfl rfl rfl ?_
  refine pm_if_lt K dX5_notedAt_1 (tgt := 21) (q := 4) rfl rfl (fun ha => ?_) (fun ha => ?_)
  · refine pm_icm1 K dX5_notedAt_21 (q := 22) rfl ?_
    exact pm_iret Z dX5_notedAt_22 rfl rfl (Nat.le_of_ble_eq_true rfl) (Nat.le_of_ble_eq_true rfl) ⟨rfl, ⟨by rw [so_nth, if_pos (Or.inl ha)], rfl⟩⟩
  · refine pm_iload_n K dX5_notedAt_4 (q := 5) rfl rfl rfl ?_
    refine pm_aload_n K dX5_notedAt_5 (q := 6) rfl rfl rfl ?_
    refine pm_get K inX5 rfl (k := 2) (by decide) wlX5_21 rfl (by omega) g15 rfl dX5_notedAt_6 (q := 9) rfl ?_
    refine pm_icmp_ge K dX5_notedAt_9 (tgt := 21) (q := 12) rfl rfl (fun hb => ?_) (fun hb => ?_)
    · refine pm_icm1 K dX5_notedAt_21 (q := 22) rfl ?_
      exact pm_iret Z dX5_notedAt_22 rfl rfl (Nat.le_of_ble_eq_true rfl) (Nat.le_of_ble_eq_true rfl) ⟨rfl, ⟨by rw [so_nth, if_pos (Or.inr hb)], rfl⟩⟩
    · obtain ⟨j, hj, rfl⟩ := pk_j ha (Int32.not_le.mp hb) (by omega)
      have hg := gtf j hj
      refine pm_aload_n K dX5_notedAt_12 (q := 13) rfl rfl rfl ?_
      refine pm_get K inX5 rfl (k := 1) (by decide) wlX5_17 rfl (by omega) g15 rfl dX5_notedAt_13 (q := 16) rfl ?_
      refine pm_iload_n K dX5_notedAt_16 (q := 17) rfl rfl rfl ?_
      refine pm_ialdN K (by omega) g17 rfl (by omega) (by decide) dX5_notedAt_17 (q := 18) rfl ?_
      refine pm_goto K dX5_notedAt_18 (q := 22) rfl ?_
      exact pm_iret Z dX5_notedAt_22 rfl rfl (Nat.le_of_ble_eq_true rfl) (Nat.le_of_ble_eq_true rfl) ⟨rfl, ⟨congrArg (fun z => some (Value.int z)) (so_nth_at hg hj (by omega)).symm, rfl⟩⟩
set_option maxRecDepth 100000 in
theorem c_copy (l : Launch) {n : Nat} {h : pm_H} {ix : Nat → Nat} {R : Nat → rw_T} {ts : List Int32} (H : so_at n h ix R ts) {p q0 : Nat} (hp : p < 76) (hq : q0 < 76) (hne : ix q0 ≠ ix p) : bM0 l yX5_copy cX5_copy 5 none 2 [.ref 15, .int (nI p), .int (nI q0)] n h (fun r h' => r = none ∧ so_at n h' ix (va_up R (ix q0) (R (ix p))) (tk (ts ++ [so_rd p, so_wr q0])) ∧ so_fr h h') := by
  refine pm_enter rfl (Nat.le_of_ble_eq_true rfl) (fun G K Z => ?_)
  refine pm_aload_n K dX5_copy_0 (q := 1) rfl rfl rfl ?_
  refine pm_iload_n K dX5_copy_1 (q := 2) rfl rfl rfl ?_
  refine pm_callV0 K gw_ok wcX5_34 (c_read l H hp) rfl (by have := H.1; omega) H.2.1 rfl rfl (Nat.le_of_ble_eq_true rfl) (by decide) dX5_copy_2 (q := 5) rfl (fun r1 h1 hp => ?_)
  obtain ⟨rfl, H1, F1⟩ := hp
  refine pm_astore_n K dX5_copy_5 (q := 6) rfl rfl (by decide) rfl ?_
  refine pm_aload_n K dX5_copy_6 (q := 7) rfl rfl rfl ?_
  refine pm_iload_n K dX5_copy_7 (q := 8) rfl rfl rfl ?_
  refine pm_callV0 K gw_ok wcX5_30 (c_at l H1 hq) rfl (by have := H1.1; omega) H1.2.1 rfl rfl (Nat.le_of_ble_eq_true rfl) (by decide) dX5_copy_8 (q := 11) rfl (fun r2 h2 hq2 => ?_)
  obtain ⟨rfl, rfl⟩ := hq2
  have g0 := H1.1
  have gx := H1.2.2.2.2.1 q0 hq
  have gy := H1.2.2.2.2.1 p hp
  refine pm_astore K dX5_copy_11 (q := 13) rfl (by decide) rfl ?_
  refine pm_aload K dX5_copy_13 (q := 15) rfl rfl ?_
  refine pm_aload_n K dX5_copy_15 (q := 16) rfl rfl rfl ?_
  refine pm_callV0 K gw_ok wcX5_37 (c_become l (by omega) (H1.row gx) (by omega) (H1.row gy) (by omega) (H1.2.2.2.2.2.1 _ gy).2) rfl (by omega) (H1.row gx) rfl rfl (Nat.le_of_ble_eq_true rfl) (by decide) dX5_copy_16 (q := 19) rfl (fun r3 h3 hp => ?_)
  obtain ⟨rfl, rfl⟩ := hp
  have H2 := H1.mod gx (f := R (ix p)) (H1.2.2.2.2.2.1 _ gy).2
  refine pm_aload_n K dX5_copy_19 (q := 20) rfl rfl rfl ?_
  refine pm_iload_n K dX5_copy_20 (q := 21) rfl rfl rfl ?_
  refine pm_aload K dX5_copy_21 (q := 23) rfl rfl ?_
  refine pm_callV0 K gw_ok wcX5_41 (c_write l H2 hq gx) rfl (by have := H2.1; omega) H2.2.1 rfl rfl (Nat.le_of_ble_eq_true rfl) (by decide) dX5_copy_23 (q := 26) rfl (fun r4 h4 hp => ?_)
  obtain ⟨rfl, H3, F3⟩ := hp
  rw [tk_app, List.append_assoc, so_id] at H3
  exact pm_vret Z dX5_copy_26 rfl (Nat.le_of_ble_eq_true rfl) (Nat.le_of_ble_eq_true rfl) ⟨rfl, ⟨rfl, H3, fun q hq => by rw [F3 q (by omega), pm_ne (by omega) rfl, F1 q (by omega) (by omega)]⟩⟩
