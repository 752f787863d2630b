/-! The law. -/
def R_law : String := "BlindTablesLaw"
def lw_P (b : Addr) (xs : List Int32) (args : Array Value) (s : State) : Prop := args = #[.ref b] ∧ s.IntsAt b xs ∧ xs.length ≤ 2560 ∧ (Jvm.Cond.and given_1 narrow_1).before args s = true
def lw_Q (_ : Array Value) (s : State) (o : Outcome) (t : State) : Prop := o = .returned (some (.int 1)) ∧ Framed s o t [] 600000 7302250
def lw_Z (below : List Frame) (a : Array Value) (s : State) : State → Prop := fun t => ∃ o, t.status = .running ∧ Ended t below o ∧ lw_Q a s o t
/-- the law's own end, with 1 on the stack, nothing written that was there before, its room as the claim has it -/
theorem lw_ret {p : Program} {l : Launch} {e : Env} {s : State} {m : MethodId} {below : List Frame} {meth : Method} {c : Code} {b : Nat} (hx : p.tables.exec = Jvm.exec) (hb : c.code = code) (hr : meth.sig.returnType = ret) (hlocks : meth.locks = false) {pc : Nat} {H : Heap} {ls : Array Slot} (hdg : decode code pc = .ok (.ireturn, 1)) : W p l e room_1 s m #[Value.ref b] below meth c H [] 600000 7302250 (lw_Z below #[Value.ref b] s) (F0 m pc ls [.int 1]) := by
  intro T hT X
  obtain ⟨fs, hret, hrun, hended, hW, hframe⟩ := X.leave (v := some (.int 1)) (hlocks := hlocks) (fun h => by rw [hr] at h; cases h)
  have hmeth' : T.vm.method? m = some meth := X.method'
  refine ⟨T.setFrames fs, ?_, .returned (some (.int 1)), hrun, hended, rfl, ⟨_, rfl⟩, hW, hframe⟩
  jvm_step X.here [X.here.top, hx, hb, hdg, hmeth', hr, ret, narrow_b1]
  (try refine ⟨rfl, ?_⟩); (try refine ⟨rfl, ?_⟩)
  first | (intro acts; rw [hret _ acts rfl rfl rfl]) | rw [hret _ _ rfl rfl rfl]
  exact Steps.refl _
/-- what holds at the law's entry: the machine, the code, the tables' words (any of lw_tbl by 'hts w (by decide +kernel)'), the script of L ints xs at the cell b, what the Statement gives of the start (any of its parts by flat_of_before) -/
def lw_At (p : Program) (s : State) (m : MethodId) (meth : Method) (c : Code) (b L : Nat) (xs : Nat → Int32) : Prop :=
  p.tables.exec = Jvm.exec ∧ c.code = code ∧ meth.sig.returnType = ret ∧ c.maxLocals = 4 ∧ s.vm.findClass R_law = some m.cls ∧ (∀ w ∈ lw_tbl, w.before #[Value.ref b] s = true) ∧ va_X b L xs s s.heap ∧ b < s.heap.size ∧ meth.locks = false ∧ (Jvm.Cond.and given_1 narrow_1).before #[Value.ref b] s = true
def lwK (l : Launch) (b L : Nat) (xs : Nat → Int32) (G : pm_Gt) : Prop :=
  ∃ (p : Program) (e : Env) (s : State) (m : MethodId) (below : List Frame) (meth : Method) (c : Code) (D : va_G) (dA : Nat → ClassId) (ad : Nat → Nat), pm_X p s m #[Value.ref b] meth c bt_cl bt_tl gw bt_nw D dA RXL code 4 ret (fun q => s.heap.size ≤ q) ∧ ad pm_big = b ∧ va_X b L xs s s.heap ∧ b < s.heap.size ∧ G = pm_G p l e room_1 s m #[Value.ref b] below meth c (lw_Z below #[Value.ref b] s) bt_cl D dA (fun q => s.heap.size ≤ q) ad 4
section LWK
variable {l : Launch} {b L : Nat} {xs : Nat → Int32} {G : pm_Gt} {cells slots pc q n : Nat} {ls : List (Option Value)} {st : List Value} {h : pm_H}
theorem lwK.k (H : lwK l b L xs G) : ∃ nm, pm_K l bt_cl bt_tl gw bt_nw RXL nm code 4 ret room_1 G := by
  obtain ⟨p, e, s, m, below, meth, c, D, dA, ad, X, -, -, -, rfl⟩ := H
  exact ⟨meth.name, p, e, s, m, _, below, meth, c, _, D, dA, _, ad, X, rfl, rfl⟩
theorem lw_slen (H : lwK l b L xs G) (d : decode code pc = .ok (.arraylength, 1)) (hq : pc + 1 = q) (kk : G cells slots q ls (.int (nI L) :: st) n h) : G cells slots pc ls (.ref pm_big :: st) n h := by
  obtain ⟨p, e, s, m, below, meth, c, D, dA, ad, X, had, hX, hbl, rfl⟩ := H
  subst hq
  intro H locs la hS hL
  have hk := kk H locs la hS hL
  rw [List.map_cons, pm_r_ref, had]
  exact va_slen X.1 X.2.1 hX hbl (Nat.not_le.mpr hbl) hS.2.2.1 d hk
theorem lw_sld (H : lwK l b L xs G) {j : Nat} (hj : j < L) (hLb : L < 2 ^ 31) (d : decode code pc = .ok (.iaload, 1)) (hq : pc + 1 = q) (kk : G cells slots q ls (.int (xs j) :: st) n h) : G cells slots pc ls (.int (nI j) :: .ref pm_big :: st) n h := by
  obtain ⟨p, e, s, m, below, meth, c, D, dA, ad, X, had, hX, hbl, rfl⟩ := H
  subst hq
  intro H locs la hS hL
  have hk := kk H locs la hS hL
  have e1 : xs j = xs (nI j).toNatClampNeg := by rw [nI_clamp (by omega)]
  rw [e1] at hk
  rw [List.map_cons, List.map_cons, pm_r_ref, had]
  exact va_sld X.1 X.2.1 hX hbl (Nat.not_le.mpr hbl) hS.2.2.1 (vp_in_nI hj hLb) d hk
theorem lw_lret (H : lwK l b L xs G) (hc : cells ≤ 600000) (hs : slots ≤ 7302250) (d : decode code pc = .ok (.ireturn, 1)) : G cells slots pc ls [.int 1] n h := by
  obtain ⟨p, e, s, m, below, meth, c, D, dA, ad, X, had, hX, hbl, rfl⟩ := H
  intro H locs la hS hL
  obtain ⟨hx, hb, -, -, -, -, -, hret, hlocks, -⟩ := X
  exact va_forget (fun q hq => hS.2.2.1.2.2 q hq) (W.widen hc hs (lw_ret hx hb hret hlocks d))
end LWK
theorem lw_gt {i L : Nat} (hL : L ≤ 2560) (hi : i ≤ L) : nI L - 5 < nI i ↔ L < i + 5 := by
  have e1 : (nI L - 5).toInt = (L : Int) - 5 := pk_sub_toInt (b := 5) (by omega) (by decide)
  have e2 : (nI i).toInt = (i : Int) := nI_toInt (by omega)
  rw [Int32.lt_iff_toInt_lt, e1, e2]
  omega
theorem m_at.c {n : Nat} {h : pm_H} {T : Nat → List bg_T} {ch : List (Int32 × bg_T)} {pl : Bool} {so : Int32} {sc : Nat} {S : Nat → Nat → Int32} {lr : List bg_T} {pa : List (Int32 × Int32 × Int32 × Int32)} {la : Nat} (X : m_at n h T ch pl so sc S lr pa la) : ∃ fs, h 112 = pm_O cMod fs := by
  obtain ⟨g, A, M, -⟩ := X
  exact ⟨_, M.2.1⟩
theorem RL_0 {h : pm_H} (X : x_at 128 h (fun _ => []) [] [] [] (-1) 0 (fun _ _ => 0) []) (M : mo_at 128 h (fun _ => 0) (fun _ _ => 0)) : RL 128 h := by
  refine ⟨_, fun _ => [], _, _, _, _, _, _, _, [], false, 0, [], 0, X, ⟨_, _, M, fun t _ => ⟨Nat.zero_le _, rfl, fun k hk => absurd hk (Nat.not_lt_zero _)⟩, rfl, rfl, ⟨rfl, by decide⟩, fun s hs => absurd hs (Nat.not_lt_zero _), ⟨rfl, by decide, fun k hk => absurd hk (Nat.not_lt_zero _)⟩, ⟨rfl, by decide, fun k hk => absurd hk (Nat.not_lt_zero _)⟩, ⟨rfl, by decide, fun k hk => absurd hk (Nat.not_lt_zero _)⟩, ⟨rfl, by decide⟩⟩, fun t _ => List.Perm.refl _, ⟨rfl, rfl⟩, Or.inl ⟨rfl, rfl⟩, fun s hs => absurd hs (Nat.not_lt_zero _), ⟨fun _ => [], rfl, fun s hs => absurd hs (Nat.not_lt_zero _), rfl⟩, by decide⟩
theorem tb_1 {w : Cond} {j : Nat} (h : tables_1_1[j]? = some w) : w ∈ lw_tbl := List.mem_append_right _ (List.mem_append_left _ (List.mem_of_getElem? h))
theorem ar_c {ty : FieldType} {args : Array Value} {s : State} (h : (Cond.arrayClass ty).before args s = true) (hr : ∀ (U : State) (cA : ClassId), U.vm.findClass ("[" ++ ty.toString) = some cA → va_RA U cA ty) : ∃ cA, ArrOfT s cA ty ∧ va_RA s cA ty := by
  obtain ⟨c, k, comp, h1, h2, h3⟩ := Cond.arrayClass_spec h
  exact ⟨c, fun n z => ⟨(fun k h => by cases h), k, h2, comp, h3⟩, hr s c h1⟩
theorem ar_o {C : String} {args : Array Value} {s : State} (h : (Cond.arrayOver (.object C)).before args s = true) : ∃ cA, ArrOfT s cA (.object C) ∧ va_RA s cA (.object C) := by
  obtain ⟨comp, c, k, h1, h2, h3, h4, h5⟩ := Cond.arrayOver_spec h
  exact ⟨c, fun n z => ⟨(fun k h => by cases h), k, h3, comp, h4⟩, k, comp, h3, h4, h1, h5⟩
set_option maxRecDepth 100000 in
theorem lw_c0 (l : Launch) {b L : Nat} {xs : Nat → Int32} {G : pm_Gt} (H : lwK l b L xs G) {h : pm_H} (R0 : RL 128 h) {i : Nat} (hi : i + 5 ≤ L) (hL : L ≤ 2560) (kk : ∀ h2, RL 128 h2 → G 128 16444 580 [some (.ref pm_big), some (.ref 0), some (.ref 112), some (.int (nI i))] [] 128 h2) : G 128 16444 112 [some (.ref pm_big), some (.ref 0), some (.ref 112), some (.int (nI i))] [] 128 h := by
  obtain ⟨nm, K⟩ := H.k
  obtain ⟨T, T2, lp, ld, lr, pt, sc, S, ts, ch, pl, so, pa, la, X, M, R⟩ := R0
  obtain ⟨hT12, hsc, hc6, -⟩ := M.le
  refine pm_aload_n K dXL_law_112 (q := 113) rfl rfl rfl ?_
  refine pm_aload_n K dXL_law_113 (q := 114) rfl rfl rfl ?_
  refine pm_iload_n K dXL_law_114 (q := 115) rfl rfl rfl ?_
  refine pm_ic1 K dXL_law_115 (q := 116) rfl ?_
  refine pm_iadd K dXL_law_116 (q := 117) rfl ?_
  refine pm_top (y := nI (i + 1)) (kadd (a := i) (b := 1) rfl rfl) ?_
  refine lw_sld H (j := i + 1) (by omega) (by omega) dXL_law_117 (q := 118) rfl ?_
  refine pm_aload_n K dXL_law_118 (q := 119) rfl rfl rfl ?_
  refine pm_iload_n K dXL_law_119 (q := 120) rfl rfl rfl ?_
  refine pm_ic2 K dXL_law_120 (q := 121) rfl ?_
  refine pm_iadd K dXL_law_121 (q := 122) rfl ?_
  refine pm_top (y := nI (i + 2)) (kadd (a := i) (b := 2) rfl rfl) ?_
  refine lw_sld H (j := i + 2) (by omega) (by omega) dXL_law_122 (q := 123) rfl ?_
  refine pm_aload_n K dXL_law_123 (q := 124) rfl rfl rfl ?_
  refine pm_iload_n K dXL_law_124 (q := 125) rfl rfl rfl ?_
  refine pm_ic3 K dXL_law_125 (q := 126) rfl ?_
  refine pm_iadd K dXL_law_126 (q := 127) rfl ?_
  refine pm_top (y := nI (i + 3)) (kadd (a := i) (b := 3) rfl rfl) ?_
  refine lw_sld H (j := i + 3) (by omega) (by omega) dXL_law_127 (q := 128) rfl ?_
  refine pm_aload_n K dXL_law_128 (q := 129) rfl rfl rfl ?_
  refine pm_iload_n K dXL_law_129 (q := 130) rfl rfl rfl ?_
  refine pm_ic4 K dXL_law_130 (q := 131) rfl ?_
  refine pm_iadd K dXL_law_131 (q := 132) rfl ?_
  refine pm_top (y := nI (i + 4)) (kadd (a := i) (b := 4) rfl rfl) ?_
  refine lw_sld H (j := i + 4) (by omega) (by omega) dXL_law_132 (q := 133) rfl ?_
  refine pm_callV0 K gw_ok wcXL_13 (c_add l X (xs (i + 1)) (xs (i + 2)) (xs (i + 3)) (xs (i + 4))) rfl (by decide) X.2.1 rfl rfl (Nat.le_of_ble_eq_true rfl) (by decide) dXL_law_133 (q := 136) rfl (fun r1 h1 hp => ?_)
  obtain ⟨rfl, X1, F1⟩ := hp
  have M1 := M.y F1
  obtain ⟨fs, hfs⟩ := M1.c
  refine pm_aload_n K dXL_law_136 (q := 137) rfl rfl rfl ?_
  refine pm_aload_n K dXL_law_137 (q := 138) rfl rfl rfl ?_
  refine pm_iload_n K dXL_law_138 (q := 139) rfl rfl rfl ?_
  refine pm_ic1 K dXL_law_139 (q := 140) rfl ?_
  refine pm_iadd K dXL_law_140 (q := 141) rfl ?_
  refine pm_top (y := nI (i + 1)) (kadd (a := i) (b := 1) rfl rfl) ?_
  refine lw_sld H (j := i + 1) (by omega) (by omega) dXL_law_141 (q := 142) rfl ?_
  refine pm_aload_n K dXL_law_142 (q := 143) rfl rfl rfl ?_
  refine pm_iload_n K dXL_law_143 (q := 144) rfl rfl rfl ?_
  refine pm_ic2 K dXL_law_144 (q := 145) rfl ?_
  refine pm_iadd K dXL_law_145 (q := 146) rfl ?_
  refine pm_top (y := nI (i + 2)) (kadd (a := i) (b := 2) rfl rfl) ?_
  refine lw_sld H (j := i + 2) (by omega) (by omega) dXL_law_146 (q := 147) rfl ?_
  refine pm_aload_n K dXL_law_147 (q := 148) rfl rfl rfl ?_
  refine pm_iload_n K dXL_law_148 (q := 149) rfl rfl rfl ?_
  refine pm_ic3 K dXL_law_149 (q := 150) rfl ?_
  refine pm_iadd K dXL_law_150 (q := 151) rfl ?_
  refine pm_top (y := nI (i + 3)) (kadd (a := i) (b := 3) rfl rfl) ?_
  refine lw_sld H (j := i + 3) (by omega) (by omega) dXL_law_151 (q := 152) rfl ?_
  refine pm_aload_n K dXL_law_152 (q := 153) rfl rfl rfl ?_
  refine pm_iload_n K dXL_law_153 (q := 154) rfl rfl rfl ?_
  refine pm_ic4 K dXL_law_154 (q := 155) rfl ?_
  refine pm_iadd K dXL_law_155 (q := 156) rfl ?_
  refine pm_top (y := nI (i + 4)) (kadd (a := i) (b := 4) rfl rfl) ?_
  refine lw_sld H (j := i + 4) (by omega) (by omega) dXL_law_156 (q := 157) rfl ?_
  refine pm_callV0 K gw_ok wcXL_17 (m_add l M1 (xs (i + 1)) (xs (i + 2)) (xs (i + 3)) (xs (i + 4))) rfl (by decide) hfs rfl rfl (Nat.le_of_ble_eq_true rfl) (by decide) dXL_law_157 (q := 160) rfl (fun r2 h2 hp => ?_)
  obtain ⟨rfl, M2, F2⟩ := hp
  refine pm_icmp_eq K dXL_law_160 (tgt := 580) (q := 163) rfl rfl (fun _ => ?_) (fun z => absurd (congrArg b2i (R.add1 _)) z)
  exact kk _ (RL.mk X1 M2 F2 (R.add (xs (i + 1)) (xs (i + 2)) (xs (i + 3)) (xs (i + 4))))
set_option maxRecDepth 100000 in
theorem lw_c1 (l : Launch) {b L : Nat} {xs : Nat → Int32} {G : pm_Gt} (H : lwK l b L xs G) {h : pm_H} (R0 : RL 128 h) {i : Nat} (hi : i + 5 ≤ L) (hL : L ≤ 2560) (kk : ∀ h2, RL 128 h2 → G 128 16444 580 [some (.ref pm_big), some (.ref 0), some (.ref 112), some (.int (nI i))] [] 128 h2) : G 128 16444 165 [some (.ref pm_big), some (.ref 0), some (.ref 112), some (.int (nI i))] [] 128 h := by
  obtain ⟨nm, K⟩ := H.k
  obtain ⟨T, T2, lp, ld, lr, pt, sc, S, ts, ch, pl, so, pa, la, X, M, R⟩ := R0
  obtain ⟨hT12, hsc, hc6, -⟩ := M.le
  refine pm_aload_n K dXL_law_165 (q := 166) rfl rfl rfl ?_
  refine pm_aload_n K dXL_law_166 (q := 167) rfl rfl rfl ?_
  refine pm_iload_n K dXL_law_167 (q := 168) rfl rfl rfl ?_
  refine pm_ic1 K dXL_law_168 (q := 169) rfl ?_
  refine pm_iadd K dXL_law_169 (q := 170) rfl ?_
  refine pm_top (y := nI (i + 1)) (kadd (a := i) (b := 1) rfl rfl) ?_
  refine lw_sld H (j := i + 1) (by omega) (by omega) dXL_law_170 (q := 171) rfl ?_
  refine pm_callV0 K gw_ok wcXL_18 (c_rows l X (xs (i + 1))) rfl (by decide) X.2.1 rfl rfl (Nat.le_of_ble_eq_true rfl) (by decide) dXL_law_171 (q := 174) rfl (fun r1 h1 hp => ?_)
  obtain ⟨rfl, rfl⟩ := hp
  have M1 := M
  obtain ⟨fs, hfs⟩ := M1.c
  refine pm_aload_n K dXL_law_174 (q := 175) rfl rfl rfl ?_
  refine pm_aload_n K dXL_law_175 (q := 176) rfl rfl rfl ?_
  refine pm_iload_n K dXL_law_176 (q := 177) rfl rfl rfl ?_
  refine pm_ic1 K dXL_law_177 (q := 178) rfl ?_
  refine pm_iadd K dXL_law_178 (q := 179) rfl ?_
  refine pm_top (y := nI (i + 1)) (kadd (a := i) (b := 1) rfl rfl) ?_
  refine lw_sld H (j := i + 1) (by omega) (by omega) dXL_law_179 (q := 180) rfl ?_
  refine pm_callV0 K gw_ok wcXL_22 (m_rows l M1 (xs (i + 1))) rfl (by decide) hfs rfl rfl (Nat.le_of_ble_eq_true rfl) (by decide) dXL_law_180 (q := 183) rfl (fun r2 h2 hp => ?_)
  obtain ⟨rfl, rfl⟩ := hp
  refine pm_icmp_eq K dXL_law_183 (tgt := 580) (q := 186) rfl rfl (fun _ => ?_) (fun z => absurd (R.rows _) z)
  exact kk _ (RL.mk X M1 mo_fr.rf R)
set_option maxRecDepth 100000 in
theorem lw_c2 (l : Launch) {b L : Nat} {xs : Nat → Int32} {G : pm_Gt} (H : lwK l b L xs G) {h : pm_H} (R0 : RL 128 h) {i : Nat} (hi : i + 5 ≤ L) (hL : L ≤ 2560) (kk : ∀ h2, RL 128 h2 → G 128 16444 580 [some (.ref pm_big), some (.ref 0), some (.ref 112), some (.int (nI i))] [] 128 h2) : G 128 16444 188 [some (.ref pm_big), some (.ref 0), some (.ref 112), some (.int (nI i))] [] 128 h := by
  obtain ⟨nm, K⟩ := H.k
  obtain ⟨T, T2, lp, ld, lr, pt, sc, S, ts, ch, pl, so, pa, la, X, M, R⟩ := R0
  obtain ⟨hT12, hsc, hc6, -⟩ := M.le
  refine pm_aload_n K dXL_law_188 (q := 189) rfl rfl rfl ?_
  refine pm_aload_n K dXL_law_189 (q := 190) rfl rfl rfl ?_
  refine pm_iload_n K dXL_law_190 (q := 191) rfl rfl rfl ?_
  refine pm_ic1 K dXL_law_191 (q := 192) rfl ?_
  refine pm_iadd K dXL_law_192 (q := 193) rfl ?_
  refine pm_top (y := nI (i + 1)) (kadd (a := i) (b := 1) rfl rfl) ?_
  refine lw_sld H (j := i + 1) (by omega) (by omega) dXL_law_193 (q := 194) rfl ?_
  refine pm_callV0 K gw_ok wcXL_23 (c_plan l X (xs (i + 1))) rfl (by decide) X.2.1 rfl rfl (Nat.le_of_ble_eq_true rfl) (by decide) dXL_law_194 (q := 197) rfl (fun r1 h1 hp => ?_)
  obtain ⟨rfl, X1, F1⟩ := hp
  have M1 := M.y F1
  obtain ⟨fs, hfs⟩ := M1.c
  refine pm_aload_n K dXL_law_197 (q := 198) rfl rfl rfl ?_
  refine pm_aload_n K dXL_law_198 (q := 199) rfl rfl rfl ?_
  refine pm_iload_n K dXL_law_199 (q := 200) rfl rfl rfl ?_
  refine pm_ic1 K dXL_law_200 (q := 201) rfl ?_
  refine pm_iadd K dXL_law_201 (q := 202) rfl ?_
  refine pm_top (y := nI (i + 1)) (kadd (a := i) (b := 1) rfl rfl) ?_
  refine lw_sld H (j := i + 1) (by omega) (by omega) dXL_law_202 (q := 203) rfl ?_
  refine pm_callV0 K gw_ok wcXL_27 (m_plan l M1 (xs (i + 1))) rfl (by decide) hfs rfl rfl (Nat.le_of_ble_eq_true rfl) (by decide) dXL_law_203 (q := 206) rfl (fun r2 h2 hp => ?_)
  obtain ⟨rfl, M2, F2⟩ := hp
  refine pm_icmp_eq K dXL_law_206 (tgt := 580) (q := 209) rfl rfl (fun _ => ?_) (fun z => absurd (rfl) z)
  exact kk _ (RL.mk X1 M2 F2 (R.plan (xs (i + 1))))
set_option maxRecDepth 100000 in
theorem lw_c3 (l : Launch) {b L : Nat} {xs : Nat → Int32} {G : pm_Gt} (H : lwK l b L xs G) {h : pm_H} (R0 : RL 128 h) {i : Nat} (hi : i + 5 ≤ L) (hL : L ≤ 2560) (kk : ∀ h2, RL 128 h2 → G 128 16444 580 [some (.ref pm_big), some (.ref 0), some (.ref 112), some (.int (nI i))] [] 128 h2) : G 128 16444 211 [some (.ref pm_big), some (.ref 0), some (.ref 112), some (.int (nI i))] [] 128 h := by
  obtain ⟨nm, K⟩ := H.k
  obtain ⟨T, T2, lp, ld, lr, pt, sc, S, ts, ch, pl, so, pa, la, X, M, R⟩ := R0
  obtain ⟨hT12, hsc, hc6, -⟩ := M.le
  refine pm_aload_n K dXL_law_211 (q := 212) rfl rfl rfl ?_
  refine pm_aload_n K dXL_law_212 (q := 213) rfl rfl rfl ?_
  refine pm_iload_n K dXL_law_213 (q := 214) rfl rfl rfl ?_
  refine pm_ic1 K dXL_law_214 (q := 215) rfl ?_
  refine pm_iadd K dXL_law_215 (q := 216) rfl ?_
  refine pm_top (y := nI (i + 1)) (kadd (a := i) (b := 1) rfl rfl) ?_
  refine lw_sld H (j := i + 1) (by omega) (by omega) dXL_law_216 (q := 217) rfl ?_
  refine pm_aload_n K dXL_law_217 (q := 218) rfl rfl rfl ?_
  refine pm_iload_n K dXL_law_218 (q := 219) rfl rfl rfl ?_
  refine pm_ic2 K dXL_law_219 (q := 220) rfl ?_
  refine pm_iadd K dXL_law_220 (q := 221) rfl ?_
  refine pm_top (y := nI (i + 2)) (kadd (a := i) (b := 2) rfl rfl) ?_
  refine lw_sld H (j := i + 2) (by omega) (by omega) dXL_law_221 (q := 222) rfl ?_
  refine pm_aload_n K dXL_law_222 (q := 223) rfl rfl rfl ?_
  refine pm_iload_n K dXL_law_223 (q := 224) rfl rfl rfl ?_
  refine pm_ic3 K dXL_law_224 (q := 225) rfl ?_
  refine pm_iadd K dXL_law_225 (q := 226) rfl ?_
  refine pm_top (y := nI (i + 3)) (kadd (a := i) (b := 3) rfl rfl) ?_
  refine lw_sld H (j := i + 3) (by omega) (by omega) dXL_law_226 (q := 227) rfl ?_
  refine pm_callV0 K gw_ok wcXL_28 (c_filter l X hsc (xs (i + 1)) (xs (i + 2)) (xs (i + 3))) rfl (by decide) X.2.1 rfl rfl (Nat.le_of_ble_eq_true rfl) (by decide) dXL_law_227 (q := 230) rfl (fun r1 h1 hp => ?_)
  obtain ⟨rfl, X1, F1⟩ := hp
  have M1 := M.y F1
  obtain ⟨fs, hfs⟩ := M1.c
  refine pm_aload_n K dXL_law_230 (q := 231) rfl rfl rfl ?_
  refine pm_aload_n K dXL_law_231 (q := 232) rfl rfl rfl ?_
  refine pm_iload_n K dXL_law_232 (q := 233) rfl rfl rfl ?_
  refine pm_ic1 K dXL_law_233 (q := 234) rfl ?_
  refine pm_iadd K dXL_law_234 (q := 235) rfl ?_
  refine pm_top (y := nI (i + 1)) (kadd (a := i) (b := 1) rfl rfl) ?_
  refine lw_sld H (j := i + 1) (by omega) (by omega) dXL_law_235 (q := 236) rfl ?_
  refine pm_aload_n K dXL_law_236 (q := 237) rfl rfl rfl ?_
  refine pm_iload_n K dXL_law_237 (q := 238) rfl rfl rfl ?_
  refine pm_ic2 K dXL_law_238 (q := 239) rfl ?_
  refine pm_iadd K dXL_law_239 (q := 240) rfl ?_
  refine pm_top (y := nI (i + 2)) (kadd (a := i) (b := 2) rfl rfl) ?_
  refine lw_sld H (j := i + 2) (by omega) (by omega) dXL_law_240 (q := 241) rfl ?_
  refine pm_aload_n K dXL_law_241 (q := 242) rfl rfl rfl ?_
  refine pm_iload_n K dXL_law_242 (q := 243) rfl rfl rfl ?_
  refine pm_ic3 K dXL_law_243 (q := 244) rfl ?_
  refine pm_iadd K dXL_law_244 (q := 245) rfl ?_
  refine pm_top (y := nI (i + 3)) (kadd (a := i) (b := 3) rfl rfl) ?_
  refine lw_sld H (j := i + 3) (by omega) (by omega) dXL_law_245 (q := 246) rfl ?_
  refine pm_callV0 K gw_ok wcXL_32 (m_filter l M1 (xs (i + 1)) (xs (i + 2)) (xs (i + 3))) rfl (by decide) hfs rfl rfl (Nat.le_of_ble_eq_true rfl) (by decide) dXL_law_246 (q := 249) rfl (fun r2 h2 hp => ?_)
  obtain ⟨rfl, M2, F2⟩ := hp
  refine pm_icmp_eq K dXL_law_249 (tgt := 580) (q := 252) rfl rfl (fun _ => ?_) (fun z => absurd (congrArg b2i (R.ok (tb (xs (i + 1)) && tb (xs (i + 2))))) z)
  obtain ⟨R2, e1, e2⟩ := R.step (R.ok (tb (xs (i + 1)) && tb (xs (i + 2)))) (f := st4 0 (xs (i + 1)) (xs (i + 2)) (xs (i + 3))) (fun z => by first | (simp only [Bool.and_eq_true] at z; exact Or.inl ⟨rfl, z.1.1⟩) | exact Or.inl ⟨rfl, z.1.1⟩)
  rw [← e1, ← e2] at M2
  exact kk _ (RL.mk X1 M2 F2 R2)
set_option maxRecDepth 100000 in
theorem lw_c4 (l : Launch) {b L : Nat} {xs : Nat → Int32} {G : pm_Gt} (H : lwK l b L xs G) {h : pm_H} (R0 : RL 128 h) {i : Nat} (hi : i + 5 ≤ L) (hL : L ≤ 2560) (kk : ∀ h2, RL 128 h2 → G 128 16444 580 [some (.ref pm_big), some (.ref 0), some (.ref 112), some (.int (nI i))] [] 128 h2) : G 128 16444 254 [some (.ref pm_big), some (.ref 0), some (.ref 112), some (.int (nI i))] [] 128 h := by
  obtain ⟨nm, K⟩ := H.k
  obtain ⟨T, T2, lp, ld, lr, pt, sc, S, ts, ch, pl, so, pa, la, X, M, R⟩ := R0
  obtain ⟨hT12, hsc, hc6, -⟩ := M.le
  refine pm_aload_n K dXL_law_254 (q := 255) rfl rfl rfl ?_
  refine pm_aload_n K dXL_law_255 (q := 256) rfl rfl rfl ?_
  refine pm_iload_n K dXL_law_256 (q := 257) rfl rfl rfl ?_
  refine pm_ic1 K dXL_law_257 (q := 258) rfl ?_
  refine pm_iadd K dXL_law_258 (q := 259) rfl ?_
  refine pm_top (y := nI (i + 1)) (kadd (a := i) (b := 1) rfl rfl) ?_
  refine lw_sld H (j := i + 1) (by omega) (by omega) dXL_law_259 (q := 260) rfl ?_
  refine pm_aload_n K dXL_law_260 (q := 261) rfl rfl rfl ?_
  refine pm_iload_n K dXL_law_261 (q := 262) rfl rfl rfl ?_
  refine pm_ic2 K dXL_law_262 (q := 263) rfl ?_
  refine pm_iadd K dXL_law_263 (q := 264) rfl ?_
  refine pm_top (y := nI (i + 2)) (kadd (a := i) (b := 2) rfl rfl) ?_
  refine lw_sld H (j := i + 2) (by omega) (by omega) dXL_law_264 (q := 265) rfl ?_
  refine pm_aload_n K dXL_law_265 (q := 266) rfl rfl rfl ?_
  refine pm_iload_n K dXL_law_266 (q := 267) rfl rfl rfl ?_
  refine pm_ic3 K dXL_law_267 (q := 268) rfl ?_
  refine pm_iadd K dXL_law_268 (q := 269) rfl ?_
  refine pm_top (y := nI (i + 3)) (kadd (a := i) (b := 3) rfl rfl) ?_
  refine lw_sld H (j := i + 3) (by omega) (by omega) dXL_law_269 (q := 270) rfl ?_
  refine pm_callV0 K gw_ok wcXL_33 (c_pick l X hsc (xs (i + 1)) (xs (i + 2)) (xs (i + 3))) rfl (by decide) X.2.1 rfl rfl (Nat.le_of_ble_eq_true rfl) (by decide) dXL_law_270 (q := 273) rfl (fun r1 h1 hp => ?_)
  obtain ⟨rfl, X1, F1⟩ := hp
  have M1 := M.y F1
  obtain ⟨fs, hfs⟩ := M1.c
  refine pm_aload_n K dXL_law_273 (q := 274) rfl rfl rfl ?_
  refine pm_aload_n K dXL_law_274 (q := 275) rfl rfl rfl ?_
  refine pm_iload_n K dXL_law_275 (q := 276) rfl rfl rfl ?_
  refine pm_ic1 K dXL_law_276 (q := 277) rfl ?_
  refine pm_iadd K dXL_law_277 (q := 278) rfl ?_
  refine pm_top (y := nI (i + 1)) (kadd (a := i) (b := 1) rfl rfl) ?_
  refine lw_sld H (j := i + 1) (by omega) (by omega) dXL_law_278 (q := 279) rfl ?_
  refine pm_aload_n K dXL_law_279 (q := 280) rfl rfl rfl ?_
  refine pm_iload_n K dXL_law_280 (q := 281) rfl rfl rfl ?_
  refine pm_ic2 K dXL_law_281 (q := 282) rfl ?_
  refine pm_iadd K dXL_law_282 (q := 283) rfl ?_
  refine pm_top (y := nI (i + 2)) (kadd (a := i) (b := 2) rfl rfl) ?_
  refine lw_sld H (j := i + 2) (by omega) (by omega) dXL_law_283 (q := 284) rfl ?_
  refine pm_aload_n K dXL_law_284 (q := 285) rfl rfl rfl ?_
  refine pm_iload_n K dXL_law_285 (q := 286) rfl rfl rfl ?_
  refine pm_ic3 K dXL_law_286 (q := 287) rfl ?_
  refine pm_iadd K dXL_law_287 (q := 288) rfl ?_
  refine pm_top (y := nI (i + 3)) (kadd (a := i) (b := 3) rfl rfl) ?_
  refine lw_sld H (j := i + 3) (by omega) (by omega) dXL_law_288 (q := 289) rfl ?_
  refine pm_callV0 K gw_ok wcXL_36 (m_pick l M1 (xs (i + 1)) (xs (i + 2)) (xs (i + 3))) rfl (by decide) hfs rfl rfl (Nat.le_of_ble_eq_true rfl) (by decide) dXL_law_289 (q := 292) rfl (fun r2 h2 hp => ?_)
  obtain ⟨rfl, M2, F2⟩ := hp
  refine pm_icmp_eq K dXL_law_292 (tgt := 580) (q := 295) rfl rfl (fun _ => ?_) (fun z => absurd (congrArg b2i (R.ok (tb (xs (i + 1)) && tb (xs (i + 2)) && tb (xs (i + 3))))) z)
  obtain ⟨R2, e1, e2⟩ := R.step (R.ok (tb (xs (i + 1)) && tb (xs (i + 2)) && tb (xs (i + 3)))) (f := st4 1 (xs (i + 1)) (xs (i + 2)) (xs (i + 3))) (fun z => by first | (simp only [Bool.and_eq_true] at z; exact Or.inr (Or.inl ⟨rfl, z.1.1.1, z.1.1.2, z.1.2⟩)) | exact Or.inr (Or.inl ⟨rfl, z.1.1.1, z.1.1.2, z.1.2⟩))
  rw [← e1, ← e2] at M2
  exact kk _ (RL.mk X1 M2 F2 R2)
set_option maxRecDepth 100000 in
theorem lw_c5 (l : Launch) {b L : Nat} {xs : Nat → Int32} {G : pm_Gt} (H : lwK l b L xs G) {h : pm_H} (R0 : RL 128 h) {i : Nat} (hi : i + 5 ≤ L) (hL : L ≤ 2560) (kk : ∀ h2, RL 128 h2 → G 128 16444 580 [some (.ref pm_big), some (.ref 0), some (.ref 112), some (.int (nI i))] [] 128 h2) : G 128 16444 297 [some (.ref pm_big), some (.ref 0), some (.ref 112), some (.int (nI i))] [] 128 h := by
  obtain ⟨nm, K⟩ := H.k
  obtain ⟨T, T2, lp, ld, lr, pt, sc, S, ts, ch, pl, so, pa, la, X, M, R⟩ := R0
  obtain ⟨hT12, hsc, hc6, -⟩ := M.le
  refine pm_aload_n K dXL_law_297 (q := 298) rfl rfl rfl ?_
  refine pm_callV0 K gw_ok wcXL_37 (c_distinct l X hsc ) rfl (by decide) X.2.1 rfl rfl (Nat.le_of_ble_eq_true rfl) (by decide) dXL_law_298 (q := 301) rfl (fun r1 h1 hp => ?_)
  obtain ⟨rfl, X1, F1⟩ := hp
  have M1 := M.y F1
  obtain ⟨fs, hfs⟩ := M1.c
  refine pm_aload_n K dXL_law_301 (q := 302) rfl rfl rfl ?_
  refine pm_callV0 K gw_ok wcXL_41 (m_distinct l M1 ) rfl (by decide) hfs rfl rfl (Nat.le_of_ble_eq_true rfl) (by decide) dXL_law_302 (q := 305) rfl (fun r2 h2 hp => ?_)
  obtain ⟨rfl, M2, F2⟩ := hp
  refine pm_icmp_eq K dXL_law_305 (tgt := 580) (q := 308) rfl rfl (fun _ => ?_) (fun z => absurd (congrArg b2i (R.ok true)) z)
  obtain ⟨R2, e1, e2⟩ := R.step (R.ok true) (f := st4 2 0 0 0) (fun z => by first | (simp only [Bool.and_eq_true] at z; exact Or.inr (Or.inr (Or.inl rfl))) | exact Or.inr (Or.inr (Or.inl rfl)))
  rw [← e1, ← e2] at M2
  exact kk _ (RL.mk X1 M2 F2 R2)
set_option maxRecDepth 100000 in
theorem lw_c6 (l : Launch) {b L : Nat} {xs : Nat → Int32} {G : pm_Gt} (H : lwK l b L xs G) {h : pm_H} (R0 : RL 128 h) {i : Nat} (hi : i + 5 ≤ L) (hL : L ≤ 2560) (kk : ∀ h2, RL 128 h2 → G 128 16444 580 [some (.ref pm_big), some (.ref 0), some (.ref 112), some (.int (nI i))] [] 128 h2) : G 128 16444 310 [some (.ref pm_big), some (.ref 0), some (.ref 112), some (.int (nI i))] [] 128 h := by
  obtain ⟨nm, K⟩ := H.k
  obtain ⟨T, T2, lp, ld, lr, pt, sc, S, ts, ch, pl, so, pa, la, X, M, R⟩ := R0
  obtain ⟨hT12, hsc, hc6, -⟩ := M.le
  refine pm_aload_n K dXL_law_310 (q := 311) rfl rfl rfl ?_
  refine pm_aload_n K dXL_law_311 (q := 312) rfl rfl rfl ?_
  refine pm_iload_n K dXL_law_312 (q := 313) rfl rfl rfl ?_
  refine pm_ic1 K dXL_law_313 (q := 314) rfl ?_
  refine pm_iadd K dXL_law_314 (q := 315) rfl ?_
  refine pm_top (y := nI (i + 1)) (kadd (a := i) (b := 1) rfl rfl) ?_
  refine lw_sld H (j := i + 1) (by omega) (by omega) dXL_law_315 (q := 316) rfl ?_
  refine pm_aload_n K dXL_law_316 (q := 317) rfl rfl rfl ?_
  refine pm_iload_n K dXL_law_317 (q := 318) rfl rfl rfl ?_
  refine pm_ic2 K dXL_law_318 (q := 319) rfl ?_
  refine pm_iadd K dXL_law_319 (q := 320) rfl ?_
  refine pm_top (y := nI (i + 2)) (kadd (a := i) (b := 2) rfl rfl) ?_
  refine lw_sld H (j := i + 2) (by omega) (by omega) dXL_law_320 (q := 321) rfl ?_
  refine pm_callV0 K gw_ok wcXL_42 (c_group l X hsc (xs (i + 1)) (xs (i + 2))) rfl (by decide) X.2.1 rfl rfl (Nat.le_of_ble_eq_true rfl) (by decide) dXL_law_321 (q := 324) rfl (fun r1 h1 hp => ?_)
  obtain ⟨rfl, X1, F1⟩ := hp
  have M1 := M.y F1
  obtain ⟨fs, hfs⟩ := M1.c
  refine pm_aload_n K dXL_law_324 (q := 325) rfl rfl rfl ?_
  refine pm_aload_n K dXL_law_325 (q := 326) rfl rfl rfl ?_
  refine pm_iload_n K dXL_law_326 (q := 327) rfl rfl rfl ?_
  refine pm_ic1 K dXL_law_327 (q := 328) rfl ?_
  refine pm_iadd K dXL_law_328 (q := 329) rfl ?_
  refine pm_top (y := nI (i + 1)) (kadd (a := i) (b := 1) rfl rfl) ?_
  refine lw_sld H (j := i + 1) (by omega) (by omega) dXL_law_329 (q := 330) rfl ?_
  refine pm_aload_n K dXL_law_330 (q := 331) rfl rfl rfl ?_
  refine pm_iload_n K dXL_law_331 (q := 332) rfl rfl rfl ?_
  refine pm_ic2 K dXL_law_332 (q := 333) rfl ?_
  refine pm_iadd K dXL_law_333 (q := 334) rfl ?_
  refine pm_top (y := nI (i + 2)) (kadd (a := i) (b := 2) rfl rfl) ?_
  refine lw_sld H (j := i + 2) (by omega) (by omega) dXL_law_334 (q := 335) rfl ?_
  refine pm_callV0 K gw_ok wcXL_46 (m_group l M1 (xs (i + 1)) (xs (i + 2))) rfl (by decide) hfs rfl rfl (Nat.le_of_ble_eq_true rfl) (by decide) dXL_law_335 (q := 338) rfl (fun r2 h2 hp => ?_)
  obtain ⟨rfl, M2, F2⟩ := hp
  refine pm_icmp_eq K dXL_law_338 (tgt := 580) (q := 341) rfl rfl (fun _ => ?_) (fun z => absurd (congrArg b2i (R.ok (tb (xs (i + 1)) && tb (xs (i + 2))))) z)
  obtain ⟨R2, e1, e2⟩ := R.step (R.ok (tb (xs (i + 1)) && tb (xs (i + 2)))) (f := st4 3 (xs (i + 1)) (xs (i + 2)) 0) (fun z => by first | (simp only [Bool.and_eq_true] at z; exact Or.inr (Or.inr (Or.inr (Or.inl ⟨rfl, z.1.1, z.1.2⟩)))) | exact Or.inr (Or.inr (Or.inr (Or.inl ⟨rfl, z.1.1, z.1.2⟩))))
  rw [← e1, ← e2] at M2
  exact kk _ (RL.mk X1 M2 F2 R2)
set_option maxRecDepth 100000 in
theorem lw_c7 (l : Launch) {b L : Nat} {xs : Nat → Int32} {G : pm_Gt} (H : lwK l b L xs G) {h : pm_H} (R0 : RL 128 h) {i : Nat} (hi : i + 5 ≤ L) (hL : L ≤ 2560) (kk : ∀ h2, RL 128 h2 → G 128 16444 580 [some (.ref pm_big), some (.ref 0), some (.ref 112), some (.int (nI i))] [] 128 h2) : G 128 16444 343 [some (.ref pm_big), some (.ref 0), some (.ref 112), some (.int (nI i))] [] 128 h := by
  obtain ⟨nm, K⟩ := H.k
  obtain ⟨T, T2, lp, ld, lr, pt, sc, S, ts, ch, pl, so, pa, la, X, M, R⟩ := R0
  obtain ⟨hT12, hsc, hc6, -⟩ := M.le
  refine pm_aload_n K dXL_law_343 (q := 344) rfl rfl rfl ?_
  refine pm_aload_n K dXL_law_344 (q := 345) rfl rfl rfl ?_
  refine pm_iload_n K dXL_law_345 (q := 346) rfl rfl rfl ?_
  refine pm_ic1 K dXL_law_346 (q := 347) rfl ?_
  refine pm_iadd K dXL_law_347 (q := 348) rfl ?_
  refine pm_top (y := nI (i + 1)) (kadd (a := i) (b := 1) rfl rfl) ?_
  refine lw_sld H (j := i + 1) (by omega) (by omega) dXL_law_348 (q := 349) rfl ?_
  refine pm_aload_n K dXL_law_349 (q := 350) rfl rfl rfl ?_
  refine pm_iload_n K dXL_law_350 (q := 351) rfl rfl rfl ?_
  refine pm_ic2 K dXL_law_351 (q := 352) rfl ?_
  refine pm_iadd K dXL_law_352 (q := 353) rfl ?_
  refine pm_top (y := nI (i + 2)) (kadd (a := i) (b := 2) rfl rfl) ?_
  refine lw_sld H (j := i + 2) (by omega) (by omega) dXL_law_353 (q := 354) rfl ?_
  refine pm_aload_n K dXL_law_354 (q := 355) rfl rfl rfl ?_
  refine pm_iload_n K dXL_law_355 (q := 356) rfl rfl rfl ?_
  refine pm_ic3 K dXL_law_356 (q := 357) rfl ?_
  refine pm_iadd K dXL_law_357 (q := 358) rfl ?_
  refine pm_top (y := nI (i + 3)) (kadd (a := i) (b := 3) rfl rfl) ?_
  refine lw_sld H (j := i + 3) (by omega) (by omega) dXL_law_358 (q := 359) rfl ?_
  refine pm_callV0 K gw_ok wcXL_47 (c_join l X hsc (xs (i + 1)) (xs (i + 2)) (xs (i + 3))) rfl (by decide) X.2.1 rfl rfl (Nat.le_of_ble_eq_true rfl) (by decide) dXL_law_359 (q := 362) rfl (fun r1 h1 hp => ?_)
  obtain ⟨rfl, X1, F1⟩ := hp
  have M1 := M.y F1
  obtain ⟨fs, hfs⟩ := M1.c
  refine pm_aload_n K dXL_law_362 (q := 363) rfl rfl rfl ?_
  refine pm_aload_n K dXL_law_363 (q := 364) rfl rfl rfl ?_
  refine pm_iload_n K dXL_law_364 (q := 365) rfl rfl rfl ?_
  refine pm_ic1 K dXL_law_365 (q := 366) rfl ?_
  refine pm_iadd K dXL_law_366 (q := 367) rfl ?_
  refine pm_top (y := nI (i + 1)) (kadd (a := i) (b := 1) rfl rfl) ?_
  refine lw_sld H (j := i + 1) (by omega) (by omega) dXL_law_367 (q := 368) rfl ?_
  refine pm_aload_n K dXL_law_368 (q := 369) rfl rfl rfl ?_
  refine pm_iload_n K dXL_law_369 (q := 370) rfl rfl rfl ?_
  refine pm_ic2 K dXL_law_370 (q := 371) rfl ?_
  refine pm_iadd K dXL_law_371 (q := 372) rfl ?_
  refine pm_top (y := nI (i + 2)) (kadd (a := i) (b := 2) rfl rfl) ?_
  refine lw_sld H (j := i + 2) (by omega) (by omega) dXL_law_372 (q := 373) rfl ?_
  refine pm_aload_n K dXL_law_373 (q := 374) rfl rfl rfl ?_
  refine pm_iload_n K dXL_law_374 (q := 375) rfl rfl rfl ?_
  refine pm_ic3 K dXL_law_375 (q := 376) rfl ?_
  refine pm_iadd K dXL_law_376 (q := 377) rfl ?_
  refine pm_top (y := nI (i + 3)) (kadd (a := i) (b := 3) rfl rfl) ?_
  refine lw_sld H (j := i + 3) (by omega) (by omega) dXL_law_377 (q := 378) rfl ?_
  refine pm_callV0 K gw_ok wcXL_50 (m_join l M1 (xs (i + 1)) (xs (i + 2)) (xs (i + 3))) rfl (by decide) hfs rfl rfl (Nat.le_of_ble_eq_true rfl) (by decide) dXL_law_378 (q := 381) rfl (fun r2 h2 hp => ?_)
  obtain ⟨rfl, M2, F2⟩ := hp
  refine pm_icmp_eq K dXL_law_381 (tgt := 580) (q := 384) rfl rfl (fun _ => ?_) (fun z => absurd (congrArg b2i (R.ok (tb (xs (i + 1)) && tb (xs (i + 2)) && tb (xs (i + 3))))) z)
  obtain ⟨R2, e1, e2⟩ := R.step (R.ok (tb (xs (i + 1)) && tb (xs (i + 2)) && tb (xs (i + 3)))) (f := st4 4 (xs (i + 1)) (xs (i + 2)) (xs (i + 3))) (fun z => by first | (simp only [Bool.and_eq_true] at z; exact Or.inr (Or.inr (Or.inr (Or.inr ⟨rfl, z.1.1.1, z.1.1.2, z.1.2⟩)))) | exact Or.inr (Or.inr (Or.inr (Or.inr ⟨rfl, z.1.1.1, z.1.1.2, z.1.2⟩))))
  rw [← e1, ← e2] at M2
  exact kk _ (RL.mk X1 M2 F2 R2)
set_option maxRecDepth 100000 in
theorem lw_c8 (l : Launch) {b L : Nat} {xs : Nat → Int32} {G : pm_Gt} (H : lwK l b L xs G) {h : pm_H} (R0 : RL 128 h) {i : Nat} (hi : i + 5 ≤ L) (hL : L ≤ 2560) (kk : ∀ h2, RL 128 h2 → G 128 16444 580 [some (.ref pm_big), some (.ref 0), some (.ref 112), some (.int (nI i))] [] 128 h2) : G 128 16444 386 [some (.ref pm_big), some (.ref 0), some (.ref 112), some (.int (nI i))] [] 128 h := by
  obtain ⟨nm, K⟩ := H.k
  obtain ⟨T, T2, lp, ld, lr, pt, sc, S, ts, ch, pl, so, pa, la, X, M, R⟩ := R0
  obtain ⟨hT12, hsc, hc6, -⟩ := M.le
  refine pm_aload_n K dXL_law_386 (q := 387) rfl rfl rfl ?_
  refine pm_callV0 K gw_ok wcXL_51 (c_run l X hsc (fun s hs => (R.2.2.2.1 s hs).ok) ) rfl (by decide) X.2.1 rfl rfl (Nat.le_of_ble_eq_true rfl) (by decide) dXL_law_387 (q := 390) rfl (fun r1 h1 hp1 => ?_)
  obtain ⟨v1, e1⟩ : ∃ v, r1 = some (.int v) := by rcases hp1 with ⟨-, e, -⟩ | ⟨-, -, ⟨_, -, -, -, e, -⟩ | ⟨-, _, -, -, e, -⟩⟩ <;> exact ⟨_, e⟩
  have F1 : y_fr h h1 := by rcases hp1 with ⟨-, -, e⟩ | ⟨-, e, -⟩; rw [e]; exact y_fr.rf; exact e
  subst e1
  have M1 := M.y F1
  obtain ⟨fs, hfs⟩ := M1.c
  refine pm_aload_n K dXL_law_390 (q := 391) rfl rfl rfl ?_
  refine pm_callV0 K gw_ok wcXL_55 (m_run l M1 (fun z => R.2.2.1.elim (fun y => absurd (y.1.symm.trans z) (by decide)) (fun y => y.2.2 ▸ y.2.1)) R.2.2.2.1 ) rfl (by decide) hfs rfl rfl (Nat.le_of_ble_eq_true rfl) (by decide) dXL_law_391 (q := 394) rfl (fun r2 h2 hp2 => ?_)
  obtain ⟨v, e1, e2, R2⟩ := s_run X M1 R hp1 hp2
  cases e1
  subst e2
  refine pm_icmp_eq K dXL_law_394 (tgt := 580) (q := 397) rfl rfl (fun _ => ?_) (fun z => absurd (rfl) z)
  exact kk _ R2
set_option maxRecDepth 100000 in
theorem lw_c9 (l : Launch) {b L : Nat} {xs : Nat → Int32} {G : pm_Gt} (H : lwK l b L xs G) {h : pm_H} (R0 : RL 128 h) {i : Nat} (hi : i + 5 ≤ L) (hL : L ≤ 2560) (kk : ∀ h2, RL 128 h2 → G 128 16444 580 [some (.ref pm_big), some (.ref 0), some (.ref 112), some (.int (nI i))] [] 128 h2) : G 128 16444 399 [some (.ref pm_big), some (.ref 0), some (.ref 112), some (.int (nI i))] [] 128 h := by
  obtain ⟨nm, K⟩ := H.k
  obtain ⟨T, T2, lp, ld, lr, pt, sc, S, ts, ch, pl, so, pa, la, X, M, R⟩ := R0
  obtain ⟨hT12, hsc, hc6, -⟩ := M.le
  refine pm_aload_n K dXL_law_399 (q := 400) rfl rfl rfl ?_
  refine pm_aload_n K dXL_law_400 (q := 401) rfl rfl rfl ?_
  refine pm_iload_n K dXL_law_401 (q := 402) rfl rfl rfl ?_
  refine pm_ic1 K dXL_law_402 (q := 403) rfl ?_
  refine pm_iadd K dXL_law_403 (q := 404) rfl ?_
  refine pm_top (y := nI (i + 1)) (kadd (a := i) (b := 1) rfl rfl) ?_
  refine lw_sld H (j := i + 1) (by omega) (by omega) dXL_law_404 (q := 405) rfl ?_
  refine pm_aload_n K dXL_law_405 (q := 406) rfl rfl rfl ?_
  refine pm_iload_n K dXL_law_406 (q := 407) rfl rfl rfl ?_
  refine pm_ic2 K dXL_law_407 (q := 408) rfl ?_
  refine pm_iadd K dXL_law_408 (q := 409) rfl ?_
  refine pm_top (y := nI (i + 2)) (kadd (a := i) (b := 2) rfl rfl) ?_
  refine lw_sld H (j := i + 2) (by omega) (by omega) dXL_law_409 (q := 410) rfl ?_
  refine pm_aload_n K dXL_law_410 (q := 411) rfl rfl rfl ?_
  refine pm_iload_n K dXL_law_411 (q := 412) rfl rfl rfl ?_
  refine pm_ic3 K dXL_law_412 (q := 413) rfl ?_
  refine pm_iadd K dXL_law_413 (q := 414) rfl ?_
  refine pm_top (y := nI (i + 3)) (kadd (a := i) (b := 3) rfl rfl) ?_
  refine lw_sld H (j := i + 3) (by omega) (by omega) dXL_law_414 (q := 415) rfl ?_
  refine pm_callV0 K gw_ok wcXL_56 (c_put l X (xs (i + 1)) (xs (i + 2)) (xs (i + 3))) rfl (by decide) X.2.1 rfl rfl (Nat.le_of_ble_eq_true rfl) (by decide) dXL_law_415 (q := 418) rfl (fun r1 h1 hp => ?_)
  obtain ⟨rfl, X1, F1⟩ := hp
  have M1 := M.y F1
  obtain ⟨fs, hfs⟩ := M1.c
  refine pm_aload_n K dXL_law_418 (q := 419) rfl rfl rfl ?_
  refine pm_aload_n K dXL_law_419 (q := 420) rfl rfl rfl ?_
  refine pm_iload_n K dXL_law_420 (q := 421) rfl rfl rfl ?_
  refine pm_ic1 K dXL_law_421 (q := 422) rfl ?_
  refine pm_iadd K dXL_law_422 (q := 423) rfl ?_
  refine pm_top (y := nI (i + 1)) (kadd (a := i) (b := 1) rfl rfl) ?_
  refine lw_sld H (j := i + 1) (by omega) (by omega) dXL_law_423 (q := 424) rfl ?_
  refine pm_aload_n K dXL_law_424 (q := 425) rfl rfl rfl ?_
  refine pm_iload_n K dXL_law_425 (q := 426) rfl rfl rfl ?_
  refine pm_ic2 K dXL_law_426 (q := 427) rfl ?_
  refine pm_iadd K dXL_law_427 (q := 428) rfl ?_
  refine pm_top (y := nI (i + 2)) (kadd (a := i) (b := 2) rfl rfl) ?_
  refine lw_sld H (j := i + 2) (by omega) (by omega) dXL_law_428 (q := 429) rfl ?_
  refine pm_aload_n K dXL_law_429 (q := 430) rfl rfl rfl ?_
  refine pm_iload_n K dXL_law_430 (q := 431) rfl rfl rfl ?_
  refine pm_ic3 K dXL_law_431 (q := 432) rfl ?_
  refine pm_iadd K dXL_law_432 (q := 433) rfl ?_
  refine pm_top (y := nI (i + 3)) (kadd (a := i) (b := 3) rfl rfl) ?_
  refine lw_sld H (j := i + 3) (by omega) (by omega) dXL_law_433 (q := 434) rfl ?_
  refine pm_callV0 K gw_ok wcXL_59 (m_put l M1 (xs (i + 1)) (xs (i + 2)) (xs (i + 3))) rfl (by decide) hfs rfl rfl (Nat.le_of_ble_eq_true rfl) (by decide) dXL_law_434 (q := 437) rfl (fun r2 h2 hp => ?_)
  obtain ⟨rfl, M2, F2⟩ := hp
  refine pm_icmp_eq K dXL_law_437 (tgt := 580) (q := 440) rfl rfl (fun _ => ?_) (fun z => absurd (congrArg b2i R.chl) z)
  exact kk _ (RL.mk X1 M2 F2 (R.put (xs (i + 1)) (xs (i + 2)) (xs (i + 3))))
set_option maxRecDepth 100000 in
theorem lw_c10 (l : Launch) {b L : Nat} {xs : Nat → Int32} {G : pm_Gt} (H : lwK l b L xs G) {h : pm_H} (R0 : RL 128 h) {i : Nat} (hi : i + 5 ≤ L) (hL : L ≤ 2560) (kk : ∀ h2, RL 128 h2 → G 128 16444 580 [some (.ref pm_big), some (.ref 0), some (.ref 112), some (.int (nI i))] [] 128 h2) : G 128 16444 442 [some (.ref pm_big), some (.ref 0), some (.ref 112), some (.int (nI i))] [] 128 h := by
  obtain ⟨nm, K⟩ := H.k
  obtain ⟨T, T2, lp, ld, lr, pt, sc, S, ts, ch, pl, so, pa, la, X, M, R⟩ := R0
  obtain ⟨hT12, hsc, hc6, -⟩ := M.le
  refine pm_aload_n K dXL_law_442 (q := 443) rfl rfl rfl ?_
  refine pm_aload_n K dXL_law_443 (q := 444) rfl rfl rfl ?_
  refine pm_iload_n K dXL_law_444 (q := 445) rfl rfl rfl ?_
  refine pm_ic1 K dXL_law_445 (q := 446) rfl ?_
  refine pm_iadd K dXL_law_446 (q := 447) rfl ?_
  refine pm_top (y := nI (i + 1)) (kadd (a := i) (b := 1) rfl rfl) ?_
  refine lw_sld H (j := i + 1) (by omega) (by omega) dXL_law_447 (q := 448) rfl ?_
  refine pm_callV0 K gw_ok wcXL_60 (c_drop l X (xs (i + 1))) rfl (by decide) X.2.1 rfl rfl (Nat.le_of_ble_eq_true rfl) (by decide) dXL_law_448 (q := 451) rfl (fun r1 h1 hp => ?_)
  obtain ⟨rfl, X1, F1⟩ := hp
  have M1 := M.y F1
  obtain ⟨fs, hfs⟩ := M1.c
  refine pm_aload_n K dXL_law_451 (q := 452) rfl rfl rfl ?_
  refine pm_aload_n K dXL_law_452 (q := 453) rfl rfl rfl ?_
  refine pm_iload_n K dXL_law_453 (q := 454) rfl rfl rfl ?_
  refine pm_ic1 K dXL_law_454 (q := 455) rfl ?_
  refine pm_iadd K dXL_law_455 (q := 456) rfl ?_
  refine pm_top (y := nI (i + 1)) (kadd (a := i) (b := 1) rfl rfl) ?_
  refine lw_sld H (j := i + 1) (by omega) (by omega) dXL_law_456 (q := 457) rfl ?_
  refine pm_callV0 K gw_ok wcXL_63 (m_drop l M1 (xs (i + 1))) rfl (by decide) hfs rfl rfl (Nat.le_of_ble_eq_true rfl) (by decide) dXL_law_457 (q := 460) rfl (fun r2 h2 hp => ?_)
  obtain ⟨rfl, M2, F2⟩ := hp
  refine pm_icmp_eq K dXL_law_460 (tgt := 580) (q := 463) rfl rfl (fun _ => ?_) (fun z => absurd (congrArg b2i R.chl) z)
  exact kk _ (RL.mk X1 M2 F2 (R.drop (xs (i + 1))))
set_option maxRecDepth 100000 in
theorem lw_c11 (l : Launch) {b L : Nat} {xs : Nat → Int32} {G : pm_Gt} (H : lwK l b L xs G) {h : pm_H} (R0 : RL 128 h) {i : Nat} (hi : i + 5 ≤ L) (hL : L ≤ 2560) (kk : ∀ h2, RL 128 h2 → G 128 16444 580 [some (.ref pm_big), some (.ref 0), some (.ref 112), some (.int (nI i))] [] 128 h2) : G 128 16444 465 [some (.ref pm_big), some (.ref 0), some (.ref 112), some (.int (nI i))] [] 128 h := by
  obtain ⟨nm, K⟩ := H.k
  obtain ⟨T, T2, lp, ld, lr, pt, sc, S, ts, ch, pl, so, pa, la, X, M, R⟩ := R0
  obtain ⟨hT12, hsc, hc6, -⟩ := M.le
  refine pm_aload_n K dXL_law_465 (q := 466) rfl rfl rfl ?_
  refine pm_aload_n K dXL_law_466 (q := 467) rfl rfl rfl ?_
  refine pm_iload_n K dXL_law_467 (q := 468) rfl rfl rfl ?_
  refine pm_ic1 K dXL_law_468 (q := 469) rfl ?_
  refine pm_iadd K dXL_law_469 (q := 470) rfl ?_
  refine pm_top (y := nI (i + 1)) (kadd (a := i) (b := 1) rfl rfl) ?_
  refine lw_sld H (j := i + 1) (by omega) (by omega) dXL_law_470 (q := 471) rfl ?_
  refine pm_callV0 K gw_ok wcXL_64 (c_apply l X (xs (i + 1))) rfl (by decide) X.2.1 rfl rfl (Nat.le_of_ble_eq_true rfl) (by decide) dXL_law_471 (q := 474) rfl (fun r1 h1 hp1 => ?_)
  obtain ⟨v1, e1⟩ : ∃ v, r1 = some (.int v) := by rcases hp1 with ⟨-, e, -⟩ | ⟨-, -, _, -, e, -⟩ <;> exact ⟨_, e⟩
  have F1 : y_fr h h1 := by rcases hp1 with ⟨-, -, e⟩ | ⟨-, e, -⟩; rw [e]; exact y_fr.rf; exact e
  subst e1
  have M1 := M.y F1
  obtain ⟨fs, hfs⟩ := M1.c
  refine pm_aload_n K dXL_law_474 (q := 475) rfl rfl rfl ?_
  refine pm_aload_n K dXL_law_475 (q := 476) rfl rfl rfl ?_
  refine pm_iload_n K dXL_law_476 (q := 477) rfl rfl rfl ?_
  refine pm_ic1 K dXL_law_477 (q := 478) rfl ?_
  refine pm_iadd K dXL_law_478 (q := 479) rfl ?_
  refine pm_top (y := nI (i + 1)) (kadd (a := i) (b := 1) rfl rfl) ?_
  refine lw_sld H (j := i + 1) (by omega) (by omega) dXL_law_479 (q := 480) rfl ?_
  refine pm_callV0 K gw_ok wcXL_67 (m_apply l M1 (xs (i + 1))) rfl (by decide) hfs rfl rfl (Nat.le_of_ble_eq_true rfl) (by decide) dXL_law_480 (q := 483) rfl (fun r2 h2 hp2 => ?_)
  obtain ⟨v, e1, e2, R2⟩ := s_apply (xs (i + 1)) X M1 R hp1 hp2
  cases e1
  subst e2
  refine pm_icmp_eq K dXL_law_483 (tgt := 580) (q := 486) rfl rfl (fun _ => ?_) (fun z => absurd (rfl) z)
  exact kk _ R2
set_option maxRecDepth 100000 in
theorem lw_c12 (l : Launch) {b L : Nat} {xs : Nat → Int32} {G : pm_Gt} (H : lwK l b L xs G) {h : pm_H} (R0 : RL 128 h) {i : Nat} (hi : i + 5 ≤ L) (hL : L ≤ 2560) (kk : ∀ h2, RL 128 h2 → G 128 16444 580 [some (.ref pm_big), some (.ref 0), some (.ref 112), some (.int (nI i))] [] 128 h2) : G 128 16444 488 [some (.ref pm_big), some (.ref 0), some (.ref 112), some (.int (nI i))] [] 128 h := by
  obtain ⟨nm, K⟩ := H.k
  obtain ⟨T, T2, lp, ld, lr, pt, sc, S, ts, ch, pl, so, pa, la, X, M, R⟩ := R0
  obtain ⟨hT12, hsc, hc6, -⟩ := M.le
  refine pm_aload_n K dXL_law_488 (q := 489) rfl rfl rfl ?_
  refine pm_aload_n K dXL_law_489 (q := 490) rfl rfl rfl ?_
  refine pm_iload_n K dXL_law_490 (q := 491) rfl rfl rfl ?_
  refine pm_ic1 K dXL_law_491 (q := 492) rfl ?_
  refine pm_iadd K dXL_law_492 (q := 493) rfl ?_
  refine pm_top (y := nI (i + 1)) (kadd (a := i) (b := 1) rfl rfl) ?_
  refine lw_sld H (j := i + 1) (by omega) (by omega) dXL_law_493 (q := 494) rfl ?_
  refine pm_aload_n K dXL_law_494 (q := 495) rfl rfl rfl ?_
  refine pm_iload_n K dXL_law_495 (q := 496) rfl rfl rfl ?_
  refine pm_ic2 K dXL_law_496 (q := 497) rfl ?_
  refine pm_iadd K dXL_law_497 (q := 498) rfl ?_
  refine pm_top (y := nI (i + 2)) (kadd (a := i) (b := 2) rfl rfl) ?_
  refine lw_sld H (j := i + 2) (by omega) (by omega) dXL_law_498 (q := 499) rfl ?_
  refine pm_callV0 K gw_ok wcXL_68 (c_cell l X (xs (i + 1)) (xs (i + 2))) rfl (by decide) X.2.1 rfl rfl (Nat.le_of_ble_eq_true rfl) (by decide) dXL_law_499 (q := 502) rfl (fun r1 h1 hp => ?_)
  obtain ⟨rfl, rfl⟩ := hp
  have M1 := M
  obtain ⟨fs, hfs⟩ := M1.c
  refine pm_aload_n K dXL_law_502 (q := 503) rfl rfl rfl ?_
  refine pm_aload_n K dXL_law_503 (q := 504) rfl rfl rfl ?_
  refine pm_iload_n K dXL_law_504 (q := 505) rfl rfl rfl ?_
  refine pm_ic1 K dXL_law_505 (q := 506) rfl ?_
  refine pm_iadd K dXL_law_506 (q := 507) rfl ?_
  refine pm_top (y := nI (i + 1)) (kadd (a := i) (b := 1) rfl rfl) ?_
  refine lw_sld H (j := i + 1) (by omega) (by omega) dXL_law_507 (q := 508) rfl ?_
  refine pm_aload_n K dXL_law_508 (q := 509) rfl rfl rfl ?_
  refine pm_iload_n K dXL_law_509 (q := 510) rfl rfl rfl ?_
  refine pm_ic2 K dXL_law_510 (q := 511) rfl ?_
  refine pm_iadd K dXL_law_511 (q := 512) rfl ?_
  refine pm_top (y := nI (i + 2)) (kadd (a := i) (b := 2) rfl rfl) ?_
  refine lw_sld H (j := i + 2) (by omega) (by omega) dXL_law_512 (q := 513) rfl ?_
  refine pm_callV0 K gw_ok wcXL_72 (m_cell l M1 (xs (i + 1)) (xs (i + 2))) rfl (by decide) hfs rfl rfl (Nat.le_of_ble_eq_true rfl) (by decide) dXL_law_513 (q := 516) rfl (fun r2 h2 hp => ?_)
  obtain ⟨rfl, rfl⟩ := hp
  refine pm_icmp_eq K dXL_law_516 (tgt := 580) (q := 519) rfl rfl (fun _ => ?_) (fun z => absurd (rfl) z)
  exact kk _ (RL.mk X M1 mo_fr.rf R)
set_option maxRecDepth 100000 in
theorem lw_c13 (l : Launch) {b L : Nat} {xs : Nat → Int32} {G : pm_Gt} (H : lwK l b L xs G) {h : pm_H} (R0 : RL 128 h) {i : Nat} (hi : i + 5 ≤ L) (hL : L ≤ 2560) (kk : ∀ h2, RL 128 h2 → G 128 16444 580 [some (.ref pm_big), some (.ref 0), some (.ref 112), some (.int (nI i))] [] 128 h2) : G 128 16444 521 [some (.ref pm_big), some (.ref 0), some (.ref 112), some (.int (nI i))] [] 128 h := by
  obtain ⟨nm, K⟩ := H.k
  obtain ⟨T, T2, lp, ld, lr, pt, sc, S, ts, ch, pl, so, pa, la, X, M, R⟩ := R0
  obtain ⟨hT12, hsc, hc6, -⟩ := M.le
  refine pm_aload_n K dXL_law_521 (q := 522) rfl rfl rfl ?_
  refine pm_callV0 K gw_ok wcXL_73 (c_length l X ) rfl (by decide) X.2.1 rfl rfl (Nat.le_of_ble_eq_true rfl) (by decide) dXL_law_522 (q := 525) rfl (fun r1 h1 hp => ?_)
  obtain ⟨rfl, rfl⟩ := hp
  have M1 := M
  obtain ⟨fs, hfs⟩ := M1.c
  refine pm_aload_n K dXL_law_525 (q := 526) rfl rfl rfl ?_
  refine pm_callV0 K gw_ok wcXL_76 (m_length l M1 R.2.2.2.2.1 (by have := R.2.2.2.2.2; omega) ) rfl (by decide) hfs rfl rfl (Nat.le_of_ble_eq_true rfl) (by decide) dXL_law_526 (q := 529) rfl (fun r2 h2 hp => ?_)
  obtain ⟨rfl, M2, F2⟩ := hp
  refine pm_icmp_eq K dXL_law_529 (tgt := 580) (q := 532) rfl rfl (fun _ => ?_) (fun z => absurd (rfl) z)
  exact kk _ (RL.mk X M2 F2 R)
set_option maxRecDepth 100000 in
theorem lw_c14 (l : Launch) {b L : Nat} {xs : Nat → Int32} {G : pm_Gt} (H : lwK l b L xs G) {h : pm_H} (R0 : RL 128 h) {i : Nat} (hi : i + 5 ≤ L) (hL : L ≤ 2560) (kk : ∀ h2, RL 128 h2 → G 128 16444 580 [some (.ref pm_big), some (.ref 0), some (.ref 112), some (.int (nI i))] [] 128 h2) : G 128 16444 534 [some (.ref pm_big), some (.ref 0), some (.ref 112), some (.int (nI i))] [] 128 h := by
  obtain ⟨nm, K⟩ := H.k
  obtain ⟨T, T2, lp, ld, lr, pt, sc, S, ts, ch, pl, so, pa, la, X, M, R⟩ := R0
  obtain ⟨hT12, hsc, hc6, -⟩ := M.le
  refine pm_aload_n K dXL_law_534 (q := 535) rfl rfl rfl ?_
  refine pm_aload_n K dXL_law_535 (q := 536) rfl rfl rfl ?_
  refine pm_iload_n K dXL_law_536 (q := 537) rfl rfl rfl ?_
  refine pm_ic1 K dXL_law_537 (q := 538) rfl ?_
  refine pm_iadd K dXL_law_538 (q := 539) rfl ?_
  refine pm_top (y := nI (i + 1)) (kadd (a := i) (b := 1) rfl rfl) ?_
  refine lw_sld H (j := i + 1) (by omega) (by omega) dXL_law_539 (q := 540) rfl ?_
  refine pm_callV0 K gw_ok wcXL_77 (c_access l X (xs (i + 1))) rfl (by decide) X.2.1 rfl rfl (Nat.le_of_ble_eq_true rfl) (by decide) dXL_law_540 (q := 543) rfl (fun r1 h1 hp => ?_)
  obtain ⟨rfl, rfl⟩ := hp
  have M1 := M
  obtain ⟨fs, hfs⟩ := M1.c
  refine pm_aload_n K dXL_law_543 (q := 544) rfl rfl rfl ?_
  refine pm_aload_n K dXL_law_544 (q := 545) rfl rfl rfl ?_
  refine pm_iload_n K dXL_law_545 (q := 546) rfl rfl rfl ?_
  refine pm_ic1 K dXL_law_546 (q := 547) rfl ?_
  refine pm_iadd K dXL_law_547 (q := 548) rfl ?_
  refine pm_top (y := nI (i + 1)) (kadd (a := i) (b := 1) rfl rfl) ?_
  refine lw_sld H (j := i + 1) (by omega) (by omega) dXL_law_548 (q := 549) rfl ?_
  refine pm_callV0 K gw_ok wcXL_80 (m_access l M1 R.2.2.2.2.1 (by have := R.2.2.2.2.2; omega) (xs (i + 1))) rfl (by decide) hfs rfl rfl (Nat.le_of_ble_eq_true rfl) (by decide) dXL_law_549 (q := 552) rfl (fun r2 h2 hp => ?_)
  obtain ⟨rfl, M2, F2⟩ := hp
  refine pm_icmp_eq K dXL_law_552 (tgt := 580) (q := 555) rfl rfl (fun _ => ?_) (fun z => absurd (rfl) z)
  exact kk _ (RL.mk X M2 F2 R)
set_option maxRecDepth 100000 in
theorem lw_c15 (l : Launch) {b L : Nat} {xs : Nat → Int32} {G : pm_Gt} (H : lwK l b L xs G) {h : pm_H} (R0 : RL 128 h) {i : Nat} (hi : i + 5 ≤ L) (hL : L ≤ 2560) (kk : ∀ h2, RL 128 h2 → G 128 16444 580 [some (.ref pm_big), some (.ref 0), some (.ref 112), some (.int (nI i))] [] 128 h2) : G 128 16444 557 [some (.ref pm_big), some (.ref 0), some (.ref 112), some (.int (nI i))] [] 128 h := by
  obtain ⟨nm, K⟩ := H.k
  obtain ⟨T, T2, lp, ld, lr, pt, sc, S, ts, ch, pl, so, pa, la, X, M, R⟩ := R0
  obtain ⟨hT12, hsc, hc6, -⟩ := M.le
  refine pm_aload_n K dXL_law_557 (q := 558) rfl rfl rfl ?_
  refine pm_aload_n K dXL_law_558 (q := 559) rfl rfl rfl ?_
  refine pm_iload_n K dXL_law_559 (q := 560) rfl rfl rfl ?_
  refine pm_ic1 K dXL_law_560 (q := 561) rfl ?_
  refine pm_iadd K dXL_law_561 (q := 562) rfl ?_
  refine pm_top (y := nI (i + 1)) (kadd (a := i) (b := 1) rfl rfl) ?_
  refine lw_sld H (j := i + 1) (by omega) (by omega) dXL_law_562 (q := 563) rfl ?_
  refine pm_callV0 K gw_ok wcXL_81 (c_sum l X (xs (i + 1))) rfl (by decide) X.2.1 rfl rfl (Nat.le_of_ble_eq_true rfl) (by decide) dXL_law_563 (q := 566) rfl (fun r1 h1 hp => ?_)
  obtain ⟨rfl, rfl⟩ := hp
  have M1 := M
  obtain ⟨fs, hfs⟩ := M1.c
  refine pm_aload_n K dXL_law_566 (q := 567) rfl rfl rfl ?_
  refine pm_aload_n K dXL_law_567 (q := 568) rfl rfl rfl ?_
  refine pm_iload_n K dXL_law_568 (q := 569) rfl rfl rfl ?_
  refine pm_ic1 K dXL_law_569 (q := 570) rfl ?_
  refine pm_iadd K dXL_law_570 (q := 571) rfl ?_
  refine pm_top (y := nI (i + 1)) (kadd (a := i) (b := 1) rfl rfl) ?_
  refine lw_sld H (j := i + 1) (by omega) (by omega) dXL_law_571 (q := 572) rfl ?_
  refine pm_callV0 K gw_ok wcXL_84 (m_sum l M1 (xs (i + 1))) rfl (by decide) hfs rfl rfl (Nat.le_of_ble_eq_true rfl) (by decide) dXL_law_572 (q := 575) rfl (fun r2 h2 hp => ?_)
  obtain ⟨rfl, rfl⟩ := hp
  refine pm_icmp_eq K dXL_law_575 (tgt := 580) (q := 578) rfl rfl (fun _ => ?_) (fun z => absurd (R.sum _) z)
  exact kk _ (RL.mk X M1 mo_fr.rf R)
set_option maxRecDepth 100000 in
theorem lw_loop (l : Launch) {b L : Nat} {xs : Nat → Int32} {G : pm_Gt} (H : lwK l b L xs G) (hL : L ≤ 2560) : ∀ (f i : Nat) (h : pm_H), i ≤ L → L < i + 5 * f + 5 → RL 128 h → G 128 16444 18 [some (.ref pm_big), some (.ref 0), some (.ref 112), some (.int (nI i))] [] 128 h := by
  obtain ⟨nm, K⟩ := H.k
  intro f
  induction f with
  | zero =>
    intro i h hiL hf R0
    refine pm_iload_n K dXL_law_18 (q := 19) rfl rfl rfl ?_
    refine pm_aload_n K dXL_law_19 (q := 20) rfl rfl rfl ?_
    refine lw_slen H dXL_law_20 (q := 21) rfl ?_
    refine pm_ic5 K dXL_law_21 (q := 22) rfl ?_
    refine pm_isub K dXL_law_22 (q := 23) rfl ?_
    refine pm_icmp_gt K dXL_law_23 (tgt := 586) (q := 26) rfl rfl (fun _ => ?_) (fun z => absurd ((lw_gt hL hiL).mpr (by omega)) z)
    refine pm_ic1 K dXL_law_586 (q := 587) rfl ?_
    exact lw_lret H (Nat.le_of_ble_eq_true rfl) (Nat.le_of_ble_eq_true rfl) dXL_law_587
  | succ f ih =>
    intro i h hiL hf R0
    refine pm_iload_n K dXL_law_18 (q := 19) rfl rfl rfl ?_
    refine pm_aload_n K dXL_law_19 (q := 20) rfl rfl rfl ?_
    refine lw_slen H dXL_law_20 (q := 21) rfl ?_
    refine pm_ic5 K dXL_law_21 (q := 22) rfl ?_
    refine pm_isub K dXL_law_22 (q := 23) rfl ?_
    refine pm_icmp_gt K dXL_law_23 (tgt := 586) (q := 26) rfl rfl (fun _ => ?_) (fun z => ?_)
    · refine pm_ic1 K dXL_law_586 (q := 587) rfl ?_
      exact lw_lret H (Nat.le_of_ble_eq_true rfl) (Nat.le_of_ble_eq_true rfl) dXL_law_587
    · have hi : i + 5 ≤ L := Nat.le_of_not_lt (fun y => z ((lw_gt hL hiL).mpr y))
      refine pm_aload_n K dXL_law_26 (q := 27) rfl rfl rfl ?_
      refine pm_iload_n K dXL_law_27 (q := 28) rfl rfl rfl ?_
      refine lw_sld H (j := i) (by omega) (by omega) dXL_law_28 (q := 29) rfl ?_
      refine pm_bipush (v := 15) K dXL_law_29 (q := 31) rfl (by decide) ?_
      refine pm_iand K dXL_law_31 (q := 32) rfl ?_
      have kk : ∀ h2, RL 128 h2 → G 128 16444 580 [some (.ref pm_big), some (.ref 0), some (.ref 112), some (.int (nI i))] [] 128 h2 := by
        intro h2 R2
        refine pm_iinc (v := nI (i + 5)) K dXL_law_580 (q := 583) rfl rfl (kadd (a := i) (b := 5) rfl rfl) (by decide) rfl ?_
        refine pm_goto K dXL_law_583 (q := 18) rfl ?_
        exact ih (i + 5) h2 (by omega) (by omega) R2
      obtain ⟨c, hc, ec⟩ := pk_andE (xs i) (m := 15) 4 rfl
      rw [ec]
      have hc : c < 16 := hc
      rcases (show c = 0 ∨ c = 1 ∨ c = 2 ∨ c = 3 ∨ c = 4 ∨ c = 5 ∨ c = 6 ∨ c = 7 ∨ c = 8 ∨ c = 9 ∨ c = 10 ∨ c = 11 ∨ c = 12 ∨ c = 13 ∨ c = 14 ∨ c = 15 by omega) with rfl | rfl | rfl | rfl | rfl | rfl | rfl | rfl | rfl | rfl | rfl | rfl | rfl | rfl | rfl | rfl
      · exact pm_tableIn (off := 80) K dXL_law_32 (by decide) (by decide) rfl (q := 112) rfl (lw_c0 l H R0 hi hL kk)
      · exact pm_tableIn (off := 133) K dXL_law_32 (by decide) (by decide) rfl (q := 165) rfl (lw_c1 l H R0 hi hL kk)
      · exact pm_tableIn (off := 156) K dXL_law_32 (by decide) (by decide) rfl (q := 188) rfl (lw_c2 l H R0 hi hL kk)
      · exact pm_tableIn (off := 179) K dXL_law_32 (by decide) (by decide) rfl (q := 211) rfl (lw_c3 l H R0 hi hL kk)
      · exact pm_tableIn (off := 222) K dXL_law_32 (by decide) (by decide) rfl (q := 254) rfl (lw_c4 l H R0 hi hL kk)
      · exact pm_tableIn (off := 265) K dXL_law_32 (by decide) (by decide) rfl (q := 297) rfl (lw_c5 l H R0 hi hL kk)
      · exact pm_tableIn (off := 278) K dXL_law_32 (by decide) (by decide) rfl (q := 310) rfl (lw_c6 l H R0 hi hL kk)
      · exact pm_tableIn (off := 311) K dXL_law_32 (by decide) (by decide) rfl (q := 343) rfl (lw_c7 l H R0 hi hL kk)
      · exact pm_tableIn (off := 354) K dXL_law_32 (by decide) (by decide) rfl (q := 386) rfl (lw_c8 l H R0 hi hL kk)
      · exact pm_tableIn (off := 367) K dXL_law_32 (by decide) (by decide) rfl (q := 399) rfl (lw_c9 l H R0 hi hL kk)
      · exact pm_tableIn (off := 410) K dXL_law_32 (by decide) (by decide) rfl (q := 442) rfl (lw_c10 l H R0 hi hL kk)
      · exact pm_tableIn (off := 433) K dXL_law_32 (by decide) (by decide) rfl (q := 465) rfl (lw_c11 l H R0 hi hL kk)
      · exact pm_tableIn (off := 456) K dXL_law_32 (by decide) (by decide) rfl (q := 488) rfl (lw_c12 l H R0 hi hL kk)
      · exact pm_tableIn (off := 489) K dXL_law_32 (by decide) (by decide) rfl (q := 521) rfl (lw_c13 l H R0 hi hL kk)
      · exact pm_tableIn (off := 502) K dXL_law_32 (by decide) (by decide) rfl (q := 534) rfl (lw_c14 l H R0 hi hL kk)
      · exact pm_tableIn (off := 525) K dXL_law_32 (by decide) (by decide) rfl (q := 557) rfl (lw_c15 l H R0 hi hL kk)
set_option maxRecDepth 100000 in
theorem lw_body (l : Launch) {b L : Nat} {xs : Nat → Int32} {G : pm_Gt} (H : lwK l b L xs G) (hL : L ≤ 2560) (h0 : pm_H) : G 0 0 0 [some (.ref pm_big), none, none, none] [] 0 h0 := by
  obtain ⟨nm, K⟩ := H.k
  refine pm_new (ci := 6) K inX6 tyX6 tyX6_ok wkXL_7.1 wkXL_7.2.1 wkXL_7.2.2 rfl dfX6 (fun _ => rfl) (by decide) (by decide) (by decide) dXL_law_0 (q := 3) rfl ?_
  refine pm_dup K dXL_law_3 (q := 4) rfl ?_
  refine pm_callI K gw_ok wcXL_9 (c_new l rfl (pm_same _ _ _)) rfl rfl (Nat.le_of_ble_eq_true rfl) (by decide) (by decide) dXL_law_4 (q := 7) rfl (fun r1 n1 h1 hp => ?_)
  obtain ⟨rfl, rfl, X⟩ := hp
  refine pm_astore_n K dXL_law_7 (q := 8) rfl rfl (by decide) rfl ?_
  refine pm_new (ci := 7) K inX7 tyX7 tyX7_ok wkXL_10.1 wkXL_10.2.1 wkXL_10.2.2 rfl dfX7 (fun _ => rfl) (by decide) (by decide) (by decide) dXL_law_8 (q := 11) rfl ?_
  refine pm_dup K dXL_law_11 (q := 12) rfl ?_
  refine pm_callI K gw_ok wcXL_12 (c_mnew l rfl (pm_same _ _ _)) rfl rfl (Nat.le_of_ble_eq_true rfl) (by decide) (by decide) dXL_law_12 (q := 15) rfl (fun r2 n2 h2 hp => ?_)
  obtain ⟨rfl, rfl, M, F⟩ := hp
  refine pm_astore_n K dXL_law_15 (q := 16) rfl rfl (by decide) rfl ?_
  refine pm_ic0 K dXL_law_16 (q := 17) rfl ?_
  refine pm_istore_n K dXL_law_17 (q := 18) rfl rfl (by decide) rfl ?_
  exact lw_loop l H hL L 0 h2 (by omega) (by omega) (RL_0 (X.mo (n' := 128) (by decide) (fun q hq => (F q hq).trans (pm_ne (by omega) rfl))) M)
