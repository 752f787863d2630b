/-! The start, the claim. -/
set_option maxRecDepth 100000 in
theorem whole_start {p : Program} {e : Env} {s : State} {m : MethodId} {below : List Frame} {meth : Method} {c : Code} (l : Launch) {b L : Nat} {xs : Nat → Int32} (hL : L ≤ 2560) (C0 : lw_At p s m meth c b L xs) : W p l e room_1 s m #[Value.ref b] below meth c s.heap [] 0 0 (lw_Z below #[Value.ref b] s) (entryFrame m ([Value.ref b] : List Value).toArray 4) := by
  obtain ⟨hx, hcode, hret, hml, hfind, hts, hX, hbl, hlocks, -⟩ := C0
  have htg : ∀ w ∈ gw, w.before #[Value.ref b] s = true := fun w hw => hts w (List.mem_filter.mp hw).1
  obtain ⟨c0, i0, k0⟩ := u_known htg inX0 (htg _ (gw_1 (j := 22) rfl rfl))
  obtain ⟨c1, i1, k1⟩ := u_known htg inX1 (htg _ (gw_1 (j := 138) rfl rfl))
  obtain ⟨c2, i2, k2⟩ := u_known htg inX2 (htg _ (gw_1 (j := 128) rfl rfl))
  obtain ⟨c3, i3, k3⟩ := u_known htg inX3 (htg _ (gw_1 (j := 54) rfl rfl))
  obtain ⟨c4, i4, k4⟩ := u_known htg inX4 (htg _ (gw_1 (j := 152) rfl rfl))
  obtain ⟨c5, i5, k5⟩ := u_known htg inX5 (htg _ (gw_1 (j := 47) rfl rfl))
  obtain ⟨c6, i6, k6⟩ := u_known htg inX6 (htg _ (gw_1 (j := 11) rfl rfl))
  obtain ⟨c7, i7, k7⟩ := u_known htg inX7 (htg _ (gw_3 (j := 31) rfl rfl))
  obtain ⟨a0, q0, z0⟩ := ar_c (htg _ (gw_1 (j := 45) rfl rfl)) (fun _ _ h => h)
  obtain ⟨a1, q1, z1⟩ := ar_o (C := RX3) (hts _ (tb_1 (j := 53) rfl))
  obtain ⟨a2, q2, z2⟩ := ar_o (C := RX0) (hts _ (tb_1 (j := 19) rfl))
  obtain ⟨a3, q3, z3⟩ := ar_o (C := RX4) (hts _ (tb_1 (j := 21) rfl))
  obtain ⟨a4, q4, z4⟩ := ar_c (htg _ (gw_3 (j := 118) rfl rfl)) (fun _ _ h => h)
  obtain ⟨D, hD⟩ : ∃ z : va_G, z = (fun k => [c0, c1, c2, c3, c4, c5, c6, c7].getD k c0, fun k => [i0, i1, i2, i3, i4, i5, i6, i7].getD k i0) := ⟨_, rfl⟩
  obtain ⟨dA, hdA⟩ : ∃ z : Nat → ClassId, z = (fun k => [a0, a1, a2, a3, a4].getD k a0) := ⟨_, rfl⟩
  have hK : va_K D bt_cl (pm_tys dA bt_tl) s := by
    subst hD
    subst hdA
    constructor
    · intro c q hq
      have hc : c < 8 := (List.getElem?_eq_some_iff.mp hq).1
      rcases (show c = 0 ∨ c = 1 ∨ c = 2 ∨ c = 3 ∨ c = 4 ∨ c = 5 ∨ c = 6 ∨ c = 7 by omega) with rfl | rfl | rfl | rfl | rfl | rfl | rfl | rfl
      · cases hq; exact k0
      · cases hq; exact k1
      · cases hq; exact k2
      · cases hq; exact k3
      · cases hq; exact k4
      · cases hq; exact k5
      · cases hq; exact k6
      · cases hq; exact k7
    · intro k q hq
      have hk : k < 5 := (List.getElem?_eq_some_iff.mp hq).1
      rcases (show k = 0 ∨ k = 1 ∨ k = 2 ∨ k = 3 ∨ k = 4 by omega) with rfl | rfl | rfl | rfl | rfl
      · cases hq; exact ⟨q0, z0⟩
      · cases hq; exact ⟨q1, z1⟩
      · cases hq; exact ⟨q2, z2⟩
      · cases hq; exact ⟨q3, z3⟩
      · cases hq; exact ⟨q4, z4⟩
  have hN : pm_N bt_nw s := by
    intro w hw
    simp only [bt_nw, List.mem_cons, List.not_mem_nil, or_false] at hw
    rcases hw with rfl | rfl | rfl | rfl | rfl | rfl
    · exact ⟨Or.inl ⟨_, _, _, _, rfl⟩, va_Nw.of rfl (hts _ (tb_1 (j := 55) rfl))⟩
    · exact ⟨Or.inl ⟨_, _, _, _, rfl⟩, va_Nw.of rfl (hts _ (tb_1 (j := 144) rfl))⟩
    · exact ⟨Or.inl ⟨_, _, _, _, rfl⟩, va_Nw.of rfl (hts _ (tb_1 (j := 153) rfl))⟩
    · exact ⟨Or.inr ⟨_, rfl⟩, va_AO.of (hts _ (tb_1 (j := 53) rfl))⟩
    · exact ⟨Or.inr ⟨_, rfl⟩, va_AO.of (hts _ (tb_1 (j := 19) rfl))⟩
    · exact ⟨Or.inr ⟨_, rfl⟩, va_AO.of (hts _ (tb_1 (j := 21) rfl))⟩
  obtain ⟨ad, had, hadk⟩ : ∃ ad : Nat → Nat, ad pm_big = b ∧ ∀ i, 0 + i < pm_big → ad (0 + i) = s.heap.size + i := ⟨fun k => if k = pm_big then b else s.heap.size + k, if_pos rfl, fun i hi => by show (if 0 + i = pm_big then b else s.heap.size + (0 + i)) = _; rw [if_neg (by omega), Nat.zero_add]⟩
  have hXX : pm_X p s m #[Value.ref b] meth c bt_cl bt_tl gw bt_nw D dA RXL code 4 ret (fun q => s.heap.size ≤ q) := ⟨hx, hcode, hml, hfind, htg, hK, fun q hq => hq, hret, hlocks, hN⟩
  have KK : lwK l b L xs (pm_G p l e room_1 s m #[Value.ref b] below meth c (lw_Z below #[Value.ref b] s) bt_cl D dA (fun q => s.heap.size ≤ q) ad 4) := ⟨p, e, s, m, below, meth, c, D, dA, ad, hXX, had, hX, hbl, rfl⟩
  have hG := lw_body l KK hL (fun _ => pm_I 0 0 (fun _ => 0))
  have hl := lv_entry [Value.ref b] (n := 4) (Nat.le_of_ble_eq_true rfl)
  rw [lg_entry_eq]
  refine hG s.heap [] _ ⟨fun k q hq => ?_, ⟨fun i j p q hp => ?_, fun k q hq => ?_⟩, va_S.rf, hadk⟩ ?_
  · exact absurd hq (by simp [pm_w])
  · exact absurd hp (by simp [pm_w])
  · exact absurd hq (by simp [pm_w])
  · have e1 : pm_l ad [some (.ref pm_big), none, none, none] = [(0, Value.ref b)] := by
      show [(0, Value.ref (ad pm_big))] = _
      rw [had]
    rw [e1]
    exact hl
set_option maxHeartbeats 4000000 in
theorem lw_walk (l : Launch) (b : Addr) (xs : List Int32) : MetFree l x (headSpec (Jvm.Cond.code x code maxLocals ret :: tables_1) room_1) (lw_P b xs) (fun _ _ _ _ _ => True) lw_Q := by
  refine MetFree.of_bodyS (code := code) (maxLocals := maxLocals) (ret := ret) (by decide) ?_ ?_
  · intro args s m h hn
    obtain ⟨meth, c, h1, h2, h3, h4, h5, h6, -, -⟩ := Cond.code_spec hn (atoms_spec (ws := Jvm.Cond.code x code maxLocals ret :: tables_1) h _ List.mem_cons_self)
    exact ⟨meth, c, h1, h2, h3, h4, h5, h6⟩
  · intro p e s m args below meth c s₁ B hml0 hP _
    obtain ⟨rfl, hx, hbd, hgv⟩ := hP
    obtain ⟨scr, harrAt, hlist, hof, hsmall⟩ := hx
    obtain ⟨hcb, hkn, -, -⟩ := State.arrayAt?_spec harrAt
    have hown : s.vm.findClass R_law = some m.cls := findClass_of_methodNamed B.named
    have hts0 : ∀ c ∈ (Jvm.Cond.code x code maxLocals ret :: tables_1), c.before #[Value.ref b] s = true := atoms_spec (ws := Jvm.Cond.code x code maxLocals ret :: tables_1) B.pre
    have hts : ∀ w ∈ lw_tbl, w.before #[Value.ref b] s = true := k2_hts_sels lw_privs (fun w hw => hts0 w (List.mem_cons_of_mem _ hw)) lw_privs_ok
    have hml : c.maxLocals = 4 := B.maxLocals_eq (hts0 _ List.mem_cons_self)
    have X₀ : Stand p l e room_1 s m #[Value.ref b] below meth c s₁ [] 0 0 := Stand.of_body B
    have hh0 : s₁.heap = s.heap := by rw [B.state]; rfl
    have hsz : scr.slots.size = xs.length := by rw [← Array.length_toList, hlist, List.length_map]
    have hval : ∀ j : Nat, j < xs.length → scr.slots[j]? = some (.int (xs.getD j 0)) := fun j hj => by
      rw [← Array.getElem?_toList, hlist]
      simp [hj]
    have hbl : b < s.heap.size := (Array.getElem?_eq_some_iff.mp hcb).1
    have hX : va_X b xs.length (fun j => xs.getD j 0) s s.heap := ⟨scr, hcb, hof, hkn, hsz, hval⟩
    have K : W p l e room_1 s m #[Value.ref b] below meth c s₁.heap [] 0 0 (lw_Z below #[Value.ref b] s) (entryFrame m ([Value.ref b] : List Value).toArray 4) := by
      rw [hh0]
      exact whole_start l hbd ⟨B.exec, B.bytes, B.returns, hml, hown, hts, hX, hbl, B.notSynchronized, hgv⟩
    obtain ⟨t, a1, o, b1, b2, b3⟩ := K s₁ rfl X₀
    exact ⟨t, o, a1, b1, b2, b3⟩
theorem lw_pre_spec {args : Array Value} {s : State} (h : (Jvm.Cond.and given_1 narrow_1).before args s = true) (hr : rest_1_c.before args s = true) : ∃ (b : Addr) (xs : List Int32), lw_P b xs args s := by
  have hs := flat_of_before _ h
  have hq := flat_of_before _ hr
  have hc : (Cond.count 1).before args s = true := hs _ (by decide +kernel)
  have harr : (Cond.arrayOf (.arg 0) .int).before args s = true := hs _ (by decide +kernel)
  have hle : (Cond.le (.length (.arg 0)) (.int 2560)).before args s = true := hs _ (by decide +kernel)
  have hlen : (Cond.isInt (.length (.arg 0))).before args s = true := hq _ (by decide +kernel)
  have hall : (Cond.all (.arg 0) (.isInt (.elem (.arg 0) (.index 0)))).before args s = true := hq _ (by decide +kernel)
  obtain ⟨b, xs, hb, hx⟩ := State.ints_of_pre rfl harr hlen hall
  have hsm : xs.length < 2 ^ 31 := hx.choose_spec.2.2.2
  have hev : (Term.length (.arg 0)).eval args s none [] s = some (.int xs.length.toInt32) := hx.length_eval hb
  have hv := Cond.le_ints hev (show (Term.int 2560).eval args s none [] s = some (.int 2560) from rfl)
  have hd : xs.length.toInt32 ≤ 2560 := by
    simpa [Cond.before, Cond.holds, hv] using hle
  have hN : xs.length ≤ 2560 := (Int32.ofNat_le_ofNat hsm (by decide)).mp (show Int32.ofNat xs.length ≤ Int32.ofNat 2560 from hd)
  exact ⟨b, xs, Cond.one_arg hc (show args[0]? = some (.ref b) from hb), hx, hN, h⟩
theorem lw_comes (l : Launch) : Comes l x (Jvm.Cond.code x code maxLocals ret :: tables_1) room_1 (fun tb e args s => Calls_1 tb e args s ∧ rest_1 tb e args s ∧ Pre_1 tb e args s)
    (fun _ _ args s o t => lw_Q args s o t) := by
  intro p e ha hc hk s m args below hf hfit hheap happ hpre
  obtain ⟨b, xs, hP⟩ := lw_pre_spec hpre.2.2 hpre.2.1
  obtain ⟨k, o, h1, h2, h3, hQ⟩ := lw_walk l b xs p e ha hc hk s m args below hf ((Spec.applies_iff_loose hf).mp happ).1 hP trivial
  exact ⟨k, o, h1, h2, h3, hQ⟩
theorem lw_frame {s t : State} {o : Outcome} {args : Array Value} (h : Framed s o t [] 600000 7302250) :
    Framed s o t (fieldLocs frame_1_writes args s ++ arrayLocs frame_1_arrays args s ++ staticLocs frame_1_statics s) 600000 7302250 := h
theorem lw_limb (L : Cond) (hL : ∀ (args : Array Value) (s t : State), L.after args s (.returned (some (.int 1))) t = true) :
    ArmFor flags0 classFile x code maxLocals ret World_1 tables_1 room_1 Calls_1 rest_1 Pre_1
      (fun tb e a s o t => postC L tb e a s o t ∧ Framed s o t (fieldLocs frame_1_writes a s ++ arrayLocs frame_1_arrays a s ++ staticLocs frame_1_statics s) 600000 7302250) := by
  intro l _ _ _ p e ha hc hk s m args below hf hfit hheap happ hpre
  obtain ⟨k, o, h1, h2, h3, rfl, hF⟩ := lw_comes l p e ha hc hk s m args below hf hfit hheap happ hpre
  exact ⟨k, _, h1, h2, h3, hL args s _, lw_frame hF⟩
theorem i_vc : Claimed_1_1 ∧ Claimed_1_2 := ⟨lw_limb limb_1_1 (fun args s t => by simp [limb_1_1, Cond.after, Cond.holds, Cond.value]), lw_limb limb_1_2 (fun args s t => Cond.after_iff.mpr (by
  first | (rw [show limb_1_2 = Cond.eq .result (.int 1) from rfl, Cond.eq_ints (x := 1) (y := 1) rfl rfl]; simp; done) | (simp [limb_1_2, Cond.value, Term.eval]; done)))⟩
