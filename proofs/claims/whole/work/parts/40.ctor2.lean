/-! Constructors of the system and of the reference. -/
theorem so_L.nn {n n' : Nat} {h h' : pm_H} {L : Nat → rw_T} {ts : List Int32} (H : so_L n h L ts) (hn : n ≤ n') (hf : ∀ q, 15 ≤ q ∧ q ≤ 93 → h' q = h q) : so_L n' h' L ts := by
  obtain ⟨ix, R, HA, hi, hL⟩ := H.mv hf
  exact ⟨ix, R, ⟨by have := HA.1; omega, HA.2⟩, hi, hL⟩
set_option maxRecDepth 100000 in
theorem c_new (l : Launch) {n : Nat} {h : pm_H} (hn : n = 1) (hc : h 0 = pm_O cBT [.null, .null, .null, .null, .null, .null, .null, .null, .int 0, .int 0]) : bM l yX6_init cX6_init 2 none 3 111 16029 [.ref 0] n h (fun r n' h' => r = none ∧ n' = 112 ∧ x_at 112 h' (fun _ => []) [] [] [] (-1) 0 (fun _ _ => 0) []) := by
  refine pm_enter rfl (Nat.le_of_ble_eq_true rfl) (fun G K Z => ?_)
  subst hn
  refine pm_aload_n K dX6_init_0 (q := 1) rfl rfl rfl ?_
  refine pm_objInit K (gw_1 (j := 15) rfl rfl) (gw_1 (j := 16) rfl rfl) (gw_1 (j := 17) rfl rfl) (Nat.le_of_ble_eq_true rfl) (by decide) (by decide) dX6_init_1 (q := 4) rfl ?_
  refine pm_aload_n K dX6_init_4 (q := 5) rfl rfl rfl ?_
  refine pm_ic3 K dX6_init_5 (q := 6) rfl ?_
  refine pm_anewa (t := 2) (N := 3) K (gw_1 (j := 18) rfl rfl) (List.mem_of_getElem? (i := 4) rfl) rfl (by decide) (by decide) (by decide) (by decide) (by decide) (by decide) dX6_init_6 (q := 9) rfl ?_
  refine pm_nn (n' := 2) rfl ?_
  refine pm_putF (fs' := [.ref 1, .null, .null, .null, .null, .null, .null, .null, .int 0, .int 0]) K inX6 tyX6 tyX6_ok nmX6 rfl (k := 0) (by decide) wlX6_11 rfl rfl rfl rfl (fun _ => ⟨rfl, rfl⟩) (by decide) (pm_ne (by decide) hc) (Nat.le_of_ble_eq_true rfl) rfl dX6_init_9 (q := 12) rfl ?_
  refine pm_aload_n K dX6_init_12 (q := 13) rfl rfl rfl ?_
  refine pm_ic3 K dX6_init_13 (q := 14) rfl ?_
  refine pm_anewa (t := 3) (N := 3) K (gw_1 (j := 20) rfl rfl) (List.mem_of_getElem? (i := 5) rfl) rfl (by decide) (by decide) (by decide) (by decide) (by decide) (by decide) dX6_init_14 (q := 17) rfl ?_
  refine pm_nn (n' := 3) rfl ?_
  refine pm_putF (fs' := [.ref 1, .ref 2, .null, .null, .null, .null, .null, .null, .int 0, .int 0]) K inX6 tyX6 tyX6_ok nmX6 rfl (k := 1) (by decide) wlX6_17 rfl rfl rfl rfl (fun _ => ⟨rfl, rfl⟩) (by decide) (pm_ne (by decide) (pm_same _ _ _)) (Nat.le_of_ble_eq_true rfl) rfl dX6_init_17 (q := 20) rfl ?_
  refine pm_aload_n K dX6_init_20 (q := 21) rfl rfl rfl ?_
  refine pm_new (ci := 0) K inX0 tyX0 tyX0_ok (gw_1 (j := 18) rfl rfl) (gw_1 (j := 22) rfl rfl) (gw_1 (j := 2) rfl rfl) rfl dfX0 (fun _ => rfl) (by decide) (by decide) (by decide) dX6_init_21 (q := 24) rfl ?_
  refine pm_nn (n' := 4) rfl ?_
  refine pm_dup K dX6_init_24 (q := 25) rfl ?_
  refine pm_bipush (v := nI 6) K dX6_init_25 (q := 27) rfl (by decide) ?_
  refine pm_callI K gw_ok wcX6_21 (c_bag6 l (b := 3) rfl (by decide) (pm_same _ _ _)) rfl rfl (Nat.le_of_ble_eq_true rfl) (by decide) (by decide) dX6_init_27 (q := 30) rfl (fun r1 n1 h1 hp => ?_)
  obtain ⟨rfl, rfl, B0, F0⟩ := hp
  refine pm_putF (fs' := [.ref 1, .ref 2, .ref 3, .null, .null, .null, .null, .null, .int 0, .int 0]) K inX6 tyX6 tyX6_ok nmX6 rfl (k := 2) (by decide) wlX6_24 rfl rfl rfl rfl (fun _ => ⟨rfl, rfl⟩) (by decide) ((F0 0 (by decide)).trans (pm_ne (by decide) (pm_same _ _ _))) (Nat.le_of_ble_eq_true rfl) rfl dX6_init_30 (q := 33) rfl ?_
  refine pm_aload_n K dX6_init_33 (q := 34) rfl rfl rfl ?_
  refine pm_new (ci := 0) K inX0 tyX0 tyX0_ok (gw_1 (j := 18) rfl rfl) (gw_1 (j := 22) rfl rfl) (gw_1 (j := 2) rfl rfl) rfl dfX0 (fun _ => rfl) (by decide) (by decide) (by decide) dX6_init_34 (q := 37) rfl ?_
  refine pm_nn (n' := 8) rfl ?_
  refine pm_dup K dX6_init_37 (q := 38) rfl ?_
  refine pm_bipush (v := nI 6) K dX6_init_38 (q := 40) rfl (by decide) ?_
  refine pm_callI K gw_ok wcX6_21 (c_bag6 l (b := 7) rfl (by decide) (pm_same _ _ _)) rfl rfl (Nat.le_of_ble_eq_true rfl) (by decide) (by decide) dX6_init_40 (q := 43) rfl (fun r1 n1 h2 hp => ?_)
  obtain ⟨rfl, rfl, B1, F1⟩ := hp
  refine pm_putF (fs' := [.ref 1, .ref 2, .ref 3, .ref 7, .null, .null, .null, .null, .int 0, .int 0]) K inX6 tyX6 tyX6_ok nmX6 rfl (k := 3) (by decide) wlX6_28 rfl rfl rfl rfl (fun _ => ⟨rfl, rfl⟩) (by decide) ((F1 0 (by decide)).trans (pm_ne (by decide) (pm_same _ _ _))) (Nat.le_of_ble_eq_true rfl) rfl dX6_init_43 (q := 46) rfl ?_
  refine pm_aload_n K dX6_init_46 (q := 47) rfl rfl rfl ?_
  refine pm_new (ci := 0) K inX0 tyX0 tyX0_ok (gw_1 (j := 18) rfl rfl) (gw_1 (j := 22) rfl rfl) (gw_1 (j := 2) rfl rfl) rfl dfX0 (fun _ => rfl) (by decide) (by decide) (by decide) dX6_init_47 (q := 50) rfl ?_
  refine pm_nn (n' := 12) rfl ?_
  refine pm_dup K dX6_init_50 (q := 51) rfl ?_
  refine pm_bipush (v := nI 24) K dX6_init_51 (q := 53) rfl (by decide) ?_
  refine pm_callI K gw_ok wcX6_21 (c_bag24 l (b := 11) rfl (by decide) (pm_same _ _ _)) rfl rfl (Nat.le_of_ble_eq_true rfl) (by decide) (by decide) dX6_init_53 (q := 56) rfl (fun r1 n1 h3 hp => ?_)
  obtain ⟨rfl, rfl, B2, F2⟩ := hp
  refine pm_putF (fs' := [.ref 1, .ref 2, .ref 3, .ref 7, .ref 11, .null, .null, .null, .int 0, .int 0]) K inX6 tyX6 tyX6_ok nmX6 rfl (k := 4) (by decide) wlX6_31 rfl rfl rfl rfl (fun _ => ⟨rfl, rfl⟩) (by decide) ((F2 0 (by decide)).trans (pm_ne (by decide) (pm_same _ _ _))) (Nat.le_of_ble_eq_true rfl) rfl dX6_init_56 (q := 59) rfl ?_
  refine pm_aload_n K dX6_init_59 (q := 60) rfl rfl rfl ?_
  refine pm_new (ci := 5) K inX5 tyX5 tyX5_ok (gw_1 (j := 46) rfl rfl) (gw_1 (j := 47) rfl rfl) (gw_1 (j := 3) rfl rfl) rfl dfX5 (fun _ => rfl) (by decide) (by decide) (by decide) dX6_init_60 (q := 63) rfl ?_
  refine pm_nn (n' := 16) rfl ?_
  refine pm_dup K dX6_init_63 (q := 64) rfl ?_
  refine pm_callI K gw_ok wcX6_36 (c_store0 l rfl (pm_same _ _ _)) rfl rfl (Nat.le_of_ble_eq_true rfl) (by decide) (by decide) dX6_init_64 (q := 67) rfl (fun r1 n1 h4 hp => ?_)
  obtain ⟨rfl, rfl, HS, F3⟩ := hp
  refine pm_putF (fs' := [.ref 1, .ref 2, .ref 3, .ref 7, .ref 11, .ref 15, .null, .null, .int 0, .int 0]) K inX6 tyX6 tyX6_ok nmX6 rfl (k := 5) (by decide) wlX6_37 rfl rfl rfl rfl (fun _ => ⟨rfl, rfl⟩) (by decide) ((F3 0 (by decide)).trans (pm_ne (by decide) (pm_same _ _ _))) (Nat.le_of_ble_eq_true rfl) rfl dX6_init_67 (q := 70) rfl ?_
  refine pm_aload_n K dX6_init_70 (q := 71) rfl rfl rfl ?_
  refine pm_new (ci := 2) K inX2 tyX2 tyX2_ok (gw_1 (j := 127) rfl rfl) (gw_1 (j := 128) rfl rfl) (gw_1 (j := 5) rfl rfl) rfl dfX2 (fun _ => rfl) (by decide) (by decide) (by decide) dX6_init_71 (q := 74) rfl ?_
  refine pm_nn (n' := 95) rfl ?_
  refine pm_dup K dX6_init_74 (q := 75) rfl ?_
  refine pm_aload_n K dX6_init_75 (q := 76) rfl rfl rfl ?_
  refine pm_get K inX6 rfl (k := 5) (by decide) wlX6_37 rfl (by decide) (pm_ne (by decide) (pm_same _ _ _)) rfl dX6_init_76 (q := 79) rfl ?_
  refine pm_callI K gw_ok wcX6_43 (c_ops0 l (by decide) (pm_same _ _ _)) rfl rfl (Nat.le_of_ble_eq_true rfl) (by decide) (by decide) dX6_init_79 (q := 82) rfl (fun r1 n1 h1 hp => ?_)
  obtain ⟨rfl, rfl, rfl⟩ := hp
  rw [pm_up2]
  refine pm_putF (fs' := [.ref 1, .ref 2, .ref 3, .ref 7, .ref 11, .ref 15, .ref 94, .null, .int 0, .int 0]) K inX6 tyX6 tyX6_ok nmX6 rfl (k := 6) (by decide) wlX6_46 rfl rfl rfl rfl (fun _ => ⟨rfl, rfl⟩) (by decide) (pm_ne (by decide) (pm_same _ _ _)) (Nat.le_of_ble_eq_true rfl) rfl dX6_init_82 (q := 85) rfl ?_
  refine pm_aload_n K dX6_init_85 (q := 86) rfl rfl rfl ?_
  refine pm_new (ci := 1) K inX1 tyX1 tyX1_ok (gw_1 (j := 137) rfl rfl) (gw_1 (j := 138) rfl rfl) (gw_1 (j := 6) rfl rfl) rfl dfX1 (fun _ => rfl) (by decide) (by decide) (by decide) dX6_init_86 (q := 89) rfl ?_
  refine pm_nn (n' := 96) rfl ?_
  refine pm_dup K dX6_init_89 (q := 90) rfl ?_
  refine pm_aload_n K dX6_init_90 (q := 91) rfl rfl rfl ?_
  refine pm_get K inX6 rfl (k := 5) (by decide) wlX6_37 rfl (by decide) (pm_ne (by decide) (pm_same _ _ _)) rfl dX6_init_91 (q := 94) rfl ?_
  refine pm_callI K gw_ok wcX6_52 (c_join0 l rfl (pm_same _ _ _)) rfl rfl (Nat.le_of_ble_eq_true rfl) (by decide) (by decide) dX6_init_94 (q := 97) rfl (fun r1 n1 h5 hp => ?_)
  obtain ⟨rfl, rfl, J1, J2, F4⟩ := hp
  refine pm_putF (fs' := [.ref 1, .ref 2, .ref 3, .ref 7, .ref 11, .ref 15, .ref 94, .ref 95, .int 0, .int 0]) K inX6 tyX6 tyX6_ok nmX6 rfl (k := 7) (by decide) wlX6_53 rfl rfl rfl rfl (fun _ => ⟨rfl, rfl⟩) (by decide) ((F4 0 (by decide)).trans (pm_ne (by decide) (pm_same _ _ _))) (Nat.le_of_ble_eq_true rfl) rfl dX6_init_97 (q := 100) rfl ?_
  refine pm_aload_n K dX6_init_100 (q := 101) rfl rfl rfl ?_
  refine pm_icm1 K dX6_init_101 (q := 102) rfl ?_
  refine pm_put (fs' := [.ref 1, .ref 2, .ref 3, .ref 7, .ref 11, .ref 15, .ref 94, .ref 95, .int (-1), .int 0]) K inX6 tyX6 tyX6_ok nmX6 rfl (k := 8) (by decide) wlX6_57 rfl rfl (fun _ => ⟨rfl, rfl⟩) (by decide) (pm_same _ _ _) (Nat.le_of_ble_eq_true rfl) rfl dX6_init_102 (q := 105) rfl ?_
  refine pm_aload_n K dX6_init_105 (q := 106) rfl rfl rfl ?_
  refine pm_ic0 K dX6_init_106 (q := 107) rfl ?_
  refine pm_put (fs' := [.ref 1, .ref 2, .ref 3, .ref 7, .ref 11, .ref 15, .ref 94, .ref 95, .int (-1), .int 0]) K inX6 tyX6 tyX6_ok nmX6 rfl (k := 9) (by decide) wlX6_61 rfl rfl (fun _ => ⟨rfl, rfl⟩) (by decide) (pm_same _ _ _) (Nat.le_of_ble_eq_true rfl) rfl dX6_init_107 (q := 110) rfl ?_
  refine pm_ic0 K dX6_init_110 (q := 111) rfl ?_
  refine pm_istore_n K dX6_init_111 (q := 112) rfl rfl (by decide) rfl ?_
  refine pm_iload_n K dX6_init_112 (q := 113) rfl rfl rfl ?_
  refine pm_ic3 K dX6_init_113 (q := 114) rfl ?_
  refine pm_icmp_ge K dX6_init_114 (tgt := 138) (q := 117) rfl rfl (fun z => absurd z (by decide)) (fun _ => ?_)
  refine pm_aload_n K dX6_init_117 (q := 118) rfl rfl rfl ?_
  refine pm_get K inX6 rfl (k := 0) (by decide) wlX6_11 rfl (by decide) (pm_same _ _ _) rfl dX6_init_118 (q := 121) rfl ?_
  refine pm_iload_n K dX6_init_121 (q := 122) rfl rfl rfl ?_
  refine pm_new (ci := 0) K inX0 tyX0 tyX0_ok (gw_1 (j := 18) rfl rfl) (gw_1 (j := 22) rfl rfl) (gw_1 (j := 2) rfl rfl) rfl dfX0 (fun _ => rfl) (by decide) (by decide) (by decide) dX6_init_122 (q := 125) rfl ?_
  refine pm_nn (n' := 98) rfl ?_
  refine pm_dup K dX6_init_125 (q := 126) rfl ?_
  refine pm_bipush (v := nI 12) K dX6_init_126 (q := 128) rfl (by decide) ?_
  refine pm_callI K gw_ok wcX6_21 (c_bag12 l (b := 97) rfl (by decide) (pm_same _ _ _)) rfl rfl (Nat.le_of_ble_eq_true rfl) (by decide) (by decide) dX6_init_128 (q := 131) rfl (fun r1 n1 h6 hp => ?_)
  obtain ⟨rfl, rfl, T0, F5⟩ := hp
  refine pm_aastN (r := 0) K (by decide) ((F5 1 (by decide)).trans (pm_ne (by decide) (pm_ne (by decide) (pm_ne (by decide) (pm_ne (by decide) ((F4 1 (by decide)).trans (pm_ne (by decide) (pm_ne (by decide) (pm_ne (by decide) (pm_ne (by decide) ((F3 1 (by decide)).trans (pm_ne (by decide) (pm_ne (by decide) ((F2 1 (by decide)).trans (pm_ne (by decide) (pm_ne (by decide) ((F1 1 (by decide)).trans (pm_ne (by decide) (pm_ne (by decide) ((F0 1 (by decide)).trans (pm_ne (by decide) (pm_ne (by decide) (pm_ne (by decide) (pm_ne (by decide) (pm_same _ _ _))))))))))))))))))))))))) (by decide) T0.2.2.2.1 rfl rfl (by decide) (by decide) dX6_init_131 (q := 132) rfl ?_
  refine pm_inc K dX6_init_132 (q := 135) rfl rfl (by decide) rfl ?_
  refine pm_goto K dX6_init_135 (q := 112) rfl ?_
  refine pm_iload_n K dX6_init_112 (q := 113) rfl rfl rfl ?_
  refine pm_ic3 K dX6_init_113 (q := 114) rfl ?_
  refine pm_icmp_ge K dX6_init_114 (tgt := 138) (q := 117) rfl rfl (fun z => absurd z (by decide)) (fun _ => ?_)
  refine pm_aload_n K dX6_init_117 (q := 118) rfl rfl rfl ?_
  refine pm_get K inX6 rfl (k := 0) (by decide) wlX6_11 rfl (by decide) (pm_ne (by decide) ((F5 0 (by decide)).trans (pm_ne (by decide) (pm_same _ _ _)))) rfl dX6_init_118 (q := 121) rfl ?_
  refine pm_iload_n K dX6_init_121 (q := 122) rfl rfl rfl ?_
  refine pm_new (ci := 0) K inX0 tyX0 tyX0_ok (gw_1 (j := 18) rfl rfl) (gw_1 (j := 22) rfl rfl) (gw_1 (j := 2) rfl rfl) rfl dfX0 (fun _ => rfl) (by decide) (by decide) (by decide) dX6_init_122 (q := 125) rfl ?_
  refine pm_nn (n' := 102) rfl ?_
  refine pm_dup K dX6_init_125 (q := 126) rfl ?_
  refine pm_bipush (v := nI 12) K dX6_init_126 (q := 128) rfl (by decide) ?_
  refine pm_callI K gw_ok wcX6_21 (c_bag12 l (b := 101) rfl (by decide) (pm_same _ _ _)) rfl rfl (Nat.le_of_ble_eq_true rfl) (by decide) (by decide) dX6_init_128 (q := 131) rfl (fun r1 n1 h7 hp => ?_)
  obtain ⟨rfl, rfl, T1, F6⟩ := hp
  refine pm_aastN (r := 1) K (by decide) ((F6 1 (by decide)).trans (pm_ne (by decide) (pm_same _ _ _))) (by decide) T1.2.2.2.1 rfl rfl (by decide) (by decide) dX6_init_131 (q := 132) rfl ?_
  refine pm_inc K dX6_init_132 (q := 135) rfl rfl (by decide) rfl ?_
  refine pm_goto K dX6_init_135 (q := 112) rfl ?_
  refine pm_iload_n K dX6_init_112 (q := 113) rfl rfl rfl ?_
  refine pm_ic3 K dX6_init_113 (q := 114) rfl ?_
  refine pm_icmp_ge K dX6_init_114 (tgt := 138) (q := 117) rfl rfl (fun z => absurd z (by decide)) (fun _ => ?_)
  refine pm_aload_n K dX6_init_117 (q := 118) rfl rfl rfl ?_
  refine pm_get K inX6 rfl (k := 0) (by decide) wlX6_11 rfl (by decide) (pm_ne (by decide) ((F6 0 (by decide)).trans (pm_ne (by decide) (pm_ne (by decide) ((F5 0 (by decide)).trans (pm_ne (by decide) (pm_same _ _ _))))))) rfl dX6_init_118 (q := 121) rfl ?_
  refine pm_iload_n K dX6_init_121 (q := 122) rfl rfl rfl ?_
  refine pm_new (ci := 0) K inX0 tyX0 tyX0_ok (gw_1 (j := 18) rfl rfl) (gw_1 (j := 22) rfl rfl) (gw_1 (j := 2) rfl rfl) rfl dfX0 (fun _ => rfl) (by decide) (by decide) (by decide) dX6_init_122 (q := 125) rfl ?_
  refine pm_nn (n' := 106) rfl ?_
  refine pm_dup K dX6_init_125 (q := 126) rfl ?_
  refine pm_bipush (v := nI 12) K dX6_init_126 (q := 128) rfl (by decide) ?_
  refine pm_callI K gw_ok wcX6_21 (c_bag12 l (b := 105) rfl (by decide) (pm_same _ _ _)) rfl rfl (Nat.le_of_ble_eq_true rfl) (by decide) (by decide) dX6_init_128 (q := 131) rfl (fun r1 n1 h8 hp => ?_)
  obtain ⟨rfl, rfl, T2, F7⟩ := hp
  refine pm_aastN (r := 2) K (by decide) ((F7 1 (by decide)).trans (pm_ne (by decide) (pm_same _ _ _))) (by decide) T2.2.2.2.1 rfl rfl (by decide) (by decide) dX6_init_131 (q := 132) rfl ?_
  refine pm_inc K dX6_init_132 (q := 135) rfl rfl (by decide) rfl ?_
  refine pm_goto K dX6_init_135 (q := 112) rfl ?_
  refine pm_iload_n K dX6_init_112 (q := 113) rfl rfl rfl ?_
  refine pm_ic3 K dX6_init_113 (q := 114) rfl ?_
  refine pm_icmp_ge K dX6_init_114 (tgt := 138) (q := 117) rfl rfl (fun _ => ?_) (fun z => absurd z (fun z => z (by decide)))
  refine pm_ic0 K dX6_init_138 (q := 139) rfl ?_
  refine pm_istore_n K dX6_init_139 (q := 140) rfl rfl (by decide) rfl ?_
  refine pm_iload_n K dX6_init_140 (q := 141) rfl rfl rfl ?_
  refine pm_ic3 K dX6_init_141 (q := 142) rfl ?_
  refine pm_icmp_ge K dX6_init_142 (tgt := 164) (q := 145) rfl rfl (fun z => absurd z (by decide)) (fun _ => ?_)
  refine pm_aload_n K dX6_init_145 (q := 146) rfl rfl rfl ?_
  refine pm_get K inX6 rfl (k := 1) (by decide) wlX6_17 rfl (by decide) (pm_ne (by decide) ((F7 0 (by decide)).trans (pm_ne (by decide) (pm_ne (by decide) ((F6 0 (by decide)).trans (pm_ne (by decide) (pm_ne (by decide) ((F5 0 (by decide)).trans (pm_ne (by decide) (pm_same _ _ _)))))))))) rfl dX6_init_146 (q := 149) rfl ?_
  refine pm_iload_n K dX6_init_149 (q := 150) rfl rfl rfl ?_
  refine pm_new (ci := 4) K inX4 tyX4 tyX4_ok (gw_1 (j := 20) rfl rfl) (gw_1 (j := 152) rfl rfl) (gw_1 (j := 7) rfl rfl) rfl dfX4 (fun _ => rfl) (by decide) (by decide) (by decide) dX6_init_150 (q := 153) rfl ?_
  refine pm_nn (n' := 110) rfl ?_
  refine pm_dup K dX6_init_153 (q := 154) rfl ?_
  refine pm_callIN K gw_ok wcX6_64 (c_step0 l (a := 109)) rfl rfl (Nat.le_of_ble_eq_true rfl) (by decide) (by decide) dX6_init_154 (q := 157) rfl (fun r1 n1 h1 hp => ?_)
  obtain ⟨rfl, rfl, rfl⟩ := hp
  refine pm_aastN (r := 0) K (by decide) (pm_ne (by decide) (pm_ne (by decide) ((F7 2 (by decide)).trans (pm_ne (by decide) (pm_ne (by decide) ((F6 2 (by decide)).trans (pm_ne (by decide) (pm_ne (by decide) ((F5 2 (by decide)).trans (pm_ne (by decide) (pm_ne (by decide) (pm_ne (by decide) (pm_ne (by decide) ((F4 2 (by decide)).trans (pm_ne (by decide) (pm_ne (by decide) (pm_ne (by decide) (pm_ne (by decide) ((F3 2 (by decide)).trans (pm_ne (by decide) (pm_ne (by decide) ((F2 2 (by decide)).trans (pm_ne (by decide) (pm_ne (by decide) ((F1 2 (by decide)).trans (pm_ne (by decide) (pm_ne (by decide) ((F0 2 (by decide)).trans (pm_ne (by decide) (pm_ne (by decide) (pm_same _ _ _))))))))))))))))))))))))))))))) (by decide) (pm_same _ _ _) rfl rfl (by decide) (by decide) dX6_init_157 (q := 158) rfl ?_
  refine pm_inc K dX6_init_158 (q := 161) rfl rfl (by decide) rfl ?_
  refine pm_goto K dX6_init_161 (q := 140) rfl ?_
  refine pm_iload_n K dX6_init_140 (q := 141) rfl rfl rfl ?_
  refine pm_ic3 K dX6_init_141 (q := 142) rfl ?_
  refine pm_icmp_ge K dX6_init_142 (tgt := 164) (q := 145) rfl rfl (fun z => absurd z (by decide)) (fun _ => ?_)
  refine pm_aload_n K dX6_init_145 (q := 146) rfl rfl rfl ?_
  refine pm_get K inX6 rfl (k := 1) (by decide) wlX6_17 rfl (by decide) (pm_ne (by decide) (pm_ne (by decide) (pm_ne (by decide) ((F7 0 (by decide)).trans (pm_ne (by decide) (pm_ne (by decide) ((F6 0 (by decide)).trans (pm_ne (by decide) (pm_ne (by decide) ((F5 0 (by decide)).trans (pm_ne (by decide) (pm_same _ _ _)))))))))))) rfl dX6_init_146 (q := 149) rfl ?_
  refine pm_iload_n K dX6_init_149 (q := 150) rfl rfl rfl ?_
  refine pm_new (ci := 4) K inX4 tyX4 tyX4_ok (gw_1 (j := 20) rfl rfl) (gw_1 (j := 152) rfl rfl) (gw_1 (j := 7) rfl rfl) rfl dfX4 (fun _ => rfl) (by decide) (by decide) (by decide) dX6_init_150 (q := 153) rfl ?_
  refine pm_nn (n' := 111) rfl ?_
  refine pm_dup K dX6_init_153 (q := 154) rfl ?_
  refine pm_callIN K gw_ok wcX6_64 (c_step0 l (a := 110)) rfl rfl (Nat.le_of_ble_eq_true rfl) (by decide) (by decide) dX6_init_154 (q := 157) rfl (fun r1 n1 h1 hp => ?_)
  obtain ⟨rfl, rfl, rfl⟩ := hp
  refine pm_aastN (r := 1) K (by decide) (pm_ne (by decide) (pm_same _ _ _)) (by decide) (pm_same _ _ _) rfl rfl (by decide) (by decide) dX6_init_157 (q := 158) rfl ?_
  refine pm_inc K dX6_init_158 (q := 161) rfl rfl (by decide) rfl ?_
  refine pm_goto K dX6_init_161 (q := 140) rfl ?_
  refine pm_iload_n K dX6_init_140 (q := 141) rfl rfl rfl ?_
  refine pm_ic3 K dX6_init_141 (q := 142) rfl ?_
  refine pm_icmp_ge K dX6_init_142 (tgt := 164) (q := 145) rfl rfl (fun z => absurd z (by decide)) (fun _ => ?_)
  refine pm_aload_n K dX6_init_145 (q := 146) rfl rfl rfl ?_
  refine pm_get K inX6 rfl (k := 1) (by decide) wlX6_17 rfl (by decide) (pm_ne (by decide) (pm_ne (by decide) (pm_ne (by decide) (pm_ne (by decide) (pm_ne (by decide) ((F7 0 (by decide)).trans (pm_ne (by decide) (pm_ne (by decide) ((F6 0 (by decide)).trans (pm_ne (by decide) (pm_ne (by decide) ((F5 0 (by decide)).trans (pm_ne (by decide) (pm_same _ _ _)))))))))))))) rfl dX6_init_146 (q := 149) rfl ?_
  refine pm_iload_n K dX6_init_149 (q := 150) rfl rfl rfl ?_
  refine pm_new (ci := 4) K inX4 tyX4 tyX4_ok (gw_1 (j := 20) rfl rfl) (gw_1 (j := 152) rfl rfl) (gw_1 (j := 7) rfl rfl) rfl dfX4 (fun _ => rfl) (by decide) (by decide) (by decide) dX6_init_150 (q := 153) rfl ?_
  refine pm_nn (n' := 112) rfl ?_
  refine pm_dup K dX6_init_153 (q := 154) rfl ?_
  refine pm_callIN K gw_ok wcX6_64 (c_step0 l (a := 111)) rfl rfl (Nat.le_of_ble_eq_true rfl) (by decide) (by decide) dX6_init_154 (q := 157) rfl (fun r1 n1 h1 hp => ?_)
  obtain ⟨rfl, rfl, rfl⟩ := hp
  refine pm_aastN (r := 2) K (by decide) (pm_ne (by decide) (pm_same _ _ _)) (by decide) (pm_same _ _ _) rfl rfl (by decide) (by decide) dX6_init_157 (q := 158) rfl ?_
  refine pm_inc K dX6_init_158 (q := 161) rfl rfl (by decide) rfl ?_
  refine pm_goto K dX6_init_161 (q := 140) rfl ?_
  refine pm_iload_n K dX6_init_140 (q := 141) rfl rfl rfl ?_
  refine pm_ic3 K dX6_init_141 (q := 142) rfl ?_
  refine pm_icmp_ge K dX6_init_142 (tgt := 164) (q := 145) rfl rfl (fun _ => ?_) (fun z => absurd z (fun z => z (by decide)))
  refine pm_vret Z dX6_init_164 rfl (Nat.le_of_ble_eq_true rfl) (Nat.le_of_ble_eq_true rfl) ⟨rfl, rfl, ⟨⟨by decide, ⟨_, (pm_ne (by decide) (pm_ne (by decide) (pm_ne (by decide) (pm_ne (by decide) (pm_ne (by decide) (pm_ne (by decide) (pm_same _ _ _))))))), fun t ht => by rcases (show t = 0 ∨ t = 1 ∨ t = 2 by omega) with rfl | rfl | rfl <;> rfl⟩, ⟨_, (pm_same _ _ _), fun t ht => by rcases (show t = 0 ∨ t = 1 ∨ t = 2 by omega) with rfl | rfl | rfl <;> rfl⟩, (pm_ne (by decide) (pm_ne (by decide) (pm_ne (by decide) (pm_ne (by decide) (pm_ne (by decide) (pm_ne (by decide) (pm_ne (by decide) ((F7 94 (by decide)).trans (pm_ne (by decide) (pm_ne (by decide) ((F6 94 (by decide)).trans (pm_ne (by decide) (pm_ne (by decide) ((F5 94 (by decide)).trans (pm_ne (by decide) (pm_ne (by decide) (pm_ne (by decide) (pm_ne (by decide) ((F4 94 (by decide)).trans (pm_ne (by decide) (pm_ne (by decide) (pm_same _ _ _)))))))))))))))))))))), (by rw [pm_ne (by decide) rfl, pm_ne (by decide) rfl, pm_ne (by decide) rfl, pm_ne (by decide) rfl, pm_ne (by decide) rfl, pm_ne (by decide) rfl, pm_ne (by decide) rfl, F7 95 (by decide), pm_ne (by decide) rfl, pm_ne (by decide) rfl, F6 95 (by decide), pm_ne (by decide) rfl, pm_ne (by decide) rfl, F5 95 (by decide), pm_ne (by decide) rfl, pm_ne (by decide) rfl, pm_ne (by decide) rfl, pm_ne (by decide) rfl]; exact J1)⟩, (pm_ne (by decide) (pm_ne (by decide) (pm_ne (by decide) (pm_ne (by decide) (pm_ne (by decide) (pm_ne (by decide) (pm_ne (by decide) ((F7 0 (by decide)).trans (pm_ne (by decide) (pm_ne (by decide) ((F6 0 (by decide)).trans (pm_ne (by decide) (pm_ne (by decide) ((F5 0 (by decide)).trans (pm_ne (by decide) (pm_same _ _ _)))))))))))))))), ?_, ?_, ?_, ?_, ?_, fun t ht => ?_, fun s hs => ?_⟩⟩
  · exact B0.fr (by decide) (fun q a c => by rw [pm_ne (by omega) rfl, pm_ne (by omega) rfl, pm_ne (by omega) rfl, pm_ne (by omega) rfl, pm_ne (by omega) rfl, pm_ne (by omega) rfl, pm_ne (by omega) rfl, F7 q (by omega), pm_ne (by omega) rfl, pm_ne (by omega) rfl, F6 q (by omega), pm_ne (by omega) rfl, pm_ne (by omega) rfl, F5 q (by omega), pm_ne (by omega) rfl, pm_ne (by omega) rfl, pm_ne (by omega) rfl, pm_ne (by omega) rfl, F4 q (by omega), pm_ne (by omega) rfl, pm_ne (by omega) rfl, pm_ne (by omega) rfl, pm_ne (by omega) rfl, F3 q (by omega), pm_ne (by omega) rfl, pm_ne (by omega) rfl, F2 q (by omega), pm_ne (by omega) rfl, pm_ne (by omega) rfl, F1 q (by omega), pm_ne (by omega) rfl, pm_ne (by omega) rfl])
  · exact B1.fr (by decide) (fun q a c => by rw [pm_ne (by omega) rfl, pm_ne (by omega) rfl, pm_ne (by omega) rfl, pm_ne (by omega) rfl, pm_ne (by omega) rfl, pm_ne (by omega) rfl, pm_ne (by omega) rfl, F7 q (by omega), pm_ne (by omega) rfl, pm_ne (by omega) rfl, F6 q (by omega), pm_ne (by omega) rfl, pm_ne (by omega) rfl, F5 q (by omega), pm_ne (by omega) rfl, pm_ne (by omega) rfl, pm_ne (by omega) rfl, pm_ne (by omega) rfl, F4 q (by omega), pm_ne (by omega) rfl, pm_ne (by omega) rfl, pm_ne (by omega) rfl, pm_ne (by omega) rfl, F3 q (by omega), pm_ne (by omega) rfl, pm_ne (by omega) rfl, F2 q (by omega), pm_ne (by omega) rfl, pm_ne (by omega) rfl])
  · exact B2.fr (by decide) (fun q a c => by rw [pm_ne (by omega) rfl, pm_ne (by omega) rfl, pm_ne (by omega) rfl, pm_ne (by omega) rfl, pm_ne (by omega) rfl, pm_ne (by omega) rfl, pm_ne (by omega) rfl, F7 q (by omega), pm_ne (by omega) rfl, pm_ne (by omega) rfl, F6 q (by omega), pm_ne (by omega) rfl, pm_ne (by omega) rfl, F5 q (by omega), pm_ne (by omega) rfl, pm_ne (by omega) rfl, pm_ne (by omega) rfl, pm_ne (by omega) rfl, F4 q (by omega), pm_ne (by omega) rfl, pm_ne (by omega) rfl, pm_ne (by omega) rfl, pm_ne (by omega) rfl, F3 q (by omega), pm_ne (by omega) rfl, pm_ne (by omega) rfl])
  · exact ⟨_, HS.nn (by decide) (fun q hq => by rw [pm_ne (by omega) rfl, pm_ne (by omega) rfl, pm_ne (by omega) rfl, pm_ne (by omega) rfl, pm_ne (by omega) rfl, pm_ne (by omega) rfl, pm_ne (by omega) rfl, F7 q (by omega), pm_ne (by omega) rfl, pm_ne (by omega) rfl, F6 q (by omega), pm_ne (by omega) rfl, pm_ne (by omega) rfl, F5 q (by omega), pm_ne (by omega) rfl, pm_ne (by omega) rfl, pm_ne (by omega) rfl, pm_ne (by omega) rfl, F4 q (by omega), pm_ne (by omega) rfl, pm_ne (by omega) rfl, pm_ne (by omega) rfl, pm_ne (by omega) rfl])⟩
  · exact ⟨_, (by rw [pm_ne (by decide) rfl, pm_ne (by decide) rfl, pm_ne (by decide) rfl, pm_ne (by decide) rfl, pm_ne (by decide) rfl, pm_ne (by decide) rfl, pm_ne (by decide) rfl, F7 96 (by decide), pm_ne (by decide) rfl, pm_ne (by decide) rfl, F6 96 (by decide), pm_ne (by decide) rfl, pm_ne (by decide) rfl, F5 96 (by decide), pm_ne (by decide) rfl, pm_ne (by decide) rfl, pm_ne (by decide) rfl, pm_ne (by decide) rfl]; exact J2), Or.inl rfl⟩
  · rcases (show t = 0 ∨ t = 1 ∨ t = 2 by omega) with rfl | rfl | rfl
    · exact T0.fr (by decide) (fun q a c => by rw [pm_ne (by omega) rfl, pm_ne (by omega) rfl, pm_ne (by omega) rfl, pm_ne (by omega) rfl, pm_ne (by omega) rfl, pm_ne (by omega) rfl, pm_ne (by omega) rfl, F7 q (by omega), pm_ne (by omega) rfl, pm_ne (by omega) rfl, F6 q (by omega), pm_ne (by omega) rfl, pm_ne (by omega) rfl])
    · exact T1.fr (by decide) (fun q a c => by rw [pm_ne (by omega) rfl, pm_ne (by omega) rfl, pm_ne (by omega) rfl, pm_ne (by omega) rfl, pm_ne (by omega) rfl, pm_ne (by omega) rfl, pm_ne (by omega) rfl, F7 q (by omega), pm_ne (by omega) rfl, pm_ne (by omega) rfl])
    · exact T2.fr (by decide) (fun q a c => by rw [pm_ne (by omega) rfl, pm_ne (by omega) rfl, pm_ne (by omega) rfl, pm_ne (by omega) rfl, pm_ne (by omega) rfl, pm_ne (by omega) rfl, pm_ne (by omega) rfl])
  · rcases (show s = 0 ∨ s = 1 ∨ s = 2 by omega) with rfl | rfl | rfl
    · exact (pm_ne (by decide) (pm_ne (by decide) (pm_ne (by decide) (pm_ne (by decide) (pm_ne (by decide) (pm_same _ _ _))))))
    · exact (pm_ne (by decide) (pm_ne (by decide) (pm_ne (by decide) (pm_same _ _ _))))
    · exact (pm_ne (by decide) (pm_same _ _ _))
set_option maxRecDepth 100000 in
theorem c_mnew (l : Launch) {n : Nat} {h : pm_H} (hn : n = 113) (hc : h 112 = pm_O cMod [.null, .null, .int 0, .int 0, .int 0, .null, .null, .null, .null, .int 0, .null, .null, .null, .int 0, .null, .int 0, .null, .int 0, .int 0, .null, .null, .null, .null, .int 0, .int 0, .int 0, .int 0]) : bM l yX7_init cX7_init 1 none 1 15 378 [.ref 112] n h (fun r n' h' => r = none ∧ n' = 128 ∧ mo_at 128 h' (fun _ => 0) (fun _ _ => 0) ∧ ∀ q, q < 112 → h' q = h q) := by
  refine pm_enter rfl (Nat.le_of_ble_eq_true rfl) (fun G K Z => ?_)
  subst hn
  refine pm_aload_n K dX7_init_0 (q := 1) rfl rfl rfl ?_
  refine pm_objInit K (gw_3 (j := 35) rfl rfl) (gw_1 (j := 16) rfl rfl) (gw_1 (j := 17) rfl rfl) (Nat.le_of_ble_eq_true rfl) (by decide) (by decide) dX7_init_1 (q := 4) rfl ?_
  refine pm_aload_n K dX7_init_4 (q := 5) rfl rfl rfl ?_
  refine pm_bipush (v := nI 108) K dX7_init_5 (q := 7) rfl (by decide) ?_
  refine pm_newa (atype := .int) (ty := .int) (t := 0) (N := 108) K rfl (gw_1 (j := 45) rfl rfl) rfl (fun _ _ z => z) rfl (by decide) (by decide) (by decide) (by decide) (by decide) (by decide) dX7_init_7 (q := 9) rfl ?_
  refine pm_nn (n' := 114) rfl ?_
  refine pm_putF (fs' := [.ref 113, .null, .int 0, .int 0, .int 0, .null, .null, .null, .null, .int 0, .null, .null, .null, .int 0, .null, .int 0, .null, .int 0, .int 0, .null, .null, .null, .null, .int 0, .int 0, .int 0, .int 0]) K inX7 tyX7 tyX7_ok nmX7 rfl (k := 0) (by decide) wlX7_7 rfl rfl rfl rfl (fun _ => ⟨rfl, rfl⟩) (by decide) (pm_ne (by decide) hc) (Nat.le_of_ble_eq_true rfl) rfl dX7_init_9 (q := 12) rfl ?_
  refine pm_aload_n K dX7_init_12 (q := 13) rfl rfl rfl ?_
  refine pm_ic3 K dX7_init_13 (q := 14) rfl ?_
  refine pm_newa (atype := .int) (ty := .int) (t := 0) (N := 3) K rfl (gw_1 (j := 45) rfl rfl) rfl (fun _ _ z => z) rfl (by decide) (by decide) (by decide) (by decide) (by decide) (by decide) dX7_init_14 (q := 16) rfl ?_
  refine pm_nn (n' := 115) rfl ?_
  refine pm_putF (fs' := [.ref 113, .ref 114, .int 0, .int 0, .int 0, .null, .null, .null, .null, .int 0, .null, .null, .null, .int 0, .null, .int 0, .null, .int 0, .int 0, .null, .null, .null, .null, .int 0, .int 0, .int 0, .int 0]) K inX7 tyX7 tyX7_ok nmX7 rfl (k := 1) (by decide) wlX7_13 rfl rfl rfl rfl (fun _ => ⟨rfl, rfl⟩) (by decide) (pm_ne (by decide) (pm_same _ _ _)) (Nat.le_of_ble_eq_true rfl) rfl dX7_init_16 (q := 19) rfl ?_
  refine pm_aload_n K dX7_init_19 (q := 20) rfl rfl rfl ?_
  refine pm_ic3 K dX7_init_20 (q := 21) rfl ?_
  refine pm_newa (atype := .int) (ty := .int) (t := 0) (N := 3) K rfl (gw_1 (j := 45) rfl rfl) rfl (fun _ _ z => z) rfl (by decide) (by decide) (by decide) (by decide) (by decide) (by decide) dX7_init_21 (q := 23) rfl ?_
  refine pm_nn (n' := 116) rfl ?_
  refine pm_putF (fs' := [.ref 113, .ref 114, .int 0, .int 0, .int 0, .ref 115, .null, .null, .null, .int 0, .null, .null, .null, .int 0, .null, .int 0, .null, .int 0, .int 0, .null, .null, .null, .null, .int 0, .int 0, .int 0, .int 0]) K inX7 tyX7 tyX7_ok nmX7 rfl (k := 5) (by decide) wlX7_16 rfl rfl rfl rfl (fun _ => ⟨rfl, rfl⟩) (by decide) (pm_ne (by decide) (pm_same _ _ _)) (Nat.le_of_ble_eq_true rfl) rfl dX7_init_23 (q := 26) rfl ?_
  refine pm_aload_n K dX7_init_26 (q := 27) rfl rfl rfl ?_
  refine pm_ic3 K dX7_init_27 (q := 28) rfl ?_
  refine pm_newa (atype := .int) (ty := .int) (t := 0) (N := 3) K rfl (gw_1 (j := 45) rfl rfl) rfl (fun _ _ z => z) rfl (by decide) (by decide) (by decide) (by decide) (by decide) (by decide) dX7_init_28 (q := 30) rfl ?_
  refine pm_nn (n' := 117) rfl ?_
  refine pm_putF (fs' := [.ref 113, .ref 114, .int 0, .int 0, .int 0, .ref 115, .ref 116, .null, .null, .int 0, .null, .null, .null, .int 0, .null, .int 0, .null, .int 0, .int 0, .null, .null, .null, .null, .int 0, .int 0, .int 0, .int 0]) K inX7 tyX7 tyX7_ok nmX7 rfl (k := 6) (by decide) wlX7_19 rfl rfl rfl rfl (fun _ => ⟨rfl, rfl⟩) (by decide) (pm_ne (by decide) (pm_same _ _ _)) (Nat.le_of_ble_eq_true rfl) rfl dX7_init_30 (q := 33) rfl ?_
  refine pm_aload_n K dX7_init_33 (q := 34) rfl rfl rfl ?_
  refine pm_ic3 K dX7_init_34 (q := 35) rfl ?_
  refine pm_newa (atype := .int) (ty := .int) (t := 0) (N := 3) K rfl (gw_1 (j := 45) rfl rfl) rfl (fun _ _ z => z) rfl (by decide) (by decide) (by decide) (by decide) (by decide) (by decide) dX7_init_35 (q := 37) rfl ?_
  refine pm_nn (n' := 118) rfl ?_
  refine pm_putF (fs' := [.ref 113, .ref 114, .int 0, .int 0, .int 0, .ref 115, .ref 116, .ref 117, .null, .int 0, .null, .null, .null, .int 0, .null, .int 0, .null, .int 0, .int 0, .null, .null, .null, .null, .int 0, .int 0, .int 0, .int 0]) K inX7 tyX7 tyX7_ok nmX7 rfl (k := 7) (by decide) wlX7_22 rfl rfl rfl rfl (fun _ => ⟨rfl, rfl⟩) (by decide) (pm_ne (by decide) (pm_same _ _ _)) (Nat.le_of_ble_eq_true rfl) rfl dX7_init_37 (q := 40) rfl ?_
  refine pm_aload_n K dX7_init_40 (q := 41) rfl rfl rfl ?_
  refine pm_ic3 K dX7_init_41 (q := 42) rfl ?_
  refine pm_newa (atype := .int) (ty := .int) (t := 0) (N := 3) K rfl (gw_1 (j := 45) rfl rfl) rfl (fun _ _ z => z) rfl (by decide) (by decide) (by decide) (by decide) (by decide) (by decide) dX7_init_42 (q := 44) rfl ?_
  refine pm_nn (n' := 119) rfl ?_
  refine pm_putF (fs' := [.ref 113, .ref 114, .int 0, .int 0, .int 0, .ref 115, .ref 116, .ref 117, .ref 118, .int 0, .null, .null, .null, .int 0, .null, .int 0, .null, .int 0, .int 0, .null, .null, .null, .null, .int 0, .int 0, .int 0, .int 0]) K inX7 tyX7 tyX7_ok nmX7 rfl (k := 8) (by decide) wlX7_25 rfl rfl rfl rfl (fun _ => ⟨rfl, rfl⟩) (by decide) (pm_ne (by decide) (pm_same _ _ _)) (Nat.le_of_ble_eq_true rfl) rfl dX7_init_44 (q := 47) rfl ?_
  refine pm_aload_n K dX7_init_47 (q := 48) rfl rfl rfl ?_
  refine pm_bipush (v := nI 6) K dX7_init_48 (q := 50) rfl (by decide) ?_
  refine pm_newa (atype := .boolean) (ty := .boolean) (t := 4) (N := 6) K rfl (gw_3 (j := 118) rfl rfl) rfl (fun _ _ z => z) rfl (by decide) (by decide) (by decide) (by decide) (by decide) (by decide) dX7_init_50 (q := 52) rfl ?_
  refine pm_nn (n' := 120) rfl ?_
  refine pm_putF (fs' := [.ref 113, .ref 114, .int 0, .int 0, .int 0, .ref 115, .ref 116, .ref 117, .ref 118, .int 0, .ref 119, .null, .null, .int 0, .null, .int 0, .null, .int 0, .int 0, .null, .null, .null, .null, .int 0, .int 0, .int 0, .int 0]) K inX7 tyX7 tyX7_ok nmX7 rfl (k := 10) (by decide) wlX7_28 rfl rfl rfl rfl (fun _ => ⟨rfl, rfl⟩) (by decide) (pm_ne (by decide) (pm_same _ _ _)) (Nat.le_of_ble_eq_true rfl) rfl dX7_init_52 (q := 55) rfl ?_
  refine pm_aload_n K dX7_init_55 (q := 56) rfl rfl rfl ?_
  refine pm_bipush (v := nI 18) K dX7_init_56 (q := 58) rfl (by decide) ?_
  refine pm_newa (atype := .int) (ty := .int) (t := 0) (N := 18) K rfl (gw_1 (j := 45) rfl rfl) rfl (fun _ _ z => z) rfl (by decide) (by decide) (by decide) (by decide) (by decide) (by decide) dX7_init_58 (q := 60) rfl ?_
  refine pm_nn (n' := 121) rfl ?_
  refine pm_putF (fs' := [.ref 113, .ref 114, .int 0, .int 0, .int 0, .ref 115, .ref 116, .ref 117, .ref 118, .int 0, .ref 119, .ref 120, .null, .int 0, .null, .int 0, .null, .int 0, .int 0, .null, .null, .null, .null, .int 0, .int 0, .int 0, .int 0]) K inX7 tyX7 tyX7_ok nmX7 rfl (k := 11) (by decide) wlX7_32 rfl rfl rfl rfl (fun _ => ⟨rfl, rfl⟩) (by decide) (pm_ne (by decide) (pm_same _ _ _)) (Nat.le_of_ble_eq_true rfl) rfl dX7_init_60 (q := 63) rfl ?_
  refine pm_aload_n K dX7_init_63 (q := 64) rfl rfl rfl ?_
  refine pm_bipush (v := nI 72) K dX7_init_64 (q := 66) rfl (by decide) ?_
  refine pm_newa (atype := .int) (ty := .int) (t := 0) (N := 72) K rfl (gw_1 (j := 45) rfl rfl) rfl (fun _ _ z => z) rfl (by decide) (by decide) (by decide) (by decide) (by decide) (by decide) dX7_init_66 (q := 68) rfl ?_
  refine pm_nn (n' := 122) rfl ?_
  refine pm_putF (fs' := [.ref 113, .ref 114, .int 0, .int 0, .int 0, .ref 115, .ref 116, .ref 117, .ref 118, .int 0, .ref 119, .ref 120, .ref 121, .int 0, .null, .int 0, .null, .int 0, .int 0, .null, .null, .null, .null, .int 0, .int 0, .int 0, .int 0]) K inX7 tyX7 tyX7_ok nmX7 rfl (k := 12) (by decide) wlX7_35 rfl rfl rfl rfl (fun _ => ⟨rfl, rfl⟩) (by decide) (pm_ne (by decide) (pm_same _ _ _)) (Nat.le_of_ble_eq_true rfl) rfl dX7_init_68 (q := 71) rfl ?_
  refine pm_aload_n K dX7_init_71 (q := 72) rfl rfl rfl ?_
  refine pm_bipush (v := nI 75) K dX7_init_72 (q := 74) rfl (by decide) ?_
  refine pm_newa (atype := .int) (ty := .int) (t := 0) (N := 75) K rfl (gw_1 (j := 45) rfl rfl) rfl (fun _ _ z => z) rfl (by decide) (by decide) (by decide) (by decide) (by decide) (by decide) dX7_init_74 (q := 76) rfl ?_
  refine pm_nn (n' := 123) rfl ?_
  refine pm_putF (fs' := [.ref 113, .ref 114, .int 0, .int 0, .int 0, .ref 115, .ref 116, .ref 117, .ref 118, .int 0, .ref 119, .ref 120, .ref 121, .int 0, .ref 122, .int 0, .null, .int 0, .int 0, .null, .null, .null, .null, .int 0, .int 0, .int 0, .int 0]) K inX7 tyX7 tyX7_ok nmX7 rfl (k := 14) (by decide) wlX7_38 rfl rfl rfl rfl (fun _ => ⟨rfl, rfl⟩) (by decide) (pm_ne (by decide) (pm_same _ _ _)) (Nat.le_of_ble_eq_true rfl) rfl dX7_init_76 (q := 79) rfl ?_
  refine pm_aload_n K dX7_init_79 (q := 80) rfl rfl rfl ?_
  refine pm_bipush (v := nI 72) K dX7_init_80 (q := 82) rfl (by decide) ?_
  refine pm_newa (atype := .int) (ty := .int) (t := 0) (N := 72) K rfl (gw_1 (j := 45) rfl rfl) rfl (fun _ _ z => z) rfl (by decide) (by decide) (by decide) (by decide) (by decide) (by decide) dX7_init_82 (q := 84) rfl ?_
  refine pm_nn (n' := 124) rfl ?_
  refine pm_putF (fs' := [.ref 113, .ref 114, .int 0, .int 0, .int 0, .ref 115, .ref 116, .ref 117, .ref 118, .int 0, .ref 119, .ref 120, .ref 121, .int 0, .ref 122, .int 0, .ref 123, .int 0, .int 0, .null, .null, .null, .null, .int 0, .int 0, .int 0, .int 0]) K inX7 tyX7 tyX7_ok nmX7 rfl (k := 16) (by decide) wlX7_41 rfl rfl rfl rfl (fun _ => ⟨rfl, rfl⟩) (by decide) (pm_ne (by decide) (pm_same _ _ _)) (Nat.le_of_ble_eq_true rfl) rfl dX7_init_84 (q := 87) rfl ?_
  refine pm_aload_n K dX7_init_87 (q := 88) rfl rfl rfl ?_
  refine pm_ic3 K dX7_init_88 (q := 89) rfl ?_
  refine pm_newa (atype := .int) (ty := .int) (t := 0) (N := 3) K rfl (gw_1 (j := 45) rfl rfl) rfl (fun _ _ z => z) rfl (by decide) (by decide) (by decide) (by decide) (by decide) (by decide) dX7_init_89 (q := 91) rfl ?_
  refine pm_nn (n' := 125) rfl ?_
  refine pm_putF (fs' := [.ref 113, .ref 114, .int 0, .int 0, .int 0, .ref 115, .ref 116, .ref 117, .ref 118, .int 0, .ref 119, .ref 120, .ref 121, .int 0, .ref 122, .int 0, .ref 123, .int 0, .int 0, .ref 124, .null, .null, .null, .int 0, .int 0, .int 0, .int 0]) K inX7 tyX7 tyX7_ok nmX7 rfl (k := 19) (by decide) wlX7_44 rfl rfl rfl rfl (fun _ => ⟨rfl, rfl⟩) (by decide) (pm_ne (by decide) (pm_same _ _ _)) (Nat.le_of_ble_eq_true rfl) rfl dX7_init_91 (q := 94) rfl ?_
  refine pm_aload_n K dX7_init_94 (q := 95) rfl rfl rfl ?_
  refine pm_ic3 K dX7_init_95 (q := 96) rfl ?_
  refine pm_newa (atype := .int) (ty := .int) (t := 0) (N := 3) K rfl (gw_1 (j := 45) rfl rfl) rfl (fun _ _ z => z) rfl (by decide) (by decide) (by decide) (by decide) (by decide) (by decide) dX7_init_96 (q := 98) rfl ?_
  refine pm_nn (n' := 126) rfl ?_
  refine pm_putF (fs' := [.ref 113, .ref 114, .int 0, .int 0, .int 0, .ref 115, .ref 116, .ref 117, .ref 118, .int 0, .ref 119, .ref 120, .ref 121, .int 0, .ref 122, .int 0, .ref 123, .int 0, .int 0, .ref 124, .ref 125, .null, .null, .int 0, .int 0, .int 0, .int 0]) K inX7 tyX7 tyX7_ok nmX7 rfl (k := 20) (by decide) wlX7_47 rfl rfl rfl rfl (fun _ => ⟨rfl, rfl⟩) (by decide) (pm_ne (by decide) (pm_same _ _ _)) (Nat.le_of_ble_eq_true rfl) rfl dX7_init_98 (q := 101) rfl ?_
  refine pm_aload_n K dX7_init_101 (q := 102) rfl rfl rfl ?_
  refine pm_ic3 K dX7_init_102 (q := 103) rfl ?_
  refine pm_newa (atype := .int) (ty := .int) (t := 0) (N := 3) K rfl (gw_1 (j := 45) rfl rfl) rfl (fun _ _ z => z) rfl (by decide) (by decide) (by decide) (by decide) (by decide) (by decide) dX7_init_103 (q := 105) rfl ?_
  refine pm_nn (n' := 127) rfl ?_
  refine pm_putF (fs' := [.ref 113, .ref 114, .int 0, .int 0, .int 0, .ref 115, .ref 116, .ref 117, .ref 118, .int 0, .ref 119, .ref 120, .ref 121, .int 0, .ref 122, .int 0, .ref 123, .int 0, .int 0, .ref 124, .ref 125, .ref 126, .null, .int 0, .int 0, .int 0, .int 0]) K inX7 tyX7 tyX7_ok nmX7 rfl (k := 21) (by decide) wlX7_50 rfl rfl rfl rfl (fun _ => ⟨rfl, rfl⟩) (by decide) (pm_ne (by decide) (pm_same _ _ _)) (Nat.le_of_ble_eq_true rfl) rfl dX7_init_105 (q := 108) rfl ?_
  refine pm_aload_n K dX7_init_108 (q := 109) rfl rfl rfl ?_
  refine pm_ic3 K dX7_init_109 (q := 110) rfl ?_
  refine pm_newa (atype := .int) (ty := .int) (t := 0) (N := 3) K rfl (gw_1 (j := 45) rfl rfl) rfl (fun _ _ z => z) rfl (by decide) (by decide) (by decide) (by decide) (by decide) (by decide) dX7_init_110 (q := 112) rfl ?_
  refine pm_nn (n' := 128) rfl ?_
  refine pm_putF (fs' := [.ref 113, .ref 114, .int 0, .int 0, .int 0, .ref 115, .ref 116, .ref 117, .ref 118, .int 0, .ref 119, .ref 120, .ref 121, .int 0, .ref 122, .int 0, .ref 123, .int 0, .int 0, .ref 124, .ref 125, .ref 126, .ref 127, .int 0, .int 0, .int 0, .int 0]) K inX7 tyX7 tyX7_ok nmX7 rfl (k := 22) (by decide) wlX7_53 rfl rfl rfl rfl (fun _ => ⟨rfl, rfl⟩) (by decide) (pm_ne (by decide) (pm_same _ _ _)) (Nat.le_of_ble_eq_true rfl) rfl dX7_init_112 (q := 115) rfl ?_
  refine pm_vret Z dX7_init_115 rfl (Nat.le_of_ble_eq_true rfl) (Nat.le_of_ble_eq_true rfl) ⟨rfl, rfl, ⟨by decide, pm_same _ _ _, fun j hj => ?_⟩, fun q hq => by rw [pm_ne (by omega) rfl, pm_ne (by omega) rfl, pm_ne (by omega) rfl, pm_ne (by omega) rfl, pm_ne (by omega) rfl, pm_ne (by omega) rfl, pm_ne (by omega) rfl, pm_ne (by omega) rfl, pm_ne (by omega) rfl, pm_ne (by omega) rfl, pm_ne (by omega) rfl, pm_ne (by omega) rfl, pm_ne (by omega) rfl, pm_ne (by omega) rfl, pm_ne (by omega) rfl, pm_ne (by omega) rfl, pm_ne (by omega) rfl, pm_ne (by omega) rfl, pm_ne (by omega) rfl, pm_ne (by omega) rfl, pm_ne (by omega) rfl, pm_ne (by omega) rfl, pm_ne (by omega) rfl, pm_ne (by omega) rfl, pm_ne (by omega) rfl, pm_ne (by omega) rfl, pm_ne (by omega) rfl, pm_ne (by omega) rfl, pm_ne (by omega) rfl, pm_ne (by omega) rfl]⟩
  rcases (show j = 0 ∨ j = 1 ∨ j = 2 ∨ j = 3 ∨ j = 4 ∨ j = 5 ∨ j = 6 ∨ j = 7 ∨ j = 8 ∨ j = 9 ∨ j = 10 ∨ j = 11 ∨ j = 12 ∨ j = 13 ∨ j = 14 by omega) with rfl | rfl | rfl | rfl | rfl | rfl | rfl | rfl | rfl | rfl | rfl | rfl | rfl | rfl | rfl
  · exact (pm_ne (by decide) (pm_ne (by decide) (pm_ne (by decide) (pm_ne (by decide) (pm_ne (by decide) (pm_ne (by decide) (pm_ne (by decide) (pm_ne (by decide) (pm_ne (by decide) (pm_ne (by decide) (pm_ne (by decide) (pm_ne (by decide) (pm_ne (by decide) (pm_ne (by decide) (pm_ne (by decide) (pm_ne (by decide) (pm_ne (by decide) (pm_ne (by decide) (pm_ne (by decide) (pm_ne (by decide) (pm_ne (by decide) (pm_ne (by decide) (pm_ne (by decide) (pm_ne (by decide) (pm_ne (by decide) (pm_ne (by decide) (pm_ne (by decide) (pm_ne (by decide) (pm_ne (by decide) (pm_same _ _ _))))))))))))))))))))))))))))))
  · exact (pm_ne (by decide) (pm_ne (by decide) (pm_ne (by decide) (pm_ne (by decide) (pm_ne (by decide) (pm_ne (by decide) (pm_ne (by decide) (pm_ne (by decide) (pm_ne (by decide) (pm_ne (by decide) (pm_ne (by decide) (pm_ne (by decide) (pm_ne (by decide) (pm_ne (by decide) (pm_ne (by decide) (pm_ne (by decide) (pm_ne (by decide) (pm_ne (by decide) (pm_ne (by decide) (pm_ne (by decide) (pm_ne (by decide) (pm_ne (by decide) (pm_ne (by decide) (pm_ne (by decide) (pm_ne (by decide) (pm_ne (by decide) (pm_ne (by decide) (pm_same _ _ _))))))))))))))))))))))))))))
  · exact (pm_ne (by decide) (pm_ne (by decide) (pm_ne (by decide) (pm_ne (by decide) (pm_ne (by decide) (pm_ne (by decide) (pm_ne (by decide) (pm_ne (by decide) (pm_ne (by decide) (pm_ne (by decide) (pm_ne (by decide) (pm_ne (by decide) (pm_ne (by decide) (pm_ne (by decide) (pm_ne (by decide) (pm_ne (by decide) (pm_ne (by decide) (pm_ne (by decide) (pm_ne (by decide) (pm_ne (by decide) (pm_ne (by decide) (pm_ne (by decide) (pm_ne (by decide) (pm_ne (by decide) (pm_ne (by decide) (pm_same _ _ _))))))))))))))))))))))))))
  · exact (pm_ne (by decide) (pm_ne (by decide) (pm_ne (by decide) (pm_ne (by decide) (pm_ne (by decide) (pm_ne (by decide) (pm_ne (by decide) (pm_ne (by decide) (pm_ne (by decide) (pm_ne (by decide) (pm_ne (by decide) (pm_ne (by decide) (pm_ne (by decide) (pm_ne (by decide) (pm_ne (by decide) (pm_ne (by decide) (pm_ne (by decide) (pm_ne (by decide) (pm_ne (by decide) (pm_ne (by decide) (pm_ne (by decide) (pm_ne (by decide) (pm_ne (by decide) (pm_same _ _ _))))))))))))))))))))))))
  · exact (pm_ne (by decide) (pm_ne (by decide) (pm_ne (by decide) (pm_ne (by decide) (pm_ne (by decide) (pm_ne (by decide) (pm_ne (by decide) (pm_ne (by decide) (pm_ne (by decide) (pm_ne (by decide) (pm_ne (by decide) (pm_ne (by decide) (pm_ne (by decide) (pm_ne (by decide) (pm_ne (by decide) (pm_ne (by decide) (pm_ne (by decide) (pm_ne (by decide) (pm_ne (by decide) (pm_ne (by decide) (pm_ne (by decide) (pm_same _ _ _))))))))))))))))))))))
  · exact (pm_ne (by decide) (pm_ne (by decide) (pm_ne (by decide) (pm_ne (by decide) (pm_ne (by decide) (pm_ne (by decide) (pm_ne (by decide) (pm_ne (by decide) (pm_ne (by decide) (pm_ne (by decide) (pm_ne (by decide) (pm_ne (by decide) (pm_ne (by decide) (pm_ne (by decide) (pm_ne (by decide) (pm_ne (by decide) (pm_ne (by decide) (pm_ne (by decide) (pm_ne (by decide) (pm_same _ _ _))))))))))))))))))))
  · exact (pm_ne (by decide) (pm_ne (by decide) (pm_ne (by decide) (pm_ne (by decide) (pm_ne (by decide) (pm_ne (by decide) (pm_ne (by decide) (pm_ne (by decide) (pm_ne (by decide) (pm_ne (by decide) (pm_ne (by decide) (pm_ne (by decide) (pm_ne (by decide) (pm_ne (by decide) (pm_ne (by decide) (pm_ne (by decide) (pm_ne (by decide) (pm_same _ _ _))))))))))))))))))
  · exact (pm_ne (by decide) (pm_ne (by decide) (pm_ne (by decide) (pm_ne (by decide) (pm_ne (by decide) (pm_ne (by decide) (pm_ne (by decide) (pm_ne (by decide) (pm_ne (by decide) (pm_ne (by decide) (pm_ne (by decide) (pm_ne (by decide) (pm_ne (by decide) (pm_ne (by decide) (pm_ne (by decide) (pm_same _ _ _))))))))))))))))
  · exact (pm_ne (by decide) (pm_ne (by decide) (pm_ne (by decide) (pm_ne (by decide) (pm_ne (by decide) (pm_ne (by decide) (pm_ne (by decide) (pm_ne (by decide) (pm_ne (by decide) (pm_ne (by decide) (pm_ne (by decide) (pm_ne (by decide) (pm_ne (by decide) (pm_same _ _ _))))))))))))))
  · exact (pm_ne (by decide) (pm_ne (by decide) (pm_ne (by decide) (pm_ne (by decide) (pm_ne (by decide) (pm_ne (by decide) (pm_ne (by decide) (pm_ne (by decide) (pm_ne (by decide) (pm_ne (by decide) (pm_ne (by decide) (pm_same _ _ _))))))))))))
  · exact (pm_ne (by decide) (pm_ne (by decide) (pm_ne (by decide) (pm_ne (by decide) (pm_ne (by decide) (pm_ne (by decide) (pm_ne (by decide) (pm_ne (by decide) (pm_ne (by decide) (pm_same _ _ _))))))))))
  · exact (pm_ne (by decide) (pm_ne (by decide) (pm_ne (by decide) (pm_ne (by decide) (pm_ne (by decide) (pm_ne (by decide) (pm_ne (by decide) (pm_same _ _ _))))))))
  · exact (pm_ne (by decide) (pm_ne (by decide) (pm_ne (by decide) (pm_ne (by decide) (pm_ne (by decide) (pm_same _ _ _))))))
  · exact (pm_ne (by decide) (pm_ne (by decide) (pm_ne (by decide) (pm_same _ _ _))))
  · exact (pm_ne (by decide) (pm_same _ _ _))
