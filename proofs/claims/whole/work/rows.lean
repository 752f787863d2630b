section
def lw_okq (q : MethodName × Nat) : Prop := (q.1.cls ≠ "java/lang/invoke/MethodHandle" ∧ q.1.cls ≠ "java/lang/invoke/VarHandle") ∧ Cond.instantiable q.1.cls q.2 ∈ tables_1 ∧ Cond.privateMethod q.1 ∈ tables_1 ∧ Cond.instanceMethod q.1 ∈ tables_1
theorem lw_p0 : lw_okq (⟨"BlindTables", "append", "(IIII)Z"⟩, 10) := ⟨⟨by decide +kernel, by decide +kernel⟩, List.mem_of_getElem? (i := 11) (by decide +kernel), List.mem_of_getElem? (i := 232) (by decide +kernel), List.mem_of_getElem? (i := 233) (by decide +kernel)⟩
theorem lw_p1 : lw_okq (⟨"BlindTables", "perform", "(LBlindTables$Step;)Z"⟩, 10) := ⟨⟨by decide +kernel, by decide +kernel⟩, List.mem_of_getElem? (i := 11) (by decide +kernel), List.mem_of_getElem? (i := 273) (by decide +kernel), List.mem_of_getElem? (i := 274) (by decide +kernel)⟩
theorem lw_p2 : lw_okq (⟨"BlindTables$Store", "at", "(I)LBlindTables$Row;"⟩, 3) := ⟨⟨by decide +kernel, by decide +kernel⟩, List.mem_of_getElem? (i := 47) (by decide +kernel), List.mem_of_getElem? (i := 285) (by decide +kernel), List.mem_of_getElem? (i := 286) (by decide +kernel)⟩
theorem lw_p3 : lw_okq (⟨"BlindTables$Store", "note", "(I)V"⟩, 3) := ⟨⟨by decide +kernel, by decide +kernel⟩, List.mem_of_getElem? (i := 47) (by decide +kernel), List.mem_of_getElem? (i := 301) (by decide +kernel), List.mem_of_getElem? (i := 302) (by decide +kernel)⟩
theorem lw_p4 : lw_okq (⟨"BlindTables$Store", "sortPass", "(IIIII)V"⟩, 3) := ⟨⟨by decide +kernel, by decide +kernel⟩, List.mem_of_getElem? (i := 47) (by decide +kernel), List.mem_of_getElem? (i := 352) (by decide +kernel), List.mem_of_getElem? (i := 353) (by decide +kernel)⟩
theorem lw_p5 : lw_okq (⟨"BlindTables$Operators", "keepFirstOfEach", "(I)I"⟩, 1) := ⟨⟨by decide +kernel, by decide +kernel⟩, List.mem_of_getElem? (i := 128) (by decide +kernel), List.mem_of_getElem? (i := 360) (by decide +kernel), List.mem_of_getElem? (i := 361) (by decide +kernel)⟩
theorem lw_p6 : lw_okq (⟨"BlindTables$Operators", "addUpForth", "(II)I"⟩, 1) := ⟨⟨by decide +kernel, by decide +kernel⟩, List.mem_of_getElem? (i := 128) (by decide +kernel), List.mem_of_getElem? (i := 377) (by decide +kernel), List.mem_of_getElem? (i := 378) (by decide +kernel)⟩
theorem lw_p7 : lw_okq (⟨"BlindTables$Operators", "keepLastOfEach", "(I)V"⟩, 1) := ⟨⟨by decide +kernel, by decide +kernel⟩, List.mem_of_getElem? (i := 128) (by decide +kernel), List.mem_of_getElem? (i := 381) (by decide +kernel), List.mem_of_getElem? (i := 382) (by decide +kernel)⟩
theorem lw_p8 : lw_okq (⟨"BlindTables$Joiner", "countForth", "(I)V"⟩, 2) := ⟨⟨by decide +kernel, by decide +kernel⟩, List.mem_of_getElem? (i := 138) (by decide +kernel), List.mem_of_getElem? (i := 396) (by decide +kernel), List.mem_of_getElem? (i := 397) (by decide +kernel)⟩
theorem lw_p9 : lw_okq (⟨"BlindTables$Joiner", "countBack", "(I)I"⟩, 2) := ⟨⟨by decide +kernel, by decide +kernel⟩, List.mem_of_getElem? (i := 138) (by decide +kernel), List.mem_of_getElem? (i := 402) (by decide +kernel), List.mem_of_getElem? (i := 403) (by decide +kernel)⟩
theorem lw_p10 : lw_okq (⟨"BlindTables$Joiner", "copyAll", "(I)V"⟩, 2) := ⟨⟨by decide +kernel, by decide +kernel⟩, List.mem_of_getElem? (i := 138) (by decide +kernel), List.mem_of_getElem? (i := 407) (by decide +kernel), List.mem_of_getElem? (i := 408) (by decide +kernel)⟩
theorem lw_p11 : lw_okq (⟨"BlindTables$Joiner", "expand", "(IIII)V"⟩, 2) := ⟨⟨by decide +kernel, by decide +kernel⟩, List.mem_of_getElem? (i := 138) (by decide +kernel), List.mem_of_getElem? (i := 421) (by decide +kernel), List.mem_of_getElem? (i := 422) (by decide +kernel)⟩
theorem lw_p12 : lw_okq (⟨"BlindTables$Joiner", "markStarts", "(III)V"⟩, 2) := ⟨⟨by decide +kernel, by decide +kernel⟩, List.mem_of_getElem? (i := 138) (by decide +kernel), List.mem_of_getElem? (i := 425) (by decide +kernel), List.mem_of_getElem? (i := 426) (by decide +kernel)⟩
theorem lw_p13 : lw_okq (⟨"BlindTables$Joiner", "fillCopies", "(II)V"⟩, 2) := ⟨⟨by decide +kernel, by decide +kernel⟩, List.mem_of_getElem? (i := 138) (by decide +kernel), List.mem_of_getElem? (i := 443) (by decide +kernel), List.mem_of_getElem? (i := 444) (by decide +kernel)⟩
theorem lw_p14 : lw_okq (⟨"BlindTables$Joiner", "addPairs", "(I)V"⟩, 2) := ⟨⟨by decide +kernel, by decide +kernel⟩, List.mem_of_getElem? (i := 138) (by decide +kernel), List.mem_of_getElem? (i := 448) (by decide +kernel), List.mem_of_getElem? (i := 449) (by decide +kernel)⟩
theorem lw_p15 : lw_okq (⟨"BlindTables", "changes", "()I"⟩, 10) := ⟨⟨by decide +kernel, by decide +kernel⟩, List.mem_of_getElem? (i := 11) (by decide +kernel), List.mem_of_getElem? (i := 463) (by decide +kernel), List.mem_of_getElem? (i := 464) (by decide +kernel)⟩
def lw_privs_1 : List (MethodName × Nat) := [(⟨"BlindTables", "append", "(IIII)Z"⟩, 10), (⟨"BlindTables", "perform", "(LBlindTables$Step;)Z"⟩, 10), (⟨"BlindTables$Store", "at", "(I)LBlindTables$Row;"⟩, 3), (⟨"BlindTables$Store", "note", "(I)V"⟩, 3), (⟨"BlindTables$Store", "sortPass", "(IIIII)V"⟩, 3), (⟨"BlindTables$Operators", "keepFirstOfEach", "(I)I"⟩, 1), (⟨"BlindTables$Operators", "addUpForth", "(II)I"⟩, 1), (⟨"BlindTables$Operators", "keepLastOfEach", "(I)V"⟩, 1), (⟨"BlindTables$Joiner", "countForth", "(I)V"⟩, 2), (⟨"BlindTables$Joiner", "countBack", "(I)I"⟩, 2), (⟨"BlindTables$Joiner", "copyAll", "(I)V"⟩, 2), (⟨"BlindTables$Joiner", "expand", "(IIII)V"⟩, 2), (⟨"BlindTables$Joiner", "markStarts", "(III)V"⟩, 2), (⟨"BlindTables$Joiner", "fillCopies", "(II)V"⟩, 2), (⟨"BlindTables$Joiner", "addPairs", "(I)V"⟩, 2), (⟨"BlindTables", "changes", "()I"⟩, 10)]
theorem lw_r1 : ∀ q ∈ lw_privs_1, lw_okq q := List.forall_mem_cons.mpr ⟨lw_p0, List.forall_mem_cons.mpr ⟨lw_p1, List.forall_mem_cons.mpr ⟨lw_p2, List.forall_mem_cons.mpr ⟨lw_p3, List.forall_mem_cons.mpr ⟨lw_p4, List.forall_mem_cons.mpr ⟨lw_p5, List.forall_mem_cons.mpr ⟨lw_p6, List.forall_mem_cons.mpr ⟨lw_p7, List.forall_mem_cons.mpr ⟨lw_p8, List.forall_mem_cons.mpr ⟨lw_p9, List.forall_mem_cons.mpr ⟨lw_p10, List.forall_mem_cons.mpr ⟨lw_p11, List.forall_mem_cons.mpr ⟨lw_p12, List.forall_mem_cons.mpr ⟨lw_p13, List.forall_mem_cons.mpr ⟨lw_p14, List.forall_mem_cons.mpr ⟨lw_p15, fun _ h => absurd h List.not_mem_nil⟩⟩⟩⟩⟩⟩⟩⟩⟩⟩⟩⟩⟩⟩⟩⟩
theorem lw_p16 : lw_okq (⟨"BlindTables$Operators", "keepUndropped", "(I)I"⟩, 1) := ⟨⟨by decide +kernel, by decide +kernel⟩, List.mem_of_getElem? (i := 128) (by decide +kernel), List.mem_of_getElem? (i := 479) (by decide +kernel), List.mem_of_getElem? (i := 480) (by decide +kernel)⟩
theorem lw_p17 : lw_okq (⟨"BlindTablesModel", "step", "(IIIIZ)Z"⟩, 27) := ⟨⟨by decide +kernel, by decide +kernel⟩, List.mem_of_getElem? (i := 511) (by decide +kernel), List.mem_of_getElem? (i := 623) (by decide +kernel), List.mem_of_getElem? (i := 624) (by decide +kernel)⟩
theorem lw_p18 : lw_okq (⟨"BlindTablesModel", "work", "(I)V"⟩, 27) := ⟨⟨by decide +kernel, by decide +kernel⟩, List.mem_of_getElem? (i := 511) (by decide +kernel), List.mem_of_getElem? (i := 647) (by decide +kernel), List.mem_of_getElem? (i := 648) (by decide +kernel)⟩
theorem lw_p19 : lw_okq (⟨"BlindTablesModel", "passes", "(III)Z"⟩, 27) := ⟨⟨by decide +kernel, by decide +kernel⟩, List.mem_of_getElem? (i := 511) (by decide +kernel), List.mem_of_getElem? (i := 651) (by decide +kernel), List.mem_of_getElem? (i := 652) (by decide +kernel)⟩
theorem lw_p20 : lw_okq (⟨"BlindTablesModel", "first", "(II)Z"⟩, 27) := ⟨⟨by decide +kernel, by decide +kernel⟩, List.mem_of_getElem? (i := 511) (by decide +kernel), List.mem_of_getElem? (i := 655) (by decide +kernel), List.mem_of_getElem? (i := 656) (by decide +kernel)⟩
theorem lw_p21 : lw_okq (⟨"BlindTablesModel", "give", "(III)V"⟩, 27) := ⟨⟨by decide +kernel, by decide +kernel⟩, List.mem_of_getElem? (i := 511) (by decide +kernel), List.mem_of_getElem? (i := 659) (by decide +kernel), List.mem_of_getElem? (i := 660) (by decide +kernel)⟩
theorem lw_p22 : lw_okq (⟨"BlindTablesModel", "groupOf", "(III)V"⟩, 27) := ⟨⟨by decide +kernel, by decide +kernel⟩, List.mem_of_getElem? (i := 511) (by decide +kernel), List.mem_of_getElem? (i := 663) (by decide +kernel), List.mem_of_getElem? (i := 664) (by decide +kernel)⟩
theorem lw_p23 : lw_okq (⟨"BlindTablesModel", "joinWith", "(IIII)V"⟩, 27) := ⟨⟨by decide +kernel, by decide +kernel⟩, List.mem_of_getElem? (i := 511) (by decide +kernel), List.mem_of_getElem? (i := 667) (by decide +kernel), List.mem_of_getElem? (i := 668) (by decide +kernel)⟩
theorem lw_p24 : lw_okq (⟨"BlindTablesModel", "part", "(IIII)V"⟩, 27) := ⟨⟨by decide +kernel, by decide +kernel⟩, List.mem_of_getElem? (i := 511) (by decide +kernel), List.mem_of_getElem? (i := 671) (by decide +kernel), List.mem_of_getElem? (i := 672) (by decide +kernel)⟩
theorem lw_p25 : lw_okq (⟨"BlindTablesModel", "order", "()V"⟩, 27) := ⟨⟨by decide +kernel, by decide +kernel⟩, List.mem_of_getElem? (i := 511) (by decide +kernel), List.mem_of_getElem? (i := 675) (by decide +kernel), List.mem_of_getElem? (i := 676) (by decide +kernel)⟩
theorem lw_p26 : lw_okq (⟨"BlindTablesModel", "less", "(II)Z"⟩, 27) := ⟨⟨by decide +kernel, by decide +kernel⟩, List.mem_of_getElem? (i := 511) (by decide +kernel), List.mem_of_getElem? (i := 679) (by decide +kernel), List.mem_of_getElem? (i := 680) (by decide +kernel)⟩
theorem lw_p27 : lw_okq (⟨"BlindTablesModel", "collect", "(ZIII)Z"⟩, 27) := ⟨⟨by decide +kernel, by decide +kernel⟩, List.mem_of_getElem? (i := 511) (by decide +kernel), List.mem_of_getElem? (i := 687) (by decide +kernel), List.mem_of_getElem? (i := 688) (by decide +kernel)⟩
theorem lw_p28 : lw_okq (⟨"BlindTablesModel", "write", "(I)V"⟩, 27) := ⟨⟨by decide +kernel, by decide +kernel⟩, List.mem_of_getElem? (i := 511) (by decide +kernel), List.mem_of_getElem? (i := 707) (by decide +kernel), List.mem_of_getElem? (i := 708) (by decide +kernel)⟩
theorem lw_p29 : lw_okq (⟨"BlindTablesModel", "partTrace", "(I)V"⟩, 27) := ⟨⟨by decide +kernel, by decide +kernel⟩, List.mem_of_getElem? (i := 511) (by decide +kernel), List.mem_of_getElem? (i := 711) (by decide +kernel), List.mem_of_getElem? (i := 712) (by decide +kernel)⟩
theorem lw_p30 : lw_okq (⟨"BlindTablesModel", "joinTrace", "(II)V"⟩, 27) := ⟨⟨by decide +kernel, by decide +kernel⟩, List.mem_of_getElem? (i := 511) (by decide +kernel), List.mem_of_getElem? (i := 715) (by decide +kernel), List.mem_of_getElem? (i := 716) (by decide +kernel)⟩
theorem lw_p31 : lw_okq (⟨"BlindTablesModel", "sort", "(II)V"⟩, 27) := ⟨⟨by decide +kernel, by decide +kernel⟩, List.mem_of_getElem? (i := 511) (by decide +kernel), List.mem_of_getElem? (i := 719) (by decide +kernel), List.mem_of_getElem? (i := 720) (by decide +kernel)⟩
def lw_privs_2 : List (MethodName × Nat) := [(⟨"BlindTables$Operators", "keepUndropped", "(I)I"⟩, 1), (⟨"BlindTablesModel", "step", "(IIIIZ)Z"⟩, 27), (⟨"BlindTablesModel", "work", "(I)V"⟩, 27), (⟨"BlindTablesModel", "passes", "(III)Z"⟩, 27), (⟨"BlindTablesModel", "first", "(II)Z"⟩, 27), (⟨"BlindTablesModel", "give", "(III)V"⟩, 27), (⟨"BlindTablesModel", "groupOf", "(III)V"⟩, 27), (⟨"BlindTablesModel", "joinWith", "(IIII)V"⟩, 27), (⟨"BlindTablesModel", "part", "(IIII)V"⟩, 27), (⟨"BlindTablesModel", "order", "()V"⟩, 27), (⟨"BlindTablesModel", "less", "(II)Z"⟩, 27), (⟨"BlindTablesModel", "collect", "(ZIII)Z"⟩, 27), (⟨"BlindTablesModel", "write", "(I)V"⟩, 27), (⟨"BlindTablesModel", "partTrace", "(I)V"⟩, 27), (⟨"BlindTablesModel", "joinTrace", "(II)V"⟩, 27), (⟨"BlindTablesModel", "sort", "(II)V"⟩, 27)]
theorem lw_r2 : ∀ q ∈ lw_privs_2, lw_okq q := List.forall_mem_cons.mpr ⟨lw_p16, List.forall_mem_cons.mpr ⟨lw_p17, List.forall_mem_cons.mpr ⟨lw_p18, List.forall_mem_cons.mpr ⟨lw_p19, List.forall_mem_cons.mpr ⟨lw_p20, List.forall_mem_cons.mpr ⟨lw_p21, List.forall_mem_cons.mpr ⟨lw_p22, List.forall_mem_cons.mpr ⟨lw_p23, List.forall_mem_cons.mpr ⟨lw_p24, List.forall_mem_cons.mpr ⟨lw_p25, List.forall_mem_cons.mpr ⟨lw_p26, List.forall_mem_cons.mpr ⟨lw_p27, List.forall_mem_cons.mpr ⟨lw_p28, List.forall_mem_cons.mpr ⟨lw_p29, List.forall_mem_cons.mpr ⟨lw_p30, List.forall_mem_cons.mpr ⟨lw_p31, fun _ h => absurd h List.not_mem_nil⟩⟩⟩⟩⟩⟩⟩⟩⟩⟩⟩⟩⟩⟩⟩⟩
theorem lw_p32 : lw_okq (⟨"BlindTablesModel", "compare", "(IIIII)V"⟩, 27) := ⟨⟨by decide +kernel, by decide +kernel⟩, List.mem_of_getElem? (i := 511) (by decide +kernel), List.mem_of_getElem? (i := 723) (by decide +kernel), List.mem_of_getElem? (i := 724) (by decide +kernel)⟩
theorem lw_p33 : lw_okq (⟨"BlindTablesModel", "exchange", "(II)V"⟩, 27) := ⟨⟨by decide +kernel, by decide +kernel⟩, List.mem_of_getElem? (i := 511) (by decide +kernel), List.mem_of_getElem? (i := 727) (by decide +kernel), List.mem_of_getElem? (i := 728) (by decide +kernel)⟩
theorem lw_p34 : lw_okq (⟨"BlindTablesModel", "touch", "(IZ)V"⟩, 27) := ⟨⟨by decide +kernel, by decide +kernel⟩, List.mem_of_getElem? (i := 511) (by decide +kernel), List.mem_of_getElem? (i := 731) (by decide +kernel), List.mem_of_getElem? (i := 732) (by decide +kernel)⟩
theorem lw_p35 : lw_okq (⟨"BlindTablesModel", "scan", "(IIZ)V"⟩, 27) := ⟨⟨by decide +kernel, by decide +kernel⟩, List.mem_of_getElem? (i := 511) (by decide +kernel), List.mem_of_getElem? (i := 735) (by decide +kernel), List.mem_of_getElem? (i := 736) (by decide +kernel)⟩
theorem lw_p36 : lw_okq (⟨"BlindTablesModel", "side", "(III)V"⟩, 27) := ⟨⟨by decide +kernel, by decide +kernel⟩, List.mem_of_getElem? (i := 511) (by decide +kernel), List.mem_of_getElem? (i := 739) (by decide +kernel), List.mem_of_getElem? (i := 740) (by decide +kernel)⟩
theorem lw_p37 : lw_okq (⟨"BlindTablesModel", "squeeze", "(II)V"⟩, 27) := ⟨⟨by decide +kernel, by decide +kernel⟩, List.mem_of_getElem? (i := 511) (by decide +kernel), List.mem_of_getElem? (i := 743) (by decide +kernel), List.mem_of_getElem? (i := 744) (by decide +kernel)⟩
theorem lw_p38 : lw_okq (⟨"BlindTablesModel", "spread", "(II)V"⟩, 27) := ⟨⟨by decide +kernel, by decide +kernel⟩, List.mem_of_getElem? (i := 511) (by decide +kernel), List.mem_of_getElem? (i := 747) (by decide +kernel), List.mem_of_getElem? (i := 748) (by decide +kernel)⟩
def lw_privs_3 : List (MethodName × Nat) := [(⟨"BlindTablesModel", "compare", "(IIIII)V"⟩, 27), (⟨"BlindTablesModel", "exchange", "(II)V"⟩, 27), (⟨"BlindTablesModel", "touch", "(IZ)V"⟩, 27), (⟨"BlindTablesModel", "scan", "(IIZ)V"⟩, 27), (⟨"BlindTablesModel", "side", "(III)V"⟩, 27), (⟨"BlindTablesModel", "squeeze", "(II)V"⟩, 27), (⟨"BlindTablesModel", "spread", "(II)V"⟩, 27)]
theorem lw_r3 : ∀ q ∈ lw_privs_3, lw_okq q := List.forall_mem_cons.mpr ⟨lw_p32, List.forall_mem_cons.mpr ⟨lw_p33, List.forall_mem_cons.mpr ⟨lw_p34, List.forall_mem_cons.mpr ⟨lw_p35, List.forall_mem_cons.mpr ⟨lw_p36, List.forall_mem_cons.mpr ⟨lw_p37, List.forall_mem_cons.mpr ⟨lw_p38, fun _ h => absurd h List.not_mem_nil⟩⟩⟩⟩⟩⟩⟩
def lw_privs : List (MethodName × Nat) := lw_privs_1 ++ (lw_privs_2 ++ (lw_privs_3))
def lw_tbl : List Cond := k2_sels lw_privs ++ tables_1
theorem lw_privs_ok : ∀ q ∈ lw_privs, lw_okq q := by
  show ∀ q ∈ lw_privs_1 ++ (lw_privs_2 ++ (lw_privs_3)), lw_okq q
  exact List.forall_mem_append.mpr ⟨lw_r1, List.forall_mem_append.mpr ⟨lw_r2, lw_r3⟩⟩

def gw : List Cond := lw_tbl.filter goodWord
theorem gw_ok : ∀ w ∈ gw, (w.onTables && w.keeps) = true ∨ ∃ ty, w = .arrayClass ty := fun w h => good_of_word (List.mem_filter.mp h).2
theorem gw_t {w : Cond} (h : w ∈ tables_1) (g : goodWord w = true) : w ∈ gw := List.mem_filter.mpr ⟨List.mem_append_right _ h, g⟩
theorem gw_1 {w : Cond} {j : Nat} (h : tables_1_1[j]? = some w) (g : goodWord w = true) : w ∈ gw := gw_t (List.mem_append_left _ (List.mem_of_getElem? h)) g
theorem gw_2 {w : Cond} {j : Nat} (h : tables_1_2[j]? = some w) (g : goodWord w = true) : w ∈ gw := gw_t (List.mem_append_right _ (List.mem_append_left _ (List.mem_of_getElem? h))) g
theorem gw_3 {w : Cond} {j : Nat} (h : tables_1_3[j]? = some w) (g : goodWord w = true) : w ∈ gw := gw_t (List.mem_append_right _ (List.mem_append_right _ (List.mem_append_left _ (List.mem_of_getElem? h)))) g
theorem gw_4 {w : Cond} {j : Nat} (h : tables_1_4[j]? = some w) (g : goodWord w = true) : w ∈ gw := gw_t (List.mem_append_right _ (List.mem_append_right _ (List.mem_append_right _ (List.mem_of_getElem? h)))) g
theorem gw_s {q : MethodName × Nat} (h : q ∈ lw_privs) : Cond.selects q.1.cls q.1 q.1 ∈ gw := List.mem_filter.mpr ⟨List.mem_append_left _ (List.mem_map.mpr ⟨q, h, rfl⟩), rfl⟩
end
section
/-! The picture of a heap by numbers: cell k of the picture lies at the address ad k; what is made next lies at the heap's end. Values are ints, null and references to numbers. -/
abbrev pm_C : Type := (Nat × Nat × (Nat → Int32)) ⊕ ((Nat × Nat × (Nat → Option Nat)) ⊕ (Nat × List Value))
abbrev pm_I (t n : Nat) (f : Nat → Int32) : pm_C := .inl (t, n, f)
abbrev pm_R (t n : Nat) (f : Nat → Option Nat) : pm_C := .inr (.inl (t, n, f))
abbrev pm_O (c : Nat) (fs : List Value) : pm_C := .inr (.inr (c, fs))
abbrev pm_H : Type := Nat → pm_C
/-- the number of the law's own script, which is no cell of the picture -/
def pm_big : Nat := 1000000000
def pm_r (ad : Nat → Nat) (v : Value) : Value := match v with
  | .int x => .int x
  | .ref k => .ref (ad k)
  | _ => .null
theorem pm_r_cat (ad : Nat → Nat) (v : Value) : (pm_r ad v).category = 1 := by cases v <;> rfl
theorem pm_r_int (ad : Nat → Nat) (x : Int32) : pm_r ad (.int x) = .int x := rfl
theorem pm_r_ref (ad : Nat → Nat) (k : Nat) : pm_r ad (.ref k) = .ref (ad k) := rfl
theorem pm_r_rf (ad : Nat → Nat) (o : Option Nat) : pm_r ad (va_rf o) = va_rf (o.map ad) := by cases o <;> rfl
def pm_e (dA : Nat → ClassId) (ad : Nat → Nat) (c : pm_C) : va_E := match c with
  | .inl (t, n, f) => .inl (dA t, n, .inl f)
  | .inr (.inl (t, n, f)) => .inl (dA t, n, .inr (.inr (.inr (.inr (fun i => (f i).map ad)))))
  | .inr (.inr (c, fs)) => .inr (c, fs.map (pm_r ad))
def pm_w (dA : Nat → ClassId) (ad : Nat → Nat) (n : Nat) (h : pm_H) : va_W := (List.range n).map (fun k => (ad k, pm_e dA ad (h k)))
theorem pm_w_at {dA : Nat → ClassId} {ad : Nat → Nat} {n k : Nat} {h : pm_H} (hk : k < n) : (pm_w dA ad n h)[k]? = some (ad k, pm_e dA ad (h k)) := by
  simp [pm_w, List.getElem?_range hk]
theorem pm_w_set {dA : Nat → ClassId} {ad : Nat → Nat} {n k : Nat} {h : pm_H} (c : pm_C) (hk : k < n) : (pm_w dA ad n h).set k (ad k, pm_e dA ad c) = pm_w dA ad n (va_up h k c) := by
  apply List.ext_getElem?
  intro i
  by_cases hi : i = k
  · subst hi
    rw [List.getElem?_set_self (by simpa [pm_w] using hk), pm_w_at hk]
    simp [va_up]
  · rw [List.getElem?_set_ne (Ne.symm hi)]
    by_cases hn : i < n
    · rw [pm_w_at hn, pm_w_at hn]
      simp [va_up, hi]
    · rw [List.getElem?_eq_none (by simpa [pm_w] using hn), List.getElem?_eq_none (by simpa [pm_w] using hn)]
theorem pm_w_push {dA : Nat → ClassId} {ad : Nat → Nat} {n : Nat} {h : pm_H} (c : pm_C) : pm_w dA ad (n + 1) (va_up h n c) = pm_w dA ad n h ++ [(ad n, pm_e dA ad c)] := by
  unfold pm_w
  rw [List.range_succ, List.map_append]
  congr 1
  · apply List.map_congr_left
    intro k hk
    have := List.mem_range.mp hk
    simp [va_up, Nat.ne_of_lt this]
  · simp [va_up]
/-- locals: what is known of each place -/
def pm_l (ad : Nat → Nat) (ls : List (Option Value)) : List (Nat × Value) := (List.range ls.length).filterMap (fun j => (ls.getD j none).map (fun v => (j, pm_r ad v)))
theorem pm_l_mem {ad : Nat → Nat} {ls : List (Option Value)} {q : Nat × Value} : q ∈ pm_l ad ls ↔ ∃ v, ls[q.1]? = some (some v) ∧ q.2 = pm_r ad v := by
  unfold pm_l
  rw [List.mem_filterMap]
  constructor
  · rintro ⟨j, hj, h⟩
    rw [Option.map_eq_some_iff] at h
    obtain ⟨v, h1, rfl⟩ := h
    refine ⟨v, ?_, rfl⟩
    rw [List.getD_eq_getElem?_getD] at h1
    have hl := List.mem_range.mp hj
    rw [List.getElem?_eq_getElem hl] at h1 ⊢
    simpa using h1
  · rintro ⟨v, h1, h2⟩
    have hl := (List.getElem?_eq_some_iff.mp h1).1
    refine ⟨q.1, List.mem_range.mpr hl, ?_⟩
    rw [List.getD_eq_getElem?_getD, h1]
    simp [← h2]
theorem pm_l_at {ad : Nat → Nat} {ls : List (Option Value)} {la : Array Slot} {nL k : Nat} {v : Value} (h : lv_has la nL (pm_l ad ls)) (hk : ls[k]? = some (some v)) : la[k]? = some (.val (pm_r ad v)) := h.2.2 (k, pm_r ad v) (pm_l_mem.mpr ⟨v, hk, rfl⟩)

theorem pm_l_set {ad : Nat → Nat} {ls ls' : List (Option Value)} {la : Array Slot} {nL i : Nat} {v : Value} (hl : ls.set i (some v) = ls')
    (h : lv_has la nL ((i, pm_r ad v) :: (pm_l ad ls).filter (fun q => !(q.1 == i) && !(q.1 + 1 == i && q.2.category == 2)))) : lv_has la nL (pm_l ad ls') := by
  refine ⟨h.1, h.2.1, fun q hq => ?_⟩
  obtain ⟨w, h1, h2⟩ := pm_l_mem.mp hq
  subst hl
  by_cases hi : q.1 = i
  · have : w = v := by
      rw [hi] at h1
      have hlen := (List.getElem?_eq_some_iff.mp h1).1
      rw [List.getElem?_set_self (by simpa using hlen)] at h1
      simpa using h1.symm
    subst this
    have := h.2.2 (i, pm_r ad w) List.mem_cons_self
    rw [hi, h2]
    exact this
  · rw [List.getElem?_set_ne (Ne.symm hi)] at h1
    refine h.2.2 q (List.mem_cons_of_mem _ (List.mem_filter.mpr ⟨pm_l_mem.mpr ⟨w, h1, h2⟩, ?_⟩))
    rw [h2, pm_r_cat]
    simp [hi]
def pm_tys (dA : Nat → ClassId) (tl : List FieldType) : List (ClassId × FieldType) := (List.range tl.length).map (fun t => (dA t, tl.getD t .int))
theorem pm_tys_at {dA : Nat → ClassId} {tl : List FieldType} {t : Nat} {ty : FieldType} (h : tl[t]? = some ty) : (pm_tys dA tl)[t]? = some (dA t, ty) := by
  have hl := (List.getElem?_eq_some_iff.mp h).1
  simp [pm_tys, List.getElem?_range hl, List.getD_eq_getElem?_getD, h]
/-- the words of nest mates' links -/
def pm_N (nw : List Cond) (s : State) : Prop := ∀ w ∈ nw, ((∃ a i y hh, w = Cond.methodLinkNest a i y hh) ∨ ∃ C, w = Cond.arrayOver (.object C)) ∧ va_Nw w s
theorem pm_N.warm {nw : List Cond} {s U : State} (hW : s.WarmedH U.vm) (h : pm_N nw s) : pm_N nw U := fun w hw => by
  obtain ⟨h1, h2⟩ := h w hw
  refine ⟨h1, ?_⟩
  rcases h1 with ⟨a, i, y, hh, rfl⟩ | ⟨C, rfl⟩
  · exact va_Nw.warmM hW h2
  · exact va_AO.moved hW.alike h2
theorem pm_N.same {nw : List Cond} {s U : State} (hv : s.vm = U.vm) (h : pm_N nw s) : pm_N nw U := fun w hw => by
  obtain ⟨h1, h2⟩ := h w hw
  refine ⟨h1, ?_⟩
  rcases h1 with ⟨a, i, y, hh, rfl⟩ | ⟨C, rfl⟩
  · exact va_Nw.same rfl hv h2
  · exact va_AO.moved (by rw [hv]; exact Vm.Alike.refl _) h2
/-- what stands through a method's walk -/
def pm_X (p : Program) (s : State) (m : MethodId) (args : Array Value) (meth : Method) (c : Code) (cl : List vw_C) (tl : List FieldType) (gw nw : List Cond) (D : va_G) (dA : Nat → ClassId) (own : String) (cc : ByteArray) (nL : Nat) (ret : Option FieldType) (A : Nat → Prop) : Prop :=
  p.tables.exec = Jvm.exec ∧ c.code = cc ∧ c.maxLocals = nL ∧ s.vm.findClass own = some m.cls ∧ (∀ w ∈ gw, w.before args s = true) ∧ va_K D cl (pm_tys dA tl) s ∧ (∀ q, s.heap.size ≤ q → A q) ∧ meth.sig.returnType = ret ∧ meth.locks = false ∧ pm_N nw s
def pm_S (cl : List vw_C) (D : va_G) (dA : Nat → ClassId) (A : Nat → Prop) (ad : Nat → Nat) (n : Nat) (h : pm_H) (H0 H : Heap) (locs : List Loc) : Prop :=
  va_P D cl (pm_w dA ad n h) H ∧ va_D A (pm_w dA ad n h) ∧ va_S A H0 H locs ∧ ∀ i, n + i < pm_big → ad (n + i) = H.size + i
/-- the machine, at pc with these locals, this stack and this picture, comes to a state with Q -/
def pm_G (p : Program) (l : Launch) (e : Env) (R : Room) (s : State) (m : MethodId) (args : Array Value) (below : List Frame) (meth : Method) (c : Code) (Q : State → Prop) (cl : List vw_C) (D : va_G) (dA : Nat → ClassId) (A : Nat → Prop) (ad : Nat → Nat) (nL cells slots pc : Nat) (ls : List (Option Value)) (st : List Value) (n : Nat) (h : pm_H) : Prop :=
  ∀ (H : Heap) (locs : List Loc) (la : Array Slot), pm_S cl D dA A ad n h s.heap H locs → lv_has la nL (pm_l ad ls) → W p l e R s m args below meth c H locs cells slots Q (F0 m pc la (st.map (pm_r ad)))
abbrev pm_Gt : Type := Nat → Nat → Nat → List (Option Value) → List Value → Nat → pm_H → Prop
/-- G is the judgement of some walk of the method's body; cells, slots, pc, locals, stack, picture are its arguments -/
def pm_K (l : Launch) (cl : List vw_C) (tl : List FieldType) (gw nw : List Cond) (own nm : String) (cc : ByteArray) (nL : Nat) (ret : Option FieldType) (R : Room) (G : pm_Gt) : Prop :=
  ∃ (p : Program) (e : Env) (s : State) (m : MethodId) (args : Array Value) (below : List Frame) (meth : Method) (c : Code) (Q : State → Prop) (D : va_G) (dA : Nat → ClassId) (A : Nat → Prop) (ad : Nat → Nat), pm_X p s m args meth c cl tl gw nw D dA own cc nL ret A ∧ meth.name = nm ∧ G = pm_G p l e R s m args below meth c Q cl D dA A ad nL
section PMS
variable {l : Launch} {cl : List vw_C} {tl : List FieldType} {gw nw : List Cond} {own nm : String} {cc : ByteArray} {nL : Nat} {ret : Option FieldType} {R : Room} {G : pm_Gt} {cells slots pc q n : Nat} {ls ls' : List (Option Value)} {st : List Value} {h : pm_H}
theorem pm_iconst (K : pm_K l cl tl gw nw own nm cc nL ret R G) {k : Int} {v : Int32} (d : decode cc pc = .ok (.iconst k, 1)) (hq : pc + 1 = q) (hv : Int32.ofInt k = v) (kk : G cells slots q ls (.int v :: st) n h) : G cells slots pc ls st n h := by
  obtain ⟨p, e, s, m, args, below, meth, c, Q, D, dA, A, ad, X, hmn, rfl⟩ := K
  subst hq
  exact fun H locs la hS hL => lv_iconst X.1 X.2.1 d hv (kk H locs la hS hL)
theorem pm_bipush (K : pm_K l cl tl gw nw own nm cc nL ret R G) {k : Int} {v : Int32} (d : decode cc pc = .ok (.bipush k, 2)) (hq : pc + 2 = q) (hv : (Int8.ofInt k).toInt32 = v) (kk : G cells slots q ls (.int v :: st) n h) : G cells slots pc ls st n h := by
  obtain ⟨p, e, s, m, args, below, meth, c, Q, D, dA, A, ad, X, hmn, rfl⟩ := K
  subst hq
  exact fun H locs la hS hL => lv_bipush X.1 X.2.1 d hv (kk H locs la hS hL)
theorem pm_sipush (K : pm_K l cl tl gw nw own nm cc nL ret R G) {k : Int} {v : Int32} (d : decode cc pc = .ok (.sipush k, 3)) (hq : pc + 3 = q) (hv : (Int16.ofInt k).toInt32 = v) (kk : G cells slots q ls (.int v :: st) n h) : G cells slots pc ls st n h := by
  obtain ⟨p, e, s, m, args, below, meth, c, Q, D, dA, A, ad, X, hmn, rfl⟩ := K
  subst hq
  exact fun H locs la hS hL => lv_sipush X.1 X.2.1 d hv (kk H locs la hS hL)
theorem pm_null (K : pm_K l cl tl gw nw own nm cc nL ret R G)  (d : decode cc pc = .ok (.aconst_null, 1)) (hq : pc + 1 = q) (kk : G cells slots q ls (.null :: st) n h) : G cells slots pc ls st n h := by
  obtain ⟨p, e, s, m, args, below, meth, c, Q, D, dA, A, ad, X, hmn, rfl⟩ := K
  subst hq
  exact fun H locs la hS hL => lv_null X.1 X.2.1 d (kk H locs la hS hL)
theorem pm_iload_n (K : pm_K l cl tl gw nw own nm cc nL ret R G) {k : Fin 4} {i : Nat} {x : Int32} (d : decode cc pc = .ok (.iload_n k, 1)) (hq : pc + 1 = q) (hi : (k : Nat) = i) (hl : ls[i]? = some (some (.int x))) (kk : G cells slots q ls (.int x :: st) n h) : G cells slots pc ls st n h := by
  obtain ⟨p, e, s, m, args, below, meth, c, Q, D, dA, A, ad, X, hmn, rfl⟩ := K
  subst hq
  exact fun H locs la hS hL => lv_iload_n X.1 X.2.1 d hi (pm_l_at hL hl) (kk H locs la hS hL)
theorem pm_iload (K : pm_K l cl tl gw nw own nm cc nL ret R G) {i : Nat} {x : Int32} (d : decode cc pc = .ok (.iload i, 2)) (hq : pc + 2 = q) (hl : ls[i]? = some (some (.int x))) (kk : G cells slots q ls (.int x :: st) n h) : G cells slots pc ls st n h := by
  obtain ⟨p, e, s, m, args, below, meth, c, Q, D, dA, A, ad, X, hmn, rfl⟩ := K
  subst hq
  exact fun H locs la hS hL => lv_iload X.1 X.2.1 d (pm_l_at hL hl) (kk H locs la hS hL)
theorem pm_aload_n (K : pm_K l cl tl gw nw own nm cc nL ret R G) {k : Fin 4} {i x : Nat} (d : decode cc pc = .ok (.aload_n k, 1)) (hq : pc + 1 = q) (hi : (k : Nat) = i) (hl : ls[i]? = some (some (.ref x))) (kk : G cells slots q ls (.ref x :: st) n h) : G cells slots pc ls st n h := by
  obtain ⟨p, e, s, m, args, below, meth, c, Q, D, dA, A, ad, X, hmn, rfl⟩ := K
  subst hq
  exact fun H locs la hS hL => lv_aload_n X.1 X.2.1 d hi (pm_l_at hL hl) (kk H locs la hS hL)
theorem pm_aload (K : pm_K l cl tl gw nw own nm cc nL ret R G) {i x : Nat} (d : decode cc pc = .ok (.aload i, 2)) (hq : pc + 2 = q) (hl : ls[i]? = some (some (.ref x))) (kk : G cells slots q ls (.ref x :: st) n h) : G cells slots pc ls st n h := by
  obtain ⟨p, e, s, m, args, below, meth, c, Q, D, dA, A, ad, X, hmn, rfl⟩ := K
  subst hq
  exact fun H locs la hS hL => lv_aload X.1 X.2.1 d (pm_l_at hL hl) (kk H locs la hS hL)
theorem pm_aload_nN (K : pm_K l cl tl gw nw own nm cc nL ret R G) {k : Fin 4} {i : Nat} (d : decode cc pc = .ok (.aload_n k, 1)) (hq : pc + 1 = q) (hi : (k : Nat) = i) (hl : ls[i]? = some (some (.null))) (kk : G cells slots q ls (.null :: st) n h) : G cells slots pc ls st n h := by
  obtain ⟨p, e, s, m, args, below, meth, c, Q, D, dA, A, ad, X, hmn, rfl⟩ := K
  subst hq
  exact fun H locs la hS hL => lv_aload_nN X.1 X.2.1 d hi (pm_l_at hL hl) (kk H locs la hS hL)
theorem pm_aloadN (K : pm_K l cl tl gw nw own nm cc nL ret R G) {i : Nat} (d : decode cc pc = .ok (.aload i, 2)) (hq : pc + 2 = q) (hl : ls[i]? = some (some (.null))) (kk : G cells slots q ls (.null :: st) n h) : G cells slots pc ls st n h := by
  obtain ⟨p, e, s, m, args, below, meth, c, Q, D, dA, A, ad, X, hmn, rfl⟩ := K
  subst hq
  exact fun H locs la hS hL => lv_aloadN X.1 X.2.1 d (pm_l_at hL hl) (kk H locs la hS hL)
theorem pm_istore_n (K : pm_K l cl tl gw nw own nm cc nL ret R G) {k : Fin 4} {i : Nat} {x : Int32} (d : decode cc pc = .ok (.istore_n k, 1)) (hq : pc + 1 = q) (hi : (k : Nat) = i) (hn : i < nL) (hl : ls.set i (some (.int x)) = ls') (kk : G cells slots q ls' st n h) : G cells slots pc ls (.int x :: st) n h := by
  obtain ⟨p, e, s, m, args, below, meth, c, Q, D, dA, A, ad, X, hmn, rfl⟩ := K
  subst hq
  exact fun H locs la hS hL => lv_istore_n X.1 X.2.1 d hi hL hn rfl (fun la' h' => kk H locs la' hS (pm_l_set (v := .int x) hl h'))
theorem pm_istore (K : pm_K l cl tl gw nw own nm cc nL ret R G) {i : Nat} {x : Int32} (d : decode cc pc = .ok (.istore i, 2)) (hq : pc + 2 = q) (hn : i < nL) (hl : ls.set i (some (.int x)) = ls') (kk : G cells slots q ls' st n h) : G cells slots pc ls (.int x :: st) n h := by
  obtain ⟨p, e, s, m, args, below, meth, c, Q, D, dA, A, ad, X, hmn, rfl⟩ := K
  subst hq
  exact fun H locs la hS hL => lv_istore X.1 X.2.1 d hL hn rfl (fun la' h' => kk H locs la' hS (pm_l_set (v := .int x) hl h'))
theorem pm_astore_n (K : pm_K l cl tl gw nw own nm cc nL ret R G) {k : Fin 4} {i x : Nat} (d : decode cc pc = .ok (.astore_n k, 1)) (hq : pc + 1 = q) (hi : (k : Nat) = i) (hn : i < nL) (hl : ls.set i (some (.ref x)) = ls') (kk : G cells slots q ls' st n h) : G cells slots pc ls (.ref x :: st) n h := by
  obtain ⟨p, e, s, m, args, below, meth, c, Q, D, dA, A, ad, X, hmn, rfl⟩ := K
  subst hq
  exact fun H locs la hS hL => lv_astore_n X.1 X.2.1 d hi hL hn rfl (fun la' h' => kk H locs la' hS (pm_l_set (v := .ref x) hl h'))
theorem pm_astore (K : pm_K l cl tl gw nw own nm cc nL ret R G) {i x : Nat} (d : decode cc pc = .ok (.astore i, 2)) (hq : pc + 2 = q) (hn : i < nL) (hl : ls.set i (some (.ref x)) = ls') (kk : G cells slots q ls' st n h) : G cells slots pc ls (.ref x :: st) n h := by
  obtain ⟨p, e, s, m, args, below, meth, c, Q, D, dA, A, ad, X, hmn, rfl⟩ := K
  subst hq
  exact fun H locs la hS hL => lv_astore X.1 X.2.1 d hL hn rfl (fun la' h' => kk H locs la' hS (pm_l_set (v := .ref x) hl h'))
theorem pm_astore_nN (K : pm_K l cl tl gw nw own nm cc nL ret R G) {k : Fin 4} {i : Nat} (d : decode cc pc = .ok (.astore_n k, 1)) (hq : pc + 1 = q) (hi : (k : Nat) = i) (hn : i < nL) (hl : ls.set i (some (.null)) = ls') (kk : G cells slots q ls' st n h) : G cells slots pc ls (.null :: st) n h := by
  obtain ⟨p, e, s, m, args, below, meth, c, Q, D, dA, A, ad, X, hmn, rfl⟩ := K
  subst hq
  exact fun H locs la hS hL => lv_astore_nN X.1 X.2.1 d hi hL hn rfl (fun la' h' => kk H locs la' hS (pm_l_set (v := .null) hl h'))
theorem pm_astoreN (K : pm_K l cl tl gw nw own nm cc nL ret R G) {i : Nat} (d : decode cc pc = .ok (.astore i, 2)) (hq : pc + 2 = q) (hn : i < nL) (hl : ls.set i (some (.null)) = ls') (kk : G cells slots q ls' st n h) : G cells slots pc ls (.null :: st) n h := by
  obtain ⟨p, e, s, m, args, below, meth, c, Q, D, dA, A, ad, X, hmn, rfl⟩ := K
  subst hq
  exact fun H locs la hS hL => lv_astoreN X.1 X.2.1 d hL hn rfl (fun la' h' => kk H locs la' hS (pm_l_set (v := .null) hl h'))
theorem pm_iinc (K : pm_K l cl tl gw nw own nm cc nL ret R G) {i : Nat} {k : Int} {x v : Int32} (d : decode cc pc = .ok (.iinc i k, 3)) (hq : pc + 3 = q) (hl : ls[i]? = some (some (.int x))) (hv : x + Int32.ofInt k = v) (hn : i < nL) (hs : ls.set i (some (.int v)) = ls') (kk : G cells slots q ls' st n h) : G cells slots pc ls st n h := by
  obtain ⟨p, e, s, m, args, below, meth, c, Q, D, dA, A, ad, X, hmn, rfl⟩ := K
  subst hq
  exact fun H locs la hS hL => by
    obtain ⟨j, hj⟩ := List.getElem?_of_mem (pm_l_mem (ad := ad) (ls := ls) (q := (i, .int x)) |>.mpr ⟨.int x, hl, rfl⟩)
    exact lv_iinc X.1 X.2.1 d hL hj hv hn rfl (fun la' h' => kk H locs la' hS (pm_l_set (v := .int v) hs h'))
theorem pm_iadd (K : pm_K l cl tl gw nw own nm cc nL ret R G) {x y : Int32} (d : decode cc pc = .ok (.iadd, 1)) (hq : pc + 1 = q) (kk : G cells slots q ls (.int (x + y) :: st) n h) : G cells slots pc ls (.int y :: .int x :: st) n h := by
  obtain ⟨p, e, s, m, args, below, meth, c, Q, D, dA, A, ad, X, hmn, rfl⟩ := K
  subst hq
  exact fun H locs la hS hL => lv_iadd X.1 X.2.1 d (kk H locs la hS hL)
theorem pm_isub (K : pm_K l cl tl gw nw own nm cc nL ret R G) {x y : Int32} (d : decode cc pc = .ok (.isub, 1)) (hq : pc + 1 = q) (kk : G cells slots q ls (.int (x - y) :: st) n h) : G cells slots pc ls (.int y :: .int x :: st) n h := by
  obtain ⟨p, e, s, m, args, below, meth, c, Q, D, dA, A, ad, X, hmn, rfl⟩ := K
  subst hq
  exact fun H locs la hS hL => lv_isub X.1 X.2.1 d (kk H locs la hS hL)
theorem pm_imul (K : pm_K l cl tl gw nw own nm cc nL ret R G) {x y : Int32} (d : decode cc pc = .ok (.imul, 1)) (hq : pc + 1 = q) (kk : G cells slots q ls (.int (x * y) :: st) n h) : G cells slots pc ls (.int y :: .int x :: st) n h := by
  obtain ⟨p, e, s, m, args, below, meth, c, Q, D, dA, A, ad, X, hmn, rfl⟩ := K
  subst hq
  exact fun H locs la hS hL => lv_imul X.1 X.2.1 d (kk H locs la hS hL)
theorem pm_iand (K : pm_K l cl tl gw nw own nm cc nL ret R G) {x y : Int32} (d : decode cc pc = .ok (.iand, 1)) (hq : pc + 1 = q) (kk : G cells slots q ls (.int (x &&& y) :: st) n h) : G cells slots pc ls (.int y :: .int x :: st) n h := by
  obtain ⟨p, e, s, m, args, below, meth, c, Q, D, dA, A, ad, X, hmn, rfl⟩ := K
  subst hq
  exact fun H locs la hS hL => lv_iand X.1 X.2.1 d (kk H locs la hS hL)
theorem pm_idiv (K : pm_K l cl tl gw nw own nm cc nL ret R G) {x y : Int32} (d : decode cc pc = .ok (.idiv, 1)) (hq : pc + 1 = q) (hne : ¬ y = 0) (kk : G cells slots q ls (.int (x / y) :: st) n h) : G cells slots pc ls (.int y :: .int x :: st) n h := by
  obtain ⟨p, e, s, m, args, below, meth, c, Q, D, dA, A, ad, X, hmn, rfl⟩ := K
  subst hq
  exact fun H locs la hS hL => lv_idiv X.1 X.2.1 d hne (kk H locs la hS hL)
theorem pm_dup (K : pm_K l cl tl gw nw own nm cc nL ret R G) {v : Value} (d : decode cc pc = .ok (.dup, 1)) (hq : pc + 1 = q) (kk : G cells slots q ls (v :: v :: st) n h) : G cells slots pc ls (v :: st) n h := by
  obtain ⟨p, e, s, m, args, below, meth, c, Q, D, dA, A, ad, X, hmn, rfl⟩ := K
  subst hq
  exact fun H locs la hS hL => lv_dup X.1 X.2.1 d (pm_r_cat _ _) (kk H locs la hS hL)
theorem pm_pop (K : pm_K l cl tl gw nw own nm cc nL ret R G) {v : Value} (d : decode cc pc = .ok (.pop, 1)) (hq : pc + 1 = q) (kk : G cells slots q ls st n h) : G cells slots pc ls (v :: st) n h := by
  obtain ⟨p, e, s, m, args, below, meth, c, Q, D, dA, A, ad, X, hmn, rfl⟩ := K
  subst hq
  exact fun H locs la hS hL => lv_pop X.1 X.2.1 d (pm_r_cat _ _) (kk H locs la hS hL)
theorem pm_goto (K : pm_K l cl tl gw nw own nm cc nL ret R G) {off : Int} (d : decode cc pc = .ok (.goto off, 3)) (ht : (pc : Int) + off = (q : Int)) (kk : G cells slots q ls st n h) : G cells slots pc ls st n h := by
  obtain ⟨p, e, s, m, args, below, meth, c, Q, D, dA, A, ad, X, hmn, rfl⟩ := K
  exact fun H locs la hS hL => lv_goto X.1 X.2.1 d ht (kk H locs la hS hL)
theorem pm_icmp_eq (K : pm_K l cl tl gw nw own nm cc nL ret R G) {x y : Int32} {off : Int} {tgt : Nat} (d : decode cc pc = .ok (.if_icmp .eq off, 3)) (ht : (pc : Int) + off = (tgt : Int)) (hq : pc + 3 = q) (kt : x = y → G cells slots tgt ls st n h) (kf : ¬ x = y → G cells slots q ls st n h) : G cells slots pc ls (.int y :: .int x :: st) n h := by
  obtain ⟨p, e, s, m, args, below, meth, c, Q, D, dA, A, ad, X, hmn, rfl⟩ := K
  exact fun H locs la hS hL => lv_icmp_eq X.1 X.2.1 d ht (fun z => kt z H locs la hS hL) (fun z => by subst hq; exact kf z H locs la hS hL)
theorem pm_icmp_ne (K : pm_K l cl tl gw nw own nm cc nL ret R G) {x y : Int32} {off : Int} {tgt : Nat} (d : decode cc pc = .ok (.if_icmp .ne off, 3)) (ht : (pc : Int) + off = (tgt : Int)) (hq : pc + 3 = q) (kt : ¬ x = y → G cells slots tgt ls st n h) (kf : x = y → G cells slots q ls st n h) : G cells slots pc ls (.int y :: .int x :: st) n h := by
  obtain ⟨p, e, s, m, args, below, meth, c, Q, D, dA, A, ad, X, hmn, rfl⟩ := K
  exact fun H locs la hS hL => lv_icmp_ne X.1 X.2.1 d ht (fun z => kt z H locs la hS hL) (fun z => by subst hq; exact kf z H locs la hS hL)
theorem pm_icmp_lt (K : pm_K l cl tl gw nw own nm cc nL ret R G) {x y : Int32} {off : Int} {tgt : Nat} (d : decode cc pc = .ok (.if_icmp .lt off, 3)) (ht : (pc : Int) + off = (tgt : Int)) (hq : pc + 3 = q) (kt : x < y → G cells slots tgt ls st n h) (kf : ¬ x < y → G cells slots q ls st n h) : G cells slots pc ls (.int y :: .int x :: st) n h := by
  obtain ⟨p, e, s, m, args, below, meth, c, Q, D, dA, A, ad, X, hmn, rfl⟩ := K
  exact fun H locs la hS hL => lv_icmp_lt X.1 X.2.1 d ht (fun z => kt z H locs la hS hL) (fun z => by subst hq; exact kf z H locs la hS hL)
theorem pm_icmp_ge (K : pm_K l cl tl gw nw own nm cc nL ret R G) {x y : Int32} {off : Int} {tgt : Nat} (d : decode cc pc = .ok (.if_icmp .ge off, 3)) (ht : (pc : Int) + off = (tgt : Int)) (hq : pc + 3 = q) (kt : y ≤ x → G cells slots tgt ls st n h) (kf : ¬ y ≤ x → G cells slots q ls st n h) : G cells slots pc ls (.int y :: .int x :: st) n h := by
  obtain ⟨p, e, s, m, args, below, meth, c, Q, D, dA, A, ad, X, hmn, rfl⟩ := K
  exact fun H locs la hS hL => lv_icmp_ge X.1 X.2.1 d ht (fun z => kt z H locs la hS hL) (fun z => by subst hq; exact kf z H locs la hS hL)
theorem pm_icmp_gt (K : pm_K l cl tl gw nw own nm cc nL ret R G) {x y : Int32} {off : Int} {tgt : Nat} (d : decode cc pc = .ok (.if_icmp .gt off, 3)) (ht : (pc : Int) + off = (tgt : Int)) (hq : pc + 3 = q) (kt : y < x → G cells slots tgt ls st n h) (kf : ¬ y < x → G cells slots q ls st n h) : G cells slots pc ls (.int y :: .int x :: st) n h := by
  obtain ⟨p, e, s, m, args, below, meth, c, Q, D, dA, A, ad, X, hmn, rfl⟩ := K
  exact fun H locs la hS hL => lv_icmp_gt X.1 X.2.1 d ht (fun z => kt z H locs la hS hL) (fun z => by subst hq; exact kf z H locs la hS hL)
theorem pm_icmp_le (K : pm_K l cl tl gw nw own nm cc nL ret R G) {x y : Int32} {off : Int} {tgt : Nat} (d : decode cc pc = .ok (.if_icmp .le off, 3)) (ht : (pc : Int) + off = (tgt : Int)) (hq : pc + 3 = q) (kt : x ≤ y → G cells slots tgt ls st n h) (kf : ¬ x ≤ y → G cells slots q ls st n h) : G cells slots pc ls (.int y :: .int x :: st) n h := by
  obtain ⟨p, e, s, m, args, below, meth, c, Q, D, dA, A, ad, X, hmn, rfl⟩ := K
  exact fun H locs la hS hL => lv_icmp_le X.1 X.2.1 d ht (fun z => kt z H locs la hS hL) (fun z => by subst hq; exact kf z H locs la hS hL)
theorem pm_if_eq (K : pm_K l cl tl gw nw own nm cc nL ret R G) {x : Int32} {off : Int} {tgt : Nat} (d : decode cc pc = .ok (.ifCond .eq off, 3)) (ht : (pc : Int) + off = (tgt : Int)) (hq : pc + 3 = q) (kt : x = 0 → G cells slots tgt ls st n h) (kf : ¬ x = 0 → G cells slots q ls st n h) : G cells slots pc ls (.int x :: st) n h := by
  obtain ⟨p, e, s, m, args, below, meth, c, Q, D, dA, A, ad, X, hmn, rfl⟩ := K
  exact fun H locs la hS hL => lv_if_eq X.1 X.2.1 d ht (fun z => kt z H locs la hS hL) (fun z => by subst hq; exact kf z H locs la hS hL)
theorem pm_if_ne (K : pm_K l cl tl gw nw own nm cc nL ret R G) {x : Int32} {off : Int} {tgt : Nat} (d : decode cc pc = .ok (.ifCond .ne off, 3)) (ht : (pc : Int) + off = (tgt : Int)) (hq : pc + 3 = q) (kt : ¬ x = 0 → G cells slots tgt ls st n h) (kf : x = 0 → G cells slots q ls st n h) : G cells slots pc ls (.int x :: st) n h := by
  obtain ⟨p, e, s, m, args, below, meth, c, Q, D, dA, A, ad, X, hmn, rfl⟩ := K
  exact fun H locs la hS hL => lv_if_ne X.1 X.2.1 d ht (fun z => kt z H locs la hS hL) (fun z => by subst hq; exact kf z H locs la hS hL)
theorem pm_if_lt (K : pm_K l cl tl gw nw own nm cc nL ret R G) {x : Int32} {off : Int} {tgt : Nat} (d : decode cc pc = .ok (.ifCond .lt off, 3)) (ht : (pc : Int) + off = (tgt : Int)) (hq : pc + 3 = q) (kt : x < 0 → G cells slots tgt ls st n h) (kf : ¬ x < 0 → G cells slots q ls st n h) : G cells slots pc ls (.int x :: st) n h := by
  obtain ⟨p, e, s, m, args, below, meth, c, Q, D, dA, A, ad, X, hmn, rfl⟩ := K
  exact fun H locs la hS hL => lv_if_lt X.1 X.2.1 d ht (fun z => kt z H locs la hS hL) (fun z => by subst hq; exact kf z H locs la hS hL)
theorem pm_if_ge (K : pm_K l cl tl gw nw own nm cc nL ret R G) {x : Int32} {off : Int} {tgt : Nat} (d : decode cc pc = .ok (.ifCond .ge off, 3)) (ht : (pc : Int) + off = (tgt : Int)) (hq : pc + 3 = q) (kt : 0 ≤ x → G cells slots tgt ls st n h) (kf : ¬ 0 ≤ x → G cells slots q ls st n h) : G cells slots pc ls (.int x :: st) n h := by
  obtain ⟨p, e, s, m, args, below, meth, c, Q, D, dA, A, ad, X, hmn, rfl⟩ := K
  exact fun H locs la hS hL => lv_if_ge X.1 X.2.1 d ht (fun z => kt z H locs la hS hL) (fun z => by subst hq; exact kf z H locs la hS hL)
theorem pm_if_gt (K : pm_K l cl tl gw nw own nm cc nL ret R G) {x : Int32} {off : Int} {tgt : Nat} (d : decode cc pc = .ok (.ifCond .gt off, 3)) (ht : (pc : Int) + off = (tgt : Int)) (hq : pc + 3 = q) (kt : 0 < x → G cells slots tgt ls st n h) (kf : ¬ 0 < x → G cells slots q ls st n h) : G cells slots pc ls (.int x :: st) n h := by
  obtain ⟨p, e, s, m, args, below, meth, c, Q, D, dA, A, ad, X, hmn, rfl⟩ := K
  exact fun H locs la hS hL => lv_if_gt X.1 X.2.1 d ht (fun z => kt z H locs la hS hL) (fun z => by subst hq; exact kf z H locs la hS hL)
theorem pm_if_le (K : pm_K l cl tl gw nw own nm cc nL ret R G) {x : Int32} {off : Int} {tgt : Nat} (d : decode cc pc = .ok (.ifCond .le off, 3)) (ht : (pc : Int) + off = (tgt : Int)) (hq : pc + 3 = q) (kt : x ≤ 0 → G cells slots tgt ls st n h) (kf : ¬ x ≤ 0 → G cells slots q ls st n h) : G cells slots pc ls (.int x :: st) n h := by
  obtain ⟨p, e, s, m, args, below, meth, c, Q, D, dA, A, ad, X, hmn, rfl⟩ := K
  exact fun H locs la hS hL => lv_if_le X.1 X.2.1 d ht (fun z => kt z H locs la hS hL) (fun z => by subst hq; exact kf z H locs la hS hL)
theorem pm_ifnull (K : pm_K l cl tl gw nw own nm cc nL ret R G) {x : Nat} {off : Int} (d : decode cc pc = .ok (.ifnull off, 3)) (hq : pc + 3 = q) (kk : G cells slots q ls st n h) : G cells slots pc ls (.ref x :: st) n h := by
  obtain ⟨p, e, s, m, args, below, meth, c, Q, D, dA, A, ad, X, hmn, rfl⟩ := K
  exact fun H locs la hS hL => by subst hq; exact lv_ifnull X.1 X.2.1 d (kk H locs la hS hL)
theorem pm_ifnullN (K : pm_K l cl tl gw nw own nm cc nL ret R G) {off : Int} (d : decode cc pc = .ok (.ifnull off, 3)) (ht : (pc : Int) + off = (q : Int)) (kk : G cells slots q ls st n h) : G cells slots pc ls (.null :: st) n h := by
  obtain ⟨p, e, s, m, args, below, meth, c, Q, D, dA, A, ad, X, hmn, rfl⟩ := K
  exact fun H locs la hS hL => lv_ifnullN X.1 X.2.1 d ht (kk H locs la hS hL)
theorem pm_ifnonnull (K : pm_K l cl tl gw nw own nm cc nL ret R G) {x : Nat} {off : Int} (d : decode cc pc = .ok (.ifnonnull off, 3)) (ht : (pc : Int) + off = (q : Int)) (kk : G cells slots q ls st n h) : G cells slots pc ls (.ref x :: st) n h := by
  obtain ⟨p, e, s, m, args, below, meth, c, Q, D, dA, A, ad, X, hmn, rfl⟩ := K
  exact fun H locs la hS hL => lv_ifnonnull X.1 X.2.1 d ht (kk H locs la hS hL)
theorem pm_ifnonnullN (K : pm_K l cl tl gw nw own nm cc nL ret R G) {off : Int} (d : decode cc pc = .ok (.ifnonnull off, 3)) (hq : pc + 3 = q) (kk : G cells slots q ls st n h) : G cells slots pc ls (.null :: st) n h := by
  obtain ⟨p, e, s, m, args, below, meth, c, Q, D, dA, A, ad, X, hmn, rfl⟩ := K
  exact fun H locs la hS hL => by subst hq; exact lv_ifnonnullN X.1 X.2.1 d (kk H locs la hS hL)
theorem pm_tableOut (K : pm_K l cl tl gw nw own nm cc nL ret R G) {dflt lo hi : Int} {offs : Array Int} {len : Nat} {x : Int32} (d : decode cc pc = .ok (.tableswitch dflt lo hi offs, len)) (hx : x.toInt < lo ∨ hi < x.toInt) (ht : (pc : Int) + dflt = (q : Int)) (kk : G cells slots q ls st n h) : G cells slots pc ls (.int x :: st) n h := by
  obtain ⟨p, e, s, m, args, below, meth, c, Q, D, dA, A, ad, X, hmn, rfl⟩ := K
  exact fun H locs la hS hL => lv_tableOut X.1 X.2.1 d hx ht (kk H locs la hS hL)
theorem pm_tableIn (K : pm_K l cl tl gw nw own nm cc nL ret R G) {dflt lo hi : Int} {offs : Array Int} {len : Nat} {x : Int32} {off : Int} (d : decode cc pc = .ok (.tableswitch dflt lo hi offs, len)) (h1 : ¬ x.toInt < lo) (h2 : ¬ hi < x.toInt) (ho : offs[(x.toInt - lo).toNat]? = some off) (ht : (pc : Int) + off = (q : Int)) (kk : G cells slots q ls st n h) : G cells slots pc ls (.int x :: st) n h := by
  obtain ⟨p, e, s, m, args, below, meth, c, Q, D, dA, A, ad, X, hmn, rfl⟩ := K
  exact fun H locs la hS hL => lv_tableIn X.1 X.2.1 d h1 h2 ho ht (kk H locs la hS hL)
theorem pm_lookup (K : pm_K l cl tl gw nw own nm cc nL ret R G) {dflt : Int} {ps : Array (Int × Int)} {len : Nat} {x : Int32} {off : Int} (d : decode cc pc = .ok (.lookupswitch dflt ps, len)) (hp : (ps.toList.zip (ps.toList.drop 1)).all (fun (a, next) => a.1 < next.1) = true) (ho : Op.lookupswitch.offset ps.toList dflt x.toInt = off) (ht : (pc : Int) + off = (q : Int)) (kk : G cells slots q ls st n h) : G cells slots pc ls (.int x :: st) n h := by
  obtain ⟨p, e, s, m, args, below, meth, c, Q, D, dA, A, ad, X, hmn, rfl⟩ := K
  exact fun H locs la hS hL => lv_lookup X.1 X.2.1 d hp ho ht (kk H locs la hS hL)
end PMS
end
section
/-! The picture's heap rows: fields, arrays, new cells. -/
section PMH
variable {l : Launch} {cl : List vw_C} {tl : List FieldType} {gw nw : List Cond} {own nm : String} {cc : ByteArray} {nL : Nat} {ret : Option FieldType} {R : Room} {G : pm_Gt} {cells slots pc q n : Nat} {ls ls' : List (Option Value)} {st : List Value} {h : pm_H}
/-- a cell read -/
theorem pm_get (K : pm_K l cl tl gw nw own nm cc nL ret R G) {C : String} {T : u_T} {N ci index : Nat} (hin : ∀ w ∈ u_ws C T N, w ∈ gw) (hc : cl[ci]? = some (C, T, N)) {k : Nat} (hk : k < N) (hlink : Cond.fieldLink own index C (T k).2.1 (T k).2.2.1 ∈ gw) (hdecl : (T k).1 = C) {a : Nat} {fs : List Value} {v : Value} (ha : a < n) (hcell : h a = pm_O ci fs) (hv : fs[k]? = some v) (d : decode cc pc = .ok (.getfield index, 3)) (hq : pc + 3 = q) (kk : G cells slots q ls (v :: st) n h) : G cells slots pc ls (.ref a :: st) n h := by
  obtain ⟨p, e, s, m, args, below, meth, c, Q, D, dA, A, ad, X, hmn, rfl⟩ := K
  subst hq
  intro H locs la hS hL
  obtain ⟨hx, hb, -, hown, hts, hK, -⟩ := X
  refine va_get (D := D) (ci := ci) (v := pm_r ad v) (C := C) (T := T) (N := N) hx hb hts hin hown hK hS.1 a (fs := fs.map (pm_r ad)) ?_ hc k hk (hts _ hlink) (fun x hx => by rw [← hdecl]; exact hx) ?_ d (kk H locs la hS hL)
  · rw [pm_w_at ha, hcell]; rfl
  · rw [List.getElem?_map, hv]; rfl
/-- a cell written: a field that isn't final -/
theorem pm_put (K : pm_K l cl tl gw nw own nm cc nL ret R G) {C : String} {T : u_T} {N ci index : Nat} (hin : ∀ w ∈ u_ws C T N, w ∈ gw) (ty0 : Nat → FieldType) (hty : ∀ k, k < N → parseFieldDescriptor (T k).2.2.1 = some (ty0 k)) (hnm : ∀ a, a < N → ∀ b, b < N → a ≠ b → (T a).2.1 ≠ (T b).2.1) (hc : cl[ci]? = some (C, T, N)) {k : Nat} (hk : k < N) (hlink : Cond.fieldLink own index C (T k).2.1 (T k).2.2.1 ∈ gw) (hdecl : (T k).1 = C) (hfin : (T k).2.2.2 = false) {a : Nat} {fs fs' : List Value} {v : Value} (hfit : ∀ ad, narrow (ty0 k) (pm_r ad v) = pm_r ad v ∧ fits (ty0 k) (pm_r ad v) = true) (ha : a < n) (hcell : h a = pm_O ci fs) (hl : k < fs.length) (hfs : fs.set k v = fs') (d : decode cc pc = .ok (.putfield index, 3)) (hq : pc + 3 = q) (kk : G cells slots q ls st n (va_up h a (pm_O ci fs'))) : G cells slots pc ls (v :: .ref a :: st) n h := by
  obtain ⟨p, e, s, m, args, below, meth, c, Q, D, dA, A, ad, X, hmn, rfl⟩ := K
  subst hq
  intro H locs la hS hL
  obtain ⟨hx, hb, -, hown, hts, hK, -⟩ := X
  obtain ⟨hP, hD, hSS, hAd⟩ := hS
  have he : (pm_w dA ad n h)[a]? = some (ad a, .inr (ci, fs.map (pm_r ad))) := by rw [pm_w_at ha, hcell]; rfl
  have hap := va_apart (own := own) hts hin ty0 hty hnm hK hc
  obtain ⟨r, h1, cell, q1, q2, q3, q4⟩ := hP a _ he
  have hr : r = (C, T, N) := Option.some.inj (h1.symm.trans hc)
  subst hr
  obtain ⟨hSl, hfc, kC, hkC, hkind⟩ := hK.1 ci _ hc
  obtain ⟨cf, kf, fi, f, hi, hsl⟩ := hSl k hk
  have hlay := hts _ (hin _ (u_in_lay hk))
  unfold u_lay at hlay
  rw [if_neg (by rw [hfin]; decide)] at hlay
  have hst := (u_facts hfc hkC (u_lays hts hin hk) hi).1
  have h6 := u_store hfc hkC hkind hlay hi (hty k hk) (hfit ad).1 (hfit ad).2
  have hi' : s.fieldFound? C (T k).2.1 (T k).2.2.1 = some (cf, kf, fi, f) := by rw [← hdecl]; exact hi
  refine W.putK hx hb (f := f) ⟨hown, hts _ hlink, ⟨_, _, _, hi'⟩, hst⟩ (by rw [q2]; exact h6) q1 q3 (by rw [hsl]; exact k2_hasslot (q4 k hk)) rfl rfl d fun H' e1 e2 e3 => ?_
  rw [hsl] at e1 ⊢
  have hl' : k < (fs.map (pm_r ad)).length := by rw [List.length_map]; exact hl
  have hP' := hP.set (e := .inr (ci, (fs.map (pm_r ad)).set k (pm_r ad v))) hD he ⟨_, hc, t_OB.to (V := updV (vp_V (fs.map (pm_r ad))) k (pm_r ad v)) ⟨_, e1, q2, q3, t_set q4 hap hk _⟩ (fun j _ => vp_updV_set hl' _ j)⟩ e3
  have hD' := hD.set (e := .inr (ci, (fs.map (pm_r ad)).set k (pm_r ad v))) he
  have ew : (pm_w dA ad n h).set a (ad a, .inr (ci, (fs.map (pm_r ad)).set k (pm_r ad v))) = pm_w dA ad n (va_up h a (pm_O ci fs')) := by
    rw [← pm_w_set _ ha, ← hfs]
    simp only [pm_e, List.map_set]
  rw [ew] at hP' hD'
  exact kk H' _ la ⟨hP', hD', hSS.put e2 e3 (hD.2 a _ he), by rw [e2]; exact hAd⟩ hL

theorem pm_putF (K : pm_K l cl tl gw nw own nm cc nL ret R G) {C : String} {T : u_T} {N ci index : Nat} (hin : ∀ w ∈ u_ws C T N, w ∈ gw) (ty0 : Nat → FieldType) (hty : ∀ k, k < N → parseFieldDescriptor (T k).2.2.1 = some (ty0 k)) (hnm : ∀ a, a < N → ∀ b, b < N → a ≠ b → (T a).2.1 ≠ (T b).2.1) (hc : cl[ci]? = some (C, T, N)) {k : Nat} (hk : k < N) (hlink : Cond.fieldLink own index C (T k).2.1 (T k).2.2.1 ∈ gw) (hdecl : (T k).1 = C) (hownC : C = own) (hfin : (T k).2.2.2 = true) (hin2 : nm = "<init>") {a : Nat} {fs fs' : List Value} {v : Value} (hfit : ∀ ad, narrow (ty0 k) (pm_r ad v) = pm_r ad v ∧ fits (ty0 k) (pm_r ad v) = true) (ha : a < n) (hcell : h a = pm_O ci fs) (hl : k < fs.length) (hfs : fs.set k v = fs') (d : decode cc pc = .ok (.putfield index, 3)) (hq : pc + 3 = q) (kk : G cells slots q ls st n (va_up h a (pm_O ci fs'))) : G cells slots pc ls (v :: .ref a :: st) n h := by
  obtain ⟨p, e, s, m, args, below, meth, c, Q, D, dA, A, ad, X, hmn, rfl⟩ := K
  subst hq
  intro H locs la hS hL
  obtain ⟨hx, hb, -, hown, hts, hK, -⟩ := X
  obtain ⟨hP, hD, hSS, hAd⟩ := hS
  have he : (pm_w dA ad n h)[a]? = some (ad a, .inr (ci, fs.map (pm_r ad))) := by rw [pm_w_at ha, hcell]; rfl
  have hap := va_apart (own := own) hts hin ty0 hty hnm hK hc
  obtain ⟨r, h1, cell, q1, q2, q3, q4⟩ := hP a _ he
  have hr : r = (C, T, N) := Option.some.inj (h1.symm.trans hc)
  subst hr
  obtain ⟨hSl, hfc, kC, hkC, hkind⟩ := hK.1 ci _ hc
  obtain ⟨cf, kf, fi, f, hi, hsl⟩ := hSl k hk
  have hlay := hts _ (hin _ (u_in_lay hk))
  unfold u_lay at hlay
  rw [if_pos hfin] at hlay
  have hst := (u_facts hfc hkC (u_lays hts hin hk) hi).1
  have hcf : m.cls = cf := by
    obtain ⟨_, _, c', _, _, _, -, -, hf', -, -, -, hown2, -⟩ := Cond.laysFinal_spec hlay
    have e1 : c' = cf := by have := hi.symm.trans hf'; simp at this; exact this.1.symm
    rw [hdecl, hownC] at hown2
    rw [← e1]; exact Option.some.inj (hown.symm.trans hown2)
  have h6 := u_fits hfc hkC hkind (Or.inr hlay) hi (hty k hk) (hfit ad).1 (hfit ad).2
  have hi' : s.fieldFound? C (T k).2.1 (T k).2.2.1 = some (cf, kf, fi, f) := by rw [← hdecl]; exact hi
  refine W.putFinK hx hb hown (hts _ hlink) hi' hst hcf (hmn.trans hin2) (by rw [q2]; exact h6) q1 q3 (by rw [hsl]; exact k2_hasslot (q4 k hk)) rfl rfl d fun H' e1 e2 e3 => ?_
  rw [hsl] at e1 ⊢
  have hl' : k < (fs.map (pm_r ad)).length := by rw [List.length_map]; exact hl
  have hP' := hP.set (e := .inr (ci, (fs.map (pm_r ad)).set k (pm_r ad v))) hD he ⟨_, hc, t_OB.to (V := updV (vp_V (fs.map (pm_r ad))) k (pm_r ad v)) ⟨_, e1, q2, q3, t_set q4 hap hk _⟩ (fun j _ => vp_updV_set hl' _ j)⟩ e3
  have hD' := hD.set (e := .inr (ci, (fs.map (pm_r ad)).set k (pm_r ad v))) he
  have ew : (pm_w dA ad n h).set a (ad a, .inr (ci, (fs.map (pm_r ad)).set k (pm_r ad v))) = pm_w dA ad n (va_up h a (pm_O ci fs')) := by
    rw [← pm_w_set _ ha, ← hfs]
    simp only [pm_e, List.map_set]
  rw [ew] at hP' hD'
  exact kk H' _ la ⟨hP', hD', hSS.put e2 e3 (hD.2 a _ he), by rw [e2]; exact hAd⟩ hL
theorem pm_iald (K : pm_K l cl tl gw nw own nm cc nL ret R G) {a t len : Nat} {f : Nat → Int32} {i x : Int32} (ha : a < n) (hcell : h a = pm_I t len f) (ht : tl[t]? = some .int) (hin : vp_in i len) (hv : f i.toNatClampNeg = x) (d : decode cc pc = .ok (.iaload, 1)) (hq : pc + 1 = q) (kk : G cells slots q ls (.int x :: st) n h) : G cells slots pc ls (.int i :: .ref a :: st) n h := by
  obtain ⟨p, e, s, m, args, below, meth, c, Q, D, dA, A, ad, X, hmn, rfl⟩ := K
  subst hq
  intro H locs la hS hL
  subst hv
  exact va_iald X.1 X.2.1 X.2.2.2.2.2.1 hS.1 a t (cA := dA t) (n := len) (f := f) (by rw [pm_w_at ha, hcell]; rfl) (pm_tys_at ht) hin d (kk H locs la hS hL)
theorem pm_iast (K : pm_K l cl tl gw nw own nm cc nL ret R G) {a t len : Nat} {f : Nat → Int32} {i x : Int32} (ha : a < n) (hcell : h a = pm_I t len f) (ht : tl[t]? = some .int) (hin : vp_in i len) (d : decode cc pc = .ok (.iastore, 1)) (hq : pc + 1 = q) (kk : G cells slots q ls st n (va_up h a (pm_I t len (upd f i.toNatClampNeg x)))) : G cells slots pc ls (.int x :: .int i :: .ref a :: st) n h := by
  obtain ⟨p, e, s, m, args, below, meth, c, Q, D, dA, A, ad, X, hmn, rfl⟩ := K
  subst hq
  intro H locs la hS hL
  obtain ⟨hx, hb, -, hown, hts, hK, -⟩ := X
  obtain ⟨hP, hD, hSS, hAd⟩ := hS
  have he : (pm_w dA ad n h)[a]? = some (ad a, .inl (dA t, len, .inl f)) := by rw [pm_w_at ha, hcell]; rfl
  refine W.iast hx hb (hP a _ he) ((hK.2 t _ (pm_tys_at ht)).1 len (fun j => .int (f j))) (fun q => by cases q) (by show ¬ (i < 0 ∨ (arrV _ _ _).slots.size ≤ _); rw [arrV_size]; exact hin) rfl rfl d fun H1 e1 z oq => ?_
  have hat : va_at D cl (ad a, .inl (dA t, len, .inl (upd f i.toNatClampNeg x))) H1 := by
    show H1[ad a]? = some (vp_cell _ _)
    rw [e1, vp_cell_i, vp_cell_i, arrV_store]
    congr 2
    funext q
    by_cases hq : q = i.toNatClampNeg
    · subst hq
      simp [updV, upd]
    · simp [updV, upd, hq]
  have hP' := hP.set hD he hat oq
  have hD' := hD.set (e := .inl (dA t, len, .inl (upd f i.toNatClampNeg x))) he
  have ew : (pm_w dA ad n h).set a (ad a, .inl (dA t, len, .inl (upd f i.toNatClampNeg x))) = pm_w dA ad n (va_up h a (pm_I t len (upd f i.toNatClampNeg x))) := by
    rw [← pm_w_set _ ha]; rfl
  rw [ew] at hP' hD'
  exact kk H1 _ la ⟨hP', hD', hSS.put z oq (hD.2 a _ he), by rw [z]; exact hAd⟩ hL
theorem pm_aald (K : pm_K l cl tl gw nw own nm cc nL ret R G) {a t len k : Nat} {C : String} {f : Nat → Option Nat} {i : Int32} (ha : a < n) (hcell : h a = pm_R t len f) (ht : tl[t]? = some (.object C)) (hin : vp_in i len) (hv : f i.toNatClampNeg = some k) (d : decode cc pc = .ok (.aaload, 1)) (hq : pc + 1 = q) (kk : G cells slots q ls (.ref k :: st) n h) : G cells slots pc ls (.int i :: .ref a :: st) n h := by
  obtain ⟨p, e, s, m, args, below, meth, c, Q, D, dA, A, ad, X, hmn, rfl⟩ := K
  subst hq
  intro H locs la hS hL
  refine va_aldq X.1 X.2.1 X.2.2.2.2.2.1 hS.1 a t (cA := dA t) (C := C) (n := len) (f := fun j => (f j).map ad) (by rw [pm_w_at ha, hcell]; rfl) (pm_tys_at ht) hin d ?_
  rw [hv]
  exact kk H locs la hS hL
theorem pm_aast (K : pm_K l cl tl gw nw own nm cc nL ret R G) {a t len k cv : Nat} {r : vw_C} {vs : List Value} {f : Nat → Option Nat} {i : Int32} (ha : a < n) (hcell : h a = pm_R t len f) (ht : tl[t]? = some (.object r.1)) (hk : k < n) (hobj : h k = pm_O cv vs) (hc : cl[cv]? = some r) (hin : vp_in i len) (d : decode cc pc = .ok (.aastore, 1)) (hq : pc + 1 = q) (kk : G cells slots q ls st n (va_up h a (pm_R t len (va_up f i.toNatClampNeg (some k))))) : G cells slots pc ls (.ref k :: .int i :: .ref a :: st) n h := by
  obtain ⟨p, e, s, m, args, below, meth, c, Q, D, dA, A, ad, X, hmn, rfl⟩ := K
  subst hq
  intro H locs la hS hL
  obtain ⟨hx, hb, -, hown, hts, hK, -⟩ := X
  obtain ⟨hP, hD, hSS, hAd⟩ := hS
  have he : (pm_w dA ad n h)[a]? = some (ad a, .inl (dA t, len, .inr (.inr (.inr (.inr (fun j => (f j).map ad)))))) := by rw [pm_w_at ha, hcell]; rfl
  have hev : (pm_w dA ad n h)[k]? = some (ad k, .inr (cv, vs.map (pm_r ad))) := by rw [pm_w_at hk, hobj]; rfl
  have hlt : i.toNatClampNeg < len := Nat.not_le.mp fun q => hin (Or.inr q)
  have h0 : ¬ i < 0 := fun q => hin (Or.inl q)
  obtain ⟨r', hr', cellV, g1, g2, g3, -⟩ := hP k _ hev
  have hcls := (hK.1 cv r hc).2
  obtain ⟨kA, comp, k1, k2, k3, -⟩ := (hK.2 t _ (pm_tys_at ht)).2
  have hcomp : comp = D.1 cv := Option.some.inj (k3.symm.trans hcls.1)
  subst hcomp
  obtain ⟨kC, hkC, -⟩ := hcls.2
  refine W.aast hx hb (hP a _ he) (fun q hq => by cases hq) (fun hq => by cases hq) k1 k2 rfl hkC ⟨h0, by show _ < (arrV _ _ _).slots.size; rw [arrV_size]; exact hlt⟩ g1 (fun q hq => by rw [g3] at hq; cases hq) (by rw [g2]; exact hkC) (by rw [g2]; exact va_assign hcls) rfl rfl d fun H1 e1 z oq => ?_
  have hat : va_at D cl (ad a, .inl (dA t, len, .inr (.inr (.inr (.inr (fun j => (va_up f i.toNatClampNeg (some k) j).map ad)))))) H1 := by
    show H1[ad a]? = some (vp_cell _ _)
    rw [e1, vp_cell_q, vp_cell_q, arrV_store]
    congr 2
    funext q
    by_cases hq : q = i.toNatClampNeg
    · subst hq
      simp [updV, va_up, va_rf]
    · simp [updV, va_up, hq]
  have hP' := hP.set hD he hat oq
  have hD' := hD.set (e := .inl (dA t, len, .inr (.inr (.inr (.inr (fun j => (va_up f i.toNatClampNeg (some k) j).map ad)))))) he
  have ew : (pm_w dA ad n h).set a (ad a, .inl (dA t, len, .inr (.inr (.inr (.inr (fun j => (va_up f i.toNatClampNeg (some k) j).map ad)))))) = pm_w dA ad n (va_up h a (pm_R t len (va_up f i.toNatClampNeg (some k)))) := by
    rw [← pm_w_set _ ha]; rfl
  rw [ew] at hP' hD'
  exact kk H1 _ la ⟨hP', hD', hSS.put z oq (hD.2 a _ he), by rw [z]; exact hAd⟩ hL
theorem pm_alenI (K : pm_K l cl tl gw nw own nm cc nL ret R G) {a t len : Nat} {ty : FieldType} {f : Nat → Int32} {v : Int32} (ha : a < n) (hcell : h a = pm_I t len f) (ht : tl[t]? = some ty) (hv : Int32.ofNat len = v) (d : decode cc pc = .ok (.arraylength, 1)) (hq : pc + 1 = q) (kk : G cells slots q ls (.int v :: st) n h) : G cells slots pc ls (.ref a :: st) n h := by
  obtain ⟨p, e, s, m, args, below, meth, c, Q, D, dA, A, ad, X, hmn, rfl⟩ := K
  subst hq
  intro H locs la hS hL
  exact va_alen X.1 X.2.1 X.2.2.2.2.2.1 hS.1 a t (cA := dA t) (x := (len, .inl f)) (by rw [pm_w_at ha, hcell]; rfl) (pm_tys_at ht) hv d (kk H locs la hS hL)
/-- a new object: it gets the next number -/
theorem pm_new (K : pm_K l cl tl gw nw own nm cc nL ret R G) {C : String} {T : u_T} {N ci index : Nat} (hin : ∀ w ∈ u_ws C T N, w ∈ gw) (ty : Nat → FieldType) (hty : ∀ k, k < N → parseFieldDescriptor (T k).2.2.1 = some (ty k)) (hcl : Cond.classLink own index C ∈ gw) (hinst : Cond.instantiable C N ∈ gw) (hini : Cond.initialized C ∈ gw) (hc : cl[ci]? = some (C, T, N)) {fs : List Value} (hfs : ∀ j, j < N → defaultValue (ty j) = vp_V fs j) (hpure : ∀ ad, fs.map (pm_r ad) = fs) (hbig : n < pm_big) (hcells : cells + 1 ≤ R.cells) (hslots : slots + N ≤ R.slots) (d : decode cc pc = .ok (.new index, 3)) (hq : pc + 3 = q) (kk : G (cells + 1) (slots + N) q ls (.ref n :: st) (n + 1) (va_up h n (pm_O ci fs))) : G cells slots pc ls st n h := by
  obtain ⟨p, e, s, m, args, below, meth, c, Q, D, dA, A, ad, X, hmn, rfl⟩ := K
  subst hq
  intro H locs la hS hL
  obtain ⟨hx, hb, -, hown, hts, hK, hA, -⟩ := X
  obtain ⟨hP, hD, hSS, hAd⟩ := hS
  have hsz : ad n = H.size := by have := hAd 0 (by omega); simpa using this
  have hKn := hK.1 ci _ hc
  refine W.newcK hx hb hown (hts _ hcl) (hts _ hinst) (hts _ hini) rfl d hcells hslots hKn.2.1 rfl fun H1 kC hkC e1 z1 o1 => ?_
  have hk : ∀ (k : Nat) (x : Nat × va_E), (pm_w dA ad n h)[k]? = some x → H1[x.1]? = H[x.1]? := fun k x hx => o1 x.1 ((hP k x hx).lt)
  have hnew : va_at D cl (ad n, pm_e dA ad (pm_O ci fs)) H1 := by
    show ∃ r : vw_C, cl[ci]? = some r ∧ t_OB (ad n) (D.1 ci) r.2.2 (D.2 ci) H1 (vp_V (fs.map (pm_r ad)))
    rw [hpure, hsz]
    exact ⟨_, hc, (u_born ty hts hin hKn hkC e1 hty).to hfs⟩
  have hP' : va_P D cl (pm_w dA ad (n + 1) (va_up h n (pm_O ci fs))) H1 := by
    rw [pm_w_push]
    refine (hP.kept hk).app (fun k x hx => ?_)
    have hz : k < 1 := (List.getElem?_eq_some_iff.mp hx).1
    rw [show k = 0 by omega] at hx
    cases hx
    exact hnew
  have hD' : va_D A (pm_w dA ad (n + 1) (va_up h n (pm_O ci fs))) := by
    rw [pm_w_push]
    exact hD.push hP hsz (by rw [hsz]; exact hA _ hSS.1)
  have hg := kk H1 locs la ⟨hP', hD', ⟨Nat.le_trans hSS.1 (by omega), fun x h1 h2 => (o1 x (Nat.lt_of_lt_of_le h1 hSS.1)).trans (hSS.2.1 x h1 h2), hSS.2.2⟩, fun i hi => by
    have := hAd (i + 1) (by omega)
    rw [z1, show n + 1 + i = n + (i + 1) by omega, this]
    omega⟩ hL
  have ew : (Value.ref n :: st).map (pm_r ad) = .ref H.size :: st.map (pm_r ad) := by rw [List.map_cons, pm_r_ref, hsz]
  rw [ew] at hg
  exact hg
/-- a new array of ints, chars .. -/
theorem pm_newa (K : pm_K l cl tl gw nw own nm cc nL ret R G) {atype : ArrayType} {ty : FieldType} {t : Nat} (hty : newarray.typeOf atype = ty) (harr : Cond.arrayClass ty ∈ gw) (ht : tl[t]? = some ty) (hprim : ∀ (s : State) (cA : ClassId), va_RA s cA ty → s.vm.findClass ("[" ++ ty.toString) = some cA) (hdef : defaultValue ty = .int 0) {k : Int32} {N : Nat} (hn : ¬ k < 0) (hN : k.toNatClampNeg = N) (hbytes : N * componentBytes ty ≤ 536870912) (hbig : n < pm_big) (hcells : cells + 1 ≤ R.cells) (hslots : slots + N ≤ R.slots) (d : decode cc pc = .ok (.newarray atype, 2)) (hq : pc + 2 = q) (kk : G (cells + 1) (slots + N) q ls (.ref n :: st) (n + 1) (va_up h n (pm_I t N (fun _ => 0)))) : G cells slots pc ls (.int k :: st) n h := by
  obtain ⟨p, e, s, m, args, below, meth, c, Q, D, dA, A, ad, X, hmn, rfl⟩ := K
  subst hq
  intro H locs la hS hL
  obtain ⟨hx, hb, -, hown, hts, hK, hA, -⟩ := X
  obtain ⟨hP, hD, hSS, hAd⟩ := hS
  subst hty
  have hsz : ad n = H.size := by have := hAd 0 (by omega); simpa using this
  refine va_newaK hx hb (hts _ harr) rfl d rfl hn hN hbytes hcells hslots rfl fun H1 cA e1 z1 o1 hAr hNm => ?_
  have hcA : cA = dA t := Option.some.inj (hNm.symm.trans (hprim _ _ (hK.2 t _ (pm_tys_at ht)).2))
  subst hcA
  have hk : ∀ (k : Nat) (x : Nat × va_E), (pm_w dA ad n h)[k]? = some x → H1[x.1]? = H[x.1]? := fun k x hx => o1 x.1 ((hP k x hx).lt)
  have hnew : va_at D cl (ad n, pm_e dA ad (pm_I t N (fun _ => 0))) H1 := by
    show H1[ad n]? = some (vp_cell (dA t) (N, .inl (fun _ => 0)))
    rw [hsz, e1, vp_cell_i, hdef]
  have hP' : va_P D cl (pm_w dA ad (n + 1) (va_up h n (pm_I t N (fun _ => 0)))) H1 := by
    rw [pm_w_push]
    refine (hP.kept hk).app (fun k x hx => ?_)
    have hz : k < 1 := (List.getElem?_eq_some_iff.mp hx).1
    rw [show k = 0 by omega] at hx
    cases hx
    exact hnew
  have hD' : va_D A (pm_w dA ad (n + 1) (va_up h n (pm_I t N (fun _ => 0)))) := by
    rw [pm_w_push]
    exact hD.push hP hsz (by rw [hsz]; exact hA _ hSS.1)
  have hg := kk H1 locs la ⟨hP', hD', ⟨Nat.le_trans hSS.1 (by omega), fun x h1 h2 => (o1 x (Nat.lt_of_lt_of_le h1 hSS.1)).trans (hSS.2.1 x h1 h2), hSS.2.2⟩, fun i hi => by
    have := hAd (i + 1) (by omega)
    rw [z1, show n + 1 + i = n + (i + 1) by omega, this]
    omega⟩ hL
  have ew : (Value.ref n :: st).map (pm_r ad) = .ref H.size :: st.map (pm_r ad) := by rw [List.map_cons, pm_r_ref, hsz]
  rw [ew] at hg
  exact hg
/-- a new array of references: each is null -/
theorem pm_anewa (K : pm_K l cl tl gw nw own nm cc nL ret R G) {C : String} {index t : Nat} (hclk : Cond.classLink own index C ∈ gw) (hover : Cond.arrayOver (.object C) ∈ nw) (ht : tl[t]? = some (.object C)) {k : Int32} {N : Nat} (hn : ¬ k < 0) (hN : k.toNatClampNeg = N) (hbytes : N * 4 ≤ 536870912) (hbig : n < pm_big) (hcells : cells + 1 ≤ R.cells) (hslots : slots + N ≤ R.slots) (d : decode cc pc = .ok (.anewarray index, 3)) (hq : pc + 3 = q) (kk : G (cells + 1) (slots + N) q ls (.ref n :: st) (n + 1) (va_up h n (pm_R t N (fun _ => none)))) : G cells slots pc ls (.int k :: st) n h := by
  obtain ⟨p, e, s, m, args, below, meth, c, Q, D, dA, A, ad, X, hmn, rfl⟩ := K
  subst hq
  intro H locs la hS hL
  obtain ⟨hx, hb, -, hown, hts, hK, hA, -, -, hN0⟩ := X
  obtain ⟨hP, hD, hSS, hAd⟩ := hS
  subst hN
  have hsz : ad n = H.size := by have := hAd 0 (by omega); simpa using this
  refine W.anew hx hb hown (hts _ hclk) (va_AO.use (hN0 _ hover).2) rfl d rfl hn hbytes hcells hslots fun cA kA comp h1 h2 h3 h4 => ?_
  obtain ⟨kA', comp', k1, k2, k3, k4⟩ := (hK.2 t _ (pm_tys_at ht)).2
  have hcA : cA = dA t := Option.some.inj (h1.symm.trans k4)
  subst hcA
  have z1 : (H.push { cls := dA t, slots := Array.replicate k.toNatClampNeg .null, vm := .none }).size = H.size + 1 := by simp
  have o1 : ∀ x, x < H.size → (H.push { cls := dA t, slots := Array.replicate k.toNatClampNeg .null, vm := .none })[x]? = H[x]? := fun x hx => by
    rw [Array.getElem?_push, if_neg (Nat.ne_of_lt hx)]
  have e1 : (H.push { cls := dA t, slots := Array.replicate k.toNatClampNeg .null, vm := .none })[H.size]? = some (vp_cell (dA t) (k.toNatClampNeg, .inr (.inr (.inr (.inr (fun _ => none)))))) := by
    rw [vp_cell_q, Array.getElem?_push, if_pos rfl]
    congr 1
    exact (arrV_new _ _ _)
  generalize (H.push { cls := dA t, slots := Array.replicate k.toNatClampNeg .null, vm := .none }) = H1 at z1 o1 e1 ⊢
  have hk : ∀ (k : Nat) (x : Nat × va_E), (pm_w dA ad n h)[k]? = some x → H1[x.1]? = H[x.1]? := fun k x hx => o1 x.1 ((hP k x hx).lt)
  have hnew : va_at D cl (ad n, pm_e dA ad (pm_R t k.toNatClampNeg (fun _ => none))) H1 := by
    show H1[ad n]? = some (vp_cell (dA t) (k.toNatClampNeg, .inr (.inr (.inr (.inr (fun _ => none))))))
    rw [hsz, e1]
  have hP' : va_P D cl (pm_w dA ad (n + 1) (va_up h n (pm_R t k.toNatClampNeg (fun _ => none)))) H1 := by
    rw [pm_w_push]
    refine (hP.kept hk).app (fun k x hx => ?_)
    have hz : k < 1 := (List.getElem?_eq_some_iff.mp hx).1
    rw [show k = 0 by omega] at hx
    cases hx
    exact hnew
  have hD' : va_D A (pm_w dA ad (n + 1) (va_up h n (pm_R t k.toNatClampNeg (fun _ => none)))) := by
    rw [pm_w_push]
    exact hD.push hP hsz (by rw [hsz]; exact hA _ hSS.1)
  have hg := kk H1 locs la ⟨hP', hD', ⟨Nat.le_trans hSS.1 (by omega), fun x h1 h2 => (o1 x (Nat.lt_of_lt_of_le h1 hSS.1)).trans (hSS.2.1 x h1 h2), hSS.2.2⟩, fun i hi => by
    have := hAd (i + 1) (by omega)
    rw [z1, show n + 1 + i = n + (i + 1) by omega, this]
    omega⟩ hL
  have ew : (Value.ref n :: st).map (pm_r ad) = .ref H.size :: st.map (pm_r ad) := by rw [List.map_cons, pm_r_ref, hsz]
  rw [ew] at hg
  exact hg
end PMH
end
section
/-! Contracts over the picture; returns; calls. -/
/-! ===== contracts ===== -/
def pm_kL : Nat := 48
def pm_rm (d mc ms : Nat) : Room := { frames := d, cells := mc, slots := ms, locals := pm_kL * d }
/-- a method's start: its arguments, the picture, the tables -/
def pm_Pc (cl : List vw_C) (tl : List FieldType) (nw : List Cond) (D : va_G) (dA : Nat → ClassId) (ad : Nat → Nat) (sz : Nat) (vs : List Value) (n : Nat) (h : pm_H) : Array Value → State → Prop :=
  va_Pc (vs.map (pm_r ad)) (fun U => U.heap.size = sz ∧ va_P D cl (pm_w dA ad n h) U.heap ∧ va_K D cl (pm_tys dA tl) U ∧ va_D (fun _ => True) (pm_w dA ad n h) ∧ pm_N nw U)
def pm_Q (cl : List vw_C) (D : va_G) (dA : Nat → ClassId) (ad : Nat → Nat) (sz n : Nat) (h : pm_H) (Post : Option Value → Nat → pm_H → Prop) : Array Value → State → Outcome → State → Prop := fun _ st oc t =>
  (∃ (r : Option Value) (n' : Nat) (h' : pm_H), oc = .returned (r.map (pm_r ad)) ∧ Post r n' h' ∧ va_P D cl (pm_w dA ad n' h') t.heap ∧ va_D (va_A (pm_w dA ad n h) sz) (pm_w dA ad n' h') ∧ ∀ i, n' + i < pm_big → ad (n' + i) = t.heap.size + i) ∧ va_F (va_A (pm_w dA ad n h) sz) st t
/-- method y, called with vs over the picture h of n cells: it returns, with Post; d frames deep, at most mc cells of ms slots new -/
def pm_M (l : Launch) (cl : List vw_C) (tl : List FieldType) (gw nw : List Cond) (y : MethodName) (code : ByteArray) (maxL : Nat) (ret : Option FieldType) (d mc ms : Nat) (vs : List Value) (n : Nat) (h : pm_H) (Post : Option Value → Nat → pm_H → Prop) : Prop :=
  ∀ (D : va_G) (dA : Nat → ClassId) (ad : Nat → Nat) (sz : Nat), (∀ i, n + i < pm_big → ad (n + i) = sz + i) → Met l y (.code y code maxL ret :: gw) (pm_rm d mc ms) (pm_Pc cl tl nw D dA ad sz vs n h) (pm_Q cl D dA ad sz n h Post) mc ms (va_A (pm_w dA ad n h) sz)
theorem pm_lg (ad : Nat → Nat) (vs : List Value) : (lg_sl (vs.map (pm_r ad))).length = vs.length := by
  induction vs with
  | nil => rfl
  | cons v vs ih =>
    unfold lg_sl at ih ⊢
    rw [List.map_cons, List.flatMap_cons, List.length_append, ih, pm_r_cat]
    simp
    omega
theorem pm_args {ad : Nat → Nat} : ∀ (vs : List Value) (i k : Nat) (v : Value), vs[k]? = some v → (i + k, pm_r ad v) ∈ lv_args i (vs.map (pm_r ad))
  | [], i, k, v, h => by simp at h
  | x :: vs, i, k, v, h => by
    rw [List.map_cons]
    unfold lv_args
    rw [pm_r_cat]
    cases k with
    | zero =>
      rw [List.getElem?_cons_zero] at h
      cases h
      exact List.mem_cons_self
    | succ k =>
      rw [List.getElem?_cons_succ] at h
      have := pm_args (ad := ad) vs (i + 1) k v h
      rw [show i + (k + 1) = i + 1 + k by omega]
      exact List.mem_cons_of_mem _ (by simpa using this)
/-- the same walk, with what its return must bring -/
def pm_Z (l : Launch) (cl : List vw_C) (tl : List FieldType) (gw nw : List Cond) (own nm : String) (cc : ByteArray) (nL : Nat) (ret : Option FieldType) (R : Room) (mc ms n0 : Nat) (h0 : pm_H) (Post : Option Value → Nat → pm_H → Prop) (G : pm_Gt) : Prop :=
  ∃ (p : Program) (e : Env) (s : State) (m : MethodId) (args : Array Value) (below : List Frame) (meth : Method) (c : Code) (D : va_G) (dA : Nat → ClassId) (A : Nat → Prop) (ad : Nat → Nat), pm_X p s m args meth c cl tl gw nw D dA own cc nL ret A ∧ meth.name = nm ∧ A = va_A (pm_w dA ad n0 h0) s.heap.size ∧ G = pm_G p l e R s m args below meth c (MQ below (pm_Q cl D dA ad s.heap.size n0 h0 Post) args s mc ms A) cl D dA A ad nL
theorem pm_Z.k {l : Launch} {cl : List vw_C} {tl : List FieldType} {gw nw : List Cond} {own nm : String} {cc : ByteArray} {nL : Nat} {ret : Option FieldType} {R : Room} {mc ms n0 : Nat} {h0 : pm_H} {Post : Option Value → Nat → pm_H → Prop} {G : pm_Gt} (Z : pm_Z l cl tl gw nw own nm cc nL ret R mc ms n0 h0 Post G) : pm_K l cl tl gw nw own nm cc nL ret R G := by
  obtain ⟨p, e, s, m, args, below, meth, c, D, dA, A, ad, X, hmn, hA, rfl⟩ := Z
  exact ⟨p, e, s, m, args, below, meth, c, _, D, dA, A, ad, X, hmn, rfl⟩
/-- a method's contract out of the walk of its body -/
theorem pm_enter {l : Launch} {cl : List vw_C} {tl : List FieldType} {gw nw : List Cond} {y : MethodName} {code : ByteArray} {maxL : Nat} {ret : Option FieldType} {d mc ms : Nat} {vs : List Value} {n : Nat} {h : pm_H} {Post : Option Value → Nat → pm_H → Prop} (hy : plainName y.cls = true) (hvs : vs.length ≤ maxL)
    (body : ∀ (G : pm_Gt), pm_K l cl tl gw nw y.cls y.name code maxL ret (pm_rm d mc ms) G → pm_Z l cl tl gw nw y.cls y.name code maxL ret (pm_rm d mc ms) mc ms n h Post G → G 0 0 0 (vs.map some ++ List.replicate (maxL - vs.length) none) [] n h) : pm_M l cl tl gw nw y code maxL ret d mc ms vs n h Post := by
  intro D dA ad sz hAd
  refine Met.ofW (cc := code) (maxL := maxL) (ret := ret) hy rfl ?_
  intro p e s m args below meth c s₁ B hml hv
  obtain ⟨rfl, hsz, hP, hK, hD0, hN⟩ := hv
  subst hsz
  have hts := atoms_spec (ws := Cond.code y code maxL ret :: gw) B.pre
  have hX : pm_X p s m (vs.map (pm_r ad)).toArray meth c cl tl gw nw D dA y.cls code maxL ret (va_A (pm_w dA ad n h) s.heap.size) := ⟨B.exec, B.bytes, hml, findClass_of_methodNamed B.named, fun w hw => hts w (List.mem_cons_of_mem _ hw), hK, fun q hq => Or.inr hq, B.returns, B.notSynchronized, hN⟩
  have hnm := (name_of_methodNamed B.named B.method).1
  have hZ : pm_Z l cl tl gw nw y.cls y.name code maxL ret (pm_rm d mc ms) mc ms n h Post (pm_G p l e (pm_rm d mc ms) s m (vs.map (pm_r ad)).toArray below meth c (MQ below (pm_Q cl D dA ad s.heap.size n h Post) (vs.map (pm_r ad)).toArray s mc ms (va_A (pm_w dA ad n h) s.heap.size)) cl D dA (va_A (pm_w dA ad n h) s.heap.size) ad maxL) := ⟨p, e, s, m, _, below, meth, c, D, dA, _, ad, hX, hnm, rfl, rfl⟩
  have hG := body _ hZ.k hZ
  rw [lg_entry_eq]
  refine hG s.heap [] _ ⟨hP, hD0.self, va_S.rf, hAd⟩ ?_
  have hl := lv_entry (vs.map (pm_r ad)) (n := maxL) (by rw [pm_lg]; exact hvs)
  refine ⟨hl.1, hl.2.1, fun q hq => ?_⟩
  obtain ⟨v, h1, h2⟩ := pm_l_mem.mp hq
  have hk : vs[q.1]? = some v := by
    by_cases hlt : q.1 < vs.length
    · rw [List.getElem?_append_left (by simpa using hlt), List.getElem?_map] at h1
      cases h3 : vs[q.1]? with
      | none => rw [h3] at h1; cases h1
      | some x => rw [h3] at h1; simpa using h1
    · rw [List.getElem?_append_right (by simpa using hlt)] at h1
      have := List.eq_of_mem_replicate (List.mem_of_getElem? h1)
      cases this
  have hm := pm_args (ad := ad) vs 0 q.1 v hk
  rw [Nat.zero_add, ← h2] at hm
  exact hl.2.2 q hm
section PMC
variable {l : Launch} {cl : List vw_C} {tl : List FieldType} {gw nw : List Cond} {own nm : String} {cc : ByteArray} {nL : Nat} {ret : Option FieldType} {R : Room} {G : pm_Gt} {cells slots pc q n : Nat} {ls ls' : List (Option Value)} {st st0 : List Value} {h : pm_H}
theorem pm_iret {mc ms n0 : Nat} {h0 : pm_H} {Post : Option Value → Nat → pm_H → Prop} (Z : pm_Z l cl tl gw nw own nm cc nL ret R mc ms n0 h0 Post G) {x : Int32} {ty : FieldType} (d : decode cc pc = .ok (.ireturn, 1)) (hr : ret = some ty) (hn : narrow ty (.int x) = .int x) (hc : cells ≤ mc) (hs : slots ≤ ms) (hP : Post (some (.int x)) n h) : G cells slots pc ls [.int x] n h := by
  obtain ⟨p, e, s, m, args, below, meth, c, D, dA, A, ad, X, hmn, hA, rfl⟩ := Z
  intro H locs la hS hL
  subst hA
  obtain ⟨hP1, hD, hSS, hAd⟩ := hS
  obtain ⟨hx, hb, -, -, -, -, -, hret, hlocks, -⟩ := X
  refine W.widen hc hs ?_
  exact W.zret hx hb (hret.trans hr) hn (fun t ht hW => ⟨⟨some (.int x), n, h, rfl, hP, by rw [ht]; exact hP1, hD, by rw [ht]; exact hAd⟩, hSS.F ht⟩) hSS.2.2 d hlocks
theorem pm_vret {mc ms n0 : Nat} {h0 : pm_H} {Post : Option Value → Nat → pm_H → Prop} (Z : pm_Z l cl tl gw nw own nm cc nL ret R mc ms n0 h0 Post G) (d : decode cc pc = .ok (.return_, 1)) (hr : ret = none) (hc : cells ≤ mc) (hs : slots ≤ ms) (hP : Post none n h) : G cells slots pc ls [] n h := by
  obtain ⟨p, e, s, m, args, below, meth, c, D, dA, A, ad, X, hmn, hA, rfl⟩ := Z
  intro H locs la hS hL
  subst hA
  obtain ⟨hP1, hD, hSS, hAd⟩ := hS
  obtain ⟨hx, hb, -, -, -, -, -, hret, hlocks, -⟩ := X
  refine W.widen hc hs ?_
  exact W.vret hx hb (hret.trans hr) (fun t ht hW => ⟨⟨none, n, h, rfl, hP, by rw [ht]; exact hP1, hD, by rw [ht]; exact hAd⟩, hSS.F ht⟩) hSS.2.2 d hlocks
theorem pm_aret {mc ms n0 : Nat} {h0 : pm_H} {Post : Option Value → Nat → pm_H → Prop} (Z : pm_Z l cl tl gw nw own nm cc nL ret R mc ms n0 h0 Post G) {k : Nat} {C : String} (d : decode cc pc = .ok (.areturn, 1)) (hr : ret = some (.object C)) (hc : cells ≤ mc) (hs : slots ≤ ms) (hP : Post (some (.ref k)) n h) : G cells slots pc ls [.ref k] n h := by
  obtain ⟨p, e, s, m, args, below, meth, c, D, dA, A, ad, X, hmn, hA, rfl⟩ := Z
  intro H locs la hS hL
  subst hA
  obtain ⟨hP1, hD, hSS, hAd⟩ := hS
  obtain ⟨hx, hb, -, -, -, -, -, hret, hlocks, -⟩ := X
  refine W.widen hc hs ?_
  exact W.aret hx hb (hret.trans hr) (Or.inl ⟨C, rfl⟩) (Or.inr ⟨ad k, rfl⟩) (fun t ht hW => ⟨⟨some (.ref k), n, h, rfl, hP, by rw [ht]; exact hP1, hD, by rw [ht]; exact hAd⟩, hSS.F ht⟩) hSS.2.2 d hlocks
/-- a call, whatever its kind: over the walk's own words -/
theorem pm_call {p : Program} {e : Env} {s : State} {m : MethodId} {args : Array Value} {below : List Frame} {meth : Method} {c : Code} {Q : State → Prop} {D : va_G} {dA : Nat → ClassId} {A : Nat → Prop} {ad : Nat → Nat} (X : pm_X p s m args meth c cl tl gw nw D dA own cc nL ret A) {mc ms : Nat} {Post : Option Value → Nat → pm_H → Prop} {a0 : Array Value}
    (hr : ∀ (H : Heap) (locs : List Loc) (la : Array Slot), pm_S cl D dA A ad n h s.heap H locs → lv_has la nL (pm_l ad ls) → va_Run p l e R s m args below meth c H locs cells slots mc ms (F0 m pc la (st0.map (pm_r ad))) (st.map (pm_r ad)) (pm_Q cl D dA ad H.size n h Post a0) (va_A (pm_w dA ad n h) H.size))
    (kk : ∀ (r : Option Value) (n' : Nat) (h' : pm_H), Post r n' h' → pm_G p l e R s m args below meth c Q cl D dA A ad nL (cells + mc) (slots + ms) (pc + 3) ls (r.toList ++ st) n' h') : pm_G p l e R s m args below meth c Q cl D dA A ad nL cells slots pc ls st0 n h := by
  intro H locs la hS hL
  have hr' := hr H locs la hS hL
  obtain ⟨hP, hD, hSS, hAd⟩ := hS
  have hA0 := X.2.2.2.2.2.2.1
  have hsub : ∀ q, va_A (pm_w dA ad n h) H.size q → A q := by
    intro q hq
    rcases hq with ⟨k, e', hk⟩ | hq
    · exact hD.2 k (q, e') hk
    · exact hA0 q (Nat.le_trans hSS.1 hq)
  intro T hT XT
  obtain ⟨v, st₀, t, T', L, h0, X', hL', e1, e2, ⟨⟨r, n', h', hv, hPost, hP', hD', hAd'⟩, hz, hk⟩, stp⟩ := hr' T hT XT
  have hv : v = r.map (pm_r ad) := Outcome.returned.inj hv
  subst hv
  rw [h0] at hz hk
  have hg := kk r n' h' hPost T'.heap (locs ++ L) la ⟨by rw [e1]; exact hP', hD'.weaken (fun _ q _ hq => hsub q.1 hq), ⟨Nat.le_trans hSS.1 (by rw [e1]; exact hz), fun q h1 h2 => by rw [e1, hk q (Nat.lt_of_lt_of_le h1 hSS.1) (fun z => h2 (hsub q z))]; exact hSS.2.1 q h1 h2, fun q hq => by
    rcases List.mem_append.mp hq with hq | hq
    · exact hSS.2.2 q hq
    · exact hsub _ (hL' q hq)⟩, by rw [e1]; exact hAd'⟩ hL
  have es : (r.toList ++ st).map (pm_r ad) = (r.map (pm_r ad)).toList ++ st.map (pm_r ad) := by cases r <;> rfl
  rw [es] at hg
  obtain ⟨t2, a1, b1⟩ := hg T' rfl X'
  exact ⟨t2, stp t2 a1, b1⟩
theorem pm_blind {D : va_G} {dA : Nat → ClassId} {ad : Nat → Nat} {vs : List Value} {sz : Nat} : FrameBlind (pm_Pc cl tl nw D dA ad sz vs n h) := fun a U g mk q => by
  obtain ⟨q0, q1, qP, qK, qD, qN⟩ := q
  exact ⟨q0, q1, qP, va_K.moved (u := U) (U := U.calling g mk a) (Vm.Alike.refl U.vm) qK, qD, pm_N.same (s := U) (U := U.calling g mk a) rfl qN⟩
theorem pm_room {m : MethodId} {ad : Nat → Nat} {la : Array Slot} {st1 : List Value} (hst : st.length ≤ 8) : 2 * (F0 m pc la st1).monitorRoom + ((st.map (pm_r ad)).map fun v => v.category).sum ≤ 8 := by
  refine lv_room ?_
  rw [List.map_map]
  have : ∀ l : List Value, (l.map ((fun v => v.category) ∘ pm_r ad)).sum = l.length := by
    intro l
    induction l with
    | nil => rfl
    | cons v l ih => simp only [List.map_cons, List.sum_cons, ih, Function.comp, pm_r_cat, List.length_cons]; omega
  rw [this]
  exact hst
/-- what an invokevirtual wants of the tables -/
def pm_cV (gw : List Cond) (own : String) (idx : Nat) (y : MethodName) (code : ByteArray) (maxL : Nat) (ret : Option FieldType) (k : Nat) : Prop :=
  Cond.methodLink own idx y ∈ gw ∧ Cond.instanceMethod y ∈ gw ∧ Cond.selects y.cls y y ∈ gw ∧ Cond.initialized y.cls ∈ gw ∧ Cond.code y code maxL ret ∈ gw ∧ y.cls ≠ "java/lang/invoke/MethodHandle" ∧ y.cls ≠ "java/lang/invoke/VarHandle" ∧ (parseMethodDescriptor y.desc).map (fun d => d.parameters.length) = some k
theorem pm_callV (K : pm_K l cl tl gw nw own nm cc nL ret R G) (hgw : ∀ w ∈ gw, (w.onTables && w.keeps) = true ∨ ∃ ty, w = .arrayClass ty) {y : MethodName} {code : ByteArray} {maxL idx d' mc ms a ci N : Nat} {ret' : Option FieldType} {vs fs : List Value} {T : u_T} {Post : Option Value → Nat → pm_H → Prop}
    {kv : Nat} (hc : pm_cV gw own idx y code maxL ret' kv) (hM : pm_M l cl tl gw nw y code maxL ret' d' mc ms (.ref a :: vs) n h Post) (hkv : kv = vs.length) (ha : a < n) (hcell : h a = pm_O ci fs) (hcl : cl[ci]? = some (y.cls, T, N)) (hst0 : st0 = vs.reverse ++ .ref a :: st) (hst : st.length ≤ 8) (hfr : d' + 1 ≤ R.frames ∧ 8 + (maxL + 11) + pm_kL * d' ≤ R.locals) (hcs : cells + mc ≤ R.cells ∧ slots + ms ≤ R.slots) (d : decode cc pc = .ok (.invokevirtual idx, 3)) (hq : pc + 3 = q)
    (kk : ∀ (r : Option Value) (n' : Nat) (h' : pm_H), Post r n' h' → G (cells + mc) (slots + ms) q ls (r.toList ++ st) n' h') : G cells slots pc ls st0 n h := by
  obtain ⟨p, e, s, m, args, below, meth, c, Q, D, dA, A, ad, X, hmn, rfl⟩ := K
  subst hq
  subst hst0
  subst hkv
  refine pm_call (st := st) (a0 := (Value.ref (ad a) :: vs.map (pm_r ad)).toArray) X (fun H locs la hS hL => ?_) kk
  obtain ⟨hP, hD, hSS, hAd⟩ := hS
  obtain ⟨hx, hb, hml, hown, hts, hK, -, -, -, hN⟩ := X
  obtain ⟨c1, c2, c3, c4, c5, c6, c7, c8⟩ := hc
  have hG : GoodIn gw (wsV own idx y.cls y (Cond.code y code maxL ret' :: gw)) := by
    intro w hw
    have hw' : w ∈ gw := by
      simp only [wsV, List.mem_append, List.mem_cons, List.not_mem_nil, or_false] at hw
      rcases hw with (rfl | rfl | rfl | rfl) | rfl | hw
      · exact c1
      · exact c2
      · exact c3
      · exact c4
      · exact c5
      · exact hw
    exact ⟨hw', hgw w hw'⟩
  refine va_runV (As := vs.map (pm_r ad)) (b := ad a) (C := y.cls) ⟨hx, hb, hml, hown, hts⟩ (hM D dA ad H.size hAd) (cwV vs.length hts hG rfl rfl rfl ⟨rfl, c6, c7, c8⟩ hfr) ⟨pm_blind, ?_, fun U hU hW => ⟨rfl, by rw [hU], by rw [hU]; exact hP, va_K.moved hW.alike hK, hD.weaken (fun _ _ _ _ => trivial), hN.warm hW⟩⟩ rfl (by rw [List.length_map]) hL.1 ?_ (pm_room hst) d hcs
  · exact va_recv hK hP hcl (q0 := a) (fs := fs.map (pm_r ad)) (by rw [pm_w_at ha, hcell]; rfl)
  · show (vs.reverse ++ Value.ref a :: st).map (pm_r ad) = _
    rw [List.map_append, List.map_reverse, List.map_cons, pm_r_ref]

def pm_cS (gw : List Cond) (own : String) (idx : Nat) (y : MethodName) (code : ByteArray) (maxL : Nat) (ret : Option FieldType) (k : Nat) : Prop :=
  Cond.methodLink own idx y ∈ gw ∧ Cond.static y ∈ gw ∧ Cond.initialized own ∈ gw ∧ Cond.code y code maxL ret ∈ gw ∧ y.cls = own ∧ y.cls ≠ "java/lang/invoke/MethodHandle" ∧ y.cls ≠ "java/lang/invoke/VarHandle" ∧ (parseMethodDescriptor y.desc).map (fun d => d.parameters.length) = some k
theorem pm_callS (K : pm_K l cl tl gw nw own nm cc nL ret R G) (hgw : ∀ w ∈ gw, (w.onTables && w.keeps) = true ∨ ∃ ty, w = .arrayClass ty) {y : MethodName} {code : ByteArray} {maxL idx d' mc ms : Nat} {ret' : Option FieldType} {vs : List Value} {Post : Option Value → Nat → pm_H → Prop}
    {kv : Nat} (hc : pm_cS gw own idx y code maxL ret' kv) (hM : pm_M l cl tl gw nw y code maxL ret' d' mc ms vs n h Post) (hkv : kv = vs.length) (hst0 : st0 = vs.reverse ++ st) (hst : st.length ≤ 8) (hfr : d' + 1 ≤ R.frames ∧ 8 + (maxL + 11) + pm_kL * d' ≤ R.locals) (hcs : cells + mc ≤ R.cells ∧ slots + ms ≤ R.slots) (d : decode cc pc = .ok (.invokestatic idx, 3)) (hq : pc + 3 = q)
    (kk : ∀ (r : Option Value) (n' : Nat) (h' : pm_H), Post r n' h' → G (cells + mc) (slots + ms) q ls (r.toList ++ st) n' h') : G cells slots pc ls st0 n h := by
  obtain ⟨p, e, s, m, args, below, meth, c, Q, D, dA, A, ad, X, hmn, rfl⟩ := K
  subst hq
  subst hst0
  subst hkv
  refine pm_call (st := st) (a0 := (vs.map (pm_r ad)).toArray) X (fun H locs la hS hL => ?_) kk
  obtain ⟨hP, hD, hSS, hAd⟩ := hS
  obtain ⟨hx, hb, hml, hown, hts, hK, -, -, -, hN⟩ := X
  obtain ⟨c1, c2, c3, c4, c5, c6, c7, c8⟩ := hc
  have hG : GoodIn gw (wsS own idx y (Cond.code y code maxL ret' :: gw)) := by
    intro w hw
    have hw' : w ∈ gw := by
      simp only [wsS, List.mem_append, List.mem_cons, List.not_mem_nil, or_false] at hw
      rcases hw with (rfl | rfl | rfl) | rfl | hw
      · exact c1
      · exact c2
      · exact c3
      · exact c4
      · exact hw
    exact ⟨hw', hgw w hw'⟩
  refine va_runS (As := vs.map (pm_r ad)) ⟨hx, hb, hml, hown, hts⟩ (hM D dA ad H.size hAd) (cwS vs.length hts hG rfl rfl rfl ⟨c5, c6, c7, c8⟩ hfr) ⟨pm_blind, fun U hU hW => ⟨rfl, by rw [hU], by rw [hU]; exact hP, va_K.moved hW.alike hK, hD.weaken (fun _ _ _ _ => trivial), hN.warm hW⟩⟩ rfl (by rw [List.length_map]) hL.1 ?_ (pm_room hst) d hcs
  show (vs.reverse ++ st).map (pm_r ad) = _
  rw [List.map_append, List.map_reverse]
/-- what an invokespecial of a constructor wants of the tables -/
def pm_cI (gw : List Cond) (own : String) (idx : Nat) (y : MethodName) (code : ByteArray) (maxL : Nat) (k : Nat) : Prop :=
  Cond.methodLink own idx y ∈ gw ∧ Cond.instanceMethod y ∈ gw ∧ Cond.initialized y.cls ∈ gw ∧ Cond.code y code maxL none ∈ gw ∧ y.name = "<init>" ∧ y.cls ≠ "java/lang/invoke/MethodHandle" ∧ y.cls ≠ "java/lang/invoke/VarHandle" ∧ (parseMethodDescriptor y.desc).map (fun d => d.parameters.length) = some k
theorem pm_callI (K : pm_K l cl tl gw nw own nm cc nL ret R G) (hgw : ∀ w ∈ gw, (w.onTables && w.keeps) = true ∨ ∃ ty, w = .arrayClass ty) {y : MethodName} {code : ByteArray} {maxL idx d' mc ms a : Nat} {vs : List Value} {Post : Option Value → Nat → pm_H → Prop}
    {kv : Nat} (hc : pm_cI gw own idx y code maxL kv) (hM : pm_M l cl tl gw nw y code maxL none d' mc ms (.ref a :: vs) n h Post) (hkv : kv = vs.length) (hst0 : st0 = vs.reverse ++ .ref a :: st) (hst : st.length ≤ 8) (hfr : d' + 1 ≤ R.frames ∧ 8 + (maxL + 11) + pm_kL * d' ≤ R.locals) (hcs : cells + mc ≤ R.cells ∧ slots + ms ≤ R.slots) (d : decode cc pc = .ok (.invokespecial idx, 3)) (hq : pc + 3 = q)
    (kk : ∀ (r : Option Value) (n' : Nat) (h' : pm_H), Post r n' h' → G (cells + mc) (slots + ms) q ls (r.toList ++ st) n' h') : G cells slots pc ls st0 n h := by
  obtain ⟨p, e, s, m, args, below, meth, c, Q, D, dA, A, ad, X, hmn, rfl⟩ := K
  subst hq
  subst hst0
  subst hkv
  refine pm_call (st := st) (a0 := (Value.ref (ad a) :: vs.map (pm_r ad)).toArray) X (fun H locs la hS hL => ?_) kk
  obtain ⟨hP, hD, hSS, hAd⟩ := hS
  obtain ⟨hx, hb, hml, hown, hts, hK, -, -, -, hN⟩ := X
  obtain ⟨c1, c2, c3, c4, c5, c6, c7, c8⟩ := hc
  have hG : GoodIn gw (Cond.code y code maxL none :: gw) := by
    intro w hw
    have hw' : w ∈ gw := by
      rcases List.mem_cons.mp hw with rfl | hw
      · exact c4
      · exact hw
    exact ⟨hw', hgw w hw'⟩
  refine va_runI (As := vs.map (pm_r ad)) (b := ad a) ⟨hx, hb, hml, hown, hts⟩ (hM D dA ad H.size hAd) (cwI vs.length hts hG rfl rfl rfl (hts _ c3) (hts _ c1) (hts _ c2) c5 ⟨c6, c7, c8⟩ hfr) ⟨pm_blind, fun U hU hW => ⟨rfl, by rw [hU], by rw [hU]; exact hP, va_K.moved hW.alike hK, hD.weaken (fun _ _ _ _ => trivial), hN.warm hW⟩⟩ rfl (by rw [List.length_map]) hL.1 ?_ (pm_room hst) d hcs
  show (vs.reverse ++ Value.ref a :: st).map (pm_r ad) = _
  rw [List.map_append, List.map_reverse, List.map_cons, pm_r_ref]
/-- Object's constructor -/
theorem pm_objInit (K : pm_K l cl tl gw nw own nm cc nL ret R G) {idx a : Nat} (h1 : Cond.methodLink own idx Lib.objectInit ∈ gw) (h2 : Cond.instanceMethod Lib.objectInit ∈ gw) (h3 : Cond.code Lib.objectInit ⟨#[0xb1]⟩ 1 none ∈ gw) (hst : st.length ≤ 8) (hfr : 1 ≤ R.frames) (hlo : 20 ≤ R.locals) (d : decode cc pc = .ok (.invokespecial idx, 3)) (hq : pc + 3 = q) (kk : G cells slots q ls st n h) : G cells slots pc ls (.ref a :: st) n h := by
  obtain ⟨p, e, s, m, args, below, meth, c, Q, D, dA, A, ad, X, hmn, rfl⟩ := K
  subst hq
  intro H locs la hS hL
  obtain ⟨hx, hb, hml, hown, hts, hK, -, -, -, hN⟩ := X
  exact W.objInit hx hb hown (hts _ h1) (hts _ h2) (hts _ h3) rfl (by rw [hml]; exact hL.1) rfl d hfr (by have := pm_room (m := m) (pc := pc) (la := la) (st1 := (Value.ref a :: st).map (pm_r ad)) (ad := ad) hst; omega) (kk H locs la hS hL)


theorem pm_callIN (K : pm_K l cl tl gw nw own nm cc nL ret R G) (hgw : ∀ w ∈ gw, (w.onTables && w.keeps) = true ∨ ∃ ty, w = .arrayClass ty) {y : MethodName} {host : String} {code : ByteArray} {maxL idx d' mc ms a : Nat} {vs : List Value} {Post : Option Value → Nat → pm_H → Prop}
    {kv : Nat} (hc : Cond.methodLinkNest own idx y host ∈ nw ∧ Cond.instanceMethod y ∈ gw ∧ Cond.initialized y.cls ∈ gw ∧ Cond.code y code maxL none ∈ gw ∧ y.name = "<init>" ∧ y.cls ≠ "java/lang/invoke/MethodHandle" ∧ y.cls ≠ "java/lang/invoke/VarHandle" ∧ (parseMethodDescriptor y.desc).map (fun d => d.parameters.length) = some kv) (hM : pm_M l cl tl gw nw y code maxL none d' mc ms (.ref a :: vs) n h Post) (hkv : kv = vs.length) (hst0 : st0 = vs.reverse ++ .ref a :: st) (hst : st.length ≤ 8) (hfr : d' + 1 ≤ R.frames ∧ 8 + (maxL + 11) + pm_kL * d' ≤ R.locals) (hcs : cells + mc ≤ R.cells ∧ slots + ms ≤ R.slots) (d : decode cc pc = .ok (.invokespecial idx, 3)) (hq : pc + 3 = q)
    (kk : ∀ (r : Option Value) (n' : Nat) (h' : pm_H), Post r n' h' → G (cells + mc) (slots + ms) q ls (r.toList ++ st) n' h') : G cells slots pc ls st0 n h := by
  obtain ⟨p, e, s, m, args, below, meth, c, Q, D, dA, A, ad, X, hmn, rfl⟩ := K
  subst hq
  subst hst0
  subst hkv
  refine pm_call (st := st) (a0 := (Value.ref (ad a) :: vs.map (pm_r ad)).toArray) X (fun H locs la hS hL => ?_) kk
  obtain ⟨hP, hD, hSS, hAd⟩ := hS
  obtain ⟨hx, hb, hml, hown, hts, hK, -, -, -, hN⟩ := X
  obtain ⟨c1, c2, c3, c4, c5, c6, c7, c8⟩ := hc
  have hG : GoodIn gw (Cond.code y code maxL none :: gw) := by
    intro w hw
    have hw' : w ∈ gw := by
      rcases List.mem_cons.mp hw with rfl | hw
      · exact c4
      · exact hw
    exact ⟨hw', hgw w hw'⟩
  refine va_runIN (As := vs.map (pm_r ad)) (b := ad a) ⟨hx, hb, hml, hown, hts⟩ (hM D dA ad H.size hAd) ⟨va_cnB vs.length hts hG rfl rfl rfl (hN _ c1).2 (hts _ c3) ⟨c6, c7, c8⟩ hfr, c5, hts _ c2⟩ ⟨pm_blind, fun U hU hW => ⟨rfl, by rw [hU], by rw [hU]; exact hP, va_K.moved hW.alike hK, hD.weaken (fun _ _ _ _ => trivial), hN.warm hW⟩⟩ rfl (by rw [List.length_map]) hL.1 ?_ (pm_room hst) d hcs
  show (vs.reverse ++ Value.ref a :: st).map (pm_r ad) = _
  rw [List.map_append, List.map_reverse, List.map_cons, pm_r_ref]
/-- Math.max -/
theorem pm_mmax (K : pm_K l cl tl gw nw own nm cc nL ret R G) {idx : Nat} {x y : Int32} (h1 : Cond.methodLink own idx Lib.Math.max.name ∈ gw) (h2 : Cond.static Lib.Math.max.name ∈ gw) (h3 : Cond.initialized "java/lang/Math" ∈ gw) (h4 : Cond.code Lib.Math.max.name Lib.Math.max.code 2 (some .int) ∈ gw) (hst : st.length ≤ 8) (hfr : 1 ≤ R.frames) (hlo : 21 ≤ R.locals) (hcs : cells ≤ R.cells ∧ slots ≤ R.slots) (d : decode cc pc = .ok (.invokestatic idx, 3)) (hq : pc + 3 = q) (kk : G cells slots q ls (.int (if x < y then y else x) :: st) n h) : G cells slots pc ls (.int y :: .int x :: st) n h := by
  obtain ⟨p, e, s, m, args, below, meth, c, Q, D, dA, A, ad, X, hmn, rfl⟩ := K
  subst hq
  intro H locs la hS hL
  obtain ⟨hx, hb, hml, hown, hts, hK, -, -, -, hN⟩ := X
  exact va_mmax hx hb (by rw [hml]; exact hL.1.symm) hown (hts _ h1) (hts _ h2) (hts _ h3) (hts _ h4) hfr (by have := pm_room (m := m) (pc := pc) (la := la) (st1 := (Value.ref 0 :: st).map (pm_r ad)) (ad := ad) hst; omega) hcs.1 hcs.2 d (kk H locs la hS hL)
end PMC
end
section
/-! Rows with numbers in them: constants, counters, places of arrays. -/
section PMN
variable {l : Launch} {cl : List vw_C} {tl : List FieldType} {gw nw : List Cond} {own nm : String} {cc : ByteArray} {nL : Nat} {ret : Option FieldType} {R : Room} {G : pm_Gt} {cells slots pc q n : Nat} {ls ls' : List (Option Value)} {st : List Value} {h : pm_H}
theorem pm_icm1 (K : pm_K l cl tl gw nw own nm cc nL ret R G) (d : decode cc pc = .ok (.iconst (-1), 1)) (hq : pc + 1 = q) (kk : G cells slots q ls (.int (-1) :: st) n h) : G cells slots pc ls st n h := pm_iconst K d hq (by decide) kk
theorem pm_ic0 (K : pm_K l cl tl gw nw own nm cc nL ret R G) (d : decode cc pc = .ok (.iconst (0), 1)) (hq : pc + 1 = q) (kk : G cells slots q ls (.int (0) :: st) n h) : G cells slots pc ls st n h := pm_iconst K d hq (by decide) kk
theorem pm_ic1 (K : pm_K l cl tl gw nw own nm cc nL ret R G) (d : decode cc pc = .ok (.iconst (1), 1)) (hq : pc + 1 = q) (kk : G cells slots q ls (.int (1) :: st) n h) : G cells slots pc ls st n h := pm_iconst K d hq (by decide) kk
theorem pm_ic2 (K : pm_K l cl tl gw nw own nm cc nL ret R G) (d : decode cc pc = .ok (.iconst (2), 1)) (hq : pc + 1 = q) (kk : G cells slots q ls (.int (2) :: st) n h) : G cells slots pc ls st n h := pm_iconst K d hq (by decide) kk
theorem pm_ic3 (K : pm_K l cl tl gw nw own nm cc nL ret R G) (d : decode cc pc = .ok (.iconst (3), 1)) (hq : pc + 1 = q) (kk : G cells slots q ls (.int (3) :: st) n h) : G cells slots pc ls st n h := pm_iconst K d hq (by decide) kk
theorem pm_ic4 (K : pm_K l cl tl gw nw own nm cc nL ret R G) (d : decode cc pc = .ok (.iconst (4), 1)) (hq : pc + 1 = q) (kk : G cells slots q ls (.int (4) :: st) n h) : G cells slots pc ls st n h := pm_iconst K d hq (by decide) kk
theorem pm_ic5 (K : pm_K l cl tl gw nw own nm cc nL ret R G) (d : decode cc pc = .ok (.iconst (5), 1)) (hq : pc + 1 = q) (kk : G cells slots q ls (.int (5) :: st) n h) : G cells slots pc ls st n h := pm_iconst K d hq (by decide) kk
theorem pm_inc (K : pm_K l cl tl gw nw own nm cc nL ret R G) {i p : Nat} (d : decode cc pc = .ok (.iinc i 1, 3)) (hq : pc + 3 = q) (hl : ls[i]? = some (some (.int (nI p)))) (hn : i < nL) (hs : ls.set i (some (.int (nI (p + 1)))) = ls') (kk : G cells slots q ls' st n h) : G cells slots pc ls st n h :=
  pm_iinc K d hq hl (by rw [nI_succ]; congr 1) hn hs kk
theorem pm_dec (K : pm_K l cl tl gw nw own nm cc nL ret R G) {i p : Nat} (d : decode cc pc = .ok (.iinc i (-1), 3)) (hq : pc + 3 = q) (hl : ls[i]? = some (some (.int (nI (p + 1))))) (hn : i < nL) (hs : ls.set i (some (.int (nI p))) = ls') (kk : G cells slots q ls' st n h) : G cells slots pc ls st n h :=
  pm_iinc K d hq hl (by rw [← pk_m1 p]; congr 1) hn hs kk
theorem pm_ialdN (K : pm_K l cl tl gw nw own nm cc nL ret R G) {a t len r : Nat} {f : Nat → Int32} (ha : a < n) (hcell : h a = pm_I t len f) (ht : tl[t]? = some .int) (hr : r < len) (hb : len < 2 ^ 31) (d : decode cc pc = .ok (.iaload, 1)) (hq : pc + 1 = q) (kk : G cells slots q ls (.int (f r) :: st) n h) : G cells slots pc ls (.int (nI r) :: .ref a :: st) n h :=
  pm_iald K ha hcell ht (vp_in_nI hr hb) (congrArg f (nI_clamp (Nat.lt_trans hr hb))) d hq kk
theorem pm_iastN (K : pm_K l cl tl gw nw own nm cc nL ret R G) {a t len r : Nat} {f : Nat → Int32} {x : Int32} (ha : a < n) (hcell : h a = pm_I t len f) (ht : tl[t]? = some .int) (hr : r < len) (hb : len < 2 ^ 31) (d : decode cc pc = .ok (.iastore, 1)) (hq : pc + 1 = q) (kk : G cells slots q ls st n (va_up h a (pm_I t len (upd f r x)))) : G cells slots pc ls (.int x :: .int (nI r) :: .ref a :: st) n h :=
  pm_iast K ha hcell ht (vp_in_nI hr hb) d hq (by rw [nI_clamp (Nat.lt_trans hr hb)]; exact kk)
theorem pm_aaldN (K : pm_K l cl tl gw nw own nm cc nL ret R G) {a t len k r : Nat} {C : String} {f : Nat → Option Nat} (ha : a < n) (hcell : h a = pm_R t len f) (ht : tl[t]? = some (.object C)) (hr : r < len) (hb : len < 2 ^ 31) (hv : f r = some k) (d : decode cc pc = .ok (.aaload, 1)) (hq : pc + 1 = q) (kk : G cells slots q ls (.ref k :: st) n h) : G cells slots pc ls (.int (nI r) :: .ref a :: st) n h :=
  pm_aald K ha hcell ht (vp_in_nI hr hb) (by rw [nI_clamp (Nat.lt_trans hr hb)]; exact hv) d hq kk
theorem pm_aastN (K : pm_K l cl tl gw nw own nm cc nL ret R G) {a t len k cv r : Nat} {rr : vw_C} {vs : List Value} {f : Nat → Option Nat} (ha : a < n) (hcell : h a = pm_R t len f) (hk : k < n) (hobj : h k = pm_O cv vs) (hc : cl[cv]? = some rr) (ht : tl[t]? = some (.object rr.1)) (hr : r < len) (hb : len < 2 ^ 31) (d : decode cc pc = .ok (.aastore, 1)) (hq : pc + 1 = q) (kk : G cells slots q ls st n (va_up h a (pm_R t len (va_up f r (some k))))) : G cells slots pc ls (.ref k :: .int (nI r) :: .ref a :: st) n h :=
  pm_aast K ha hcell ht hk hobj hc (vp_in_nI hr hb) d hq (by rw [nI_clamp (Nat.lt_trans hr hb)]; exact kk)
end PMN
section PMZ
variable {l : Launch} {cl : List vw_C} {tl : List FieldType} {gw nw : List Cond} {own nm : String} {cc : ByteArray} {nL : Nat} {ret : Option FieldType} {R : Room} {G : pm_Gt} {cells slots pc q n : Nat} {ls ls' : List (Option Value)} {st st0 : List Value} {h : pm_H}
/-- calls that make no cell -/
theorem pm_callV0 (K : pm_K l cl tl gw nw own nm cc nL ret R G) (hgw : ∀ w ∈ gw, (w.onTables && w.keeps) = true ∨ ∃ ty, w = .arrayClass ty) {y : MethodName} {code : ByteArray} {maxL idx d' a ci N : Nat} {ret' : Option FieldType} {vs fs : List Value} {T : u_T} {Post : Option Value → pm_H → Prop}
    {kv : Nat} (hc : pm_cV gw own idx y code maxL ret' kv) (hM : pm_M l cl tl gw nw y code maxL ret' d' 0 0 (.ref a :: vs) n h (fun r n' h' => n' = n ∧ Post r h')) (hkv : kv = vs.length) (ha : a < n) (hcell : h a = pm_O ci fs) (hcl : cl[ci]? = some (y.cls, T, N)) (hst0 : st0 = vs.reverse ++ .ref a :: st) (hst : st.length ≤ 8) (hfr : (d' + 1 ≤ R.frames ∧ 8 + (maxL + 11) + pm_kL * d' ≤ R.locals) ∧ cells ≤ R.cells ∧ slots ≤ R.slots) (d : decode cc pc = .ok (.invokevirtual idx, 3)) (hq : pc + 3 = q)
    (kk : ∀ (r : Option Value) (h' : pm_H), Post r h' → G cells slots q ls (r.toList ++ st) n h') : G cells slots pc ls st0 n h :=
  pm_callV K hgw hc hM hkv ha hcell hcl hst0 hst hfr.1 hfr.2 d hq (fun r n' h' hp => by
    obtain ⟨e, hp⟩ := hp
    rw [e]
    exact kk r h' hp)
theorem pm_callS0 (K : pm_K l cl tl gw nw own nm cc nL ret R G) (hgw : ∀ w ∈ gw, (w.onTables && w.keeps) = true ∨ ∃ ty, w = .arrayClass ty) {y : MethodName} {code : ByteArray} {maxL idx d' : Nat} {ret' : Option FieldType} {vs : List Value} {Post : Option Value → pm_H → Prop}
    {kv : Nat} (hc : pm_cS gw own idx y code maxL ret' kv) (hM : pm_M l cl tl gw nw y code maxL ret' d' 0 0 vs n h (fun r n' h' => n' = n ∧ Post r h')) (hkv : kv = vs.length) (hst0 : st0 = vs.reverse ++ st) (hst : st.length ≤ 8) (hfr : (d' + 1 ≤ R.frames ∧ 8 + (maxL + 11) + pm_kL * d' ≤ R.locals) ∧ cells ≤ R.cells ∧ slots ≤ R.slots) (d : decode cc pc = .ok (.invokestatic idx, 3)) (hq : pc + 3 = q)
    (kk : ∀ (r : Option Value) (h' : pm_H), Post r h' → G cells slots q ls (r.toList ++ st) n h') : G cells slots pc ls st0 n h :=
  pm_callS K hgw hc hM hkv hst0 hst hfr.1 hfr.2 d hq (fun r n' h' hp => by
    obtain ⟨e, hp⟩ := hp
    rw [e]
    exact kk r h' hp)
end PMZ
end
section
/-! Networks over rows by places. The sort is Batcher's merge exchange for any n; its proof: 0-1 principle, then for each kind of places modulo p the numbers of zeros among its even and odd members. -/
def nw_sw {α : Type} (i j : Nat) (L : Nat → α) : Nat → α := fun k => if k = i then L j else if k = j then L i else L k
def nw_cx {α : Type} (lt : α → α → Bool) (i j : Nat) (L : Nat → α) : Nat → α := if lt (L j) (L i) = true then nw_sw i j L else L
/-- the first m steps of a pass: (i, i + d) for i below m with (i and p) = r -/
def nw_ps {α : Type} (lt : α → α → Bool) (b p r d : Nat) : Nat → (Nat → α) → (Nat → α)
  | 0, L => L
  | m + 1, L => if m &&& p = r then nw_cx lt (b + m) (b + m + d) (nw_ps lt b p r d m L) else nw_ps lt b p r d m L
/-- behind the first pass of p = 2^u: q = 2^(u+k), .., 2^(u+1) -/
def nw_in {α : Type} (lt : α → α → Bool) (b n u : Nat) : Nat → (Nat → α) → (Nat → α)
  | 0, L => L
  | k + 1, L => nw_in lt b n u k (nw_ps lt b (2 ^ u) (2 ^ u) (2 ^ (u + k + 1) - 2 ^ u) (n - (2 ^ (u + k + 1) - 2 ^ u)) L)
/-- p = 2^(k-1), .., 1, with 2^t the greatest -/
def nw_out {α : Type} (lt : α → α → Bool) (b n t : Nat) : Nat → (Nat → α) → (Nat → α)
  | 0, L => L
  | k + 1, L => nw_out lt b n t k (nw_in lt b n k (t - k) (nw_ps lt b (2 ^ k) 0 (2 ^ k) (n - 2 ^ k) L))
def nw_bl (a b : Bool) : Bool := !a && b
def nw_im {α : Type} (g : α → Bool) (L : Nat → α) : Nat → Bool := fun k => g (L k)
section NWM
variable {α : Type} {lt : α → α → Bool} {g : α → Bool}
theorem nw_cx_map (h1 : ∀ a b, lt a b = true → g a = true → g b = true) (h2 : ∀ a b, lt a b = false → g b = true → g a = true) (i j : Nat) (L : Nat → α) : nw_im g (nw_cx lt i j L) = nw_cx nw_bl i j (nw_im g L) := by
  funext k
  unfold nw_cx nw_im
  cases hl : lt (L j) (L i) with
  | true =>
    have a1 := h1 _ _ hl
    cases hi : g (L i) <;> cases hj : g (L j)
    · simp [nw_bl, nw_sw, hi, hj]; split <;> simp_all; split <;> simp_all
    · rw [hj] at a1; rw [hi] at a1; simp at a1
    · simp [nw_bl, nw_sw, hi, hj]; split <;> simp_all; split <;> simp_all
    · simp [nw_bl, nw_sw, hi, hj]; split <;> simp_all; split <;> simp_all
  | false =>
    have a2 := h2 _ _ hl
    cases hi : g (L i) <;> cases hj : g (L j)
    · simp [nw_bl, hi, hj]
    · simp [nw_bl, hi, hj]
    · rw [hi, hj] at a2; simp at a2
    · simp [nw_bl, hi, hj]
theorem nw_ps_map (h1 : ∀ a b, lt a b = true → g a = true → g b = true) (h2 : ∀ a b, lt a b = false → g b = true → g a = true) (b p r d m : Nat) (L : Nat → α) : nw_im g (nw_ps lt b p r d m L) = nw_ps nw_bl b p r d m (nw_im g L) := by
  induction m with
  | zero => rfl
  | succ m ih =>
    simp only [nw_ps]
    split
    · rw [nw_cx_map h1 h2, ih]
    · exact ih
theorem nw_in_map (h1 : ∀ a b, lt a b = true → g a = true → g b = true) (h2 : ∀ a b, lt a b = false → g b = true → g a = true) (b n u k : Nat) (L : Nat → α) : nw_im g (nw_in lt b n u k L) = nw_in nw_bl b n u k (nw_im g L) := by
  induction k generalizing L with
  | zero => rfl
  | succ k ih =>
    simp only [nw_in]
    rw [ih, nw_ps_map h1 h2]
theorem nw_out_map (h1 : ∀ a b, lt a b = true → g a = true → g b = true) (h2 : ∀ a b, lt a b = false → g b = true → g a = true) (b n t k : Nat) (L : Nat → α) : nw_im g (nw_out lt b n t k L) = nw_out nw_bl b n t k (nw_im g L) := by
  induction k generalizing L with
  | zero => rfl
  | succ k ih =>
    simp only [nw_out]
    rw [ih, nw_in_map h1 h2, nw_ps_map h1 h2]
end NWM
/-- a pass over zeros and ones, whose pairs are apart: each pair is put in order, nothing else changes -/
theorem nw_ps_b (b p r d : Nat) (hdis : ∀ i j, i &&& p = r → j &&& p = r → i + d ≠ j) (Z : Nat → Bool) (m : Nat) :
    (∀ i, i < m → i &&& p = r → nw_ps nw_bl b p r d m Z (b + i) = (Z (b + i) && Z (b + i + d)) ∧ nw_ps nw_bl b p r d m Z (b + i + d) = (Z (b + i) || Z (b + i + d))) ∧
    (∀ k, (∀ i, i < m → i &&& p = r → k ≠ b + i ∧ k ≠ b + i + d) → nw_ps nw_bl b p r d m Z k = Z k) := by
  induction m with
  | zero => exact ⟨fun i h => absurd h (Nat.not_lt_zero i), fun k _ => rfl⟩
  | succ m ih =>
    obtain ⟨ih1, ih2⟩ := ih
    by_cases hm : m &&& p = r
    · have e : nw_ps nw_bl b p r d (m + 1) Z = nw_cx nw_bl (b + m) (b + m + d) (nw_ps nw_bl b p r d m Z) := by simp only [nw_ps]; rw [if_pos hm]
      have f1 : nw_ps nw_bl b p r d m Z (b + m) = Z (b + m) := ih2 _ (fun i hi hr => ⟨by omega, by have := hdis i m hr hm; omega⟩)
      have f2 : nw_ps nw_bl b p r d m Z (b + m + d) = Z (b + m + d) := ih2 _ (fun i hi hr => ⟨by have := hdis m i hm hr; omega, by omega⟩)
      have hd0 : d ≠ 0 := fun h0 => hdis m m hm hm (by omega)
      have c1 : nw_cx nw_bl (b + m) (b + m + d) (nw_ps nw_bl b p r d m Z) (b + m) = (Z (b + m) && Z (b + m + d)) := by
        unfold nw_cx
        rw [f1, f2]
        cases h1 : Z (b + m) <;> cases h2 : Z (b + m + d) <;> simp [nw_bl, nw_sw, f1, f2, h1, h2]
      have c2 : nw_cx nw_bl (b + m) (b + m + d) (nw_ps nw_bl b p r d m Z) (b + m + d) = (Z (b + m) || Z (b + m + d)) := by
        unfold nw_cx
        rw [f1, f2]
        cases h1 : Z (b + m) <;> cases h2 : Z (b + m + d) <;> simp [nw_bl, nw_sw, f1, f2, h1, h2, hd0]
      have c3 : ∀ k, k ≠ b + m → k ≠ b + m + d → nw_cx nw_bl (b + m) (b + m + d) (nw_ps nw_bl b p r d m Z) k = nw_ps nw_bl b p r d m Z k := by
        intro k hk1 hk2
        unfold nw_cx
        split
        · simp [nw_sw, hk1, hk2]
        · rfl
      rw [e]
      refine ⟨fun i hi hr => ?_, fun k hk => ?_⟩
      · by_cases him : i = m
        · subst him
          exact ⟨c1, c2⟩
        · have hi' : i < m := by omega
          have g1 := hdis i m hr hm
          have g2 := hdis m i hm hr
          rw [c3 (b + i) (by omega) (by omega), c3 (b + i + d) (by omega) (by omega)]
          exact ih1 i hi' hr
      · have hkm := hk m (Nat.lt_succ_self m) hm
        rw [c3 k hkm.1 hkm.2]
        exact ih2 k (fun i hi hr => hk i (by omega) hr)
    · have e : nw_ps nw_bl b p r d (m + 1) Z = nw_ps nw_bl b p r d m Z := by simp only [nw_ps]; rw [if_neg hm]
      rw [e]
      refine ⟨fun i hi hr => ?_, fun k hk => ih2 k (fun i hi hr => hk i (by omega) hr)⟩
      have : i ≠ m := fun h => hm (h ▸ hr)
      exact ih1 i (by omega) hr
/-- zeros of a kind: its evens e, its odds o, where they are (dE, dO); z0 and z1 zeros lead them -/
def nw_Z (dE dO : Nat → Prop) (e o : Nat → Bool) (z0 z1 : Nat) : Prop :=
  (∀ a, dE a → (e a = false ↔ a < z0)) ∧ (∀ a, dO a → (o a = false ↔ a < z1)) ∧ (∀ a, a < z0 → dE a) ∧ (∀ a, a < z1 → dO a)
/-- the first pass: even a against odd a -/
theorem nw_Z_first {dE dO : Nat → Prop} {e o e' o' : Nat → Bool} {z0 z1 : Nat} (hEO : ∀ a, dO a → dE a) (hZ : nw_Z dE dO e o z0 z1)
    (h1 : ∀ a, dO a → e' a = (e a && o a) ∧ o' a = (e a || o a)) (h2 : ∀ a, ¬ dO a → e' a = e a) : nw_Z dE dO e' o' (max z0 z1) (min z0 z1) := by
  obtain ⟨a1, a2, a3, a4⟩ := hZ
  refine ⟨fun a ha => ?_, fun a ha => ?_, fun a ha => ?_, fun a ha => ?_⟩
  · by_cases hO : dO a
    · have q1 := a1 a ha
      have q2 := a2 a hO
      rw [(h1 a hO).1, Bool.and_eq_false_iff, q1, q2]
      omega
    · rw [h2 a hO, a1 a ha]
      have : ¬ a < z1 := fun q => hO (a4 a q)
      omega
  · have q1 := a1 a (hEO a ha)
    have q2 := a2 a ha
    rw [(h1 a ha).2, Bool.or_eq_false_iff, q1, q2]
    omega
  · by_cases h : a < z0
    · exact a3 a h
    · exact hEO a (a4 a (by omega))
  · exact a4 a (by omega)
/-- a later pass: odd a against even a + w -/
theorem nw_Z_next {dE dO : Nat → Prop} {e o e' o' : Nat → Bool} {z0 z1 w : Nat} (hw : 0 < w) (hE : ∀ a, dE (a + 1) → dO a) (hdn : ∀ a b, a ≤ b → dE b → dE a) (hdn' : ∀ a b, a ≤ b → dO b → dO a) (hZ : nw_Z dE dO e o z0 z1) (hge : z1 ≤ z0)
    (h1 : ∀ a, dE (a + w) → e' (a + w) = (o a || e (a + w)) ∧ o' a = (o a && e (a + w))) (h2 : ∀ a, a < w → e' a = e a) (h3 : ∀ a, ¬ dE (a + w) → o' a = o a) : nw_Z dE dO e' o' (min z0 (z1 + w)) (max z1 (z0 - w)) := by
  obtain ⟨a1, a2, a3, a4⟩ := hZ
  have hO : ∀ a, dE (a + w) → dO a := fun a h => hE a (hdn _ _ (by omega) h)
  refine ⟨fun a ha => ?_, fun a ha => ?_, fun a ha => ?_, fun a ha => ?_⟩
  · by_cases haw : a < w
    · rw [h2 a haw, a1 a ha]
      omega
    · obtain ⟨x, rfl⟩ : ∃ x, a = x + w := ⟨a - w, by omega⟩
      rw [(h1 x ha).1, Bool.or_eq_false_iff, a2 x (hO x ha), a1 _ ha]
      omega
  · by_cases hx : dE (a + w)
    · rw [(h1 a hx).2, Bool.and_eq_false_iff, a2 a ha, a1 _ hx]
      omega
    · rw [h3 a hx, a2 a ha]
      have : ¬ a + w < z0 := fun q => hx (a3 _ q)
      omega
  · exact a3 a (by omega)
  · by_cases h : a < z1
    · exact a4 a h
    · exact hO a (a3 _ (by omega))
theorem nw_bit (u i : Nat) : i &&& 2 ^ u = if i / 2 ^ u % 2 = 1 then 2 ^ u else 0 := by
  apply Nat.eq_of_testBit_eq
  intro j
  rw [Nat.testBit_and, Nat.testBit_two_pow]
  by_cases hj : u = j
  · subst hj
    rw [Nat.testBit_eq_decide_div_mod_eq (x := i)]
    split
    · rename_i h; simp [h]
    · rename_i h; simp [h]
  · split
    · rw [Nat.testBit_two_pow]; simp [hj]
    · simp [hj]
theorem nw_bit0 {u i : Nat} : i &&& 2 ^ u = 0 ↔ i / 2 ^ u % 2 = 0 := by
  rw [nw_bit]
  have := Nat.two_pow_pos u
  split <;> omega
theorem nw_bit1 {u i : Nat} : i &&& 2 ^ u = 2 ^ u ↔ i / 2 ^ u % 2 = 1 := by
  rw [nw_bit]
  have := Nat.two_pow_pos u
  split <;> omega
/-- the place of a kind's even, odd member -/
theorem nw_ev {u c : Nat} (hc : c < 2 ^ u) (a : Nat) : (c + 2 ^ (u + 1) * a) / 2 ^ u = 2 * a := by
  rw [show c + 2 ^ (u + 1) * a = c + 2 ^ u * (2 * a) by rw [Nat.pow_succ, Nat.mul_assoc], Nat.add_mul_div_left _ _ (Nat.two_pow_pos u), Nat.div_eq_of_lt hc, Nat.zero_add]
theorem nw_od {u c : Nat} (hc : c < 2 ^ u) (a : Nat) : (c + 2 ^ u + 2 ^ (u + 1) * a) / 2 ^ u = 2 * a + 1 := by
  rw [show c + 2 ^ u + 2 ^ (u + 1) * a = c + 2 ^ u * (2 * a + 1) by rw [Nat.pow_succ, Nat.mul_assoc, Nat.mul_add, Nat.mul_one]; omega, Nat.add_mul_div_left _ _ (Nat.two_pow_pos u), Nat.div_eq_of_lt hc, Nat.zero_add]
/-- kind c, of the places b + .. below n, of p = 2^u: its members are in Z as z0 and z1 say -/
def nw_K (b n u : Nat) (Z : Nat → Bool) (c z0 z1 : Nat) : Prop :=
  nw_Z (fun a => c + 2 ^ (u + 1) * a < n) (fun a => c + 2 ^ u + 2 ^ (u + 1) * a < n) (fun a => Z (b + (c + 2 ^ (u + 1) * a))) (fun a => Z (b + (c + 2 ^ u + 2 ^ (u + 1) * a))) z0 z1
theorem nw_dis0 (u : Nat) : ∀ i j, i &&& 2 ^ u = 0 → j &&& 2 ^ u = 0 → i + 2 ^ u ≠ j := by
  intro i j hi hj h
  rw [nw_bit0] at hi hj
  rw [← h, Nat.add_div_right _ (Nat.two_pow_pos u)] at hj
  omega
theorem nw_dis1 (u k : Nat) : ∀ i j, i &&& 2 ^ u = 2 ^ u → j &&& 2 ^ u = 2 ^ u → i + (2 ^ (u + k + 1) - 2 ^ u) ≠ j := by
  intro i j hi hj h
  rw [nw_bit1] at hi hj
  have hP := Nat.two_pow_pos u
  have e : 2 ^ (u + k + 1) = 2 ^ u * (2 * 2 ^ k) := by rw [show u + k + 1 = u + (k + 1) by omega, Nat.pow_add, Nat.pow_succ, Nat.mul_comm (2 ^ k) 2]
  have hk := Nat.two_pow_pos k
  have hle : 2 ^ u ≤ 2 ^ u * (2 * 2 ^ k) := Nat.le_mul_of_pos_right _ (by omega)
  have hj2 : j + 2 ^ u = i + 2 ^ u * (2 * 2 ^ k) := by rw [← h, e]; omega
  have h1 : (j + 2 ^ u) / 2 ^ u = j / 2 ^ u + 1 := Nat.add_div_right _ hP
  have h2 : (i + 2 ^ u * (2 * 2 ^ k)) / 2 ^ u = i / 2 ^ u + 2 * 2 ^ k := Nat.add_mul_div_left _ _ hP
  rw [hj2, h2] at h1
  omega
/-- zeros lead: their number -/
theorem nw_count {dE : Nat → Prop} {e : Nat → Bool} {N : Nat} (hN : ¬ dE N) (hdn : ∀ a b, a ≤ b → dE b → dE a) (hup : ∀ a, dE (a + 1) → e a = true → e (a + 1) = true) : ∃ z, (∀ a, dE a → (e a = false ↔ a < z)) ∧ ∀ a, a < z → dE a := by
  obtain ⟨z, hz, hl⟩ := pk_least (fun k => ¬ (dE k ∧ e k = false)) ⟨N, fun h => hN h.1⟩
  have hlow : ∀ a, a < z → dE a ∧ e a = false := fun a ha => Classical.not_not.mp (hl a ha)
  refine ⟨z, fun a ha => ⟨fun h => ?_, fun h => (hlow a h).2⟩, fun a ha => (hlow a ha).1⟩
  apply Nat.lt_of_not_le
  intro hza
  have ez : e z = true := by
    cases h1 : e z with
    | true => rfl
    | false => exact absurd ⟨hdn z a hza ha, h1⟩ hz
  have up : ∀ x, z + x ≤ a → e (z + x) = true := by
    intro x
    induction x with
    | zero => intro _; exact ez
    | succ x ih => intro hx; exact hup (z + x) (hdn _ a hx ha) (ih (by omega))
  have := up (a - z) (by omega)
  rw [show z + (a - z) = a by omega, h] at this
  cases this
def nw_So (b n u : Nat) (Z : Nat → Bool) : Prop := ∀ i, i + 2 ^ u < n → Z (b + i) = true → Z (b + (i + 2 ^ u)) = true
theorem nw_K_of {b n u c : Nat} {Z : Nat → Bool} (hS : nw_So b n (u + 1) Z) : ∃ z0 z1, nw_K b n u Z c z0 z1 := by
  have hM := Nat.two_pow_pos (u + 1)
  have hbig : ∀ x, n ≤ x + 2 ^ (u + 1) * n := fun x => Nat.le_trans (Nat.le_mul_of_pos_left n hM) (Nat.le_add_left _ _)
  obtain ⟨z0, p1, p2⟩ := nw_count (dE := fun a => c + 2 ^ (u + 1) * a < n) (e := fun a => Z (b + (c + 2 ^ (u + 1) * a))) (N := n) (by have := hbig c; omega) (fun a a' h h' => by have := Nat.mul_le_mul_left (2 ^ (u + 1)) h; omega) (fun a h1 h2 => by
    have := hS (c + 2 ^ (u + 1) * a) (by rw [Nat.mul_succ] at h1; omega) h2
    have e : c + 2 ^ (u + 1) * (a + 1) = c + 2 ^ (u + 1) * a + 2 ^ (u + 1) := by rw [Nat.mul_succ]; omega
    show Z (b + (c + 2 ^ (u + 1) * (a + 1))) = true
    rw [e]; exact this)
  obtain ⟨z1, p3, p4⟩ := nw_count (dE := fun a => c + 2 ^ u + 2 ^ (u + 1) * a < n) (e := fun a => Z (b + (c + 2 ^ u + 2 ^ (u + 1) * a))) (N := n) (by have := hbig (c + 2 ^ u); omega) (fun a a' h h' => by have := Nat.mul_le_mul_left (2 ^ (u + 1)) h; omega) (fun a h1 h2 => by
    have := hS (c + 2 ^ u + 2 ^ (u + 1) * a) (by rw [Nat.mul_succ] at h1; omega) h2
    have e : c + 2 ^ u + 2 ^ (u + 1) * (a + 1) = c + 2 ^ u + 2 ^ (u + 1) * a + 2 ^ (u + 1) := by rw [Nat.mul_succ]; omega
    show Z (b + (c + 2 ^ u + 2 ^ (u + 1) * (a + 1))) = true
    rw [e]; exact this)
  exact ⟨z0, z1, p1, p3, p2, p4⟩
theorem nw_M2 (u : Nat) : 2 ^ (u + 1) = 2 ^ u + 2 ^ u := by rw [Nat.pow_succ]; omega
theorem nw_K_first {b n u c z0 z1 : Nat} {Z : Nat → Bool} (hc : c < 2 ^ u) (h : nw_K b n u Z c z0 z1) : nw_K b n u (nw_ps nw_bl b (2 ^ u) 0 (2 ^ u) (n - 2 ^ u) Z) c (max z0 z1) (min z0 z1) := by
  have hp := nw_ps_b b (2 ^ u) 0 (2 ^ u) (nw_dis0 u) Z (n - 2 ^ u)
  have hM := nw_M2 u
  refine nw_Z_first (fun a h => by omega) h (fun a ha => ?_) (fun a ha => ?_)
  · have q := hp.1 (c + 2 ^ (u + 1) * a) (by omega) (nw_bit0.mpr (by rw [nw_ev hc]; omega))
    have e1 : b + (c + 2 ^ u + 2 ^ (u + 1) * a) = b + (c + 2 ^ (u + 1) * a) + 2 ^ u := by omega
    show _ ∧ _
    rw [e1]
    exact q
  · refine hp.2 _ (fun i hi hr => ⟨fun h0 => ha (by omega), fun h0 => ?_⟩)
    exact nw_dis0 u i (c + 2 ^ (u + 1) * a) hr (nw_bit0.mpr (by rw [nw_ev hc]; omega)) (by omega)
theorem nw_K_next {b n u k c z0 z1 : Nat} {Z : Nat → Bool} (hc : c < 2 ^ u) (h : nw_K b n u Z c z0 z1) (hge : z1 ≤ z0) : nw_K b n u (nw_ps nw_bl b (2 ^ u) (2 ^ u) (2 ^ (u + k + 1) - 2 ^ u) (n - (2 ^ (u + k + 1) - 2 ^ u)) Z) c (min z0 (z1 + 2 ^ k)) (max z1 (z0 - 2 ^ k)) := by
  have hp := nw_ps_b b (2 ^ u) (2 ^ u) (2 ^ (u + k + 1) - 2 ^ u) (nw_dis1 u k) Z (n - (2 ^ (u + k + 1) - 2 ^ u))
  have hM := nw_M2 u
  have hk := Nat.two_pow_pos k
  have hP := Nat.two_pow_pos u
  have eq1 : 2 ^ (u + k + 1) = 2 ^ (u + 1) * 2 ^ k := by rw [show u + k + 1 = u + 1 + k by omega, Nat.pow_add]
  have hle : 2 ^ (u + 1) ≤ 2 ^ (u + 1) * 2 ^ k := Nat.le_mul_of_pos_right _ hk
  have hmul : ∀ a, 2 ^ (u + 1) * (a + 2 ^ k) = 2 ^ (u + 1) * a + 2 ^ (u + 1) * 2 ^ k := fun a => Nat.mul_add _ _ _
  refine nw_Z_next hk (fun a h => by have e : 2 ^ (u + 1) * (a + 1) = 2 ^ (u + 1) * a + 2 ^ (u + 1) := Nat.mul_succ _ _; omega) (fun a a' h h' => by have := Nat.mul_le_mul_left (2 ^ (u + 1)) h; omega) (fun a a' h h' => by have := Nat.mul_le_mul_left (2 ^ (u + 1)) h; omega) h hge (fun a ha => ?_) (fun a ha => ?_) (fun a ha => ?_)
  · have q := hp.1 (c + 2 ^ u + 2 ^ (u + 1) * a) (by have := hmul a; omega) (nw_bit1.mpr (by rw [nw_od hc]; omega))
    have e1 : b + (c + 2 ^ (u + 1) * (a + 2 ^ k)) = b + (c + 2 ^ u + 2 ^ (u + 1) * a) + (2 ^ (u + k + 1) - 2 ^ u) := by have := hmul a; omega
    show _ ∧ _
    rw [e1]
    exact ⟨q.2, q.1⟩
  · refine hp.2 _ (fun i hi hr => ⟨fun h0 => ?_, fun h0 => ?_⟩)
    · rw [nw_bit1] at hr
      have : i = c + 2 ^ (u + 1) * a := by omega
      rw [this, nw_ev hc] at hr
      omega
    · have h1 : 2 ^ (u + 1) * (a + 1) ≤ 2 ^ (u + 1) * 2 ^ k := Nat.mul_le_mul_left _ ha
      rw [Nat.mul_succ] at h1
      omega
  · refine hp.2 _ (fun i hi hr => ⟨fun h0 => ha (by have := hmul a; omega), fun h0 => ?_⟩)
    exact nw_dis1 u k i (c + 2 ^ u + 2 ^ (u + 1) * a) hr (nw_bit1.mpr (by rw [nw_od hc]; omega)) (by omega)
theorem nw_in_K {b n u c : Nat} (hc : c < 2 ^ u) : ∀ (k z0 z1 : Nat) (Z : Nat → Bool), nw_K b n u Z c z0 z1 → z1 ≤ z0 → z0 ≤ z1 + 2 ^ k → ∃ y0 y1, nw_K b n u (nw_in nw_bl b n u k Z) c y0 y1 ∧ y1 ≤ y0 ∧ y0 ≤ y1 + 1
  | 0, z0, z1, Z, h, h1, h2 => ⟨z0, z1, h, h1, by simpa using h2⟩
  | k + 1, z0, z1, Z, h, h1, h2 => by
    have q := nw_K_next (k := k) hc h h1
    have e : 2 ^ (k + 1) = 2 ^ k + 2 ^ k := nw_M2 k
    exact nw_in_K hc k _ _ _ q (by omega) (by omega)
theorem nw_stage {b n u t : Nat} {Z : Nat → Bool} (hn : n ≤ 2 ^ (t + 1)) (hu : u ≤ t) (hS : nw_So b n (u + 1) Z) : nw_So b n u (nw_in nw_bl b n u (t - u) (nw_ps nw_bl b (2 ^ u) 0 (2 ^ u) (n - 2 ^ u) Z)) := by
  have hP := Nat.two_pow_pos u
  have hM := nw_M2 u
  intro i hi ht
  obtain ⟨z0, z1, hK⟩ := nw_K_of (c := i % 2 ^ u) hS
  have hc : i % 2 ^ u < 2 ^ u := Nat.mod_lt _ hP
  have hK1 := nw_K_first hc hK
  have hb : max z0 z1 ≤ 2 ^ (t - u) := by
    apply Nat.le_of_not_lt
    intro hgt
    have h5 : i % 2 ^ u + 2 ^ (u + 1) * 2 ^ (t - u) < n := hK1.2.2.1 _ hgt
    rw [← Nat.pow_add, show u + 1 + (t - u) = t + 1 by omega] at h5
    omega
  obtain ⟨y0, y1, hY, g1, g2⟩ := nw_in_K hc (t - u) _ _ _ hK1 (by omega) (by omega)
  obtain ⟨k1, k2, -, -⟩ := hY
  have hdiv := Nat.div_add_mod i (2 ^ u)
  by_cases hpar : i / 2 ^ u % 2 = 0
  · obtain ⟨a, ha⟩ : ∃ a, i / 2 ^ u = 2 * a := ⟨i / 2 ^ u / 2, by omega⟩
    have e1 : i = i % 2 ^ u + 2 ^ (u + 1) * a := by
      rw [ha, ← Nat.mul_assoc] at hdiv
      rw [Nat.pow_succ]; omega
    have e2 : i + 2 ^ u = i % 2 ^ u + 2 ^ u + 2 ^ (u + 1) * a := by omega
    have q1 := k1 a (by show i % 2 ^ u + 2 ^ (u + 1) * a < n; omega)
    have q2 := k2 a (by show i % 2 ^ u + 2 ^ u + 2 ^ (u + 1) * a < n; omega)
    dsimp only at q1 q2
    rw [← e1, ht] at q1
    rw [← e2] at q2
    cases h9 : nw_in nw_bl b n u (t - u) (nw_ps nw_bl b (2 ^ u) 0 (2 ^ u) (n - 2 ^ u) Z) (b + (i + 2 ^ u)) with
    | true => rfl
    | false =>
      rw [h9] at q2
      simp at q1 q2
      omega
  · obtain ⟨a, ha⟩ : ∃ a, i / 2 ^ u = 2 * a + 1 := ⟨i / 2 ^ u / 2, by omega⟩
    have e1 : i = i % 2 ^ u + 2 ^ u + 2 ^ (u + 1) * a := by
      rw [ha, Nat.mul_add, ← Nat.mul_assoc, Nat.mul_one] at hdiv
      rw [Nat.pow_succ]; omega
    have e2 : i + 2 ^ u = i % 2 ^ u + 2 ^ (u + 1) * (a + 1) := by rw [Nat.mul_succ]; omega
    have q1 := k2 a (by show i % 2 ^ u + 2 ^ u + 2 ^ (u + 1) * a < n; omega)
    have q2 := k1 (a + 1) (by show i % 2 ^ u + 2 ^ (u + 1) * (a + 1) < n; omega)
    dsimp only at q1 q2
    rw [← e1, ht] at q1
    rw [← e2] at q2
    cases h9 : nw_in nw_bl b n u (t - u) (nw_ps nw_bl b (2 ^ u) 0 (2 ^ u) (n - 2 ^ u) Z) (b + (i + 2 ^ u)) with
    | true => rfl
    | false =>
      rw [h9] at q2
      simp at q1 q2
      omega
theorem nw_out_So {b n t : Nat} (hn : n ≤ 2 ^ (t + 1)) : ∀ (k : Nat) (Z : Nat → Bool), k ≤ t + 1 → nw_So b n k Z → nw_So b n 0 (nw_out nw_bl b n t k Z)
  | 0, Z, _, h => h
  | k + 1, Z, hk, h => nw_out_So hn k _ (by omega) (nw_stage hn (by omega) h)
/-- the sort sorts: no row behind its next one -/
theorem nw_sorts {α : Type} {lt : α → α → Bool} (hirr : ∀ a, lt a a = false) (htr : ∀ a b c, lt a b = true → lt b c = true → lt a c = true) (hng : ∀ a b c, lt a b = false → lt c b = true → lt c a = true) {b n t : Nat} (hn : n ≤ 2 ^ (t + 1)) (L : Nat → α) (i : Nat) (hi : i + 1 < n) : lt (nw_out lt b n t (t + 1) L (b + (i + 1))) (nw_out lt b n t (t + 1) L (b + i)) = false := by
  cases h : lt (nw_out lt b n t (t + 1) L (b + (i + 1))) (nw_out lt b n t (t + 1) L (b + i)) with
  | false => rfl
  | true =>
    exfalso
    generalize hy : nw_out lt b n t (t + 1) L (b + (i + 1)) = y at h
    have hm := nw_out_map (lt := lt) (g := fun x => lt y x) (fun a b' h1 h2 => htr y a b' h2 h1) (fun a b' h1 h2 => hng a b' y h1 h2) b n t (t + 1) L
    have hs := nw_out_So (b := b) hn (t + 1) (nw_im (fun x => lt y x) L) (Nat.le_refl _) (fun i hi => absurd hi (by omega))
    rw [← hm] at hs
    have := hs i (by simpa using hi) h
    simp only [nw_im, Nat.pow_zero] at this
    rw [hy, hirr] at this
    cases this
end
section
/-! Squeeze and spread: rows R 0 .. R (r - 1) move among dead ones. R j lies at pos j. -/
/-- the first m steps of a squeezing pass of distance d: (i - d, i) for i = d, d + 1, .. ; the row at i goes back if its number has the bit -/
def nw_sq {α : Type} (w : α → Nat) (b d : Nat) : Nat → (Nat → α) → (Nat → α)
  | 0, L => L
  | m + 1, L => if w (nw_sq w b d m L (b + (m + d))) &&& d = 0 then nw_sq w b d m L else nw_sw (b + m) (b + (m + d)) (nw_sq w b d m L)
/-- the first k passes, of distances 1, 2, .. -/
def nw_sqs {α : Type} (w : α → Nat) (b n : Nat) : Nat → (Nat → α) → (Nat → α)
  | 0, L => L
  | k + 1, L => nw_sq w b (2 ^ k) (n - 2 ^ k) (nw_sqs w b n k L)
/-- the first m steps of a spreading pass of distance d over n places: (i - d, i) for i = n - 1, n - 2, ..; the row at i - d goes forth if its number has the bit -/
def nw_sd {α : Type} (w : α → Nat) (b n d : Nat) : Nat → (Nat → α) → (Nat → α)
  | 0, L => L
  | m + 1, L => if w (nw_sd w b n d m L (b + (n - 1 - m - d))) &&& d = 0 then nw_sd w b n d m L else nw_sw (b + (n - 1 - m - d)) (b + (n - 1 - m)) (nw_sd w b n d m L)
/-- passes of distances 2^(k-1), .., 1 -/
def nw_sds {α : Type} (w : α → Nat) (b n : Nat) : Nat → (Nat → α) → (Nat → α)
  | 0, L => L
  | k + 1, L => nw_sds w b n k (nw_sd w b n (2 ^ k) (n - 2 ^ k) L)
def nw_H {α : Type} (b N r : Nat) (R : Nat → α) (dead : α → Prop) (pos : Nat → Nat) (L : Nat → α) : Prop :=
  (∀ j, j < r → L (b + pos j) = R j) ∧ ∀ i, i < N → (∀ j, j < r → pos j ≠ i) → dead (L (b + i))
section NWH
variable {α : Type} {b N r : Nat} {R : Nat → α} {dead : α → Prop} {pos pos' : Nat → Nat} {L : Nat → α}
theorem nw_H.to (hH : nw_H b N r R dead pos L) (hp : ∀ j, j < r → pos' j = pos j) : nw_H b N r R dead pos' L :=
  ⟨fun j hj => by rw [hp j hj]; exact hH.1 j hj, fun i hi h => hH.2 i hi (fun j hj => by rw [← hp j hj]; exact h j hj)⟩
theorem nw_sw_l (i j : Nat) (L : Nat → α) : nw_sw i j L i = L j := by simp [nw_sw]
theorem nw_sw_r (i j : Nat) (L : Nat → α) : nw_sw i j L j = L i := by
  unfold nw_sw
  by_cases h : j = i
  · subst h; simp
  · simp [h]
theorem nw_sw_n {i j k : Nat} (L : Nat → α) (h1 : k ≠ i) (h2 : k ≠ j) : nw_sw i j L k = L k := by simp [nw_sw, h1, h2]
/-- the row at x goes to the free place y -/
theorem nw_H.mv (hH : nw_H b N r R dead pos L) {j0 x y : Nat} {L' : Nat → α} (hj : j0 < r) (hx : pos j0 = x) (hxy : x ≠ y) (hyN : y < N) (hy : ∀ j, j < r → pos j ≠ y) (hinj : ∀ i j, i < r → j < r → pos i = pos j → i = j) (hp : ∀ j, j < r → pos' j = if j = j0 then y else pos j) (e1 : L' (b + x) = L (b + y)) (e2 : L' (b + y) = L (b + x)) (e3 : ∀ i, i ≠ x → i ≠ y → L' (b + i) = L (b + i)) : nw_H b N r R dead pos' L' := by
  refine ⟨fun j hjr => ?_, fun i hi h => ?_⟩
  · rw [hp j hjr]
    by_cases h0 : j = j0
    · subst h0
      rw [if_pos rfl, e2, ← hx]
      exact hH.1 j hjr
    · rw [if_neg h0, e3 _ (fun q => h0 (hinj j j0 hjr hj (q.trans hx.symm))) (hy j hjr)]
      exact hH.1 j hjr
  · by_cases hix : i = x
    · subst hix
      rw [e1]
      exact hH.2 y hyN hy
    · have hiy : i ≠ y := fun q => h j0 hj (by rw [hp j0 hj, if_pos rfl, q])
      rw [e3 i hix hiy]
      refine hH.2 i hi (fun j hjr q => ?_)
      by_cases h0 : j = j0
      · subst h0
        exact hix (q.symm.trans hx)
      · exact h j hjr (by rw [hp j hjr, if_neg h0, q])
theorem nw_inj {f : Nat → Nat} {r : Nat} (h : ∀ i j, i < j → j < r → f i < f j) : ∀ i j, i < r → j < r → f i = f j → i = j := by
  intro i j hi hj e
  rcases Nat.lt_trichotomy i j with q | q | q
  · have := h i j q hj; omega
  · exact q
  · have := h j i q hi; omega
theorem nw_add_lt {D i j a c : Nat} (h : i < j) (hq : a ≤ c) : i + D * a < j + D * c := by
  have := Nat.mul_le_mul_left D hq
  omega
/-- one pass of a squeeze: the bit k of each row's way is gone -/
theorem nw_sq_H {w : α → Nat} {W : Nat → Nat} {n k : Nat} (hR : ∀ j, j < r → w (R j) = W j) (hdead : ∀ x, dead x → w x = 0) (hmono : ∀ i j, i ≤ j → j < r → W i ≤ W j) (hN : ∀ j, j < r → j + W j < n) (hH : nw_H b n r R dead (fun j => j + 2 ^ k * (W j / 2 ^ k)) L) : nw_H b n r R dead (fun j => j + 2 ^ (k + 1) * (W j / 2 ^ (k + 1))) (nw_sq w b (2 ^ k) (n - 2 ^ k) L) := by
  have hD := Nat.two_pow_pos k
  have hq : ∀ i j, i < j → j < r → W i / 2 ^ k ≤ W j / 2 ^ k := fun i j hij hj => Nat.div_le_div_right (hmono i j (by omega) hj)
  have hB : ∀ j, 2 ^ (k + 1) * (W j / 2 ^ (k + 1)) = 2 ^ k * (2 * (W j / 2 ^ k / 2)) := fun j => by rw [Nat.div_div_eq_div_mul, Nat.pow_succ, Nat.mul_assoc]
  have hle : ∀ j, 2 ^ k * (2 * (W j / 2 ^ k / 2)) ≤ 2 ^ k * (W j / 2 ^ k) := fun j => Nat.mul_le_mul_left _ (by omega)
  have hWle : ∀ j, 2 ^ k * (W j / 2 ^ k) ≤ W j := fun j => Nat.mul_div_le _ _
  have key : ∀ m, m ≤ n - 2 ^ k → nw_H b n r R dead (fun j => if j + 2 ^ k * (W j / 2 ^ k) < 2 ^ k + m then j + 2 ^ k * (2 * (W j / 2 ^ k / 2)) else j + 2 ^ k * (W j / 2 ^ k)) (nw_sq w b (2 ^ k) m L) := by
    intro m
    induction m with
    | zero =>
      intro _
      refine hH.to (fun j hj => ?_)
      split
      · rename_i h0
        have : W j / 2 ^ k = 0 := by
          apply Nat.eq_zero_of_not_pos
          intro hp
          have := Nat.mul_le_mul_left (2 ^ k) hp
          omega
        rw [this]
      · rfl
    | succ m ih =>
      intro hm
      have ihm := ih (by omega)
      generalize hL1 : nw_sq w b (2 ^ k) m L = L1 at ihm
      have hstep : nw_sq w b (2 ^ k) (m + 1) L = if w (L1 (b + (m + 2 ^ k))) &&& 2 ^ k = 0 then L1 else nw_sw (b + m) (b + (m + 2 ^ k)) L1 := by rw [← hL1]; rfl
      by_cases hex : ∃ j, j < r ∧ j + 2 ^ k * (W j / 2 ^ k) = m + 2 ^ k
      · obtain ⟨j0, hj0, hp0⟩ := hex
        have hrow : L1 (b + (m + 2 ^ k)) = R j0 := by
          have := ihm.1 j0 hj0
          dsimp only at this
          rw [if_neg (by omega), hp0] at this
          exact this
        have hothers : ∀ j, j < r → j ≠ j0 → ¬ (j + 2 ^ k * (W j / 2 ^ k) = m + 2 ^ k) := by
          intro j hj hne he
          rcases Nat.lt_or_gt_of_ne hne with q | q
          · have := nw_add_lt (D := 2 ^ k) q (hq j j0 q hj0); omega
          · have := nw_add_lt (D := 2 ^ k) q (hq j0 j q hj); omega
        rw [hstep, hrow, hR j0 hj0]
        by_cases hbit : W j0 / 2 ^ k % 2 = 0
        · rw [if_pos (nw_bit0.mpr hbit)]
          refine ihm.to (fun j hj => ?_)
          by_cases hjj : j = j0
          · subst hjj
            rw [if_pos (by omega), if_neg (by omega), show 2 * (W j / 2 ^ k / 2) = W j / 2 ^ k by omega]
          · have := hothers j hj hjj
            by_cases hlt : j + 2 ^ k * (W j / 2 ^ k) < 2 ^ k + m
            · rw [if_pos hlt, if_pos (by omega)]
            · rw [if_neg hlt, if_neg (by omega)]
        · rw [if_neg (fun q => hbit (nw_bit0.mp q))]
          have hto : j0 + 2 ^ k * (2 * (W j0 / 2 ^ k / 2)) = m := by
            have e1 : W j0 / 2 ^ k = 2 * (W j0 / 2 ^ k / 2) + 1 := by omega
            have e2 : 2 ^ k * (W j0 / 2 ^ k) = 2 ^ k * (2 * (W j0 / 2 ^ k / 2)) + 2 ^ k := by
              rw [show 2 ^ k * (W j0 / 2 ^ k) = 2 ^ k * (2 * (W j0 / 2 ^ k / 2) + 1) by rw [← e1], Nat.mul_succ]
            omega
          refine ihm.mv (j0 := j0) (x := m + 2 ^ k) (y := m) hj0 (by (try dsimp only); rw [if_neg (by omega), hp0]) (by omega) (by omega) (fun j hj he => ?_) (nw_inj (fun i j hij hj => ?_)) (fun j hj => ?_) (nw_sw_r _ _ _) (nw_sw_l _ _ _) (fun i h1 h2 => nw_sw_n _ (by omega) (by omega))
          · try dsimp only at he
            by_cases hjj : j = j0
            · subst hjj
              rw [if_neg (by omega)] at he
              omega
            · split at he
              · rcases Nat.lt_or_gt_of_ne hjj with q | q
                · have := nw_add_lt (D := 2 ^ k) q (show 2 * (W j / 2 ^ k / 2) ≤ 2 * (W j0 / 2 ^ k / 2) by have := hq j j0 q hj0; omega); omega
                · have := nw_add_lt (D := 2 ^ k) q (show 2 * (W j0 / 2 ^ k / 2) ≤ 2 * (W j / 2 ^ k / 2) by have := hq j0 j q hj; omega); omega
              · omega
          · try dsimp only
            have a1 := nw_add_lt (D := 2 ^ k) hij (hq i j hij hj)
            have a2 := nw_add_lt (D := 2 ^ k) hij (show 2 * (W i / 2 ^ k / 2) ≤ 2 * (W j / 2 ^ k / 2) by have := hq i j hij hj; omega)
            have a3 := hle i
            split <;> split <;> omega
          · try dsimp only
            by_cases hjj : j = j0
            · subst hjj
              rw [if_pos rfl, if_pos (by omega), hto]
            · have := hothers j hj hjj
              rw [if_neg hjj]
              by_cases hlt : j + 2 ^ k * (W j / 2 ^ k) < 2 ^ k + m
              · rw [if_pos hlt, if_pos (by omega)]
              · rw [if_neg hlt, if_neg (by omega)]
      · have hdd : dead (L1 (b + (m + 2 ^ k))) := by
          refine ihm.2 _ (by omega) (fun j hj he => ?_)
          dsimp only at he
          split at he
          · have := hle j; omega
          · exact hex ⟨j, hj, he⟩
        rw [hstep, hdead _ hdd, Nat.zero_and, if_pos rfl]
        refine ihm.to (fun j hj => ?_)
        have : ¬ (j + 2 ^ k * (W j / 2 ^ k) = m + 2 ^ k) := fun q => hex ⟨j, hj, q⟩
        by_cases hlt : j + 2 ^ k * (W j / 2 ^ k) < 2 ^ k + m
        · rw [if_pos hlt, if_pos (by omega)]
        · rw [if_neg hlt, if_neg (by omega)]
  refine (key (n - 2 ^ k) (Nat.le_refl _)).to (fun j hj => ?_)
  have h1 := hN j hj
  have h2 := hWle j
  try dsimp only
  rw [if_pos (by omega), hB]
theorem nw_sqs_H {w : α → Nat} {W : Nat → Nat} {n : Nat} (hR : ∀ j, j < r → w (R j) = W j) (hdead : ∀ x, dead x → w x = 0) (hmono : ∀ i j, i ≤ j → j < r → W i ≤ W j) (hN : ∀ j, j < r → j + W j < n) (hH : nw_H b n r R dead (fun j => j + W j) L) (k : Nat) : nw_H b n r R dead (fun j => j + 2 ^ k * (W j / 2 ^ k)) (nw_sqs w b n k L) := by
  induction k with
  | zero => exact hH.to (fun j _ => by simp)
  | succ k ih => exact nw_sq_H hR hdead hmono hN ih
/-- a squeeze brings R j to place j -/
theorem nw_squeeze {w : α → Nat} {W : Nat → Nat} {n k : Nat} (hR : ∀ j, j < r → w (R j) = W j) (hdead : ∀ x, dead x → w x = 0) (hmono : ∀ i j, i ≤ j → j < r → W i ≤ W j) (hN : ∀ j, j < r → j + W j < n) (hk : n ≤ 2 ^ k) (hH : nw_H b n r R dead (fun j => j + W j) L) : nw_H b n r R dead (fun j => j) (nw_sqs w b n k L) := by
  refine (nw_sqs_H hR hdead hmono hN hH k).to (fun j hj => ?_)
  have := hN j hj
  rw [Nat.div_eq_of_lt (by omega)]
  rfl
/-- one pass of a spread: the bit k of each row's way is done -/
theorem nw_sd_H {w : α → Nat} {W : Nat → Nat} {n k : Nat} (hR : ∀ j, j < r → w (R j) = W j) (hdead : ∀ x, dead x → w x = 0) (hmono : ∀ i j, i ≤ j → j < r → W i ≤ W j) (hN : ∀ j, j < r → j + W j < n) (hH : nw_H b n r R dead (fun j => j + 2 ^ (k + 1) * (W j / 2 ^ (k + 1))) L) : nw_H b n r R dead (fun j => j + 2 ^ k * (W j / 2 ^ k)) (nw_sd w b n (2 ^ k) (n - 2 ^ k) L) := by
  have hD := Nat.two_pow_pos k
  have hq : ∀ i j, i < j → j < r → W i / 2 ^ k ≤ W j / 2 ^ k := fun i j hij hj => Nat.div_le_div_right (hmono i j (by omega) hj)
  have hB : ∀ j, 2 ^ (k + 1) * (W j / 2 ^ (k + 1)) = 2 ^ k * (2 * (W j / 2 ^ k / 2)) := fun j => by rw [Nat.div_div_eq_div_mul, Nat.pow_succ, Nat.mul_assoc]
  have hle : ∀ j, 2 ^ k * (2 * (W j / 2 ^ k / 2)) ≤ 2 ^ k * (W j / 2 ^ k) := fun j => Nat.mul_le_mul_left _ (by omega)
  have hWle : ∀ j, 2 ^ k * (W j / 2 ^ k) ≤ W j := fun j => Nat.mul_div_le _ _
  have hodd : ∀ j, ¬ W j / 2 ^ k % 2 = 0 → 2 ^ k * (W j / 2 ^ k) = 2 ^ k * (2 * (W j / 2 ^ k / 2)) + 2 ^ k := by
    intro j hj
    have e1 : W j / 2 ^ k = 2 * (W j / 2 ^ k / 2) + 1 := by omega
    rw [show 2 ^ k * (W j / 2 ^ k) = 2 ^ k * (2 * (W j / 2 ^ k / 2) + 1) by rw [← e1], Nat.mul_succ]
  have heven : ∀ j, W j / 2 ^ k % 2 = 0 → 2 * (W j / 2 ^ k / 2) = W j / 2 ^ k := fun j hj => by omega
  have key : ∀ m, m ≤ n - 2 ^ k → nw_H b n r R dead (fun j => if n ≤ j + 2 ^ k * (2 * (W j / 2 ^ k / 2)) + 2 ^ k + m then j + 2 ^ k * (W j / 2 ^ k) else j + 2 ^ k * (2 * (W j / 2 ^ k / 2))) (nw_sd w b n (2 ^ k) m L) := by
    intro m
    induction m with
    | zero =>
      intro _
      refine hH.to (fun j hj => ?_)
      rw [hB]
      split
      · rename_i h0
        by_cases hbit : W j / 2 ^ k % 2 = 0
        · rw [heven j hbit]
        · have := hodd j hbit
          have := hWle j
          have := hN j hj
          omega
      · rfl
    | succ m ih =>
      intro hm
      have ihm := ih (by omega)
      generalize hL1 : nw_sd w b n (2 ^ k) m L = L1 at ihm
      have hstep : nw_sd w b n (2 ^ k) (m + 1) L = if w (L1 (b + (n - 1 - m - 2 ^ k))) &&& 2 ^ k = 0 then L1 else nw_sw (b + (n - 1 - m - 2 ^ k)) (b + (n - 1 - m)) L1 := by rw [← hL1]; rfl
      by_cases hex : ∃ j, j < r ∧ j + 2 ^ k * (2 * (W j / 2 ^ k / 2)) = n - 1 - m - 2 ^ k
      · obtain ⟨j0, hj0, hp0⟩ := hex
        have hrow : L1 (b + (n - 1 - m - 2 ^ k)) = R j0 := by
          have := ihm.1 j0 hj0
          dsimp only at this
          rw [if_neg (by omega), hp0] at this
          exact this
        have hothers : ∀ j, j < r → j ≠ j0 → ¬ (j + 2 ^ k * (2 * (W j / 2 ^ k / 2)) = n - 1 - m - 2 ^ k) := by
          intro j hj hne he
          rcases Nat.lt_or_gt_of_ne hne with q | q
          · have := nw_add_lt (D := 2 ^ k) q (show 2 * (W j / 2 ^ k / 2) ≤ 2 * (W j0 / 2 ^ k / 2) by have := hq j j0 q hj0; omega); omega
          · have := nw_add_lt (D := 2 ^ k) q (show 2 * (W j0 / 2 ^ k / 2) ≤ 2 * (W j / 2 ^ k / 2) by have := hq j0 j q hj; omega); omega
        rw [hstep, hrow, hR j0 hj0]
        by_cases hbit : W j0 / 2 ^ k % 2 = 0
        · rw [if_pos (nw_bit0.mpr hbit)]
          refine ihm.to (fun j hj => ?_)
          by_cases hjj : j = j0
          · subst hjj
            rw [if_pos (by omega), if_neg (by omega), heven j hbit]
          · have := hothers j hj hjj
            by_cases hlt : n ≤ j + 2 ^ k * (2 * (W j / 2 ^ k / 2)) + 2 ^ k + m
            · rw [if_pos hlt, if_pos (by omega)]
            · rw [if_neg hlt, if_neg (by omega)]
        · rw [if_neg (fun q => hbit (nw_bit0.mp q))]
          have ho := hodd j0 hbit
          refine ihm.mv (j0 := j0) (x := n - 1 - m - 2 ^ k) (y := n - 1 - m) hj0 (by (try dsimp only); rw [if_neg (by omega), hp0]) (by omega) (by omega) (fun j hj he => ?_) (nw_inj (fun i j hij hj => ?_)) (fun j hj => ?_) (nw_sw_l _ _ _) (nw_sw_r _ _ _) (fun i h1 h2 => nw_sw_n _ (by omega) (by omega))
          · try dsimp only at he
            by_cases hjj : j = j0
            · subst hjj
              rw [if_neg (by omega)] at he
              omega
            · split at he
              · rcases Nat.lt_or_gt_of_ne hjj with q | q
                · have := nw_add_lt (D := 2 ^ k) q (hq j j0 q hj0); omega
                · have := nw_add_lt (D := 2 ^ k) q (hq j0 j q hj); omega
              · omega
          · try dsimp only
            have a1 := nw_add_lt (D := 2 ^ k) hij (hq i j hij hj)
            have a2 := nw_add_lt (D := 2 ^ k) hij (show 2 * (W i / 2 ^ k / 2) ≤ 2 * (W j / 2 ^ k / 2) by have := hq i j hij hj; omega)
            have a3 := hle j
            split <;> split <;> omega
          · try dsimp only
            by_cases hjj : j = j0
            · subst hjj
              rw [if_pos rfl, if_pos (by omega)]
              omega
            · have := hothers j hj hjj
              rw [if_neg hjj]
              by_cases hlt : n ≤ j + 2 ^ k * (2 * (W j / 2 ^ k / 2)) + 2 ^ k + m
              · rw [if_pos hlt, if_pos (by omega)]
              · rw [if_neg hlt, if_neg (by omega)]
      · have hdd : dead (L1 (b + (n - 1 - m - 2 ^ k))) := by
          refine ihm.2 _ (by omega) (fun j hj he => ?_)
          dsimp only at he
          split at he
          · have := hle j; omega
          · exact hex ⟨j, hj, he⟩
        rw [hstep, hdead _ hdd, Nat.zero_and, if_pos rfl]
        refine ihm.to (fun j hj => ?_)
        have : ¬ (j + 2 ^ k * (2 * (W j / 2 ^ k / 2)) = n - 1 - m - 2 ^ k) := fun q => hex ⟨j, hj, q⟩
        by_cases hlt : n ≤ j + 2 ^ k * (2 * (W j / 2 ^ k / 2)) + 2 ^ k + m
        · rw [if_pos hlt, if_pos (by omega)]
        · rw [if_neg hlt, if_neg (by omega)]
  refine (key (n - 2 ^ k) (Nat.le_refl _)).to (fun j hj => ?_)
  have h1 := hN j hj
  have h2 := hWle j
  try dsimp only
  by_cases hn : 2 ^ k ≤ n
  · rw [if_pos (by omega)]
  · split
    · rfl
    · have hz : W j / 2 ^ k = 0 := Nat.div_eq_of_lt (by omega)
      rw [hz]
/-- a spread brings R j from place j to place j + W j -/
theorem nw_sds_H {w : α → Nat} {W : Nat → Nat} {n : Nat} (hR : ∀ j, j < r → w (R j) = W j) (hdead : ∀ x, dead x → w x = 0) (hmono : ∀ i j, i ≤ j → j < r → W i ≤ W j) (hN : ∀ j, j < r → j + W j < n) : ∀ (k : Nat) (L : Nat → α), nw_H b n r R dead (fun j => j + 2 ^ k * (W j / 2 ^ k)) L → nw_H b n r R dead (fun j => j + W j) (nw_sds w b n k L)
  | 0, L, hH => hH.to (fun j _ => by simp)
  | k + 1, L, hH => nw_sds_H hR hdead hmono hN k _ (nw_sd_H hR hdead hmono hN hH)
theorem nw_spread {w : α → Nat} {W : Nat → Nat} {n k : Nat} (hR : ∀ j, j < r → w (R j) = W j) (hdead : ∀ x, dead x → w x = 0) (hmono : ∀ i j, i ≤ j → j < r → W i ≤ W j) (hN : ∀ j, j < r → j + W j < n) (hk : n ≤ 2 ^ k) (hH : nw_H b n r R dead (fun j => j) L) : nw_H b n r R dead (fun j => j + W j) (nw_sds w b n k L) := by
  refine nw_sds_H hR hdead hmono hN k L (hH.to (fun j hj => ?_))
  have := hN j hj
  rw [Nat.div_eq_of_lt (by omega)]
  rfl
end NWH
end
section
/-! Why the joined rows are the pairs: the left side's copies G, the right side's copies S with the numbers of their copies, sorted by (key, number). -/
abbrev jn_L : Type := Int32 × Nat
def jn_le (x y : jn_L) : Prop := x.1 < y.1 ∨ (x.1 = y.1 ∧ x.2 ≤ y.2)
def jn_ct {α : Type} (k : α → Int32) (l : List α) (q : Int32) : Nat := (l.filter (fun a => k a == q)).length
/-- each row's key, and its number among its key's rows -/
def jn_lab {α : Type} (k : α → Int32) : (Int32 → Nat) → List α → List jn_L
  | _, [] => []
  | f, a :: l => (k a, f (k a)) :: jn_lab k (fun q => if q = k a then f q + 1 else f q) l
section JN
variable {α β γ : Type} {k : α → Int32}
theorem jn_ct_cons (a : α) (l : List α) (q : Int32) : jn_ct k (a :: l) q = (if q = k a then 1 else 0) + jn_ct k l q := by
  unfold jn_ct
  by_cases h : q = k a
  · subst h; simp; omega
  · have : (k a == q) = false := by simpa using fun e => h e.symm
    simp [List.filter_cons, this, h]
theorem jn_lab_count : ∀ (l : List α) (f : Int32 → Nat) (q : Int32) (c : Nat), (jn_lab k f l).count (q, c) = if f q ≤ c ∧ c < f q + jn_ct k l q then 1 else 0
  | [], f, q, c => by
    show ([] : List jn_L).count (q, c) = if f q ≤ c ∧ c < f q + 0 then 1 else 0
    rw [if_neg (by omega)]
    rfl
  | a :: l, f, q, c => by
    rw [jn_lab, List.count_cons, jn_lab_count l, jn_ct_cons]
    by_cases h : q = k a
    · subst h
      by_cases h2 : f (k a) = c
      · subst h2
        simp
        rw [if_neg (by omega), if_pos (by omega)]
      · have : ((k a, f (k a)) == (k a, c)) = false := by simpa using h2
        rw [this]
        have e : (f (k a) + 1 ≤ c ∧ c < f (k a) + 1 + jn_ct k l (k a)) ↔ (f (k a) ≤ c ∧ c < f (k a) + (1 + jn_ct k l (k a))) := by omega
        simp only [if_true, e, Bool.false_eq_true, if_false, Nat.add_zero]
    · have : ((k a, f (k a)) == (q, c)) = false := by simpa using fun e => absurd e.symm h
      rw [this]
      simp [h]
theorem jn_lab_mem : ∀ (l : List α) (f : Int32 → Nat) (x : jn_L), x ∈ jn_lab k f l → f x.1 ≤ x.2 ∧ ∃ b ∈ l, k b = x.1
  | [], f, x, h => by cases h
  | a :: l, f, x, h => by
    rw [jn_lab] at h
    rcases List.mem_cons.mp h with rfl | h
    · exact ⟨Nat.le_refl _, a, List.mem_cons_self, rfl⟩
    · obtain ⟨h1, b, hb, hk⟩ := jn_lab_mem l _ x h
      refine ⟨?_, b, List.mem_cons_of_mem _ hb, hk⟩
      try dsimp only at h1
      split at h1 <;> omega
theorem jn_lab_sorted : ∀ (l : List α) (f : Int32 → Nat), l.Pairwise (fun a b => k a ≤ k b) → (jn_lab k f l).Pairwise jn_le
  | [], f, _ => by rw [jn_lab]; exact List.Pairwise.nil
  | a :: l, f, h => by
    rw [jn_lab]
    rw [List.pairwise_cons] at h ⊢
    refine ⟨fun x hx => ?_, jn_lab_sorted l _ h.2⟩
    obtain ⟨h1, b, hb, hk⟩ := jn_lab_mem l _ x hx
    have h2 := h.1 b hb
    rw [hk] at h2
    try dsimp only at h1
    by_cases he : k a = x.1
    · refine Or.inr ⟨he, ?_⟩
      rw [if_pos he.symm] at h1
      rw [he]
      omega
    · exact Or.inl (Int32.lt_of_le_of_ne h2 he)
/-- what the labels name -/
theorem jn_lab_get : ∀ (l pre : List α) (f : Int32 → Nat), (∀ q, f q = jn_ct k pre q) → (jn_lab k f l).map (fun x => (x.1, ((pre ++ l).filter (fun a => k a == x.1))[x.2]?)) = l.map (fun a => (k a, some a))
  | [], pre, f, hf => rfl
  | a :: l, pre, f, hf => by
    rw [jn_lab, List.map_cons, List.map_cons]
    have e : pre ++ a :: l = (pre ++ [a]) ++ l := by simp
    congr 1
    · rw [List.filter_append, List.filter_cons, if_pos (by simp), hf]
      simp [jn_ct]
    · rw [e]
      refine jn_lab_get l (pre ++ [a]) _ (fun q => ?_)
      unfold jn_ct
      rw [List.filter_append, List.length_append]
      by_cases h : q = k a
      · subst h
        simp [hf, jn_ct]
      · have : (k a == q) = false := by simpa using fun e => h e.symm
        simp [h, hf, jn_ct, List.filter_cons, this]
theorem jn_count_rep (R : Int32 → Nat) (q : Int32) (c : Nat) : ∀ l : List jn_L, (l.flatMap (fun x => List.replicate (R x.1) x)).count (q, c) = l.count (q, c) * R q
  | [] => by simp
  | x :: l => by
    rw [List.flatMap_cons, List.count_append, jn_count_rep R q c l, List.count_cons, List.count_replicate]
    by_cases h : x = (q, c)
    · subst h
      simp [Nat.add_mul]
      omega
    · have : (x == (q, c)) = false := by simpa using h
      simp [this]
theorem jn_count_range (q : Int32) (n : Nat) (r : Int32) (c : Nat) : ((List.range n).map (fun c => (r, c))).count (q, c) = if r = q ∧ c < n then 1 else 0 := by
  induction n with
  | zero => simp
  | succ n ih =>
    rw [List.range_succ, List.map_append, List.count_append, ih]
    by_cases h : r = q
    · subst h
      by_cases h2 : n = c
      · subst h2; simp
      · have : ((r, n) == (r, c)) = false := by simpa using h2
        have e : c < n ↔ c < n + 1 := by omega
        simp [List.count_cons, this, e]
    · have : ((r, n) == (q, c)) = false := by simpa using fun e => absurd e h
      simp [List.count_cons, this, h]
theorem jn_count_S (kB : β → Int32) (Lf : Int32 → Nat) (q : Int32) (c : Nat) : ∀ B : List β, ((B.flatMap (fun r => (List.range (Lf (kB r))).map (fun c => (r, c)))).map (fun s => (kB s.1, s.2))).count (q, c) = if c < Lf q then jn_ct kB B q else 0
  | [] => by simp [jn_ct]
  | r :: B => by
    rw [List.flatMap_cons, List.map_append, List.count_append, jn_count_S kB Lf q c B, List.map_map, jn_ct_cons]
    have e : ((List.range (Lf (kB r))).map ((fun s : β × Nat => (kB s.1, s.2)) ∘ fun c => (r, c))) = (List.range (Lf (kB r))).map (fun c => (kB r, c)) := rfl
    rw [e, jn_count_range]
    by_cases h : kB r = q
    · subst h
      by_cases h2 : c < Lf (kB r) <;> simp [h2]
    · have h' : ¬ q = kB r := fun e => h e.symm
      simp [h, h']
theorem jn_le_trans {x y z : jn_L} (h1 : jn_le x y) (h2 : jn_le y z) : jn_le x z := by
  unfold jn_le at *
  rcases h1 with h1 | ⟨h1, h1'⟩ <;> rcases h2 with h2 | ⟨h2, h2'⟩
  · exact Or.inl (Int32.lt_trans h1 h2)
  · exact Or.inl (h2 ▸ h1)
  · exact Or.inl (h1 ▸ h2)
  · exact Or.inr ⟨h1.trans h2, by omega⟩
theorem jn_rep_sorted (R : Int32 → Nat) : ∀ l : List jn_L, l.Pairwise jn_le → (l.flatMap (fun x => List.replicate (R x.1) x)).Pairwise jn_le
  | [], _ => by simp
  | x :: l, h => by
    rw [List.pairwise_cons] at h
    rw [List.flatMap_cons, List.pairwise_append]
    refine ⟨?_, jn_rep_sorted R l h.2, fun a ha b hb => ?_⟩
    · rw [List.pairwise_replicate]
      exact Or.inr (Or.inr ⟨rfl, Nat.le_refl _⟩)
    · rw [List.eq_of_mem_replicate ha]
      obtain ⟨y, hy, hb⟩ := List.mem_flatMap.mp hb
      rw [List.eq_of_mem_replicate hb]
      exact h.1 y hy
/-- the join: left rows A in the order of their keys, as often as they have partners, beside the right rows' copies S' sorted by key and number -/
theorem jn_pairs {kB : β → Int32} (f : α → β → γ) {A : List α} {B : List β} {S' : List (β × Nat)} (hA : A.Pairwise (fun a b => k a ≤ k b)) (hp : S'.Perm (B.flatMap (fun r => (List.range (jn_ct k A (kB r))).map (fun c => (r, c))))) (hs : (S'.map (fun s => (kB s.1, s.2))).Pairwise jn_le) :
    (List.zipWith (fun a s => f a s.1) (A.flatMap (fun a => List.replicate (jn_ct kB B (k a)) a)) S').Perm (B.flatMap (fun r => (A.filter (fun a => k a == kB r)).map (fun a => f a r))) := by
  have hK : S'.map (fun s => (kB s.1, s.2)) = (jn_lab k (fun _ => 0) A).flatMap (fun x => List.replicate (jn_ct kB B x.1) x) := by
    refine List.Perm.eq_of_pairwise (le := jn_le) (fun a b _ _ h1 h2 => ?_) hs (jn_rep_sorted _ _ (jn_lab_sorted A _ hA)) ((hp.map _).trans (List.perm_iff_count.mpr (fun x => ?_)))
    · rcases h1 with h1 | ⟨h1, h1'⟩ <;> rcases h2 with h2 | ⟨h2, h2'⟩
      · exact absurd (Int32.lt_trans h1 h2) (Int32.lt_irrefl)
      · rw [h2] at h1; exact absurd h1 Int32.lt_irrefl
      · rw [h1] at h2; exact absurd h2 Int32.lt_irrefl
      · exact Prod.ext h1 (by omega)
    · obtain ⟨q, c⟩ := x
      rw [jn_count_S, jn_count_rep, jn_lab_count]
      simp only [Nat.zero_le, true_and, Nat.zero_add]
      split <;> simp
  have hG : (A.flatMap (fun a => List.replicate (jn_ct kB B (k a)) a)).map some = S'.map (fun s => (A.filter (fun a => k a == kB s.1))[s.2]?) := by
    have h1 := jn_lab_get (k := k) A [] (fun _ => 0) (fun q => by simp [jn_ct])
    have h2 := congrArg (fun l => l.flatMap (fun y : Int32 × Option α => List.replicate (jn_ct kB B y.1) y.2)) h1
    simp only [List.flatMap_map, List.nil_append] at h2
    have h3 : (A.flatMap (fun a => List.replicate (jn_ct kB B (k a)) a)).map some = A.flatMap (fun a => List.replicate (jn_ct kB B (k a)) (some a)) := by
      rw [List.map_flatMap]; simp
    have h4 : S'.map (fun s => (A.filter (fun a => k a == kB s.1))[s.2]?) = (S'.map (fun s => (kB s.1, s.2))).map (fun x => (A.filter (fun a => k a == x.1))[x.2]?) := by
      rw [List.map_map]; rfl
    rw [h3, h4, hK, List.map_flatMap, ← h2]
    simp
  have hz : (List.zipWith (fun a s => f a s.1) (A.flatMap (fun a => List.replicate (jn_ct kB B (k a)) a)) S').map some = S'.map (fun s => ((A.filter (fun a => k a == kB s.1))[s.2]?).map (fun a => f a s.1)) := by
    have e1 : (List.zipWith (fun a s => f a s.1) (A.flatMap (fun a => List.replicate (jn_ct kB B (k a)) a)) S').map some = List.zipWith (fun (o : Option α) (s : β × Nat) => o.map (fun a => f a s.1)) ((A.flatMap (fun a => List.replicate (jn_ct kB B (k a)) a)).map some) S' := by
      rw [List.map_zipWith, List.zipWith_map_left]; rfl
    rw [e1, hG, List.zipWith_map_left, List.zipWith_self]
  have hfin : (List.zipWith (fun a s => f a s.1) (A.flatMap (fun a => List.replicate (jn_ct kB B (k a)) a)) S').map some |>.Perm ((B.flatMap (fun r => (A.filter (fun a => k a == kB r)).map (fun a => f a r))).map some) := by
    rw [hz]
    refine (hp.map _).trans (List.Perm.of_eq ?_)
    rw [List.map_flatMap, List.map_flatMap]
    congr 1
    funext r
    rw [List.map_map, List.map_map]
    apply List.ext_getElem?
    intro i
    rw [List.getElem?_map, List.getElem?_map]
    unfold jn_ct
    by_cases hi : i < (A.filter (fun a => k a == kB r)).length
    · rw [List.getElem?_range hi, List.getElem?_eq_getElem hi]
      simp [hi]
    · rw [List.getElem?_eq_none (by simpa using hi), List.getElem?_eq_none (by simpa using hi)]
      rfl
  have := hfin.filterMap id
  have e : (id ∘ some : γ → Option γ) = some := rfl
  rw [List.filterMap_map, List.filterMap_map, e, List.filterMap_some, List.filterMap_some] at this
  exact this
end JN
end
section
/-! What a network keeps: rows in the places b .. b + n - 1 only change places; squeezing brings the marked ones to the front. -/
def nw_ls {α : Type} (b n : Nat) (L : Nat → α) : List α := (List.range n).map (fun i => L (b + i))
theorem nw_ls_len {α : Type} (b n : Nat) (L : Nat → α) : (nw_ls b n L).length = n := by simp [nw_ls]
theorem nw_ls_get {α : Type} {b n i : Nat} (L : Nat → α) (h : i < n) : (nw_ls b n L)[i]? = some (L (b + i)) := by
  simp [nw_ls, List.getElem?_map, List.getElem?_range h]
theorem nw_ls_succ {α : Type} (b n : Nat) (L : Nat → α) : nw_ls b (n + 1) L = nw_ls b n L ++ [L (b + n)] := by
  simp [nw_ls, List.range_succ]
theorem nw_ls_congr {α : Type} {b n : Nat} {L L' : Nat → α} (h : ∀ i, i < n → L (b + i) = L' (b + i)) : nw_ls b n L = nw_ls b n L' := by
  unfold nw_ls
  exact List.map_congr_left (fun i hi => h i (List.mem_range.mp hi))
theorem nw_ls_mem {α : Type} {b n : Nat} {L : Nat → α} {x : α} : x ∈ nw_ls b n L ↔ ∃ i, i < n ∧ L (b + i) = x := by
  simp [nw_ls]
def nw_Pm {α : Type} (b n : Nat) (L L' : Nat → α) : Prop := (nw_ls b n L').Perm (nw_ls b n L) ∧ ∀ k, (k < b ∨ b + n ≤ k) → L' k = L k
section NWP
variable {α : Type} {b n : Nat} {L L' L'' : Nat → α}
theorem nw_Pm.rf : nw_Pm b n L L := ⟨List.Perm.refl _, fun _ _ => rfl⟩
theorem nw_Pm.tr (h1 : nw_Pm b n L L') (h2 : nw_Pm b n L' L'') : nw_Pm b n L L'' := ⟨h2.1.trans h1.1, fun k hk => (h2.2 k hk).trans (h1.2 k hk)⟩
theorem nw_Pm.sw {i j : Nat} (hi : i < n) (hj : j < n) : nw_Pm b n L (nw_sw (b + i) (b + j) L) := by
  constructor
  · have hl : (nw_ls b n L).length = n := nw_ls_len b n L
    have hI : i < (nw_ls b n L).length := by omega
    have hJ : j < (nw_ls b n L).length := by omega
    have hgi : (nw_ls b n L)[i] = L (b + i) := by
      have := nw_ls_get (b := b) L hi
      rw [List.getElem?_eq_getElem hI] at this
      exact Option.some.inj this
    have hgj : (nw_ls b n L)[j] = L (b + j) := by
      have := nw_ls_get (b := b) L hj
      rw [List.getElem?_eq_getElem hJ] at this
      exact Option.some.inj this
    have e : nw_ls b n (nw_sw (b + i) (b + j) L) = ((nw_ls b n L).set i (nw_ls b n L)[j]).set j (nw_ls b n L)[i] := by
      apply List.ext_getElem?
      intro k
      rw [hgi, hgj]
      by_cases hk : k < n
      · rw [nw_ls_get _ hk, List.getElem?_set, List.getElem?_set]
        simp only [List.length_set, hl, nw_ls_get _ hk, nw_sw]
        by_cases h1 : k = i
        · subst h1
          by_cases h2 : j = k
          · subst h2; simp [hk]
          · simp [hk, h2]
        · by_cases h2 : k = j
          · subst h2
            simp [hk, h1]
          · have h3 : ¬ j = k := fun z => h2 z.symm
            have h4 : ¬ i = k := fun z => h1 z.symm
            simp [h1, h2, h3, h4]
      · rw [List.getElem?_eq_none (by rw [nw_ls_len]; omega), List.getElem?_eq_none (by simp [hl]; omega)]
    rw [e]
    exact List.set_set_perm hI hJ
  · intro k hk
    simp only [nw_sw]
    rw [if_neg (by omega), if_neg (by omega)]
theorem nw_Pm.cx {lt : α → α → Bool} {i j : Nat} (hi : i < n) (hj : j < n) : nw_Pm b n L (nw_cx lt (b + i) (b + j) L) := by
  unfold nw_cx
  split
  · exact nw_Pm.sw hi hj
  · exact nw_Pm.rf
theorem nw_Pm.ps {lt : α → α → Bool} {p r d : Nat} : ∀ m, m + d ≤ n → nw_Pm b n L (nw_ps lt b p r d m L)
  | 0, _ => nw_Pm.rf
  | m + 1, h => by
    unfold nw_ps
    split
    · refine (nw_Pm.ps (lt := lt) (p := p) (r := r) (d := d) m (by omega)).tr ?_
      rw [Nat.add_assoc]
      exact nw_Pm.cx (by omega) (by omega)
    · exact nw_Pm.ps (d := d) m (by omega)
theorem nw_Pm.in_ {lt : α → α → Bool} {u : Nat} : ∀ (k : Nat) (L : Nat → α), 2 ^ (u + k) < n + 2 ^ u → nw_Pm b n L (nw_in lt b n u k L)
  | 0, L, _ => nw_Pm.rf
  | k + 1, L, h => by
    unfold nw_in
    have h1 : 2 ^ (u + k) ≤ 2 ^ (u + k + 1) := Nat.pow_le_pow_right (by omega) (by omega)
    have h2 : u + (k + 1) = u + k + 1 := by omega
    rw [h2] at h
    exact (nw_Pm.ps _ (by omega)).tr (nw_Pm.in_ k _ (by omega))
theorem nw_Pm.out {lt : α → α → Bool} {t : Nat} (ht : 2 ^ t < n) : ∀ (k : Nat) (L : Nat → α), k ≤ t + 1 → nw_Pm b n L (nw_out lt b n t k L)
  | 0, L, _ => nw_Pm.rf
  | k + 1, L, h => by
    unfold nw_out
    have h1 : 2 ^ k ≤ 2 ^ t := Nat.pow_le_pow_right (by omega) (by omega)
    refine (nw_Pm.ps _ (by omega)).tr ((nw_Pm.in_ _ _ ?_).tr (nw_Pm.out ht k _ (by omega)))
    rw [show k + (t - k) = t by omega]
    have := Nat.two_pow_pos k
    omega
theorem nw_Pm.sq {w : α → Nat} {d : Nat} : ∀ m, m + d ≤ n → nw_Pm b n L (nw_sq w b d m L)
  | 0, _ => nw_Pm.rf
  | m + 1, h => by
    unfold nw_sq
    split
    · exact nw_Pm.sq m (by omega)
    · exact (nw_Pm.sq m (by omega)).tr (nw_Pm.sw (by omega) (by omega))
theorem nw_Pm.sqs {w : α → Nat} : ∀ k, (∀ j, j < k → 2 ^ j ≤ n) → nw_Pm b n L (nw_sqs w b n k L)
  | 0, _ => nw_Pm.rf
  | k + 1, h => by
    unfold nw_sqs
    have := h k (by omega)
    exact (nw_Pm.sqs k (fun j hj => h j (by omega))).tr (nw_Pm.sq _ (by omega))
end NWP
/-! the marked places, in their order -/
def nw_mk (live : Nat → Bool) (n : Nat) : List Nat := (List.range n).filter live
theorem nw_mk_succ (live : Nat → Bool) (n : Nat) : nw_mk live (n + 1) = nw_mk live n ++ (if live n = true then [n] else []) := by
  unfold nw_mk
  rw [List.range_succ, List.filter_append]
  congr 1
  by_cases h : live n = true <;> simp [h]
theorem nw_mk_le (live : Nat → Bool) (n : Nat) : (nw_mk live n).length ≤ n := by
  have := List.length_filter_le live (List.range n)
  rw [List.length_range] at this
  exact this
theorem nw_mk_mem {live : Nat → Bool} {n p : Nat} : p ∈ nw_mk live n ↔ p < n ∧ live p = true := by
  unfold nw_mk
  rw [List.mem_filter, List.mem_range]
/-- the j-th marked place: marked, below n, with j marked ones ahead of it -/
theorem nw_mk_get (live : Nat → Bool) : ∀ (n j : Nat) (p : Nat), (nw_mk live n)[j]? = some p → p < n ∧ live p = true ∧ (nw_mk live p).length = j
  | 0, j, p, h => by simp [nw_mk] at h
  | n + 1, j, p, h => by
    rw [nw_mk_succ] at h
    by_cases hj : j < (nw_mk live n).length
    · rw [List.getElem?_append_left hj] at h
      obtain ⟨h1, h2, h3⟩ := nw_mk_get live n j p h
      exact ⟨by omega, h2, h3⟩
    · rw [List.getElem?_append_right (by omega)] at h
      by_cases hl : live n = true
      · rw [if_pos hl] at h
        have hlt := (List.getElem?_eq_some_iff.mp h).1
        rw [List.length_singleton] at hlt
        have h0 : j - (nw_mk live n).length = 0 := by omega
        rw [h0] at h
        cases h
        exact ⟨by omega, hl, by omega⟩
      · rw [if_neg hl] at h
        simp at h
theorem nw_mk_lt (live : Nat → Bool) {n i j p q : Nat} (hij : i < j) (hi : (nw_mk live n)[i]? = some p) (hj : (nw_mk live n)[j]? = some q) : p < q := by
  have hp : (nw_mk live n).Pairwise (· < ·) := List.Pairwise.filter live List.pairwise_lt_range
  have h1 := (List.getElem?_eq_some_iff.mp hi)
  have h2 := (List.getElem?_eq_some_iff.mp hj)
  have := List.pairwise_iff_getElem.mp hp i j h1.1 h2.1 hij
  rw [h1.2, h2.2] at this
  exact this
/-- squeezing: the row at the j-th marked place comes to place j; behind them all are dead -/
theorem nw_sq_rows {α : Type} {w : α → Nat} {dead : α → Prop} {b n k : Nat} {L : Nat → α} {live : Nat → Bool} (hk : n ≤ 2 ^ k) (hd0 : ∀ x, dead x → w x = 0)
    (hl : ∀ p, p < n → live p = true → w (L (b + p)) = p - (nw_mk live p).length) (hd : ∀ p, p < n → live p = false → dead (L (b + p))) :
    (∀ j p, (nw_mk live n)[j]? = some p → nw_sqs w b n k L (b + j) = L (b + p)) ∧ ∀ i, i < n → (nw_mk live n).length ≤ i → dead (nw_sqs w b n k L (b + i)) := by
  obtain ⟨pos, hpos⟩ : ∃ f : Nat → Nat, ∀ j, f j = (nw_mk live n).getD j 0 := ⟨_, fun _ => rfl⟩
  have hget : ∀ j, j < (nw_mk live n).length → (nw_mk live n)[j]? = some (pos j) := fun j hj => by
    rw [hpos, List.getD_eq_getElem?_getD, List.getElem?_eq_getElem hj]
    rfl
  have hge : ∀ j, j < (nw_mk live n).length → j ≤ pos j := fun j hj => by
    have h3 := (nw_mk_get live n j _ (hget j hj)).2.2
    have := nw_mk_le live (pos j)
    omega
  have hstep : ∀ i j, i ≤ j → j < (nw_mk live n).length → pos i - i ≤ pos j - j := by
    intro i j hij
    induction j with
    | zero => intro _; have : i = 0 := by omega
              subst this; exact Nat.le_refl _
    | succ j ih =>
      intro hj
      by_cases h : i = j + 1
      · subst h; exact Nat.le_refl _
      · have h1 := ih (by omega) (by omega)
        have h2 := nw_mk_lt live (n := n) (i := j) (j := j + 1) (by omega) (hget j (by omega)) (hget (j + 1) hj)
        have h3 := hge j (by omega)
        omega
  have hH : nw_H b n (nw_mk live n).length (fun j => L (b + pos j)) dead (fun j => j + (pos j - j)) L := by
    constructor
    · intro j hj
      have := hge j hj
      show L (b + (j + (pos j - j))) = _
      rw [show j + (pos j - j) = pos j by omega]
    · intro i hi hno
      refine hd i hi ?_
      cases hv : live i with
      | false => rfl
      | true =>
        exfalso
        obtain ⟨j, hj⟩ := List.mem_iff_getElem?.mp (nw_mk_mem.mpr ⟨hi, hv⟩ : i ∈ nw_mk live n)
        have hjl : j < (nw_mk live n).length := (List.getElem?_eq_some_iff.mp hj).1
        have e := (hget j hjl).symm.trans hj
        have e := Option.some.inj e
        have := hge j hjl
        exact hno j hjl (by show j + (pos j - j) = i; omega)
  have hr := nw_squeeze (w := w) (W := fun j => pos j - j) (k := k) (fun j hj => ?_) hd0 hstep (fun j hj => ?_) hk hH
  · constructor
    · intro j p hp
      have hjl : j < (nw_mk live n).length := (List.getElem?_eq_some_iff.mp hp).1
      have e := Option.some.inj ((hget j hjl).symm.trans hp)
      have : nw_sqs w b n k L (b + j) = L (b + pos j) := hr.1 j hjl
      rw [e] at this
      exact this
    · intro i hi hle
      exact hr.2 i hi (fun j hj => by show j ≠ i; omega)
  · have h3 := nw_mk_get live n j _ (hget j hj)
    show w (L (b + pos j)) = pos j - j
    rw [hl _ h3.1 h3.2.1, h3.2.2]
  · have h3 := nw_mk_get live n j _ (hget j hj)
    have := hge j hj
    show j + (pos j - j) < n
    omega
end
section
/-! Names: fields, methods; printed by program. -/
def RX0 : String := "BlindTables$Bag"
def TX0 : u_T := fun k => match k with
  | 0 => ("BlindTables$Bag", "first", "[I", true)
  | 1 => ("BlindTables$Bag", "second", "[I", true)
  | 2 => ("BlindTables$Bag", "third", "[I", true)
  | _ => ("BlindTables$Bag", "count", "I", false)
def tyX0 : Nat → FieldType := fun k => match k with
  | 0 => .array (.int)
  | 1 => .array (.int)
  | 2 => .array (.int)
  | _ => .int
theorem nmX0 : ∀ a, a < 4 → ∀ b, b < 4 → a ≠ b → (TX0 a).2.1 ≠ (TX0 b).2.1 := by decide +kernel
theorem tyX0_ok : ∀ k, k < 4 → parseFieldDescriptor (TX0 k).2.2.1 = some (tyX0 k) := by decide +kernel
theorem inX0 : ∀ w ∈ u_ws RX0 TX0 4, w ∈ gw := fun w hw => by
  obtain ⟨k, hk, rfl⟩ := List.mem_map.mp hw
  have hk := List.mem_range.mp hk
  rcases (show k = 0 ∨ k = 1 ∨ k = 2 ∨ k = 3 by omega) with rfl | rfl | rfl | rfl
  · exact (gw_1 (j := 36) rfl rfl)
  · exact (gw_1 (j := 38) rfl rfl)
  · exact (gw_1 (j := 40) rfl rfl)
  · exact (gw_1 (j := 42) rfl rfl)
def RX1 : String := "BlindTables$Joiner"
def TX1 : u_T := fun k => match k with
  | 0 => ("BlindTables$Joiner", "store", "LBlindTables$Store;", true)
  | _ => ("BlindTables$Joiner", "source", "LBlindTables$Row;", true)
def tyX1 : Nat → FieldType := fun k => match k with
  | 0 => .object "BlindTables$Store"
  | _ => .object "BlindTables$Row"
theorem nmX1 : ∀ a, a < 2 → ∀ b, b < 2 → a ≠ b → (TX1 a).2.1 ≠ (TX1 b).2.1 := by decide +kernel
theorem tyX1_ok : ∀ k, k < 2 → parseFieldDescriptor (TX1 k).2.2.1 = some (tyX1 k) := by decide +kernel
theorem inX1 : ∀ w ∈ u_ws RX1 TX1 2, w ∈ gw := fun w hw => by
  obtain ⟨k, hk, rfl⟩ := List.mem_map.mp hw
  have hk := List.mem_range.mp hk
  rcases (show k = 0 ∨ k = 1 by omega) with rfl | rfl
  · exact (gw_1 (j := 147) rfl rfl)
  · exact (gw_1 (j := 149) rfl rfl)
def RX2 : String := "BlindTables$Operators"
def TX2 : u_T := fun k => match k with
  | _ => ("BlindTables$Operators", "store", "LBlindTables$Store;", true)
def tyX2 : Nat → FieldType := fun k => match k with
  | _ => .object "BlindTables$Store"
theorem nmX2 : ∀ a, a < 1 → ∀ b, b < 1 → a ≠ b → (TX2 a).2.1 ≠ (TX2 b).2.1 := by decide +kernel
theorem tyX2_ok : ∀ k, k < 1 → parseFieldDescriptor (TX2 k).2.2.1 = some (tyX2 k) := by decide +kernel
theorem inX2 : ∀ w ∈ u_ws RX2 TX2 1, w ∈ gw := fun w hw => by
  obtain ⟨k, hk, rfl⟩ := List.mem_map.mp hw
  have hk := List.mem_range.mp hk
  rcases (show k = 0 by omega) with rfl
  · exact (gw_1 (j := 134) rfl rfl)
def RX3 : String := "BlindTables$Row"
def TX3 : u_T := fun k => match k with
  | 0 => ("BlindTables$Row", "a", "I", false)
  | 1 => ("BlindTables$Row", "b", "I", false)
  | 2 => ("BlindTables$Row", "c", "I", false)
  | 3 => ("BlindTables$Row", "key", "I", false)
  | 4 => ("BlindTables$Row", "side", "I", false)
  | 5 => ("BlindTables$Row", "lefts", "I", false)
  | 6 => ("BlindTables$Row", "rights", "I", false)
  | 7 => ("BlindTables$Row", "sortFirst", "I", false)
  | 8 => ("BlindTables$Row", "sortSecond", "I", false)
  | 9 => ("BlindTables$Row", "sortThird", "I", false)
  | 10 => ("BlindTables$Row", "live", "Z", false)
  | 11 => ("BlindTables$Row", "wayBack", "I", false)
  | _ => ("BlindTables$Row", "wayForth", "I", false)
def tyX3 : Nat → FieldType := fun k => match k with
  | 0 => .int
  | 1 => .int
  | 2 => .int
  | 3 => .int
  | 4 => .int
  | 5 => .int
  | 6 => .int
  | 7 => .int
  | 8 => .int
  | 9 => .int
  | 10 => .boolean
  | 11 => .int
  | _ => .int
theorem nmX3 : ∀ a, a < 13 → ∀ b, b < 13 → a ≠ b → (TX3 a).2.1 ≠ (TX3 b).2.1 := by decide +kernel
theorem tyX3_ok : ∀ k, k < 13 → parseFieldDescriptor (TX3 k).2.2.1 = some (tyX3 k) := by decide +kernel
theorem inX3 : ∀ w ∈ u_ws RX3 TX3 13, w ∈ gw := fun w hw => by
  obtain ⟨k, hk, rfl⟩ := List.mem_map.mp hw
  have hk := List.mem_range.mp hk
  rcases (show k = 0 ∨ k = 1 ∨ k = 2 ∨ k = 3 ∨ k = 4 ∨ k = 5 ∨ k = 6 ∨ k = 7 ∨ k = 8 ∨ k = 9 ∨ k = 10 ∨ k = 11 ∨ k = 12 by omega) with rfl | rfl | rfl | rfl | rfl | rfl | rfl | rfl | rfl | rfl | rfl | rfl | rfl
  · exact (gw_1 (j := 89) rfl rfl)
  · exact (gw_1 (j := 91) rfl rfl)
  · exact (gw_1 (j := 93) rfl rfl)
  · exact (gw_1 (j := 95) rfl rfl)
  · exact (gw_1 (j := 97) rfl rfl)
  · exact (gw_1 (j := 99) rfl rfl)
  · exact (gw_1 (j := 101) rfl rfl)
  · exact (gw_1 (j := 103) rfl rfl)
  · exact (gw_1 (j := 105) rfl rfl)
  · exact (gw_1 (j := 107) rfl rfl)
  · exact (gw_1 (j := 109) rfl rfl)
  · exact (gw_1 (j := 111) rfl rfl)
  · exact (gw_1 (j := 113) rfl rfl)
def RX4 : String := "BlindTables$Step"
def TX4 : u_T := fun k => match k with
  | 0 => ("BlindTables$Step", "kind", "I", false)
  | 1 => ("BlindTables$Step", "x", "I", false)
  | 2 => ("BlindTables$Step", "y", "I", false)
  | _ => ("BlindTables$Step", "z", "I", false)
def tyX4 : Nat → FieldType := fun k => match k with
  | 0 => .int
  | 1 => .int
  | 2 => .int
  | _ => .int
theorem nmX4 : ∀ a, a < 4 → ∀ b, b < 4 → a ≠ b → (TX4 a).2.1 ≠ (TX4 b).2.1 := by decide +kernel
theorem tyX4_ok : ∀ k, k < 4 → parseFieldDescriptor (TX4 k).2.2.1 = some (tyX4 k) := by decide +kernel
theorem inX4 : ∀ w ∈ u_ws RX4 TX4 4, w ∈ gw := fun w hw => by
  obtain ⟨k, hk, rfl⟩ := List.mem_map.mp hw
  have hk := List.mem_range.mp hk
  rcases (show k = 0 ∨ k = 1 ∨ k = 2 ∨ k = 3 by omega) with rfl | rfl | rfl | rfl
  · exact (gw_1 (j := 165) rfl rfl)
  · exact (gw_1 (j := 167) rfl rfl)
  · exact (gw_1 (j := 169) rfl rfl)
  · exact (gw_1 (j := 171) rfl rfl)
def RX5 : String := "BlindTables$Store"
def TX5 : u_T := fun k => match k with
  | 0 => ("BlindTables$Store", "places", "[LBlindTables$Row;", true)
  | 1 => ("BlindTables$Store", "trace", "[I", true)
  | _ => ("BlindTables$Store", "noted", "I", false)
def tyX5 : Nat → FieldType := fun k => match k with
  | 0 => .array (.object "BlindTables$Row")
  | 1 => .array (.int)
  | _ => .int
theorem nmX5 : ∀ a, a < 3 → ∀ b, b < 3 → a ≠ b → (TX5 a).2.1 ≠ (TX5 b).2.1 := by decide +kernel
theorem tyX5_ok : ∀ k, k < 3 → parseFieldDescriptor (TX5 k).2.2.1 = some (tyX5 k) := by decide +kernel
theorem inX5 : ∀ w ∈ u_ws RX5 TX5 3, w ∈ gw := fun w hw => by
  obtain ⟨k, hk, rfl⟩ := List.mem_map.mp hw
  have hk := List.mem_range.mp hk
  rcases (show k = 0 ∨ k = 1 ∨ k = 2 by omega) with rfl | rfl | rfl
  · exact (gw_1 (j := 120) rfl rfl)
  · exact (gw_1 (j := 122) rfl rfl)
  · exact (gw_1 (j := 124) rfl rfl)
def RX6 : String := "BlindTables"
def TX6 : u_T := fun k => match k with
  | 0 => ("BlindTables", "tables", "[LBlindTables$Bag;", true)
  | 1 => ("BlindTables", "steps", "[LBlindTables$Step;", true)
  | 2 => ("BlindTables", "puts", "LBlindTables$Bag;", true)
  | 3 => ("BlindTables", "drops", "LBlindTables$Bag;", true)
  | 4 => ("BlindTables", "result", "LBlindTables$Bag;", true)
  | 5 => ("BlindTables", "store", "LBlindTables$Store;", true)
  | 6 => ("BlindTables", "operators", "LBlindTables$Operators;", true)
  | 7 => ("BlindTables", "joiner", "LBlindTables$Joiner;", true)
  | 8 => ("BlindTables", "planTable", "I", false)
  | _ => ("BlindTables", "stepCount", "I", false)
def tyX6 : Nat → FieldType := fun k => match k with
  | 0 => .array (.object "BlindTables$Bag")
  | 1 => .array (.object "BlindTables$Step")
  | 2 => .object "BlindTables$Bag"
  | 3 => .object "BlindTables$Bag"
  | 4 => .object "BlindTables$Bag"
  | 5 => .object "BlindTables$Store"
  | 6 => .object "BlindTables$Operators"
  | 7 => .object "BlindTables$Joiner"
  | 8 => .int
  | _ => .int
theorem nmX6 : ∀ a, a < 10 → ∀ b, b < 10 → a ≠ b → (TX6 a).2.1 ≠ (TX6 b).2.1 := by decide +kernel
theorem tyX6_ok : ∀ k, k < 10 → parseFieldDescriptor (TX6 k).2.2.1 = some (tyX6 k) := by decide +kernel
theorem inX6 : ∀ w ∈ u_ws RX6 TX6 10, w ∈ gw := fun w hw => by
  obtain ⟨k, hk, rfl⟩ := List.mem_map.mp hw
  have hk := List.mem_range.mp hk
  rcases (show k = 0 ∨ k = 1 ∨ k = 2 ∨ k = 3 ∨ k = 4 ∨ k = 5 ∨ k = 6 ∨ k = 7 ∨ k = 8 ∨ k = 9 by omega) with rfl | rfl | rfl | rfl | rfl | rfl | rfl | rfl | rfl | rfl
  · exact (gw_1 (j := 184) rfl rfl)
  · exact (gw_1 (j := 186) rfl rfl)
  · exact (gw_1 (j := 188) rfl rfl)
  · exact (gw_1 (j := 190) rfl rfl)
  · exact (gw_1 (j := 192) rfl rfl)
  · exact (gw_1 (j := 194) rfl rfl)
  · exact (gw_1 (j := 196) rfl rfl)
  · exact (gw_1 (j := 198) rfl rfl)
  · exact (gw_1 (j := 200) rfl rfl)
  · exact (gw_1 (j := 202) rfl rfl)
def RX7 : String := "BlindTablesModel"
def TX7 : u_T := fun k => match k with
  | 0 => ("BlindTablesModel", "table", "[I", true)
  | 1 => ("BlindTablesModel", "many", "[I", true)
  | 2 => ("BlindTablesModel", "planned", "Z", false)
  | 3 => ("BlindTablesModel", "source", "I", false)
  | 4 => ("BlindTablesModel", "steps", "I", false)
  | 5 => ("BlindTablesModel", "kind", "[I", true)
  | 6 => ("BlindTablesModel", "one", "[I", true)
  | 7 => ("BlindTablesModel", "two", "[I", true)
  | 8 => ("BlindTablesModel", "three", "[I", true)
  | 9 => ("BlindTablesModel", "changes", "I", false)
  | 10 => ("BlindTablesModel", "drops", "[Z", true)
  | 11 => ("BlindTablesModel", "change", "[I", true)
  | 12 => ("BlindTablesModel", "row", "[I", true)
  | 13 => ("BlindTablesModel", "n", "I", false)
  | 14 => ("BlindTablesModel", "given", "[I", true)
  | 15 => ("BlindTablesModel", "m", "I", false)
  | 16 => ("BlindTablesModel", "result", "[I", true)
  | 17 => ("BlindTablesModel", "results", "I", false)
  | 18 => ("BlindTablesModel", "parts", "I", false)
  | 19 => ("BlindTablesModel", "partKind", "[I", true)
  | 20 => ("BlindTablesModel", "partRows", "[I", true)
  | 21 => ("BlindTablesModel", "partOther", "[I", true)
  | 22 => ("BlindTablesModel", "partGiven", "[I", true)
  | 23 => ("BlindTablesModel", "last", "I", false)
  | 24 => ("BlindTablesModel", "total", "I", false)
  | 25 => ("BlindTablesModel", "wanted", "I", false)
  | _ => ("BlindTablesModel", "found", "I", false)
def tyX7 : Nat → FieldType := fun k => match k with
  | 0 => .array (.int)
  | 1 => .array (.int)
  | 2 => .boolean
  | 3 => .int
  | 4 => .int
  | 5 => .array (.int)
  | 6 => .array (.int)
  | 7 => .array (.int)
  | 8 => .array (.int)
  | 9 => .int
  | 10 => .array (.boolean)
  | 11 => .array (.int)
  | 12 => .array (.int)
  | 13 => .int
  | 14 => .array (.int)
  | 15 => .int
  | 16 => .array (.int)
  | 17 => .int
  | 18 => .int
  | 19 => .array (.int)
  | 20 => .array (.int)
  | 21 => .array (.int)
  | 22 => .array (.int)
  | 23 => .int
  | 24 => .int
  | 25 => .int
  | _ => .int
theorem nmX7 : ∀ a, a < 27 → ∀ b, b < 27 → a ≠ b → (TX7 a).2.1 ≠ (TX7 b).2.1 := by decide +kernel
theorem tyX7_ok : ∀ k, k < 27 → parseFieldDescriptor (TX7 k).2.2.1 = some (tyX7 k) := by decide +kernel
theorem inX7 : ∀ w ∈ u_ws RX7 TX7 27, w ∈ gw := fun w hw => by
  obtain ⟨k, hk, rfl⟩ := List.mem_map.mp hw
  have hk := List.mem_range.mp hk
  rcases (show k = 0 ∨ k = 1 ∨ k = 2 ∨ k = 3 ∨ k = 4 ∨ k = 5 ∨ k = 6 ∨ k = 7 ∨ k = 8 ∨ k = 9 ∨ k = 10 ∨ k = 11 ∨ k = 12 ∨ k = 13 ∨ k = 14 ∨ k = 15 ∨ k = 16 ∨ k = 17 ∨ k = 18 ∨ k = 19 ∨ k = 20 ∨ k = 21 ∨ k = 22 ∨ k = 23 ∨ k = 24 ∨ k = 25 ∨ k = 26 by omega) with rfl | rfl | rfl | rfl | rfl | rfl | rfl | rfl | rfl | rfl | rfl | rfl | rfl | rfl | rfl | rfl | rfl | rfl | rfl | rfl | rfl | rfl | rfl | rfl | rfl | rfl | rfl
  · exact (gw_3 (j := 63) rfl rfl)
  · exact (gw_3 (j := 65) rfl rfl)
  · exact (gw_3 (j := 67) rfl rfl)
  · exact (gw_3 (j := 69) rfl rfl)
  · exact (gw_3 (j := 71) rfl rfl)
  · exact (gw_3 (j := 73) rfl rfl)
  · exact (gw_3 (j := 75) rfl rfl)
  · exact (gw_3 (j := 77) rfl rfl)
  · exact (gw_3 (j := 79) rfl rfl)
  · exact (gw_3 (j := 81) rfl rfl)
  · exact (gw_3 (j := 83) rfl rfl)
  · exact (gw_3 (j := 85) rfl rfl)
  · exact (gw_3 (j := 87) rfl rfl)
  · exact (gw_3 (j := 89) rfl rfl)
  · exact (gw_3 (j := 91) rfl rfl)
  · exact (gw_3 (j := 93) rfl rfl)
  · exact (gw_3 (j := 95) rfl rfl)
  · exact (gw_3 (j := 97) rfl rfl)
  · exact (gw_3 (j := 99) rfl rfl)
  · exact (gw_3 (j := 101) rfl rfl)
  · exact (gw_3 (j := 103) rfl rfl)
  · exact (gw_3 (j := 105) rfl rfl)
  · exact (gw_3 (j := 107) rfl rfl)
  · exact (gw_3 (j := 109) rfl rfl)
  · exact (gw_3 (j := 111) rfl rfl)
  · exact (gw_3 (j := 113) rfl rfl)
  · exact (gw_3 (j := 115) rfl rfl)
def RXL : String := "BlindTablesLaw"
abbrev cX6_init : ByteArray := prog_1_method_1_code
def yX6_init : MethodName := ⟨RX6, "<init>", "()V"⟩
abbrev cX6_add : ByteArray := prog_1_method_2_code
def yX6_add : MethodName := ⟨RX6, "add", "(IIII)Z"⟩
abbrev cX6_rows : ByteArray := prog_1_method_3_code
def yX6_rows : MethodName := ⟨RX6, "rows", "(I)I"⟩
abbrev cX6_plan : ByteArray := prog_1_method_4_code
def yX6_plan : MethodName := ⟨RX6, "plan", "(I)Z"⟩
abbrev cX6_filter : ByteArray := prog_1_method_5_code
def yX6_filter : MethodName := ⟨RX6, "filter", "(III)Z"⟩
abbrev cX6_pick : ByteArray := prog_1_method_6_code
def yX6_pick : MethodName := ⟨RX6, "pick", "(III)Z"⟩
abbrev cX6_distinct : ByteArray := prog_1_method_7_code
def yX6_distinct : MethodName := ⟨RX6, "distinct", "()Z"⟩
abbrev cX6_group : ByteArray := prog_1_method_8_code
def yX6_group : MethodName := ⟨RX6, "group", "(II)Z"⟩
abbrev cX6_join : ByteArray := prog_1_method_9_code
def yX6_join : MethodName := ⟨RX6, "join", "(III)Z"⟩
abbrev cX6_run : ByteArray := prog_1_method_10_code
def yX6_run : MethodName := ⟨RX6, "run", "()I"⟩
abbrev cX6_put : ByteArray := prog_1_method_11_code
def yX6_put : MethodName := ⟨RX6, "put", "(III)Z"⟩
abbrev cX6_drop : ByteArray := prog_1_method_12_code
def yX6_drop : MethodName := ⟨RX6, "drop", "(I)Z"⟩
abbrev cX6_apply : ByteArray := prog_1_method_13_code
def yX6_apply : MethodName := ⟨RX6, "apply", "(I)I"⟩
abbrev cX6_cell : ByteArray := prog_1_method_14_code
def yX6_cell : MethodName := ⟨RX6, "cell", "(II)I"⟩
abbrev cX6_length : ByteArray := prog_1_method_15_code
def yX6_length : MethodName := ⟨RX6, "length", "()I"⟩
abbrev cX6_access : ByteArray := prog_1_method_16_code
def yX6_access : MethodName := ⟨RX6, "access", "(I)I"⟩
abbrev cX6_sum : ByteArray := prog_1_method_17_code
def yX6_sum : MethodName := ⟨RX6, "sum", "(I)I"⟩
abbrev cX6_isTable : ByteArray := prog_1_method_18_code
def yX6_isTable : MethodName := ⟨RX6, "isTable", "(I)Z"⟩
abbrev cX6_isColumn : ByteArray := prog_1_method_19_code
def yX6_isColumn : MethodName := ⟨RX6, "isColumn", "(I)Z"⟩
abbrev cX6_changes : ByteArray := prog_1_method_20_code
def yX6_changes : MethodName := ⟨RX6, "changes", "()I"⟩
abbrev cX6_append : ByteArray := prog_1_method_21_code
def yX6_append : MethodName := ⟨RX6, "append", "(IIII)Z"⟩
abbrev cX6_perform : ByteArray := prog_1_method_22_code
def yX6_perform : MethodName := ⟨RX6, "perform", "(LBlindTables$Step;)Z"⟩
abbrev cX7_init : ByteArray := prog_9_method_1_code
def yX7_init : MethodName := ⟨RX7, "<init>", "()V"⟩
abbrev cX7_outside : ByteArray := prog_9_method_2_code
def yX7_outside : MethodName := ⟨RX7, "outside", "(III)Z"⟩
abbrev cX7_add : ByteArray := prog_9_method_3_code
def yX7_add : MethodName := ⟨RX7, "add", "(IIII)Z"⟩
abbrev cX7_rows : ByteArray := prog_9_method_4_code
def yX7_rows : MethodName := ⟨RX7, "rows", "(I)I"⟩
abbrev cX7_sum : ByteArray := prog_9_method_5_code
def yX7_sum : MethodName := ⟨RX7, "sum", "(I)I"⟩
abbrev cX7_plan : ByteArray := prog_9_method_6_code
def yX7_plan : MethodName := ⟨RX7, "plan", "(I)Z"⟩
abbrev cX7_step : ByteArray := prog_9_method_7_code
def yX7_step : MethodName := ⟨RX7, "step", "(IIIIZ)Z"⟩
abbrev cX7_filter : ByteArray := prog_9_method_8_code
def yX7_filter : MethodName := ⟨RX7, "filter", "(III)Z"⟩
abbrev cX7_pick : ByteArray := prog_9_method_9_code
def yX7_pick : MethodName := ⟨RX7, "pick", "(III)Z"⟩
abbrev cX7_distinct : ByteArray := prog_9_method_10_code
def yX7_distinct : MethodName := ⟨RX7, "distinct", "()Z"⟩
abbrev cX7_group : ByteArray := prog_9_method_11_code
def yX7_group : MethodName := ⟨RX7, "group", "(II)Z"⟩
abbrev cX7_join : ByteArray := prog_9_method_12_code
def yX7_join : MethodName := ⟨RX7, "join", "(III)Z"⟩
abbrev cX7_give : ByteArray := prog_9_method_13_code
def yX7_give : MethodName := ⟨RX7, "give", "(III)V"⟩
abbrev cX7_passes : ByteArray := prog_9_method_14_code
def yX7_passes : MethodName := ⟨RX7, "passes", "(III)Z"⟩
abbrev cX7_first : ByteArray := prog_9_method_15_code
def yX7_first : MethodName := ⟨RX7, "first", "(II)Z"⟩
abbrev cX7_groupOf : ByteArray := prog_9_method_16_code
def yX7_groupOf : MethodName := ⟨RX7, "groupOf", "(III)V"⟩
abbrev cX7_joinWith : ByteArray := prog_9_method_17_code
def yX7_joinWith : MethodName := ⟨RX7, "joinWith", "(IIII)V"⟩
abbrev cX7_work : ByteArray := prog_9_method_18_code
def yX7_work : MethodName := ⟨RX7, "work", "(I)V"⟩
abbrev cX7_part : ByteArray := prog_9_method_19_code
def yX7_part : MethodName := ⟨RX7, "part", "(IIII)V"⟩
abbrev cX7_less : ByteArray := prog_9_method_20_code
def yX7_less : MethodName := ⟨RX7, "less", "(II)Z"⟩
abbrev cX7_order : ByteArray := prog_9_method_21_code
def yX7_order : MethodName := ⟨RX7, "order", "()V"⟩
abbrev cX7_run : ByteArray := prog_9_method_22_code
def yX7_run : MethodName := ⟨RX7, "run", "()I"⟩
abbrev cX7_collect : ByteArray := prog_9_method_23_code
def yX7_collect : MethodName := ⟨RX7, "collect", "(ZIII)Z"⟩
abbrev cX7_put : ByteArray := prog_9_method_24_code
def yX7_put : MethodName := ⟨RX7, "put", "(III)Z"⟩
abbrev cX7_drop : ByteArray := prog_9_method_25_code
def yX7_drop : MethodName := ⟨RX7, "drop", "(I)Z"⟩
abbrev cX7_apply : ByteArray := prog_9_method_26_code
def yX7_apply : MethodName := ⟨RX7, "apply", "(I)I"⟩
abbrev cX7_touch : ByteArray := prog_9_method_27_code
def yX7_touch : MethodName := ⟨RX7, "touch", "(IZ)V"⟩
abbrev cX7_exchange : ByteArray := prog_9_method_28_code
def yX7_exchange : MethodName := ⟨RX7, "exchange", "(II)V"⟩
abbrev cX7_scan : ByteArray := prog_9_method_29_code
def yX7_scan : MethodName := ⟨RX7, "scan", "(IIZ)V"⟩
abbrev cX7_compare : ByteArray := prog_9_method_30_code
def yX7_compare : MethodName := ⟨RX7, "compare", "(IIIII)V"⟩
abbrev cX7_sort : ByteArray := prog_9_method_31_code
def yX7_sort : MethodName := ⟨RX7, "sort", "(II)V"⟩
abbrev cX7_squeeze : ByteArray := prog_9_method_32_code
def yX7_squeeze : MethodName := ⟨RX7, "squeeze", "(II)V"⟩
abbrev cX7_spread : ByteArray := prog_9_method_33_code
def yX7_spread : MethodName := ⟨RX7, "spread", "(II)V"⟩
abbrev cX7_side : ByteArray := prog_9_method_34_code
def yX7_side : MethodName := ⟨RX7, "side", "(III)V"⟩
abbrev cX7_joinTrace : ByteArray := prog_9_method_35_code
def yX7_joinTrace : MethodName := ⟨RX7, "joinTrace", "(II)V"⟩
abbrev cX7_partTrace : ByteArray := prog_9_method_36_code
def yX7_partTrace : MethodName := ⟨RX7, "partTrace", "(I)V"⟩
abbrev cX7_write : ByteArray := prog_9_method_37_code
def yX7_write : MethodName := ⟨RX7, "write", "(I)V"⟩
abbrev cX7_cell : ByteArray := prog_9_method_38_code
def yX7_cell : MethodName := ⟨RX7, "cell", "(II)I"⟩
abbrev cX7_length : ByteArray := prog_9_method_39_code
def yX7_length : MethodName := ⟨RX7, "length", "()I"⟩
abbrev cX7_access : ByteArray := prog_9_method_40_code
def yX7_access : MethodName := ⟨RX7, "access", "(I)I"⟩
abbrev cX0_init : ByteArray := prog_2_method_1_code
def yX0_init : MethodName := ⟨RX0, "<init>", "(I)V"⟩
abbrev cX0_hold : ByteArray := prog_2_method_2_code
def yX0_hold : MethodName := ⟨RX0, "hold", "(III)Z"⟩
abbrev cX0_clear : ByteArray := prog_2_method_3_code
def yX0_clear : MethodName := ⟨RX0, "clear", "()V"⟩
abbrev cX0_become : ByteArray := prog_2_method_4_code
def yX0_become : MethodName := ⟨RX0, "become", "(LBlindTables$Bag;)V"⟩
abbrev cX0_column : ByteArray := prog_2_method_5_code
def yX0_column : MethodName := ⟨RX0, "column", "(II)I"⟩
abbrev cX0_total : ByteArray := prog_2_method_6_code
def yX0_total : MethodName := ⟨RX0, "total", "()I"⟩
abbrev cX1_init : ByteArray := prog_3_method_1_code
def yX1_init : MethodName := ⟨RX1, "<init>", "(LBlindTables$Store;)V"⟩
abbrev cX1_match : ByteArray := prog_3_method_2_code
def yX1_match : MethodName := ⟨RX1, "match", "(LBlindTables$Bag;LBlindTables$Bag;II)Z"⟩
abbrev cX1_countForth : ByteArray := prog_3_method_3_code
def yX1_countForth : MethodName := ⟨RX1, "countForth", "(I)V"⟩
abbrev cX1_countBack : ByteArray := prog_3_method_4_code
def yX1_countBack : MethodName := ⟨RX1, "countBack", "(I)I"⟩
abbrev cX1_copyAll : ByteArray := prog_3_method_5_code
def yX1_copyAll : MethodName := ⟨RX1, "copyAll", "(I)V"⟩
abbrev cX1_addPairs : ByteArray := prog_3_method_6_code
def yX1_addPairs : MethodName := ⟨RX1, "addPairs", "(I)V"⟩
abbrev cX1_expand : ByteArray := prog_3_method_7_code
def yX1_expand : MethodName := ⟨RX1, "expand", "(IIII)V"⟩
abbrev cX1_markStarts : ByteArray := prog_3_method_8_code
def yX1_markStarts : MethodName := ⟨RX1, "markStarts", "(III)V"⟩
abbrev cX1_fillCopies : ByteArray := prog_3_method_9_code
def yX1_fillCopies : MethodName := ⟨RX1, "fillCopies", "(II)V"⟩
abbrev cX2_init : ByteArray := prog_4_method_1_code
def yX2_init : MethodName := ⟨RX2, "<init>", "(LBlindTables$Store;)V"⟩
abbrev cX2_order : ByteArray := prog_4_method_2_code
def yX2_order : MethodName := ⟨RX2, "order", "(LBlindTables$Bag;)V"⟩
abbrev cX2_keepMatching : ByteArray := prog_4_method_3_code
def yX2_keepMatching : MethodName := ⟨RX2, "keepMatching", "(LBlindTables$Bag;III)V"⟩
abbrev cX2_matches : ByteArray := prog_4_method_4_code
def yX2_matches : MethodName := ⟨RX2, "matches", "(III)Z"⟩
abbrev cX2_rearrange : ByteArray := prog_4_method_5_code
def yX2_rearrange : MethodName := ⟨RX2, "rearrange", "(LBlindTables$Bag;III)V"⟩
abbrev cX2_keepDifferent : ByteArray := prog_4_method_6_code
def yX2_keepDifferent : MethodName := ⟨RX2, "keepDifferent", "(LBlindTables$Bag;)V"⟩
abbrev cX2_keepFirstOfEach : ByteArray := prog_4_method_7_code
def yX2_keepFirstOfEach : MethodName := ⟨RX2, "keepFirstOfEach", "(I)I"⟩
abbrev cX2_totalUp : ByteArray := prog_4_method_8_code
def yX2_totalUp : MethodName := ⟨RX2, "totalUp", "(LBlindTables$Bag;II)V"⟩
abbrev cX2_addUpForth : ByteArray := prog_4_method_9_code
def yX2_addUpForth : MethodName := ⟨RX2, "addUpForth", "(II)I"⟩
abbrev cX2_keepLastOfEach : ByteArray := prog_4_method_10_code
def yX2_keepLastOfEach : MethodName := ⟨RX2, "keepLastOfEach", "(I)V"⟩
abbrev cX2_change : ByteArray := prog_4_method_11_code
def yX2_change : MethodName := ⟨RX2, "change", "(LBlindTables$Bag;LBlindTables$Bag;LBlindTables$Bag;)Z"⟩
abbrev cX2_keepUndropped : ByteArray := prog_4_method_12_code
def yX2_keepUndropped : MethodName := ⟨RX2, "keepUndropped", "(I)I"⟩
abbrev cX3_init : ByteArray := prog_5_method_1_code
def yX3_init : MethodName := ⟨RX3, "<init>", "()V"⟩
abbrev cX3_setColumns : ByteArray := prog_5_method_2_code
def yX3_setColumns : MethodName := ⟨RX3, "setColumns", "(III)V"⟩
abbrev cX3_column : ByteArray := prog_5_method_3_code
def yX3_column : MethodName := ⟨RX3, "column", "(I)I"⟩
abbrev cX3_sameColumns : ByteArray := prog_5_method_4_code
def yX3_sameColumns : MethodName := ⟨RX3, "sameColumns", "(LBlindTables$Row;)Z"⟩
abbrev cX3_sortBy : ByteArray := prog_5_method_5_code
def yX3_sortBy : MethodName := ⟨RX3, "sortBy", "(III)V"⟩
abbrev cX3_isBehind : ByteArray := prog_5_method_6_code
def yX3_isBehind : MethodName := ⟨RX3, "isBehind", "(LBlindTables$Row;)Z"⟩
abbrev cX3_keep : ByteArray := prog_5_method_7_code
def yX3_keep : MethodName := ⟨RX3, "keep", "(II)V"⟩
abbrev cX3_discard : ByteArray := prog_5_method_8_code
def yX3_discard : MethodName := ⟨RX3, "discard", "()V"⟩
abbrev cX3_partners : ByteArray := prog_5_method_9_code
def yX3_partners : MethodName := ⟨RX3, "partners", "()I"⟩
abbrev cX3_become : ByteArray := prog_5_method_10_code
def yX3_become : MethodName := ⟨RX3, "become", "(LBlindTables$Row;)V"⟩
abbrev cX4_init : ByteArray := prog_6_method_1_code
def yX4_init : MethodName := ⟨RX4, "<init>", "()V"⟩
abbrev cX4_become : ByteArray := prog_6_method_2_code
def yX4_become : MethodName := ⟨RX4, "become", "(IIII)V"⟩
abbrev cX5_init : ByteArray := prog_7_method_1_code
def yX5_init : MethodName := ⟨RX5, "<init>", "()V"⟩
abbrev cX5_startTrace : ByteArray := prog_7_method_2_code
def yX5_startTrace : MethodName := ⟨RX5, "startTrace", "()V"⟩
abbrev cX5_notedAt : ByteArray := prog_7_method_3_code
def yX5_notedAt : MethodName := ⟨RX5, "notedAt", "(I)I"⟩
abbrev cX5_read : ByteArray := prog_7_method_4_code
def yX5_read : MethodName := ⟨RX5, "read", "(I)LBlindTables$Row;"⟩
abbrev cX5_write : ByteArray := prog_7_method_5_code
def yX5_write : MethodName := ⟨RX5, "write", "(ILBlindTables$Row;)V"⟩
abbrev cX5_at : ByteArray := prog_7_method_6_code
def yX5_at : MethodName := ⟨RX5, "at", "(I)LBlindTables$Row;"⟩
abbrev cX5_copy : ByteArray := prog_7_method_7_code
def yX5_copy : MethodName := ⟨RX5, "copy", "(II)V"⟩
abbrev cX5_note : ByteArray := prog_7_method_8_code
def yX5_note : MethodName := ⟨RX5, "note", "(I)V"⟩
abbrev cX5_lay : ByteArray := prog_7_method_9_code
def yX5_lay : MethodName := ⟨RX5, "lay", "(LBlindTables$Bag;)I"⟩
abbrev cX5_layByKey : ByteArray := prog_7_method_10_code
def yX5_layByKey : MethodName := ⟨RX5, "layByKey", "(LBlindTables$Bag;III)I"⟩
abbrev cX5_clear : ByteArray := prog_7_method_11_code
def yX5_clear : MethodName := ⟨RX5, "clear", "()V"⟩
abbrev cX5_takeAway : ByteArray := prog_7_method_12_code
def yX5_takeAway : MethodName := ⟨RX5, "takeAway", "(LBlindTables$Bag;I)V"⟩
abbrev cX5_widest : ByteArray := prog_7_method_13_code
def yX5_widest : MethodName := ⟨RX5, "widest", "(I)I"⟩
abbrev cX5_sort : ByteArray := prog_7_method_14_code
def yX5_sort : MethodName := ⟨RX5, "sort", "(II)V"⟩
abbrev cX5_sortPass : ByteArray := prog_7_method_15_code
def yX5_sortPass : MethodName := ⟨RX5, "sortPass", "(IIIII)V"⟩
abbrev cX5_squeeze : ByteArray := prog_7_method_16_code
def yX5_squeeze : MethodName := ⟨RX5, "squeeze", "(II)V"⟩
abbrev cX5_spread : ByteArray := prog_7_method_17_code
def yX5_spread : MethodName := ⟨RX5, "spread", "(II)V"⟩
def bt_cl : List vw_C := [(RX0, TX0, 4), (RX1, TX1, 2), (RX2, TX2, 1), (RX3, TX3, 13), (RX4, TX4, 4), (RX5, TX5, 3), (RX6, TX6, 10), (RX7, TX7, 27)]
def bt_tl : List FieldType := [.int, .object RX3, .object RX0, .object RX4, .boolean]
def bt_nw : List Cond := [Cond.methodLinkNest RX5 25 yX3_init "BlindTables", Cond.methodLinkNest RX1 11 yX3_init "BlindTables", Cond.methodLinkNest RX6 64 yX4_init "BlindTables", Cond.arrayOver (.object RX3), Cond.arrayOver (.object RX0), Cond.arrayOver (.object RX4)]
abbrev cBag : Nat := 0
abbrev cJoin : Nat := 1
abbrev cOps : Nat := 2
abbrev cRow : Nat := 3
abbrev cStep : Nat := 4
abbrev cStore : Nat := 5
abbrev cBT : Nat := 6
abbrev cMod : Nat := 7
abbrev tInt : Nat := 0
abbrev tRow : Nat := 1
abbrev tBag : Nat := 2
abbrev tStep : Nat := 3
abbrev tBool : Nat := 4
abbrev bM (l : Launch) (y : MethodName) (code : ByteArray) (maxL : Nat) (ret : Option FieldType) (d mc ms : Nat) (vs : List Value) (n : Nat) (h : pm_H) (Post : Option Value → Nat → pm_H → Prop) : Prop := pm_M l bt_cl bt_tl gw bt_nw y code maxL ret d mc ms vs n h Post
abbrev bM0 (l : Launch) (y : MethodName) (code : ByteArray) (maxL : Nat) (ret : Option FieldType) (d : Nat) (vs : List Value) (n : Nat) (h : pm_H) (Post : Option Value → pm_H → Prop) : Prop := pm_M l bt_cl bt_tl gw bt_nw y code maxL ret d 0 0 vs n h (fun r n' h' => n' = n ∧ Post r h')
theorem wlX6_11 : Cond.fieldLink RX6 11 RX6 (TX6 0).2.1 (TX6 0).2.2.1 ∈ gw := (gw_1 (j := 174) rfl rfl)
theorem wlX6_17 : Cond.fieldLink RX6 17 RX6 (TX6 1).2.1 (TX6 1).2.2.1 ∈ gw := (gw_1 (j := 175) rfl rfl)
theorem wlX6_24 : Cond.fieldLink RX6 24 RX6 (TX6 2).2.1 (TX6 2).2.2.1 ∈ gw := (gw_1 (j := 176) rfl rfl)
theorem wlX6_28 : Cond.fieldLink RX6 28 RX6 (TX6 3).2.1 (TX6 3).2.2.1 ∈ gw := (gw_1 (j := 177) rfl rfl)
theorem wlX6_31 : Cond.fieldLink RX6 31 RX6 (TX6 4).2.1 (TX6 4).2.2.1 ∈ gw := (gw_1 (j := 178) rfl rfl)
theorem wlX6_37 : Cond.fieldLink RX6 37 RX6 (TX6 5).2.1 (TX6 5).2.2.1 ∈ gw := (gw_1 (j := 179) rfl rfl)
theorem wlX6_46 : Cond.fieldLink RX6 46 RX6 (TX6 6).2.1 (TX6 6).2.2.1 ∈ gw := (gw_1 (j := 180) rfl rfl)
theorem wlX6_53 : Cond.fieldLink RX6 53 RX6 (TX6 7).2.1 (TX6 7).2.2.1 ∈ gw := (gw_1 (j := 181) rfl rfl)
theorem wlX6_57 : Cond.fieldLink RX6 57 RX6 (TX6 8).2.1 (TX6 8).2.2.1 ∈ gw := (gw_1 (j := 182) rfl rfl)
theorem wlX6_61 : Cond.fieldLink RX6 61 RX6 (TX6 9).2.1 (TX6 9).2.2.1 ∈ gw := (gw_1 (j := 183) rfl rfl)
theorem wlX6_73 : Cond.fieldLink RX6 73 RX0 (TX0 3).2.1 (TX0 3).2.2.1 ∈ gw := (gw_1 (j := 34) rfl rfl)
theorem wlX6_112 : Cond.fieldLink RX6 112 RX5 (TX5 2).2.1 (TX5 2).2.2.1 ∈ gw := (gw_1 (j := 119) rfl rfl)
theorem wlX6_125 : Cond.fieldLink RX6 125 RX4 (TX4 0).2.1 (TX4 0).2.2.1 ∈ gw := (gw_1 (j := 158) rfl rfl)
theorem wlX6_128 : Cond.fieldLink RX6 128 RX4 (TX4 1).2.1 (TX4 1).2.2.1 ∈ gw := (gw_1 (j := 160) rfl rfl)
theorem wlX6_131 : Cond.fieldLink RX6 131 RX4 (TX4 2).2.1 (TX4 2).2.2.1 ∈ gw := (gw_1 (j := 162) rfl rfl)
theorem wlX6_134 : Cond.fieldLink RX6 134 RX4 (TX4 3).2.1 (TX4 3).2.2.1 ∈ gw := (gw_1 (j := 164) rfl rfl)
theorem wlX7_7 : Cond.fieldLink RX7 7 RX7 (TX7 0).2.1 (TX7 0).2.2.1 ∈ gw := (gw_3 (j := 36) rfl rfl)
theorem wlX7_13 : Cond.fieldLink RX7 13 RX7 (TX7 1).2.1 (TX7 1).2.2.1 ∈ gw := (gw_3 (j := 37) rfl rfl)
theorem wlX7_16 : Cond.fieldLink RX7 16 RX7 (TX7 5).2.1 (TX7 5).2.2.1 ∈ gw := (gw_3 (j := 41) rfl rfl)
theorem wlX7_19 : Cond.fieldLink RX7 19 RX7 (TX7 6).2.1 (TX7 6).2.2.1 ∈ gw := (gw_3 (j := 42) rfl rfl)
theorem wlX7_22 : Cond.fieldLink RX7 22 RX7 (TX7 7).2.1 (TX7 7).2.2.1 ∈ gw := (gw_3 (j := 43) rfl rfl)
theorem wlX7_25 : Cond.fieldLink RX7 25 RX7 (TX7 8).2.1 (TX7 8).2.2.1 ∈ gw := (gw_3 (j := 44) rfl rfl)
theorem wlX7_28 : Cond.fieldLink RX7 28 RX7 (TX7 10).2.1 (TX7 10).2.2.1 ∈ gw := (gw_3 (j := 46) rfl rfl)
theorem wlX7_32 : Cond.fieldLink RX7 32 RX7 (TX7 11).2.1 (TX7 11).2.2.1 ∈ gw := (gw_3 (j := 47) rfl rfl)
theorem wlX7_35 : Cond.fieldLink RX7 35 RX7 (TX7 12).2.1 (TX7 12).2.2.1 ∈ gw := (gw_3 (j := 48) rfl rfl)
theorem wlX7_38 : Cond.fieldLink RX7 38 RX7 (TX7 14).2.1 (TX7 14).2.2.1 ∈ gw := (gw_3 (j := 50) rfl rfl)
theorem wlX7_41 : Cond.fieldLink RX7 41 RX7 (TX7 16).2.1 (TX7 16).2.2.1 ∈ gw := (gw_3 (j := 52) rfl rfl)
theorem wlX7_44 : Cond.fieldLink RX7 44 RX7 (TX7 19).2.1 (TX7 19).2.2.1 ∈ gw := (gw_3 (j := 55) rfl rfl)
theorem wlX7_47 : Cond.fieldLink RX7 47 RX7 (TX7 20).2.1 (TX7 20).2.2.1 ∈ gw := (gw_3 (j := 56) rfl rfl)
theorem wlX7_50 : Cond.fieldLink RX7 50 RX7 (TX7 21).2.1 (TX7 21).2.2.1 ∈ gw := (gw_3 (j := 57) rfl rfl)
theorem wlX7_53 : Cond.fieldLink RX7 53 RX7 (TX7 22).2.1 (TX7 22).2.2.1 ∈ gw := (gw_3 (j := 58) rfl rfl)
theorem wlX7_60 : Cond.fieldLink RX7 60 RX7 (TX7 2).2.1 (TX7 2).2.2.1 ∈ gw := (gw_3 (j := 38) rfl rfl)
theorem wlX7_64 : Cond.fieldLink RX7 64 RX7 (TX7 3).2.1 (TX7 3).2.2.1 ∈ gw := (gw_3 (j := 39) rfl rfl)
theorem wlX7_68 : Cond.fieldLink RX7 68 RX7 (TX7 4).2.1 (TX7 4).2.2.1 ∈ gw := (gw_3 (j := 40) rfl rfl)
theorem wlX7_75 : Cond.fieldLink RX7 75 RX7 (TX7 15).2.1 (TX7 15).2.2.1 ∈ gw := (gw_3 (j := 51) rfl rfl)
theorem wlX7_78 : Cond.fieldLink RX7 78 RX7 (TX7 13).2.1 (TX7 13).2.2.1 ∈ gw := (gw_3 (j := 49) rfl rfl)
theorem wlX7_99 : Cond.fieldLink RX7 99 RX7 (TX7 18).2.1 (TX7 18).2.2.1 ∈ gw := (gw_3 (j := 54) rfl rfl)
theorem wlX7_102 : Cond.fieldLink RX7 102 RX7 (TX7 17).2.1 (TX7 17).2.2.1 ∈ gw := (gw_3 (j := 53) rfl rfl)
theorem wlX7_108 : Cond.fieldLink RX7 108 RX7 (TX7 23).2.1 (TX7 23).2.2.1 ∈ gw := (gw_3 (j := 59) rfl rfl)
theorem wlX7_121 : Cond.fieldLink RX7 121 RX7 (TX7 9).2.1 (TX7 9).2.2.1 ∈ gw := (gw_3 (j := 45) rfl rfl)
theorem wlX7_128 : Cond.fieldLink RX7 128 RX7 (TX7 24).2.1 (TX7 24).2.2.1 ∈ gw := (gw_3 (j := 60) rfl rfl)
theorem wlX7_131 : Cond.fieldLink RX7 131 RX7 (TX7 25).2.1 (TX7 25).2.2.1 ∈ gw := (gw_3 (j := 61) rfl rfl)
theorem wlX7_134 : Cond.fieldLink RX7 134 RX7 (TX7 26).2.1 (TX7 26).2.2.1 ∈ gw := (gw_3 (j := 62) rfl rfl)
theorem wlX0_7 : Cond.fieldLink RX0 7 RX0 (TX0 3).2.1 (TX0 3).2.2.1 ∈ gw := (gw_1 (j := 33) rfl rfl)
theorem wlX0_13 : Cond.fieldLink RX0 13 RX0 (TX0 0).2.1 (TX0 0).2.2.1 ∈ gw := (gw_1 (j := 27) rfl rfl)
theorem wlX0_17 : Cond.fieldLink RX0 17 RX0 (TX0 1).2.1 (TX0 1).2.2.1 ∈ gw := (gw_1 (j := 29) rfl rfl)
theorem wlX0_20 : Cond.fieldLink RX0 20 RX0 (TX0 2).2.1 (TX0 2).2.2.1 ∈ gw := (gw_1 (j := 31) rfl rfl)
theorem wlX1_12 : Cond.fieldLink RX1 12 RX1 (TX1 1).2.1 (TX1 1).2.2.1 ∈ gw := (gw_1 (j := 146) rfl rfl)
theorem wlX1_18 : Cond.fieldLink RX1 18 RX1 (TX1 0).2.1 (TX1 0).2.2.1 ∈ gw := (gw_1 (j := 145) rfl rfl)
theorem wlX1_61 : Cond.fieldLink RX1 61 RX3 (TX3 3).2.1 (TX3 3).2.2.1 ∈ gw := (gw_1 (j := 67) rfl rfl)
theorem wlX1_65 : Cond.fieldLink RX1 65 RX3 (TX3 4).2.1 (TX3 4).2.2.1 ∈ gw := (gw_1 (j := 71) rfl rfl)
theorem wlX1_68 : Cond.fieldLink RX1 68 RX3 (TX3 5).2.1 (TX3 5).2.2.1 ∈ gw := (gw_1 (j := 75) rfl rfl)
theorem wlX1_71 : Cond.fieldLink RX1 71 RX3 (TX3 6).2.1 (TX3 6).2.2.1 ∈ gw := (gw_1 (j := 77) rfl rfl)
theorem wlX1_85 : Cond.fieldLink RX1 85 RX3 (TX3 1).2.1 (TX3 1).2.2.1 ∈ gw := (gw_1 (j := 62) rfl rfl)
theorem wlX1_88 : Cond.fieldLink RX1 88 RX3 (TX3 2).2.1 (TX3 2).2.2.1 ∈ gw := (gw_1 (j := 65) rfl rfl)
theorem wlX1_119 : Cond.fieldLink RX1 119 RX3 (TX3 12).2.1 (TX3 12).2.2.1 ∈ gw := (gw_1 (j := 87) rfl rfl)
theorem wlX1_125 : Cond.fieldLink RX1 125 RX3 (TX3 10).2.1 (TX3 10).2.2.1 ∈ gw := (gw_1 (j := 83) rfl rfl)
theorem wlX2_9 : Cond.fieldLink RX2 9 RX2 (TX2 0).2.1 (TX2 0).2.2.1 ∈ gw := (gw_1 (j := 133) rfl rfl)
theorem wlX2_79 : Cond.fieldLink RX2 79 RX3 (TX3 3).2.1 (TX3 3).2.2.1 ∈ gw := (gw_1 (j := 68) rfl rfl)
theorem wlX2_86 : Cond.fieldLink RX2 86 RX3 (TX3 4).2.1 (TX3 4).2.2.1 ∈ gw := (gw_1 (j := 74) rfl rfl)
theorem wlX3_7 : Cond.fieldLink RX3 7 RX3 (TX3 0).2.1 (TX3 0).2.2.1 ∈ gw := (gw_1 (j := 59) rfl rfl)
theorem wlX3_13 : Cond.fieldLink RX3 13 RX3 (TX3 1).2.1 (TX3 1).2.2.1 ∈ gw := (gw_1 (j := 61) rfl rfl)
theorem wlX3_16 : Cond.fieldLink RX3 16 RX3 (TX3 2).2.1 (TX3 2).2.2.1 ∈ gw := (gw_1 (j := 64) rfl rfl)
theorem wlX3_19 : Cond.fieldLink RX3 19 RX3 (TX3 7).2.1 (TX3 7).2.2.1 ∈ gw := (gw_1 (j := 79) rfl rfl)
theorem wlX3_22 : Cond.fieldLink RX3 22 RX3 (TX3 8).2.1 (TX3 8).2.2.1 ∈ gw := (gw_1 (j := 80) rfl rfl)
theorem wlX3_25 : Cond.fieldLink RX3 25 RX3 (TX3 9).2.1 (TX3 9).2.2.1 ∈ gw := (gw_1 (j := 81) rfl rfl)
theorem wlX3_28 : Cond.fieldLink RX3 28 RX3 (TX3 10).2.1 (TX3 10).2.2.1 ∈ gw := (gw_1 (j := 82) rfl rfl)
theorem wlX3_32 : Cond.fieldLink RX3 32 RX3 (TX3 11).2.1 (TX3 11).2.2.1 ∈ gw := (gw_1 (j := 84) rfl rfl)
theorem wlX3_35 : Cond.fieldLink RX3 35 RX3 (TX3 12).2.1 (TX3 12).2.2.1 ∈ gw := (gw_1 (j := 86) rfl rfl)
theorem wlX3_38 : Cond.fieldLink RX3 38 RX3 (TX3 4).2.1 (TX3 4).2.2.1 ∈ gw := (gw_1 (j := 72) rfl rfl)
theorem wlX3_41 : Cond.fieldLink RX3 41 RX3 (TX3 6).2.1 (TX3 6).2.2.1 ∈ gw := (gw_1 (j := 78) rfl rfl)
theorem wlX3_44 : Cond.fieldLink RX3 44 RX3 (TX3 5).2.1 (TX3 5).2.2.1 ∈ gw := (gw_1 (j := 76) rfl rfl)
theorem wlX3_51 : Cond.fieldLink RX3 51 RX3 (TX3 3).2.1 (TX3 3).2.2.1 ∈ gw := (gw_1 (j := 69) rfl rfl)
theorem wlX4_7 : Cond.fieldLink RX4 7 RX4 (TX4 0).2.1 (TX4 0).2.2.1 ∈ gw := (gw_1 (j := 157) rfl rfl)
theorem wlX4_13 : Cond.fieldLink RX4 13 RX4 (TX4 1).2.1 (TX4 1).2.2.1 ∈ gw := (gw_1 (j := 159) rfl rfl)
theorem wlX4_16 : Cond.fieldLink RX4 16 RX4 (TX4 2).2.1 (TX4 2).2.2.1 ∈ gw := (gw_1 (j := 161) rfl rfl)
theorem wlX4_19 : Cond.fieldLink RX4 19 RX4 (TX4 3).2.1 (TX4 3).2.2.1 ∈ gw := (gw_1 (j := 163) rfl rfl)
theorem wlX5_13 : Cond.fieldLink RX5 13 RX5 (TX5 0).2.1 (TX5 0).2.2.1 ∈ gw := (gw_1 (j := 116) rfl rfl)
theorem wlX5_17 : Cond.fieldLink RX5 17 RX5 (TX5 1).2.1 (TX5 1).2.2.1 ∈ gw := (gw_1 (j := 117) rfl rfl)
theorem wlX5_21 : Cond.fieldLink RX5 21 RX5 (TX5 2).2.1 (TX5 2).2.2.1 ∈ gw := (gw_1 (j := 118) rfl rfl)
theorem wlX5_45 : Cond.fieldLink RX5 45 RX0 (TX0 3).2.1 (TX0 3).2.2.1 ∈ gw := (gw_1 (j := 35) rfl rfl)
theorem wlX5_50 : Cond.fieldLink RX5 50 RX0 (TX0 0).2.1 (TX0 0).2.2.1 ∈ gw := (gw_1 (j := 28) rfl rfl)
theorem wlX5_53 : Cond.fieldLink RX5 53 RX0 (TX0 1).2.1 (TX0 1).2.2.1 ∈ gw := (gw_1 (j := 30) rfl rfl)
theorem wlX5_56 : Cond.fieldLink RX5 56 RX0 (TX0 2).2.1 (TX0 2).2.2.1 ∈ gw := (gw_1 (j := 32) rfl rfl)
theorem wlX5_63 : Cond.fieldLink RX5 63 RX3 (TX3 0).2.1 (TX3 0).2.2.1 ∈ gw := (gw_1 (j := 60) rfl rfl)
theorem wlX5_66 : Cond.fieldLink RX5 66 RX3 (TX3 1).2.1 (TX3 1).2.2.1 ∈ gw := (gw_1 (j := 63) rfl rfl)
theorem wlX5_69 : Cond.fieldLink RX5 69 RX3 (TX3 2).2.1 (TX3 2).2.2.1 ∈ gw := (gw_1 (j := 66) rfl rfl)
theorem wlX5_79 : Cond.fieldLink RX5 79 RX3 (TX3 3).2.1 (TX3 3).2.2.1 ∈ gw := (gw_1 (j := 70) rfl rfl)
theorem wlX5_82 : Cond.fieldLink RX5 82 RX3 (TX3 4).2.1 (TX3 4).2.2.1 ∈ gw := (gw_1 (j := 73) rfl rfl)
theorem wlX5_106 : Cond.fieldLink RX5 106 RX3 (TX3 11).2.1 (TX3 11).2.2.1 ∈ gw := (gw_1 (j := 85) rfl rfl)
theorem wlX5_109 : Cond.fieldLink RX5 109 RX3 (TX3 12).2.1 (TX3 12).2.2.1 ∈ gw := (gw_1 (j := 88) rfl rfl)
end
section
/-! Decode rows; printed by program. -/
theorem dX0_init_0 : decode cX0_init 0 = .ok (.aload_n 0, 1) := by decide +kernel
theorem dX0_init_1 : decode cX0_init 1 = .ok (.invokespecial 1, 3) := by decide +kernel
theorem dX0_init_4 : decode cX0_init 4 = .ok (.aload_n 0, 1) := by decide +kernel
theorem dX0_init_5 : decode cX0_init 5 = .ok (.iconst 0, 1) := by decide +kernel
theorem dX0_init_6 : decode cX0_init 6 = .ok (.putfield 7, 3) := by decide +kernel
theorem dX0_init_9 : decode cX0_init 9 = .ok (.aload_n 0, 1) := by decide +kernel
theorem dX0_init_10 : decode cX0_init 10 = .ok (.iload_n 1, 1) := by decide +kernel
theorem dX0_init_11 : decode cX0_init 11 = .ok (.newarray .int, 2) := by decide +kernel
theorem dX0_init_13 : decode cX0_init 13 = .ok (.putfield 13, 3) := by decide +kernel
theorem dX0_init_16 : decode cX0_init 16 = .ok (.aload_n 0, 1) := by decide +kernel
theorem dX0_init_17 : decode cX0_init 17 = .ok (.iload_n 1, 1) := by decide +kernel
theorem dX0_init_18 : decode cX0_init 18 = .ok (.newarray .int, 2) := by decide +kernel
theorem dX0_init_20 : decode cX0_init 20 = .ok (.putfield 17, 3) := by decide +kernel
theorem dX0_init_23 : decode cX0_init 23 = .ok (.aload_n 0, 1) := by decide +kernel
theorem dX0_init_24 : decode cX0_init 24 = .ok (.iload_n 1, 1) := by decide +kernel
theorem dX0_init_25 : decode cX0_init 25 = .ok (.newarray .int, 2) := by decide +kernel
theorem dX0_init_27 : decode cX0_init 27 = .ok (.putfield 20, 3) := by decide +kernel
theorem dX0_init_30 : decode cX0_init 30 = .ok (.return_, 1) := by decide +kernel
theorem dX0_hold_0 : decode cX0_hold 0 = .ok (.aload_n 0, 1) := by decide +kernel
theorem dX0_hold_1 : decode cX0_hold 1 = .ok (.getfield 7, 3) := by decide +kernel
theorem dX0_hold_4 : decode cX0_hold 4 = .ok (.aload_n 0, 1) := by decide +kernel
theorem dX0_hold_5 : decode cX0_hold 5 = .ok (.getfield 13, 3) := by decide +kernel
theorem dX0_hold_8 : decode cX0_hold 8 = .ok (.arraylength, 1) := by decide +kernel
theorem dX0_hold_9 : decode cX0_hold 9 = .ok (.if_icmp .lt 5, 3) := by decide +kernel
theorem dX0_hold_12 : decode cX0_hold 12 = .ok (.iconst 0, 1) := by decide +kernel
theorem dX0_hold_13 : decode cX0_hold 13 = .ok (.ireturn, 1) := by decide +kernel
theorem dX0_hold_14 : decode cX0_hold 14 = .ok (.aload_n 0, 1) := by decide +kernel
theorem dX0_hold_15 : decode cX0_hold 15 = .ok (.getfield 13, 3) := by decide +kernel
theorem dX0_hold_18 : decode cX0_hold 18 = .ok (.aload_n 0, 1) := by decide +kernel
theorem dX0_hold_19 : decode cX0_hold 19 = .ok (.getfield 7, 3) := by decide +kernel
theorem dX0_hold_22 : decode cX0_hold 22 = .ok (.iload_n 1, 1) := by decide +kernel
theorem dX0_hold_23 : decode cX0_hold 23 = .ok (.iastore, 1) := by decide +kernel
theorem dX0_hold_24 : decode cX0_hold 24 = .ok (.aload_n 0, 1) := by decide +kernel
theorem dX0_hold_25 : decode cX0_hold 25 = .ok (.getfield 17, 3) := by decide +kernel
theorem dX0_hold_28 : decode cX0_hold 28 = .ok (.aload_n 0, 1) := by decide +kernel
theorem dX0_hold_29 : decode cX0_hold 29 = .ok (.getfield 7, 3) := by decide +kernel
theorem dX0_hold_32 : decode cX0_hold 32 = .ok (.iload_n 2, 1) := by decide +kernel
theorem dX0_hold_33 : decode cX0_hold 33 = .ok (.iastore, 1) := by decide +kernel
theorem dX0_hold_34 : decode cX0_hold 34 = .ok (.aload_n 0, 1) := by decide +kernel
theorem dX0_hold_35 : decode cX0_hold 35 = .ok (.getfield 20, 3) := by decide +kernel
theorem dX0_hold_38 : decode cX0_hold 38 = .ok (.aload_n 0, 1) := by decide +kernel
theorem dX0_hold_39 : decode cX0_hold 39 = .ok (.getfield 7, 3) := by decide +kernel
theorem dX0_hold_42 : decode cX0_hold 42 = .ok (.iload_n 3, 1) := by decide +kernel
theorem dX0_hold_43 : decode cX0_hold 43 = .ok (.iastore, 1) := by decide +kernel
theorem dX0_hold_44 : decode cX0_hold 44 = .ok (.aload_n 0, 1) := by decide +kernel
theorem dX0_hold_45 : decode cX0_hold 45 = .ok (.dup, 1) := by decide +kernel
theorem dX0_hold_46 : decode cX0_hold 46 = .ok (.getfield 7, 3) := by decide +kernel
theorem dX0_hold_49 : decode cX0_hold 49 = .ok (.iconst 1, 1) := by decide +kernel
theorem dX0_hold_50 : decode cX0_hold 50 = .ok (.iadd, 1) := by decide +kernel
theorem dX0_hold_51 : decode cX0_hold 51 = .ok (.putfield 7, 3) := by decide +kernel
theorem dX0_hold_54 : decode cX0_hold 54 = .ok (.iconst 1, 1) := by decide +kernel
theorem dX0_hold_55 : decode cX0_hold 55 = .ok (.ireturn, 1) := by decide +kernel
theorem dX0_clear_0 : decode cX0_clear 0 = .ok (.aload_n 0, 1) := by decide +kernel
theorem dX0_clear_1 : decode cX0_clear 1 = .ok (.iconst 0, 1) := by decide +kernel
theorem dX0_clear_2 : decode cX0_clear 2 = .ok (.putfield 7, 3) := by decide +kernel
theorem dX0_clear_5 : decode cX0_clear 5 = .ok (.return_, 1) := by decide +kernel
theorem dX0_become_0 : decode cX0_become 0 = .ok (.aload_n 0, 1) := by decide +kernel
theorem dX0_become_1 : decode cX0_become 1 = .ok (.invokevirtual 23, 3) := by decide +kernel
theorem dX0_become_4 : decode cX0_become 4 = .ok (.iconst 0, 1) := by decide +kernel
theorem dX0_become_5 : decode cX0_become 5 = .ok (.istore_n 2, 1) := by decide +kernel
theorem dX0_become_6 : decode cX0_become 6 = .ok (.iload_n 2, 1) := by decide +kernel
theorem dX0_become_7 : decode cX0_become 7 = .ok (.aload_n 1, 1) := by decide +kernel
theorem dX0_become_8 : decode cX0_become 8 = .ok (.getfield 7, 3) := by decide +kernel
theorem dX0_become_11 : decode cX0_become 11 = .ok (.if_icmp .ge 32, 3) := by decide +kernel
theorem dX0_become_14 : decode cX0_become 14 = .ok (.aload_n 0, 1) := by decide +kernel
theorem dX0_become_15 : decode cX0_become 15 = .ok (.aload_n 1, 1) := by decide +kernel
theorem dX0_become_16 : decode cX0_become 16 = .ok (.getfield 13, 3) := by decide +kernel
theorem dX0_become_19 : decode cX0_become 19 = .ok (.iload_n 2, 1) := by decide +kernel
theorem dX0_become_20 : decode cX0_become 20 = .ok (.iaload, 1) := by decide +kernel
theorem dX0_become_21 : decode cX0_become 21 = .ok (.aload_n 1, 1) := by decide +kernel
theorem dX0_become_22 : decode cX0_become 22 = .ok (.getfield 17, 3) := by decide +kernel
theorem dX0_become_25 : decode cX0_become 25 = .ok (.iload_n 2, 1) := by decide +kernel
theorem dX0_become_26 : decode cX0_become 26 = .ok (.iaload, 1) := by decide +kernel
theorem dX0_become_27 : decode cX0_become 27 = .ok (.aload_n 1, 1) := by decide +kernel
theorem dX0_become_28 : decode cX0_become 28 = .ok (.getfield 20, 3) := by decide +kernel
theorem dX0_become_31 : decode cX0_become 31 = .ok (.iload_n 2, 1) := by decide +kernel
theorem dX0_become_32 : decode cX0_become 32 = .ok (.iaload, 1) := by decide +kernel
theorem dX0_become_33 : decode cX0_become 33 = .ok (.invokevirtual 26, 3) := by decide +kernel
theorem dX0_become_36 : decode cX0_become 36 = .ok (.pop, 1) := by decide +kernel
theorem dX0_become_37 : decode cX0_become 37 = .ok (.iinc 2 1, 3) := by decide +kernel
theorem dX0_become_40 : decode cX0_become 40 = .ok (.goto (-34), 3) := by decide +kernel
theorem dX0_become_43 : decode cX0_become 43 = .ok (.return_, 1) := by decide +kernel
theorem dX0_column_0 : decode cX0_column 0 = .ok (.iload_n 1, 1) := by decide +kernel
theorem dX0_column_1 : decode cX0_column 1 = .ok (.ifCond .lt 11, 3) := by decide +kernel
theorem dX0_column_4 : decode cX0_column 4 = .ok (.iload_n 1, 1) := by decide +kernel
theorem dX0_column_5 : decode cX0_column 5 = .ok (.aload_n 0, 1) := by decide +kernel
theorem dX0_column_6 : decode cX0_column 6 = .ok (.getfield 7, 3) := by decide +kernel
theorem dX0_column_9 : decode cX0_column 9 = .ok (.if_icmp .lt 5, 3) := by decide +kernel
theorem dX0_column_12 : decode cX0_column 12 = .ok (.iconst 0, 1) := by decide +kernel
theorem dX0_column_13 : decode cX0_column 13 = .ok (.ireturn, 1) := by decide +kernel
theorem dX0_column_14 : decode cX0_column 14 = .ok (.iload_n 2, 1) := by decide +kernel
theorem dX0_column_15 : decode cX0_column 15 = .ok (.ifCond .ne 12, 3) := by decide +kernel
theorem dX0_column_18 : decode cX0_column 18 = .ok (.aload_n 0, 1) := by decide +kernel
theorem dX0_column_19 : decode cX0_column 19 = .ok (.getfield 13, 3) := by decide +kernel
theorem dX0_column_22 : decode cX0_column 22 = .ok (.iload_n 1, 1) := by decide +kernel
theorem dX0_column_23 : decode cX0_column 23 = .ok (.iaload, 1) := by decide +kernel
theorem dX0_column_24 : decode cX0_column 24 = .ok (.goto 23, 3) := by decide +kernel
theorem dX0_column_27 : decode cX0_column 27 = .ok (.iload_n 2, 1) := by decide +kernel
theorem dX0_column_28 : decode cX0_column 28 = .ok (.iconst 1, 1) := by decide +kernel
theorem dX0_column_29 : decode cX0_column 29 = .ok (.if_icmp .ne 12, 3) := by decide +kernel
theorem dX0_column_32 : decode cX0_column 32 = .ok (.aload_n 0, 1) := by decide +kernel
theorem dX0_column_33 : decode cX0_column 33 = .ok (.getfield 17, 3) := by decide +kernel
theorem dX0_column_36 : decode cX0_column 36 = .ok (.iload_n 1, 1) := by decide +kernel
theorem dX0_column_37 : decode cX0_column 37 = .ok (.iaload, 1) := by decide +kernel
theorem dX0_column_38 : decode cX0_column 38 = .ok (.goto 9, 3) := by decide +kernel
theorem dX0_column_41 : decode cX0_column 41 = .ok (.aload_n 0, 1) := by decide +kernel
theorem dX0_column_42 : decode cX0_column 42 = .ok (.getfield 20, 3) := by decide +kernel
theorem dX0_column_45 : decode cX0_column 45 = .ok (.iload_n 1, 1) := by decide +kernel
theorem dX0_column_46 : decode cX0_column 46 = .ok (.iaload, 1) := by decide +kernel
theorem dX0_column_47 : decode cX0_column 47 = .ok (.ireturn, 1) := by decide +kernel
theorem dX0_total_0 : decode cX0_total 0 = .ok (.iconst 0, 1) := by decide +kernel
theorem dX0_total_1 : decode cX0_total 1 = .ok (.istore_n 1, 1) := by decide +kernel
theorem dX0_total_2 : decode cX0_total 2 = .ok (.iconst 0, 1) := by decide +kernel
theorem dX0_total_3 : decode cX0_total 3 = .ok (.istore_n 2, 1) := by decide +kernel
theorem dX0_total_4 : decode cX0_total 4 = .ok (.iload_n 2, 1) := by decide +kernel
theorem dX0_total_5 : decode cX0_total 5 = .ok (.aload_n 0, 1) := by decide +kernel
theorem dX0_total_6 : decode cX0_total 6 = .ok (.getfield 7, 3) := by decide +kernel
theorem dX0_total_9 : decode cX0_total 9 = .ok (.if_icmp .ge 38, 3) := by decide +kernel
theorem dX0_total_12 : decode cX0_total 12 = .ok (.iload_n 1, 1) := by decide +kernel
theorem dX0_total_13 : decode cX0_total 13 = .ok (.bipush 31, 2) := by decide +kernel
theorem dX0_total_15 : decode cX0_total 15 = .ok (.bipush 31, 2) := by decide +kernel
theorem dX0_total_17 : decode cX0_total 17 = .ok (.aload_n 0, 1) := by decide +kernel
theorem dX0_total_18 : decode cX0_total 18 = .ok (.getfield 13, 3) := by decide +kernel
theorem dX0_total_21 : decode cX0_total 21 = .ok (.iload_n 2, 1) := by decide +kernel
theorem dX0_total_22 : decode cX0_total 22 = .ok (.iaload, 1) := by decide +kernel
theorem dX0_total_23 : decode cX0_total 23 = .ok (.imul, 1) := by decide +kernel
theorem dX0_total_24 : decode cX0_total 24 = .ok (.aload_n 0, 1) := by decide +kernel
theorem dX0_total_25 : decode cX0_total 25 = .ok (.getfield 17, 3) := by decide +kernel
theorem dX0_total_28 : decode cX0_total 28 = .ok (.iload_n 2, 1) := by decide +kernel
theorem dX0_total_29 : decode cX0_total 29 = .ok (.iaload, 1) := by decide +kernel
theorem dX0_total_30 : decode cX0_total 30 = .ok (.iadd, 1) := by decide +kernel
theorem dX0_total_31 : decode cX0_total 31 = .ok (.imul, 1) := by decide +kernel
theorem dX0_total_32 : decode cX0_total 32 = .ok (.aload_n 0, 1) := by decide +kernel
theorem dX0_total_33 : decode cX0_total 33 = .ok (.getfield 20, 3) := by decide +kernel
theorem dX0_total_36 : decode cX0_total 36 = .ok (.iload_n 2, 1) := by decide +kernel
theorem dX0_total_37 : decode cX0_total 37 = .ok (.iaload, 1) := by decide +kernel
theorem dX0_total_38 : decode cX0_total 38 = .ok (.iadd, 1) := by decide +kernel
theorem dX0_total_39 : decode cX0_total 39 = .ok (.iadd, 1) := by decide +kernel
theorem dX0_total_40 : decode cX0_total 40 = .ok (.istore_n 1, 1) := by decide +kernel
theorem dX0_total_41 : decode cX0_total 41 = .ok (.iinc 2 1, 3) := by decide +kernel
theorem dX0_total_44 : decode cX0_total 44 = .ok (.goto (-40), 3) := by decide +kernel
theorem dX0_total_47 : decode cX0_total 47 = .ok (.iload_n 1, 1) := by decide +kernel
theorem dX0_total_48 : decode cX0_total 48 = .ok (.ireturn, 1) := by decide +kernel
theorem dX3_init_0 : decode cX3_init 0 = .ok (.aload_n 0, 1) := by decide +kernel
theorem dX3_init_1 : decode cX3_init 1 = .ok (.invokespecial 1, 3) := by decide +kernel
theorem dX3_init_4 : decode cX3_init 4 = .ok (.return_, 1) := by decide +kernel
theorem dX3_setColumns_0 : decode cX3_setColumns 0 = .ok (.aload_n 0, 1) := by decide +kernel
theorem dX3_setColumns_1 : decode cX3_setColumns 1 = .ok (.iload_n 1, 1) := by decide +kernel
theorem dX3_setColumns_2 : decode cX3_setColumns 2 = .ok (.putfield 7, 3) := by decide +kernel
theorem dX3_setColumns_5 : decode cX3_setColumns 5 = .ok (.aload_n 0, 1) := by decide +kernel
theorem dX3_setColumns_6 : decode cX3_setColumns 6 = .ok (.iload_n 2, 1) := by decide +kernel
theorem dX3_setColumns_7 : decode cX3_setColumns 7 = .ok (.putfield 13, 3) := by decide +kernel
theorem dX3_setColumns_10 : decode cX3_setColumns 10 = .ok (.aload_n 0, 1) := by decide +kernel
theorem dX3_setColumns_11 : decode cX3_setColumns 11 = .ok (.iload_n 3, 1) := by decide +kernel
theorem dX3_setColumns_12 : decode cX3_setColumns 12 = .ok (.putfield 16, 3) := by decide +kernel
theorem dX3_setColumns_15 : decode cX3_setColumns 15 = .ok (.return_, 1) := by decide +kernel
theorem dX3_column_0 : decode cX3_column 0 = .ok (.iload_n 1, 1) := by decide +kernel
theorem dX3_column_1 : decode cX3_column 1 = .ok (.ifCond .ne 10, 3) := by decide +kernel
theorem dX3_column_4 : decode cX3_column 4 = .ok (.aload_n 0, 1) := by decide +kernel
theorem dX3_column_5 : decode cX3_column 5 = .ok (.getfield 7, 3) := by decide +kernel
theorem dX3_column_8 : decode cX3_column 8 = .ok (.goto 19, 3) := by decide +kernel
theorem dX3_column_11 : decode cX3_column 11 = .ok (.iload_n 1, 1) := by decide +kernel
theorem dX3_column_12 : decode cX3_column 12 = .ok (.iconst 1, 1) := by decide +kernel
theorem dX3_column_13 : decode cX3_column 13 = .ok (.if_icmp .ne 10, 3) := by decide +kernel
theorem dX3_column_16 : decode cX3_column 16 = .ok (.aload_n 0, 1) := by decide +kernel
theorem dX3_column_17 : decode cX3_column 17 = .ok (.getfield 13, 3) := by decide +kernel
theorem dX3_column_20 : decode cX3_column 20 = .ok (.goto 7, 3) := by decide +kernel
theorem dX3_column_23 : decode cX3_column 23 = .ok (.aload_n 0, 1) := by decide +kernel
theorem dX3_column_24 : decode cX3_column 24 = .ok (.getfield 16, 3) := by decide +kernel
theorem dX3_column_27 : decode cX3_column 27 = .ok (.ireturn, 1) := by decide +kernel
theorem dX3_sameColumns_0 : decode cX3_sameColumns 0 = .ok (.aload_n 0, 1) := by decide +kernel
theorem dX3_sameColumns_1 : decode cX3_sameColumns 1 = .ok (.getfield 7, 3) := by decide +kernel
theorem dX3_sameColumns_4 : decode cX3_sameColumns 4 = .ok (.aload_n 1, 1) := by decide +kernel
theorem dX3_sameColumns_5 : decode cX3_sameColumns 5 = .ok (.getfield 7, 3) := by decide +kernel
theorem dX3_sameColumns_8 : decode cX3_sameColumns 8 = .ok (.if_icmp .ne 29, 3) := by decide +kernel
theorem dX3_sameColumns_11 : decode cX3_sameColumns 11 = .ok (.aload_n 0, 1) := by decide +kernel
theorem dX3_sameColumns_12 : decode cX3_sameColumns 12 = .ok (.getfield 13, 3) := by decide +kernel
theorem dX3_sameColumns_15 : decode cX3_sameColumns 15 = .ok (.aload_n 1, 1) := by decide +kernel
theorem dX3_sameColumns_16 : decode cX3_sameColumns 16 = .ok (.getfield 13, 3) := by decide +kernel
theorem dX3_sameColumns_19 : decode cX3_sameColumns 19 = .ok (.if_icmp .ne 18, 3) := by decide +kernel
theorem dX3_sameColumns_22 : decode cX3_sameColumns 22 = .ok (.aload_n 0, 1) := by decide +kernel
theorem dX3_sameColumns_23 : decode cX3_sameColumns 23 = .ok (.getfield 16, 3) := by decide +kernel
theorem dX3_sameColumns_26 : decode cX3_sameColumns 26 = .ok (.aload_n 1, 1) := by decide +kernel
theorem dX3_sameColumns_27 : decode cX3_sameColumns 27 = .ok (.getfield 16, 3) := by decide +kernel
theorem dX3_sameColumns_30 : decode cX3_sameColumns 30 = .ok (.if_icmp .ne 7, 3) := by decide +kernel
theorem dX3_sameColumns_33 : decode cX3_sameColumns 33 = .ok (.iconst 1, 1) := by decide +kernel
theorem dX3_sameColumns_34 : decode cX3_sameColumns 34 = .ok (.goto 4, 3) := by decide +kernel
theorem dX3_sameColumns_37 : decode cX3_sameColumns 37 = .ok (.iconst 0, 1) := by decide +kernel
theorem dX3_sameColumns_38 : decode cX3_sameColumns 38 = .ok (.ireturn, 1) := by decide +kernel
theorem dX3_sortBy_0 : decode cX3_sortBy 0 = .ok (.aload_n 0, 1) := by decide +kernel
theorem dX3_sortBy_1 : decode cX3_sortBy 1 = .ok (.iload_n 1, 1) := by decide +kernel
theorem dX3_sortBy_2 : decode cX3_sortBy 2 = .ok (.putfield 19, 3) := by decide +kernel
theorem dX3_sortBy_5 : decode cX3_sortBy 5 = .ok (.aload_n 0, 1) := by decide +kernel
theorem dX3_sortBy_6 : decode cX3_sortBy 6 = .ok (.iload_n 2, 1) := by decide +kernel
theorem dX3_sortBy_7 : decode cX3_sortBy 7 = .ok (.putfield 22, 3) := by decide +kernel
theorem dX3_sortBy_10 : decode cX3_sortBy 10 = .ok (.aload_n 0, 1) := by decide +kernel
theorem dX3_sortBy_11 : decode cX3_sortBy 11 = .ok (.iload_n 3, 1) := by decide +kernel
theorem dX3_sortBy_12 : decode cX3_sortBy 12 = .ok (.putfield 25, 3) := by decide +kernel
theorem dX3_sortBy_15 : decode cX3_sortBy 15 = .ok (.return_, 1) := by decide +kernel
theorem dX3_isBehind_0 : decode cX3_isBehind 0 = .ok (.aload_n 0, 1) := by decide +kernel
theorem dX3_isBehind_1 : decode cX3_isBehind 1 = .ok (.getfield 19, 3) := by decide +kernel
theorem dX3_isBehind_4 : decode cX3_isBehind 4 = .ok (.aload_n 1, 1) := by decide +kernel
theorem dX3_isBehind_5 : decode cX3_isBehind 5 = .ok (.getfield 19, 3) := by decide +kernel
theorem dX3_isBehind_8 : decode cX3_isBehind 8 = .ok (.if_icmp .eq 20, 3) := by decide +kernel
theorem dX3_isBehind_11 : decode cX3_isBehind 11 = .ok (.aload_n 0, 1) := by decide +kernel
theorem dX3_isBehind_12 : decode cX3_isBehind 12 = .ok (.getfield 19, 3) := by decide +kernel
theorem dX3_isBehind_15 : decode cX3_isBehind 15 = .ok (.aload_n 1, 1) := by decide +kernel
theorem dX3_isBehind_16 : decode cX3_isBehind 16 = .ok (.getfield 19, 3) := by decide +kernel
theorem dX3_isBehind_19 : decode cX3_isBehind 19 = .ok (.if_icmp .le 7, 3) := by decide +kernel
theorem dX3_isBehind_22 : decode cX3_isBehind 22 = .ok (.iconst 1, 1) := by decide +kernel
theorem dX3_isBehind_23 : decode cX3_isBehind 23 = .ok (.goto 4, 3) := by decide +kernel
theorem dX3_isBehind_26 : decode cX3_isBehind 26 = .ok (.iconst 0, 1) := by decide +kernel
theorem dX3_isBehind_27 : decode cX3_isBehind 27 = .ok (.ireturn, 1) := by decide +kernel
theorem dX3_isBehind_28 : decode cX3_isBehind 28 = .ok (.aload_n 0, 1) := by decide +kernel
theorem dX3_isBehind_29 : decode cX3_isBehind 29 = .ok (.getfield 22, 3) := by decide +kernel
theorem dX3_isBehind_32 : decode cX3_isBehind 32 = .ok (.aload_n 1, 1) := by decide +kernel
theorem dX3_isBehind_33 : decode cX3_isBehind 33 = .ok (.getfield 22, 3) := by decide +kernel
theorem dX3_isBehind_36 : decode cX3_isBehind 36 = .ok (.if_icmp .eq 20, 3) := by decide +kernel
theorem dX3_isBehind_39 : decode cX3_isBehind 39 = .ok (.aload_n 0, 1) := by decide +kernel
theorem dX3_isBehind_40 : decode cX3_isBehind 40 = .ok (.getfield 22, 3) := by decide +kernel
theorem dX3_isBehind_43 : decode cX3_isBehind 43 = .ok (.aload_n 1, 1) := by decide +kernel
theorem dX3_isBehind_44 : decode cX3_isBehind 44 = .ok (.getfield 22, 3) := by decide +kernel
theorem dX3_isBehind_47 : decode cX3_isBehind 47 = .ok (.if_icmp .le 7, 3) := by decide +kernel
theorem dX3_isBehind_50 : decode cX3_isBehind 50 = .ok (.iconst 1, 1) := by decide +kernel
theorem dX3_isBehind_51 : decode cX3_isBehind 51 = .ok (.goto 4, 3) := by decide +kernel
theorem dX3_isBehind_54 : decode cX3_isBehind 54 = .ok (.iconst 0, 1) := by decide +kernel
theorem dX3_isBehind_55 : decode cX3_isBehind 55 = .ok (.ireturn, 1) := by decide +kernel
theorem dX3_isBehind_56 : decode cX3_isBehind 56 = .ok (.aload_n 0, 1) := by decide +kernel
theorem dX3_isBehind_57 : decode cX3_isBehind 57 = .ok (.getfield 25, 3) := by decide +kernel
theorem dX3_isBehind_60 : decode cX3_isBehind 60 = .ok (.aload_n 1, 1) := by decide +kernel
theorem dX3_isBehind_61 : decode cX3_isBehind 61 = .ok (.getfield 25, 3) := by decide +kernel
theorem dX3_isBehind_64 : decode cX3_isBehind 64 = .ok (.if_icmp .le 7, 3) := by decide +kernel
theorem dX3_isBehind_67 : decode cX3_isBehind 67 = .ok (.iconst 1, 1) := by decide +kernel
theorem dX3_isBehind_68 : decode cX3_isBehind 68 = .ok (.goto 4, 3) := by decide +kernel
theorem dX3_isBehind_71 : decode cX3_isBehind 71 = .ok (.iconst 0, 1) := by decide +kernel
theorem dX3_isBehind_72 : decode cX3_isBehind 72 = .ok (.ireturn, 1) := by decide +kernel
theorem dX3_keep_0 : decode cX3_keep 0 = .ok (.aload_n 0, 1) := by decide +kernel
theorem dX3_keep_1 : decode cX3_keep 1 = .ok (.iconst 1, 1) := by decide +kernel
theorem dX3_keep_2 : decode cX3_keep 2 = .ok (.putfield 28, 3) := by decide +kernel
theorem dX3_keep_5 : decode cX3_keep 5 = .ok (.aload_n 0, 1) := by decide +kernel
theorem dX3_keep_6 : decode cX3_keep 6 = .ok (.iload_n 1, 1) := by decide +kernel
theorem dX3_keep_7 : decode cX3_keep 7 = .ok (.iload_n 2, 1) := by decide +kernel
theorem dX3_keep_8 : decode cX3_keep 8 = .ok (.isub, 1) := by decide +kernel
theorem dX3_keep_9 : decode cX3_keep 9 = .ok (.putfield 32, 3) := by decide +kernel
theorem dX3_keep_12 : decode cX3_keep 12 = .ok (.aload_n 0, 1) := by decide +kernel
theorem dX3_keep_13 : decode cX3_keep 13 = .ok (.iconst 0, 1) := by decide +kernel
theorem dX3_keep_14 : decode cX3_keep 14 = .ok (.putfield 35, 3) := by decide +kernel
theorem dX3_keep_17 : decode cX3_keep 17 = .ok (.return_, 1) := by decide +kernel
theorem dX3_discard_0 : decode cX3_discard 0 = .ok (.aload_n 0, 1) := by decide +kernel
theorem dX3_discard_1 : decode cX3_discard 1 = .ok (.iconst 0, 1) := by decide +kernel
theorem dX3_discard_2 : decode cX3_discard 2 = .ok (.putfield 28, 3) := by decide +kernel
theorem dX3_discard_5 : decode cX3_discard 5 = .ok (.aload_n 0, 1) := by decide +kernel
theorem dX3_discard_6 : decode cX3_discard 6 = .ok (.iconst 0, 1) := by decide +kernel
theorem dX3_discard_7 : decode cX3_discard 7 = .ok (.putfield 32, 3) := by decide +kernel
theorem dX3_discard_10 : decode cX3_discard 10 = .ok (.aload_n 0, 1) := by decide +kernel
theorem dX3_discard_11 : decode cX3_discard 11 = .ok (.iconst 0, 1) := by decide +kernel
theorem dX3_discard_12 : decode cX3_discard 12 = .ok (.putfield 35, 3) := by decide +kernel
theorem dX3_discard_15 : decode cX3_discard 15 = .ok (.return_, 1) := by decide +kernel
theorem dX3_partners_0 : decode cX3_partners 0 = .ok (.aload_n 0, 1) := by decide +kernel
theorem dX3_partners_1 : decode cX3_partners 1 = .ok (.getfield 38, 3) := by decide +kernel
theorem dX3_partners_4 : decode cX3_partners 4 = .ok (.ifCond .ne 10, 3) := by decide +kernel
theorem dX3_partners_7 : decode cX3_partners 7 = .ok (.aload_n 0, 1) := by decide +kernel
theorem dX3_partners_8 : decode cX3_partners 8 = .ok (.getfield 41, 3) := by decide +kernel
theorem dX3_partners_11 : decode cX3_partners 11 = .ok (.goto 7, 3) := by decide +kernel
theorem dX3_partners_14 : decode cX3_partners 14 = .ok (.aload_n 0, 1) := by decide +kernel
theorem dX3_partners_15 : decode cX3_partners 15 = .ok (.getfield 44, 3) := by decide +kernel
theorem dX3_partners_18 : decode cX3_partners 18 = .ok (.ireturn, 1) := by decide +kernel
theorem dX3_become_0 : decode cX3_become 0 = .ok (.aload_n 0, 1) := by decide +kernel
theorem dX3_become_1 : decode cX3_become 1 = .ok (.aload_n 1, 1) := by decide +kernel
theorem dX3_become_2 : decode cX3_become 2 = .ok (.getfield 7, 3) := by decide +kernel
theorem dX3_become_5 : decode cX3_become 5 = .ok (.aload_n 1, 1) := by decide +kernel
theorem dX3_become_6 : decode cX3_become 6 = .ok (.getfield 13, 3) := by decide +kernel
theorem dX3_become_9 : decode cX3_become 9 = .ok (.aload_n 1, 1) := by decide +kernel
theorem dX3_become_10 : decode cX3_become 10 = .ok (.getfield 16, 3) := by decide +kernel
theorem dX3_become_13 : decode cX3_become 13 = .ok (.invokevirtual 47, 3) := by decide +kernel
theorem dX3_become_16 : decode cX3_become 16 = .ok (.aload_n 0, 1) := by decide +kernel
theorem dX3_become_17 : decode cX3_become 17 = .ok (.aload_n 1, 1) := by decide +kernel
theorem dX3_become_18 : decode cX3_become 18 = .ok (.getfield 51, 3) := by decide +kernel
theorem dX3_become_21 : decode cX3_become 21 = .ok (.putfield 51, 3) := by decide +kernel
theorem dX3_become_24 : decode cX3_become 24 = .ok (.aload_n 0, 1) := by decide +kernel
theorem dX3_become_25 : decode cX3_become 25 = .ok (.aload_n 1, 1) := by decide +kernel
theorem dX3_become_26 : decode cX3_become 26 = .ok (.getfield 38, 3) := by decide +kernel
theorem dX3_become_29 : decode cX3_become 29 = .ok (.putfield 38, 3) := by decide +kernel
theorem dX3_become_32 : decode cX3_become 32 = .ok (.aload_n 0, 1) := by decide +kernel
theorem dX3_become_33 : decode cX3_become 33 = .ok (.aload_n 1, 1) := by decide +kernel
theorem dX3_become_34 : decode cX3_become 34 = .ok (.getfield 44, 3) := by decide +kernel
theorem dX3_become_37 : decode cX3_become 37 = .ok (.putfield 44, 3) := by decide +kernel
theorem dX3_become_40 : decode cX3_become 40 = .ok (.aload_n 0, 1) := by decide +kernel
theorem dX3_become_41 : decode cX3_become 41 = .ok (.aload_n 1, 1) := by decide +kernel
theorem dX3_become_42 : decode cX3_become 42 = .ok (.getfield 41, 3) := by decide +kernel
theorem dX3_become_45 : decode cX3_become 45 = .ok (.putfield 41, 3) := by decide +kernel
theorem dX3_become_48 : decode cX3_become 48 = .ok (.aload_n 0, 1) := by decide +kernel
theorem dX3_become_49 : decode cX3_become 49 = .ok (.aload_n 1, 1) := by decide +kernel
theorem dX3_become_50 : decode cX3_become 50 = .ok (.getfield 19, 3) := by decide +kernel
theorem dX3_become_53 : decode cX3_become 53 = .ok (.aload_n 1, 1) := by decide +kernel
theorem dX3_become_54 : decode cX3_become 54 = .ok (.getfield 22, 3) := by decide +kernel
theorem dX3_become_57 : decode cX3_become 57 = .ok (.aload_n 1, 1) := by decide +kernel
theorem dX3_become_58 : decode cX3_become 58 = .ok (.getfield 25, 3) := by decide +kernel
theorem dX3_become_61 : decode cX3_become 61 = .ok (.invokevirtual 54, 3) := by decide +kernel
theorem dX3_become_64 : decode cX3_become 64 = .ok (.aload_n 0, 1) := by decide +kernel
theorem dX3_become_65 : decode cX3_become 65 = .ok (.aload_n 1, 1) := by decide +kernel
theorem dX3_become_66 : decode cX3_become 66 = .ok (.getfield 28, 3) := by decide +kernel
theorem dX3_become_69 : decode cX3_become 69 = .ok (.putfield 28, 3) := by decide +kernel
theorem dX3_become_72 : decode cX3_become 72 = .ok (.aload_n 0, 1) := by decide +kernel
theorem dX3_become_73 : decode cX3_become 73 = .ok (.aload_n 1, 1) := by decide +kernel
theorem dX3_become_74 : decode cX3_become 74 = .ok (.getfield 32, 3) := by decide +kernel
theorem dX3_become_77 : decode cX3_become 77 = .ok (.putfield 32, 3) := by decide +kernel
theorem dX3_become_80 : decode cX3_become 80 = .ok (.aload_n 0, 1) := by decide +kernel
theorem dX3_become_81 : decode cX3_become 81 = .ok (.aload_n 1, 1) := by decide +kernel
theorem dX3_become_82 : decode cX3_become 82 = .ok (.getfield 35, 3) := by decide +kernel
theorem dX3_become_85 : decode cX3_become 85 = .ok (.putfield 35, 3) := by decide +kernel
theorem dX3_become_88 : decode cX3_become 88 = .ok (.return_, 1) := by decide +kernel
theorem dX4_init_0 : decode cX4_init 0 = .ok (.aload_n 0, 1) := by decide +kernel
theorem dX4_init_1 : decode cX4_init 1 = .ok (.invokespecial 1, 3) := by decide +kernel
theorem dX4_init_4 : decode cX4_init 4 = .ok (.return_, 1) := by decide +kernel
theorem dX4_become_0 : decode cX4_become 0 = .ok (.aload_n 0, 1) := by decide +kernel
theorem dX4_become_1 : decode cX4_become 1 = .ok (.iload_n 1, 1) := by decide +kernel
theorem dX4_become_2 : decode cX4_become 2 = .ok (.putfield 7, 3) := by decide +kernel
theorem dX4_become_5 : decode cX4_become 5 = .ok (.aload_n 0, 1) := by decide +kernel
theorem dX4_become_6 : decode cX4_become 6 = .ok (.iload_n 2, 1) := by decide +kernel
theorem dX4_become_7 : decode cX4_become 7 = .ok (.putfield 13, 3) := by decide +kernel
theorem dX4_become_10 : decode cX4_become 10 = .ok (.aload_n 0, 1) := by decide +kernel
theorem dX4_become_11 : decode cX4_become 11 = .ok (.iload_n 3, 1) := by decide +kernel
theorem dX4_become_12 : decode cX4_become 12 = .ok (.putfield 16, 3) := by decide +kernel
theorem dX4_become_15 : decode cX4_become 15 = .ok (.aload_n 0, 1) := by decide +kernel
theorem dX4_become_16 : decode cX4_become 16 = .ok (.iload 4, 2) := by decide +kernel
theorem dX4_become_18 : decode cX4_become 18 = .ok (.putfield 19, 3) := by decide +kernel
theorem dX4_become_21 : decode cX4_become 21 = .ok (.return_, 1) := by decide +kernel
theorem dX5_init_0 : decode cX5_init 0 = .ok (.aload_n 0, 1) := by decide +kernel
theorem dX5_init_1 : decode cX5_init 1 = .ok (.invokespecial 5, 3) := by decide +kernel
theorem dX5_init_4 : decode cX5_init 4 = .ok (.aload_n 0, 1) := by decide +kernel
theorem dX5_init_5 : decode cX5_init 5 = .ok (.bipush 76, 2) := by decide +kernel
theorem dX5_init_7 : decode cX5_init 7 = .ok (.anewarray 11, 3) := by decide +kernel
theorem dX5_init_10 : decode cX5_init 10 = .ok (.putfield 13, 3) := by decide +kernel
theorem dX5_init_13 : decode cX5_init 13 = .ok (.aload_n 0, 1) := by decide +kernel
theorem dX5_init_14 : decode cX5_init 14 = .ok (.sipush 14688, 3) := by decide +kernel
theorem dX5_init_17 : decode cX5_init 17 = .ok (.newarray .int, 2) := by decide +kernel
theorem dX5_init_19 : decode cX5_init 19 = .ok (.putfield 17, 3) := by decide +kernel
theorem dX5_init_22 : decode cX5_init 22 = .ok (.aload_n 0, 1) := by decide +kernel
theorem dX5_init_23 : decode cX5_init 23 = .ok (.iconst 0, 1) := by decide +kernel
theorem dX5_init_24 : decode cX5_init 24 = .ok (.putfield 21, 3) := by decide +kernel
theorem dX5_init_27 : decode cX5_init 27 = .ok (.iconst 0, 1) := by decide +kernel
theorem dX5_init_28 : decode cX5_init 28 = .ok (.istore_n 1, 1) := by decide +kernel
theorem dX5_init_29 : decode cX5_init 29 = .ok (.iload_n 1, 1) := by decide +kernel
theorem dX5_init_30 : decode cX5_init 30 = .ok (.bipush 76, 2) := by decide +kernel
theorem dX5_init_32 : decode cX5_init 32 = .ok (.if_icmp .ge 22, 3) := by decide +kernel
theorem dX5_init_35 : decode cX5_init 35 = .ok (.aload_n 0, 1) := by decide +kernel
theorem dX5_init_36 : decode cX5_init 36 = .ok (.getfield 13, 3) := by decide +kernel
theorem dX5_init_39 : decode cX5_init 39 = .ok (.iload_n 1, 1) := by decide +kernel
theorem dX5_init_40 : decode cX5_init 40 = .ok (.new 11, 3) := by decide +kernel
theorem dX5_init_43 : decode cX5_init 43 = .ok (.dup, 1) := by decide +kernel
theorem dX5_init_44 : decode cX5_init 44 = .ok (.invokespecial 25, 3) := by decide +kernel
theorem dX5_init_47 : decode cX5_init 47 = .ok (.aastore, 1) := by decide +kernel
theorem dX5_init_48 : decode cX5_init 48 = .ok (.iinc 1 1, 3) := by decide +kernel
theorem dX5_init_51 : decode cX5_init 51 = .ok (.goto (-22), 3) := by decide +kernel
theorem dX5_init_54 : decode cX5_init 54 = .ok (.return_, 1) := by decide +kernel
theorem dX5_startTrace_0 : decode cX5_startTrace 0 = .ok (.aload_n 0, 1) := by decide +kernel
theorem dX5_startTrace_1 : decode cX5_startTrace 1 = .ok (.iconst 0, 1) := by decide +kernel
theorem dX5_startTrace_2 : decode cX5_startTrace 2 = .ok (.putfield 21, 3) := by decide +kernel
theorem dX5_startTrace_5 : decode cX5_startTrace 5 = .ok (.return_, 1) := by decide +kernel
theorem dX5_notedAt_0 : decode cX5_notedAt 0 = .ok (.iload_n 1, 1) := by decide +kernel
theorem dX5_notedAt_1 : decode cX5_notedAt 1 = .ok (.ifCond .lt 20, 3) := by decide +kernel
theorem dX5_notedAt_4 : decode cX5_notedAt 4 = .ok (.iload_n 1, 1) := by decide +kernel
theorem dX5_notedAt_5 : decode cX5_notedAt 5 = .ok (.aload_n 0, 1) := by decide +kernel
theorem dX5_notedAt_6 : decode cX5_notedAt 6 = .ok (.getfield 21, 3) := by decide +kernel
theorem dX5_notedAt_9 : decode cX5_notedAt 9 = .ok (.if_icmp .ge 12, 3) := by decide +kernel
theorem dX5_notedAt_12 : decode cX5_notedAt 12 = .ok (.aload_n 0, 1) := by decide +kernel
theorem dX5_notedAt_13 : decode cX5_notedAt 13 = .ok (.getfield 17, 3) := by decide +kernel
theorem dX5_notedAt_16 : decode cX5_notedAt 16 = .ok (.iload_n 1, 1) := by decide +kernel
theorem dX5_notedAt_17 : decode cX5_notedAt 17 = .ok (.iaload, 1) := by decide +kernel
theorem dX5_notedAt_18 : decode cX5_notedAt 18 = .ok (.goto 4, 3) := by decide +kernel
theorem dX5_notedAt_21 : decode cX5_notedAt 21 = .ok (.iconst (-1), 1) := by decide +kernel
theorem dX5_notedAt_22 : decode cX5_notedAt 22 = .ok (.ireturn, 1) := by decide +kernel
theorem dX5_read_0 : decode cX5_read 0 = .ok (.aload_n 0, 1) := by decide +kernel
theorem dX5_read_1 : decode cX5_read 1 = .ok (.iconst 2, 1) := by decide +kernel
theorem dX5_read_2 : decode cX5_read 2 = .ok (.iload_n 1, 1) := by decide +kernel
theorem dX5_read_3 : decode cX5_read 3 = .ok (.imul, 1) := by decide +kernel
theorem dX5_read_4 : decode cX5_read 4 = .ok (.invokevirtual 26, 3) := by decide +kernel
theorem dX5_read_7 : decode cX5_read 7 = .ok (.aload_n 0, 1) := by decide +kernel
theorem dX5_read_8 : decode cX5_read 8 = .ok (.iload_n 1, 1) := by decide +kernel
theorem dX5_read_9 : decode cX5_read 9 = .ok (.invokevirtual 30, 3) := by decide +kernel
theorem dX5_read_12 : decode cX5_read 12 = .ok (.areturn, 1) := by decide +kernel
theorem dX5_write_0 : decode cX5_write 0 = .ok (.aload_n 0, 1) := by decide +kernel
theorem dX5_write_1 : decode cX5_write 1 = .ok (.iconst 2, 1) := by decide +kernel
theorem dX5_write_2 : decode cX5_write 2 = .ok (.iload_n 1, 1) := by decide +kernel
theorem dX5_write_3 : decode cX5_write 3 = .ok (.imul, 1) := by decide +kernel
theorem dX5_write_4 : decode cX5_write 4 = .ok (.iconst 1, 1) := by decide +kernel
theorem dX5_write_5 : decode cX5_write 5 = .ok (.iadd, 1) := by decide +kernel
theorem dX5_write_6 : decode cX5_write 6 = .ok (.invokevirtual 26, 3) := by decide +kernel
theorem dX5_write_9 : decode cX5_write 9 = .ok (.iload_n 1, 1) := by decide +kernel
theorem dX5_write_10 : decode cX5_write 10 = .ok (.ifCond .lt 16, 3) := by decide +kernel
theorem dX5_write_13 : decode cX5_write 13 = .ok (.iload_n 1, 1) := by decide +kernel
theorem dX5_write_14 : decode cX5_write 14 = .ok (.bipush 76, 2) := by decide +kernel
theorem dX5_write_16 : decode cX5_write 16 = .ok (.if_icmp .ge 10, 3) := by decide +kernel
theorem dX5_write_19 : decode cX5_write 19 = .ok (.aload_n 0, 1) := by decide +kernel
theorem dX5_write_20 : decode cX5_write 20 = .ok (.getfield 13, 3) := by decide +kernel
theorem dX5_write_23 : decode cX5_write 23 = .ok (.iload_n 1, 1) := by decide +kernel
theorem dX5_write_24 : decode cX5_write 24 = .ok (.aload_n 2, 1) := by decide +kernel
theorem dX5_write_25 : decode cX5_write 25 = .ok (.aastore, 1) := by decide +kernel
theorem dX5_write_26 : decode cX5_write 26 = .ok (.return_, 1) := by decide +kernel
theorem dX5_at_0 : decode cX5_at 0 = .ok (.aload_n 0, 1) := by decide +kernel
theorem dX5_at_1 : decode cX5_at 1 = .ok (.getfield 13, 3) := by decide +kernel
theorem dX5_at_4 : decode cX5_at 4 = .ok (.iload_n 1, 1) := by decide +kernel
theorem dX5_at_5 : decode cX5_at 5 = .ok (.ifCond .lt 13, 3) := by decide +kernel
theorem dX5_at_8 : decode cX5_at 8 = .ok (.iload_n 1, 1) := by decide +kernel
theorem dX5_at_9 : decode cX5_at 9 = .ok (.bipush 76, 2) := by decide +kernel
theorem dX5_at_11 : decode cX5_at 11 = .ok (.if_icmp .ge 7, 3) := by decide +kernel
theorem dX5_at_14 : decode cX5_at 14 = .ok (.iload_n 1, 1) := by decide +kernel
theorem dX5_at_15 : decode cX5_at 15 = .ok (.goto 4, 3) := by decide +kernel
theorem dX5_at_18 : decode cX5_at 18 = .ok (.iconst 0, 1) := by decide +kernel
theorem dX5_at_19 : decode cX5_at 19 = .ok (.aaload, 1) := by decide +kernel
theorem dX5_at_20 : decode cX5_at 20 = .ok (.areturn, 1) := by decide +kernel
theorem dX5_copy_0 : decode cX5_copy 0 = .ok (.aload_n 0, 1) := by decide +kernel
theorem dX5_copy_1 : decode cX5_copy 1 = .ok (.iload_n 1, 1) := by decide +kernel
theorem dX5_copy_2 : decode cX5_copy 2 = .ok (.invokevirtual 34, 3) := by decide +kernel
theorem dX5_copy_5 : decode cX5_copy 5 = .ok (.astore_n 3, 1) := by decide +kernel
theorem dX5_copy_6 : decode cX5_copy 6 = .ok (.aload_n 0, 1) := by decide +kernel
theorem dX5_copy_7 : decode cX5_copy 7 = .ok (.iload_n 2, 1) := by decide +kernel
theorem dX5_copy_8 : decode cX5_copy 8 = .ok (.invokevirtual 30, 3) := by decide +kernel
theorem dX5_copy_11 : decode cX5_copy 11 = .ok (.astore 4, 2) := by decide +kernel
theorem dX5_copy_13 : decode cX5_copy 13 = .ok (.aload 4, 2) := by decide +kernel
theorem dX5_copy_15 : decode cX5_copy 15 = .ok (.aload_n 3, 1) := by decide +kernel
theorem dX5_copy_16 : decode cX5_copy 16 = .ok (.invokevirtual 37, 3) := by decide +kernel
theorem dX5_copy_19 : decode cX5_copy 19 = .ok (.aload_n 0, 1) := by decide +kernel
theorem dX5_copy_20 : decode cX5_copy 20 = .ok (.iload_n 2, 1) := by decide +kernel
theorem dX5_copy_21 : decode cX5_copy 21 = .ok (.aload 4, 2) := by decide +kernel
theorem dX5_copy_23 : decode cX5_copy 23 = .ok (.invokevirtual 41, 3) := by decide +kernel
theorem dX5_copy_26 : decode cX5_copy 26 = .ok (.return_, 1) := by decide +kernel
theorem dX5_note_0 : decode cX5_note 0 = .ok (.aload_n 0, 1) := by decide +kernel
theorem dX5_note_1 : decode cX5_note 1 = .ok (.getfield 21, 3) := by decide +kernel
theorem dX5_note_4 : decode cX5_note 4 = .ok (.sipush 14688, 3) := by decide +kernel
theorem dX5_note_7 : decode cX5_note 7 = .ok (.if_icmp .ge 23, 3) := by decide +kernel
theorem dX5_note_10 : decode cX5_note 10 = .ok (.aload_n 0, 1) := by decide +kernel
theorem dX5_note_11 : decode cX5_note 11 = .ok (.getfield 17, 3) := by decide +kernel
theorem dX5_note_14 : decode cX5_note 14 = .ok (.aload_n 0, 1) := by decide +kernel
theorem dX5_note_15 : decode cX5_note 15 = .ok (.getfield 21, 3) := by decide +kernel
theorem dX5_note_18 : decode cX5_note 18 = .ok (.iload_n 1, 1) := by decide +kernel
theorem dX5_note_19 : decode cX5_note 19 = .ok (.iastore, 1) := by decide +kernel
theorem dX5_note_20 : decode cX5_note 20 = .ok (.aload_n 0, 1) := by decide +kernel
theorem dX5_note_21 : decode cX5_note 21 = .ok (.dup, 1) := by decide +kernel
theorem dX5_note_22 : decode cX5_note 22 = .ok (.getfield 21, 3) := by decide +kernel
theorem dX5_note_25 : decode cX5_note 25 = .ok (.iconst 1, 1) := by decide +kernel
theorem dX5_note_26 : decode cX5_note 26 = .ok (.iadd, 1) := by decide +kernel
theorem dX5_note_27 : decode cX5_note 27 = .ok (.putfield 21, 3) := by decide +kernel
theorem dX5_note_30 : decode cX5_note 30 = .ok (.return_, 1) := by decide +kernel
theorem dX5_lay_0 : decode cX5_lay 0 = .ok (.iconst 0, 1) := by decide +kernel
theorem dX5_lay_1 : decode cX5_lay 1 = .ok (.istore_n 2, 1) := by decide +kernel
theorem dX5_lay_2 : decode cX5_lay 2 = .ok (.iload_n 2, 1) := by decide +kernel
theorem dX5_lay_3 : decode cX5_lay 3 = .ok (.aload_n 1, 1) := by decide +kernel
theorem dX5_lay_4 : decode cX5_lay 4 = .ok (.getfield 45, 3) := by decide +kernel
theorem dX5_lay_7 : decode cX5_lay 7 = .ok (.if_icmp .ge 53, 3) := by decide +kernel
theorem dX5_lay_10 : decode cX5_lay 10 = .ok (.aload_n 0, 1) := by decide +kernel
theorem dX5_lay_11 : decode cX5_lay 11 = .ok (.iload_n 2, 1) := by decide +kernel
theorem dX5_lay_12 : decode cX5_lay 12 = .ok (.invokevirtual 30, 3) := by decide +kernel
theorem dX5_lay_15 : decode cX5_lay 15 = .ok (.astore_n 3, 1) := by decide +kernel
theorem dX5_lay_16 : decode cX5_lay 16 = .ok (.aload_n 3, 1) := by decide +kernel
theorem dX5_lay_17 : decode cX5_lay 17 = .ok (.aload_n 1, 1) := by decide +kernel
theorem dX5_lay_18 : decode cX5_lay 18 = .ok (.getfield 50, 3) := by decide +kernel
theorem dX5_lay_21 : decode cX5_lay 21 = .ok (.iload_n 2, 1) := by decide +kernel
theorem dX5_lay_22 : decode cX5_lay 22 = .ok (.iaload, 1) := by decide +kernel
theorem dX5_lay_23 : decode cX5_lay 23 = .ok (.aload_n 1, 1) := by decide +kernel
theorem dX5_lay_24 : decode cX5_lay 24 = .ok (.getfield 53, 3) := by decide +kernel
theorem dX5_lay_27 : decode cX5_lay 27 = .ok (.iload_n 2, 1) := by decide +kernel
theorem dX5_lay_28 : decode cX5_lay 28 = .ok (.iaload, 1) := by decide +kernel
theorem dX5_lay_29 : decode cX5_lay 29 = .ok (.aload_n 1, 1) := by decide +kernel
theorem dX5_lay_30 : decode cX5_lay 30 = .ok (.getfield 56, 3) := by decide +kernel
theorem dX5_lay_33 : decode cX5_lay 33 = .ok (.iload_n 2, 1) := by decide +kernel
theorem dX5_lay_34 : decode cX5_lay 34 = .ok (.iaload, 1) := by decide +kernel
theorem dX5_lay_35 : decode cX5_lay 35 = .ok (.invokevirtual 59, 3) := by decide +kernel
theorem dX5_lay_38 : decode cX5_lay 38 = .ok (.aload_n 3, 1) := by decide +kernel
theorem dX5_lay_39 : decode cX5_lay 39 = .ok (.aload_n 3, 1) := by decide +kernel
theorem dX5_lay_40 : decode cX5_lay 40 = .ok (.getfield 63, 3) := by decide +kernel
theorem dX5_lay_43 : decode cX5_lay 43 = .ok (.aload_n 3, 1) := by decide +kernel
theorem dX5_lay_44 : decode cX5_lay 44 = .ok (.getfield 66, 3) := by decide +kernel
theorem dX5_lay_47 : decode cX5_lay 47 = .ok (.aload_n 3, 1) := by decide +kernel
theorem dX5_lay_48 : decode cX5_lay 48 = .ok (.getfield 69, 3) := by decide +kernel
theorem dX5_lay_51 : decode cX5_lay 51 = .ok (.invokevirtual 72, 3) := by decide +kernel
theorem dX5_lay_54 : decode cX5_lay 54 = .ok (.iinc 2 1, 3) := by decide +kernel
theorem dX5_lay_57 : decode cX5_lay 57 = .ok (.goto (-55), 3) := by decide +kernel
theorem dX5_lay_60 : decode cX5_lay 60 = .ok (.aload_n 1, 1) := by decide +kernel
theorem dX5_lay_61 : decode cX5_lay 61 = .ok (.getfield 45, 3) := by decide +kernel
theorem dX5_lay_64 : decode cX5_lay 64 = .ok (.ireturn, 1) := by decide +kernel
theorem dX5_layByKey_0 : decode cX5_layByKey 0 = .ok (.iconst 0, 1) := by decide +kernel
theorem dX5_layByKey_1 : decode cX5_layByKey 1 = .ok (.istore 5, 2) := by decide +kernel
theorem dX5_layByKey_3 : decode cX5_layByKey 3 = .ok (.iload 5, 2) := by decide +kernel
theorem dX5_layByKey_5 : decode cX5_layByKey 5 = .ok (.aload_n 1, 1) := by decide +kernel
theorem dX5_layByKey_6 : decode cX5_layByKey 6 = .ok (.getfield 45, 3) := by decide +kernel
theorem dX5_layByKey_9 : decode cX5_layByKey 9 = .ok (.if_icmp .ge 76, 3) := by decide +kernel
theorem dX5_layByKey_12 : decode cX5_layByKey 12 = .ok (.aload_n 0, 1) := by decide +kernel
theorem dX5_layByKey_13 : decode cX5_layByKey 13 = .ok (.iload_n 2, 1) := by decide +kernel
theorem dX5_layByKey_14 : decode cX5_layByKey 14 = .ok (.iload 5, 2) := by decide +kernel
theorem dX5_layByKey_16 : decode cX5_layByKey 16 = .ok (.iadd, 1) := by decide +kernel
theorem dX5_layByKey_17 : decode cX5_layByKey 17 = .ok (.invokevirtual 30, 3) := by decide +kernel
theorem dX5_layByKey_20 : decode cX5_layByKey 20 = .ok (.astore 6, 2) := by decide +kernel
theorem dX5_layByKey_22 : decode cX5_layByKey 22 = .ok (.aload 6, 2) := by decide +kernel
theorem dX5_layByKey_24 : decode cX5_layByKey 24 = .ok (.aload_n 1, 1) := by decide +kernel
theorem dX5_layByKey_25 : decode cX5_layByKey 25 = .ok (.getfield 50, 3) := by decide +kernel
theorem dX5_layByKey_28 : decode cX5_layByKey 28 = .ok (.iload 5, 2) := by decide +kernel
theorem dX5_layByKey_30 : decode cX5_layByKey 30 = .ok (.iaload, 1) := by decide +kernel
theorem dX5_layByKey_31 : decode cX5_layByKey 31 = .ok (.aload_n 1, 1) := by decide +kernel
theorem dX5_layByKey_32 : decode cX5_layByKey 32 = .ok (.getfield 53, 3) := by decide +kernel
theorem dX5_layByKey_35 : decode cX5_layByKey 35 = .ok (.iload 5, 2) := by decide +kernel
theorem dX5_layByKey_37 : decode cX5_layByKey 37 = .ok (.iaload, 1) := by decide +kernel
theorem dX5_layByKey_38 : decode cX5_layByKey 38 = .ok (.aload_n 1, 1) := by decide +kernel
theorem dX5_layByKey_39 : decode cX5_layByKey 39 = .ok (.getfield 56, 3) := by decide +kernel
theorem dX5_layByKey_42 : decode cX5_layByKey 42 = .ok (.iload 5, 2) := by decide +kernel
theorem dX5_layByKey_44 : decode cX5_layByKey 44 = .ok (.iaload, 1) := by decide +kernel
theorem dX5_layByKey_45 : decode cX5_layByKey 45 = .ok (.invokevirtual 59, 3) := by decide +kernel
theorem dX5_layByKey_48 : decode cX5_layByKey 48 = .ok (.aload 6, 2) := by decide +kernel
theorem dX5_layByKey_50 : decode cX5_layByKey 50 = .ok (.aload 6, 2) := by decide +kernel
theorem dX5_layByKey_52 : decode cX5_layByKey 52 = .ok (.iload_n 3, 1) := by decide +kernel
theorem dX5_layByKey_53 : decode cX5_layByKey 53 = .ok (.invokevirtual 75, 3) := by decide +kernel
theorem dX5_layByKey_56 : decode cX5_layByKey 56 = .ok (.putfield 79, 3) := by decide +kernel
theorem dX5_layByKey_59 : decode cX5_layByKey 59 = .ok (.aload 6, 2) := by decide +kernel
theorem dX5_layByKey_61 : decode cX5_layByKey 61 = .ok (.iload 4, 2) := by decide +kernel
theorem dX5_layByKey_63 : decode cX5_layByKey 63 = .ok (.putfield 82, 3) := by decide +kernel
theorem dX5_layByKey_66 : decode cX5_layByKey 66 = .ok (.aload 6, 2) := by decide +kernel
theorem dX5_layByKey_68 : decode cX5_layByKey 68 = .ok (.aload 6, 2) := by decide +kernel
theorem dX5_layByKey_70 : decode cX5_layByKey 70 = .ok (.getfield 79, 3) := by decide +kernel
theorem dX5_layByKey_73 : decode cX5_layByKey 73 = .ok (.iload 4, 2) := by decide +kernel
theorem dX5_layByKey_75 : decode cX5_layByKey 75 = .ok (.iconst 0, 1) := by decide +kernel
theorem dX5_layByKey_76 : decode cX5_layByKey 76 = .ok (.invokevirtual 72, 3) := by decide +kernel
theorem dX5_layByKey_79 : decode cX5_layByKey 79 = .ok (.iinc 5 1, 3) := by decide +kernel
theorem dX5_layByKey_82 : decode cX5_layByKey 82 = .ok (.goto (-79), 3) := by decide +kernel
theorem dX5_layByKey_85 : decode cX5_layByKey 85 = .ok (.iload_n 2, 1) := by decide +kernel
theorem dX5_layByKey_86 : decode cX5_layByKey 86 = .ok (.aload_n 1, 1) := by decide +kernel
theorem dX5_layByKey_87 : decode cX5_layByKey 87 = .ok (.getfield 45, 3) := by decide +kernel
theorem dX5_layByKey_90 : decode cX5_layByKey 90 = .ok (.iadd, 1) := by decide +kernel
theorem dX5_layByKey_91 : decode cX5_layByKey 91 = .ok (.ireturn, 1) := by decide +kernel
theorem dX5_clear_0 : decode cX5_clear 0 = .ok (.iconst 0, 1) := by decide +kernel
theorem dX5_clear_1 : decode cX5_clear 1 = .ok (.istore_n 1, 1) := by decide +kernel
theorem dX5_clear_2 : decode cX5_clear 2 = .ok (.iload_n 1, 1) := by decide +kernel
theorem dX5_clear_3 : decode cX5_clear 3 = .ok (.bipush 76, 2) := by decide +kernel
theorem dX5_clear_5 : decode cX5_clear 5 = .ok (.if_icmp .ge 18, 3) := by decide +kernel
theorem dX5_clear_8 : decode cX5_clear 8 = .ok (.aload_n 0, 1) := by decide +kernel
theorem dX5_clear_9 : decode cX5_clear 9 = .ok (.getfield 13, 3) := by decide +kernel
theorem dX5_clear_12 : decode cX5_clear 12 = .ok (.iload_n 1, 1) := by decide +kernel
theorem dX5_clear_13 : decode cX5_clear 13 = .ok (.aaload, 1) := by decide +kernel
theorem dX5_clear_14 : decode cX5_clear 14 = .ok (.invokevirtual 85, 3) := by decide +kernel
theorem dX5_clear_17 : decode cX5_clear 17 = .ok (.iinc 1 1, 3) := by decide +kernel
theorem dX5_clear_20 : decode cX5_clear 20 = .ok (.goto (-18), 3) := by decide +kernel
theorem dX5_clear_23 : decode cX5_clear 23 = .ok (.return_, 1) := by decide +kernel
theorem dX5_takeAway_0 : decode cX5_takeAway 0 = .ok (.aload_n 1, 1) := by decide +kernel
theorem dX5_takeAway_1 : decode cX5_takeAway 1 = .ok (.invokevirtual 88, 3) := by decide +kernel
theorem dX5_takeAway_4 : decode cX5_takeAway 4 = .ok (.iconst 0, 1) := by decide +kernel
theorem dX5_takeAway_5 : decode cX5_takeAway 5 = .ok (.istore_n 3, 1) := by decide +kernel
theorem dX5_takeAway_6 : decode cX5_takeAway 6 = .ok (.iload_n 3, 1) := by decide +kernel
theorem dX5_takeAway_7 : decode cX5_takeAway 7 = .ok (.iload_n 2, 1) := by decide +kernel
theorem dX5_takeAway_8 : decode cX5_takeAway 8 = .ok (.if_icmp .ge 36, 3) := by decide +kernel
theorem dX5_takeAway_11 : decode cX5_takeAway 11 = .ok (.aload_n 0, 1) := by decide +kernel
theorem dX5_takeAway_12 : decode cX5_takeAway 12 = .ok (.iload_n 3, 1) := by decide +kernel
theorem dX5_takeAway_13 : decode cX5_takeAway 13 = .ok (.invokevirtual 30, 3) := by decide +kernel
theorem dX5_takeAway_16 : decode cX5_takeAway 16 = .ok (.astore 4, 2) := by decide +kernel
theorem dX5_takeAway_18 : decode cX5_takeAway 18 = .ok (.aload_n 1, 1) := by decide +kernel
theorem dX5_takeAway_19 : decode cX5_takeAway 19 = .ok (.aload 4, 2) := by decide +kernel
theorem dX5_takeAway_21 : decode cX5_takeAway 21 = .ok (.getfield 63, 3) := by decide +kernel
theorem dX5_takeAway_24 : decode cX5_takeAway 24 = .ok (.aload 4, 2) := by decide +kernel
theorem dX5_takeAway_26 : decode cX5_takeAway 26 = .ok (.getfield 66, 3) := by decide +kernel
theorem dX5_takeAway_29 : decode cX5_takeAway 29 = .ok (.aload 4, 2) := by decide +kernel
theorem dX5_takeAway_31 : decode cX5_takeAway 31 = .ok (.getfield 69, 3) := by decide +kernel
theorem dX5_takeAway_34 : decode cX5_takeAway 34 = .ok (.invokevirtual 91, 3) := by decide +kernel
theorem dX5_takeAway_37 : decode cX5_takeAway 37 = .ok (.pop, 1) := by decide +kernel
theorem dX5_takeAway_38 : decode cX5_takeAway 38 = .ok (.iinc 3 1, 3) := by decide +kernel
theorem dX5_takeAway_41 : decode cX5_takeAway 41 = .ok (.goto (-35), 3) := by decide +kernel
theorem dX5_takeAway_44 : decode cX5_takeAway 44 = .ok (.return_, 1) := by decide +kernel
theorem dX5_widest_0 : decode cX5_widest 0 = .ok (.iconst 1, 1) := by decide +kernel
theorem dX5_widest_1 : decode cX5_widest 1 = .ok (.istore_n 1, 1) := by decide +kernel
theorem dX5_widest_2 : decode cX5_widest 2 = .ok (.iload_n 1, 1) := by decide +kernel
theorem dX5_widest_3 : decode cX5_widest 3 = .ok (.bipush 76, 2) := by decide +kernel
theorem dX5_widest_5 : decode cX5_widest 5 = .ok (.if_icmp .ge 17, 3) := by decide +kernel
theorem dX5_widest_8 : decode cX5_widest 8 = .ok (.iconst 2, 1) := by decide +kernel
theorem dX5_widest_9 : decode cX5_widest 9 = .ok (.iload_n 1, 1) := by decide +kernel
theorem dX5_widest_10 : decode cX5_widest 10 = .ok (.imul, 1) := by decide +kernel
theorem dX5_widest_11 : decode cX5_widest 11 = .ok (.iload_n 0, 1) := by decide +kernel
theorem dX5_widest_12 : decode cX5_widest 12 = .ok (.if_icmp .ge 10, 3) := by decide +kernel
theorem dX5_widest_15 : decode cX5_widest 15 = .ok (.iload_n 1, 1) := by decide +kernel
theorem dX5_widest_16 : decode cX5_widest 16 = .ok (.iconst 2, 1) := by decide +kernel
theorem dX5_widest_17 : decode cX5_widest 17 = .ok (.imul, 1) := by decide +kernel
theorem dX5_widest_18 : decode cX5_widest 18 = .ok (.istore_n 1, 1) := by decide +kernel
theorem dX5_widest_19 : decode cX5_widest 19 = .ok (.goto (-17), 3) := by decide +kernel
theorem dX5_widest_22 : decode cX5_widest 22 = .ok (.iload_n 1, 1) := by decide +kernel
theorem dX5_widest_23 : decode cX5_widest 23 = .ok (.ireturn, 1) := by decide +kernel
theorem dX5_sort_0 : decode cX5_sort 0 = .ok (.iload_n 2, 1) := by decide +kernel
theorem dX5_sort_1 : decode cX5_sort 1 = .ok (.iconst 2, 1) := by decide +kernel
theorem dX5_sort_2 : decode cX5_sort 2 = .ok (.if_icmp .ge 4, 3) := by decide +kernel
theorem dX5_sort_5 : decode cX5_sort 5 = .ok (.return_, 1) := by decide +kernel
theorem dX5_sort_6 : decode cX5_sort 6 = .ok (.iload_n 2, 1) := by decide +kernel
theorem dX5_sort_7 : decode cX5_sort 7 = .ok (.invokestatic 95, 3) := by decide +kernel
theorem dX5_sort_10 : decode cX5_sort 10 = .ok (.istore_n 3, 1) := by decide +kernel
theorem dX5_sort_11 : decode cX5_sort 11 = .ok (.iload_n 3, 1) := by decide +kernel
theorem dX5_sort_12 : decode cX5_sort 12 = .ok (.istore 4, 2) := by decide +kernel
theorem dX5_sort_14 : decode cX5_sort 14 = .ok (.iload 4, 2) := by decide +kernel
theorem dX5_sort_16 : decode cX5_sort 16 = .ok (.ifCond .le 57, 3) := by decide +kernel
theorem dX5_sort_19 : decode cX5_sort 19 = .ok (.aload_n 0, 1) := by decide +kernel
theorem dX5_sort_20 : decode cX5_sort 20 = .ok (.iload_n 1, 1) := by decide +kernel
theorem dX5_sort_21 : decode cX5_sort 21 = .ok (.iload_n 2, 1) := by decide +kernel
theorem dX5_sort_22 : decode cX5_sort 22 = .ok (.iload 4, 2) := by decide +kernel
theorem dX5_sort_24 : decode cX5_sort 24 = .ok (.iconst 0, 1) := by decide +kernel
theorem dX5_sort_25 : decode cX5_sort 25 = .ok (.iload 4, 2) := by decide +kernel
theorem dX5_sort_27 : decode cX5_sort 27 = .ok (.invokevirtual 98, 3) := by decide +kernel
theorem dX5_sort_30 : decode cX5_sort 30 = .ok (.iload_n 3, 1) := by decide +kernel
theorem dX5_sort_31 : decode cX5_sort 31 = .ok (.istore 5, 2) := by decide +kernel
theorem dX5_sort_33 : decode cX5_sort 33 = .ok (.iload 5, 2) := by decide +kernel
theorem dX5_sort_35 : decode cX5_sort 35 = .ok (.iload 4, 2) := by decide +kernel
theorem dX5_sort_37 : decode cX5_sort 37 = .ok (.if_icmp .le 27, 3) := by decide +kernel
theorem dX5_sort_40 : decode cX5_sort 40 = .ok (.aload_n 0, 1) := by decide +kernel
theorem dX5_sort_41 : decode cX5_sort 41 = .ok (.iload_n 1, 1) := by decide +kernel
theorem dX5_sort_42 : decode cX5_sort 42 = .ok (.iload_n 2, 1) := by decide +kernel
theorem dX5_sort_43 : decode cX5_sort 43 = .ok (.iload 4, 2) := by decide +kernel
theorem dX5_sort_45 : decode cX5_sort 45 = .ok (.iload 4, 2) := by decide +kernel
theorem dX5_sort_47 : decode cX5_sort 47 = .ok (.iload 5, 2) := by decide +kernel
theorem dX5_sort_49 : decode cX5_sort 49 = .ok (.iload 4, 2) := by decide +kernel
theorem dX5_sort_51 : decode cX5_sort 51 = .ok (.isub, 1) := by decide +kernel
theorem dX5_sort_52 : decode cX5_sort 52 = .ok (.invokevirtual 98, 3) := by decide +kernel
theorem dX5_sort_55 : decode cX5_sort 55 = .ok (.iload 5, 2) := by decide +kernel
theorem dX5_sort_57 : decode cX5_sort 57 = .ok (.iconst 2, 1) := by decide +kernel
theorem dX5_sort_58 : decode cX5_sort 58 = .ok (.idiv, 1) := by decide +kernel
theorem dX5_sort_59 : decode cX5_sort 59 = .ok (.istore 5, 2) := by decide +kernel
theorem dX5_sort_61 : decode cX5_sort 61 = .ok (.goto (-28), 3) := by decide +kernel
theorem dX5_sort_64 : decode cX5_sort 64 = .ok (.iload 4, 2) := by decide +kernel
theorem dX5_sort_66 : decode cX5_sort 66 = .ok (.iconst 2, 1) := by decide +kernel
theorem dX5_sort_67 : decode cX5_sort 67 = .ok (.idiv, 1) := by decide +kernel
theorem dX5_sort_68 : decode cX5_sort 68 = .ok (.istore 4, 2) := by decide +kernel
theorem dX5_sort_70 : decode cX5_sort 70 = .ok (.goto (-56), 3) := by decide +kernel
theorem dX5_sort_73 : decode cX5_sort 73 = .ok (.return_, 1) := by decide +kernel
theorem dX5_sortPass_0 : decode cX5_sortPass 0 = .ok (.iconst 0, 1) := by decide +kernel
theorem dX5_sortPass_1 : decode cX5_sortPass 1 = .ok (.istore 6, 2) := by decide +kernel
theorem dX5_sortPass_3 : decode cX5_sortPass 3 = .ok (.iload 6, 2) := by decide +kernel
theorem dX5_sortPass_5 : decode cX5_sortPass 5 = .ok (.iload_n 2, 1) := by decide +kernel
theorem dX5_sortPass_6 : decode cX5_sortPass 6 = .ok (.iload 5, 2) := by decide +kernel
theorem dX5_sortPass_8 : decode cX5_sortPass 8 = .ok (.isub, 1) := by decide +kernel
theorem dX5_sortPass_9 : decode cX5_sortPass 9 = .ok (.if_icmp .ge 91, 3) := by decide +kernel
theorem dX5_sortPass_12 : decode cX5_sortPass 12 = .ok (.iload 6, 2) := by decide +kernel
theorem dX5_sortPass_14 : decode cX5_sortPass 14 = .ok (.iload_n 3, 1) := by decide +kernel
theorem dX5_sortPass_15 : decode cX5_sortPass 15 = .ok (.iand, 1) := by decide +kernel
theorem dX5_sortPass_16 : decode cX5_sortPass 16 = .ok (.iload 4, 2) := by decide +kernel
theorem dX5_sortPass_18 : decode cX5_sortPass 18 = .ok (.if_icmp .ne 76, 3) := by decide +kernel
theorem dX5_sortPass_21 : decode cX5_sortPass 21 = .ok (.iload_n 1, 1) := by decide +kernel
theorem dX5_sortPass_22 : decode cX5_sortPass 22 = .ok (.iload 6, 2) := by decide +kernel
theorem dX5_sortPass_24 : decode cX5_sortPass 24 = .ok (.iadd, 1) := by decide +kernel
theorem dX5_sortPass_25 : decode cX5_sortPass 25 = .ok (.istore 7, 2) := by decide +kernel
theorem dX5_sortPass_27 : decode cX5_sortPass 27 = .ok (.aload_n 0, 1) := by decide +kernel
theorem dX5_sortPass_28 : decode cX5_sortPass 28 = .ok (.iload 7, 2) := by decide +kernel
theorem dX5_sortPass_30 : decode cX5_sortPass 30 = .ok (.invokevirtual 34, 3) := by decide +kernel
theorem dX5_sortPass_33 : decode cX5_sortPass 33 = .ok (.astore 8, 2) := by decide +kernel
theorem dX5_sortPass_35 : decode cX5_sortPass 35 = .ok (.aload_n 0, 1) := by decide +kernel
theorem dX5_sortPass_36 : decode cX5_sortPass 36 = .ok (.iload 7, 2) := by decide +kernel
theorem dX5_sortPass_38 : decode cX5_sortPass 38 = .ok (.iload 5, 2) := by decide +kernel
theorem dX5_sortPass_40 : decode cX5_sortPass 40 = .ok (.iadd, 1) := by decide +kernel
theorem dX5_sortPass_41 : decode cX5_sortPass 41 = .ok (.invokevirtual 34, 3) := by decide +kernel
theorem dX5_sortPass_44 : decode cX5_sortPass 44 = .ok (.astore 9, 2) := by decide +kernel
theorem dX5_sortPass_46 : decode cX5_sortPass 46 = .ok (.aload 8, 2) := by decide +kernel
theorem dX5_sortPass_48 : decode cX5_sortPass 48 = .ok (.aload 9, 2) := by decide +kernel
theorem dX5_sortPass_50 : decode cX5_sortPass 50 = .ok (.invokevirtual 102, 3) := by decide +kernel
theorem dX5_sortPass_53 : decode cX5_sortPass 53 = .ok (.istore 10, 2) := by decide +kernel
theorem dX5_sortPass_55 : decode cX5_sortPass 55 = .ok (.aload_n 0, 1) := by decide +kernel
theorem dX5_sortPass_56 : decode cX5_sortPass 56 = .ok (.iload 7, 2) := by decide +kernel
theorem dX5_sortPass_58 : decode cX5_sortPass 58 = .ok (.iload 10, 2) := by decide +kernel
theorem dX5_sortPass_60 : decode cX5_sortPass 60 = .ok (.ifCond .eq 8, 3) := by decide +kernel
theorem dX5_sortPass_63 : decode cX5_sortPass 63 = .ok (.aload 9, 2) := by decide +kernel
theorem dX5_sortPass_65 : decode cX5_sortPass 65 = .ok (.goto 5, 3) := by decide +kernel
theorem dX5_sortPass_68 : decode cX5_sortPass 68 = .ok (.aload 8, 2) := by decide +kernel
theorem dX5_sortPass_70 : decode cX5_sortPass 70 = .ok (.invokevirtual 41, 3) := by decide +kernel
theorem dX5_sortPass_73 : decode cX5_sortPass 73 = .ok (.aload_n 0, 1) := by decide +kernel
theorem dX5_sortPass_74 : decode cX5_sortPass 74 = .ok (.iload 7, 2) := by decide +kernel
theorem dX5_sortPass_76 : decode cX5_sortPass 76 = .ok (.iload 5, 2) := by decide +kernel
theorem dX5_sortPass_78 : decode cX5_sortPass 78 = .ok (.iadd, 1) := by decide +kernel
theorem dX5_sortPass_79 : decode cX5_sortPass 79 = .ok (.iload 10, 2) := by decide +kernel
theorem dX5_sortPass_81 : decode cX5_sortPass 81 = .ok (.ifCond .eq 8, 3) := by decide +kernel
theorem dX5_sortPass_84 : decode cX5_sortPass 84 = .ok (.aload 8, 2) := by decide +kernel
theorem dX5_sortPass_86 : decode cX5_sortPass 86 = .ok (.goto 5, 3) := by decide +kernel
theorem dX5_sortPass_89 : decode cX5_sortPass 89 = .ok (.aload 9, 2) := by decide +kernel
theorem dX5_sortPass_91 : decode cX5_sortPass 91 = .ok (.invokevirtual 41, 3) := by decide +kernel
theorem dX5_sortPass_94 : decode cX5_sortPass 94 = .ok (.iinc 6 1, 3) := by decide +kernel
theorem dX5_sortPass_97 : decode cX5_sortPass 97 = .ok (.goto (-94), 3) := by decide +kernel
theorem dX5_sortPass_100 : decode cX5_sortPass 100 = .ok (.return_, 1) := by decide +kernel
theorem dX5_squeeze_0 : decode cX5_squeeze 0 = .ok (.iconst 1, 1) := by decide +kernel
theorem dX5_squeeze_1 : decode cX5_squeeze 1 = .ok (.istore_n 3, 1) := by decide +kernel
theorem dX5_squeeze_2 : decode cX5_squeeze 2 = .ok (.iload_n 3, 1) := by decide +kernel
theorem dX5_squeeze_3 : decode cX5_squeeze 3 = .ok (.iload_n 2, 1) := by decide +kernel
theorem dX5_squeeze_4 : decode cX5_squeeze 4 = .ok (.if_icmp .ge 110, 3) := by decide +kernel
theorem dX5_squeeze_7 : decode cX5_squeeze 7 = .ok (.iload_n 3, 1) := by decide +kernel
theorem dX5_squeeze_8 : decode cX5_squeeze 8 = .ok (.bipush 76, 2) := by decide +kernel
theorem dX5_squeeze_10 : decode cX5_squeeze 10 = .ok (.if_icmp .ge 104, 3) := by decide +kernel
theorem dX5_squeeze_13 : decode cX5_squeeze 13 = .ok (.iload_n 3, 1) := by decide +kernel
theorem dX5_squeeze_14 : decode cX5_squeeze 14 = .ok (.istore 4, 2) := by decide +kernel
theorem dX5_squeeze_16 : decode cX5_squeeze 16 = .ok (.iload 4, 2) := by decide +kernel
theorem dX5_squeeze_18 : decode cX5_squeeze 18 = .ok (.iload_n 2, 1) := by decide +kernel
theorem dX5_squeeze_19 : decode cX5_squeeze 19 = .ok (.if_icmp .ge 88, 3) := by decide +kernel
theorem dX5_squeeze_22 : decode cX5_squeeze 22 = .ok (.iload_n 1, 1) := by decide +kernel
theorem dX5_squeeze_23 : decode cX5_squeeze 23 = .ok (.iload 4, 2) := by decide +kernel
theorem dX5_squeeze_25 : decode cX5_squeeze 25 = .ok (.iadd, 1) := by decide +kernel
theorem dX5_squeeze_26 : decode cX5_squeeze 26 = .ok (.istore 5, 2) := by decide +kernel
theorem dX5_squeeze_28 : decode cX5_squeeze 28 = .ok (.aload_n 0, 1) := by decide +kernel
theorem dX5_squeeze_29 : decode cX5_squeeze 29 = .ok (.iload 5, 2) := by decide +kernel
theorem dX5_squeeze_31 : decode cX5_squeeze 31 = .ok (.iload_n 3, 1) := by decide +kernel
theorem dX5_squeeze_32 : decode cX5_squeeze 32 = .ok (.isub, 1) := by decide +kernel
theorem dX5_squeeze_33 : decode cX5_squeeze 33 = .ok (.invokevirtual 34, 3) := by decide +kernel
theorem dX5_squeeze_36 : decode cX5_squeeze 36 = .ok (.astore 6, 2) := by decide +kernel
theorem dX5_squeeze_38 : decode cX5_squeeze 38 = .ok (.aload_n 0, 1) := by decide +kernel
theorem dX5_squeeze_39 : decode cX5_squeeze 39 = .ok (.iload 5, 2) := by decide +kernel
theorem dX5_squeeze_41 : decode cX5_squeeze 41 = .ok (.invokevirtual 34, 3) := by decide +kernel
theorem dX5_squeeze_44 : decode cX5_squeeze 44 = .ok (.astore 7, 2) := by decide +kernel
theorem dX5_squeeze_46 : decode cX5_squeeze 46 = .ok (.aload 7, 2) := by decide +kernel
theorem dX5_squeeze_48 : decode cX5_squeeze 48 = .ok (.getfield 106, 3) := by decide +kernel
theorem dX5_squeeze_51 : decode cX5_squeeze 51 = .ok (.iload_n 3, 1) := by decide +kernel
theorem dX5_squeeze_52 : decode cX5_squeeze 52 = .ok (.iand, 1) := by decide +kernel
theorem dX5_squeeze_53 : decode cX5_squeeze 53 = .ok (.ifCond .eq 7, 3) := by decide +kernel
theorem dX5_squeeze_56 : decode cX5_squeeze 56 = .ok (.iconst 1, 1) := by decide +kernel
theorem dX5_squeeze_57 : decode cX5_squeeze 57 = .ok (.goto 4, 3) := by decide +kernel
theorem dX5_squeeze_60 : decode cX5_squeeze 60 = .ok (.iconst 0, 1) := by decide +kernel
theorem dX5_squeeze_61 : decode cX5_squeeze 61 = .ok (.istore 8, 2) := by decide +kernel
theorem dX5_squeeze_63 : decode cX5_squeeze 63 = .ok (.aload_n 0, 1) := by decide +kernel
theorem dX5_squeeze_64 : decode cX5_squeeze 64 = .ok (.iload 5, 2) := by decide +kernel
theorem dX5_squeeze_66 : decode cX5_squeeze 66 = .ok (.iload_n 3, 1) := by decide +kernel
theorem dX5_squeeze_67 : decode cX5_squeeze 67 = .ok (.isub, 1) := by decide +kernel
theorem dX5_squeeze_68 : decode cX5_squeeze 68 = .ok (.iload 8, 2) := by decide +kernel
theorem dX5_squeeze_70 : decode cX5_squeeze 70 = .ok (.ifCond .eq 8, 3) := by decide +kernel
theorem dX5_squeeze_73 : decode cX5_squeeze 73 = .ok (.aload 7, 2) := by decide +kernel
theorem dX5_squeeze_75 : decode cX5_squeeze 75 = .ok (.goto 5, 3) := by decide +kernel
theorem dX5_squeeze_78 : decode cX5_squeeze 78 = .ok (.aload 6, 2) := by decide +kernel
theorem dX5_squeeze_80 : decode cX5_squeeze 80 = .ok (.invokevirtual 41, 3) := by decide +kernel
theorem dX5_squeeze_83 : decode cX5_squeeze 83 = .ok (.aload_n 0, 1) := by decide +kernel
theorem dX5_squeeze_84 : decode cX5_squeeze 84 = .ok (.iload 5, 2) := by decide +kernel
theorem dX5_squeeze_86 : decode cX5_squeeze 86 = .ok (.iload 8, 2) := by decide +kernel
theorem dX5_squeeze_88 : decode cX5_squeeze 88 = .ok (.ifCond .eq 8, 3) := by decide +kernel
theorem dX5_squeeze_91 : decode cX5_squeeze 91 = .ok (.aload 6, 2) := by decide +kernel
theorem dX5_squeeze_93 : decode cX5_squeeze 93 = .ok (.goto 5, 3) := by decide +kernel
theorem dX5_squeeze_96 : decode cX5_squeeze 96 = .ok (.aload 7, 2) := by decide +kernel
theorem dX5_squeeze_98 : decode cX5_squeeze 98 = .ok (.invokevirtual 41, 3) := by decide +kernel
theorem dX5_squeeze_101 : decode cX5_squeeze 101 = .ok (.iinc 4 1, 3) := by decide +kernel
theorem dX5_squeeze_104 : decode cX5_squeeze 104 = .ok (.goto (-88), 3) := by decide +kernel
theorem dX5_squeeze_107 : decode cX5_squeeze 107 = .ok (.iload_n 3, 1) := by decide +kernel
theorem dX5_squeeze_108 : decode cX5_squeeze 108 = .ok (.iconst 2, 1) := by decide +kernel
theorem dX5_squeeze_109 : decode cX5_squeeze 109 = .ok (.imul, 1) := by decide +kernel
theorem dX5_squeeze_110 : decode cX5_squeeze 110 = .ok (.istore_n 3, 1) := by decide +kernel
theorem dX5_squeeze_111 : decode cX5_squeeze 111 = .ok (.goto (-109), 3) := by decide +kernel
theorem dX5_squeeze_114 : decode cX5_squeeze 114 = .ok (.return_, 1) := by decide +kernel
theorem dX5_spread_0 : decode cX5_spread 0 = .ok (.iload_n 2, 1) := by decide +kernel
theorem dX5_spread_1 : decode cX5_spread 1 = .ok (.invokestatic 95, 3) := by decide +kernel
theorem dX5_spread_4 : decode cX5_spread 4 = .ok (.istore_n 3, 1) := by decide +kernel
theorem dX5_spread_5 : decode cX5_spread 5 = .ok (.iload_n 3, 1) := by decide +kernel
theorem dX5_spread_6 : decode cX5_spread 6 = .ok (.ifCond .le 106, 3) := by decide +kernel
theorem dX5_spread_9 : decode cX5_spread 9 = .ok (.iload_n 2, 1) := by decide +kernel
theorem dX5_spread_10 : decode cX5_spread 10 = .ok (.iconst 1, 1) := by decide +kernel
theorem dX5_spread_11 : decode cX5_spread 11 = .ok (.isub, 1) := by decide +kernel
theorem dX5_spread_12 : decode cX5_spread 12 = .ok (.istore 4, 2) := by decide +kernel
theorem dX5_spread_14 : decode cX5_spread 14 = .ok (.iload 4, 2) := by decide +kernel
theorem dX5_spread_16 : decode cX5_spread 16 = .ok (.iload_n 3, 1) := by decide +kernel
theorem dX5_spread_17 : decode cX5_spread 17 = .ok (.if_icmp .lt 88, 3) := by decide +kernel
theorem dX5_spread_20 : decode cX5_spread 20 = .ok (.iload_n 1, 1) := by decide +kernel
theorem dX5_spread_21 : decode cX5_spread 21 = .ok (.iload 4, 2) := by decide +kernel
theorem dX5_spread_23 : decode cX5_spread 23 = .ok (.iadd, 1) := by decide +kernel
theorem dX5_spread_24 : decode cX5_spread 24 = .ok (.istore 5, 2) := by decide +kernel
theorem dX5_spread_26 : decode cX5_spread 26 = .ok (.aload_n 0, 1) := by decide +kernel
theorem dX5_spread_27 : decode cX5_spread 27 = .ok (.iload 5, 2) := by decide +kernel
theorem dX5_spread_29 : decode cX5_spread 29 = .ok (.iload_n 3, 1) := by decide +kernel
theorem dX5_spread_30 : decode cX5_spread 30 = .ok (.isub, 1) := by decide +kernel
theorem dX5_spread_31 : decode cX5_spread 31 = .ok (.invokevirtual 34, 3) := by decide +kernel
theorem dX5_spread_34 : decode cX5_spread 34 = .ok (.astore 6, 2) := by decide +kernel
theorem dX5_spread_36 : decode cX5_spread 36 = .ok (.aload_n 0, 1) := by decide +kernel
theorem dX5_spread_37 : decode cX5_spread 37 = .ok (.iload 5, 2) := by decide +kernel
theorem dX5_spread_39 : decode cX5_spread 39 = .ok (.invokevirtual 34, 3) := by decide +kernel
theorem dX5_spread_42 : decode cX5_spread 42 = .ok (.astore 7, 2) := by decide +kernel
theorem dX5_spread_44 : decode cX5_spread 44 = .ok (.aload 6, 2) := by decide +kernel
theorem dX5_spread_46 : decode cX5_spread 46 = .ok (.getfield 109, 3) := by decide +kernel
theorem dX5_spread_49 : decode cX5_spread 49 = .ok (.iload_n 3, 1) := by decide +kernel
theorem dX5_spread_50 : decode cX5_spread 50 = .ok (.iand, 1) := by decide +kernel
theorem dX5_spread_51 : decode cX5_spread 51 = .ok (.ifCond .eq 7, 3) := by decide +kernel
theorem dX5_spread_54 : decode cX5_spread 54 = .ok (.iconst 1, 1) := by decide +kernel
theorem dX5_spread_55 : decode cX5_spread 55 = .ok (.goto 4, 3) := by decide +kernel
theorem dX5_spread_58 : decode cX5_spread 58 = .ok (.iconst 0, 1) := by decide +kernel
theorem dX5_spread_59 : decode cX5_spread 59 = .ok (.istore 8, 2) := by decide +kernel
theorem dX5_spread_61 : decode cX5_spread 61 = .ok (.aload_n 0, 1) := by decide +kernel
theorem dX5_spread_62 : decode cX5_spread 62 = .ok (.iload 5, 2) := by decide +kernel
theorem dX5_spread_64 : decode cX5_spread 64 = .ok (.iload_n 3, 1) := by decide +kernel
theorem dX5_spread_65 : decode cX5_spread 65 = .ok (.isub, 1) := by decide +kernel
theorem dX5_spread_66 : decode cX5_spread 66 = .ok (.iload 8, 2) := by decide +kernel
theorem dX5_spread_68 : decode cX5_spread 68 = .ok (.ifCond .eq 8, 3) := by decide +kernel
theorem dX5_spread_71 : decode cX5_spread 71 = .ok (.aload 7, 2) := by decide +kernel
theorem dX5_spread_73 : decode cX5_spread 73 = .ok (.goto 5, 3) := by decide +kernel
theorem dX5_spread_76 : decode cX5_spread 76 = .ok (.aload 6, 2) := by decide +kernel
theorem dX5_spread_78 : decode cX5_spread 78 = .ok (.invokevirtual 41, 3) := by decide +kernel
theorem dX5_spread_81 : decode cX5_spread 81 = .ok (.aload_n 0, 1) := by decide +kernel
theorem dX5_spread_82 : decode cX5_spread 82 = .ok (.iload 5, 2) := by decide +kernel
theorem dX5_spread_84 : decode cX5_spread 84 = .ok (.iload 8, 2) := by decide +kernel
theorem dX5_spread_86 : decode cX5_spread 86 = .ok (.ifCond .eq 8, 3) := by decide +kernel
theorem dX5_spread_89 : decode cX5_spread 89 = .ok (.aload 6, 2) := by decide +kernel
theorem dX5_spread_91 : decode cX5_spread 91 = .ok (.goto 5, 3) := by decide +kernel
theorem dX5_spread_94 : decode cX5_spread 94 = .ok (.aload 7, 2) := by decide +kernel
theorem dX5_spread_96 : decode cX5_spread 96 = .ok (.invokevirtual 41, 3) := by decide +kernel
theorem dX5_spread_99 : decode cX5_spread 99 = .ok (.iinc 4 (-1), 3) := by decide +kernel
theorem dX5_spread_102 : decode cX5_spread 102 = .ok (.goto (-88), 3) := by decide +kernel
theorem dX5_spread_105 : decode cX5_spread 105 = .ok (.iload_n 3, 1) := by decide +kernel
theorem dX5_spread_106 : decode cX5_spread 106 = .ok (.iconst 2, 1) := by decide +kernel
theorem dX5_spread_107 : decode cX5_spread 107 = .ok (.idiv, 1) := by decide +kernel
theorem dX5_spread_108 : decode cX5_spread 108 = .ok (.istore_n 3, 1) := by decide +kernel
theorem dX5_spread_109 : decode cX5_spread 109 = .ok (.goto (-104), 3) := by decide +kernel
theorem dX5_spread_112 : decode cX5_spread 112 = .ok (.return_, 1) := by decide +kernel
end
section
/-! Decode rows; printed by program. -/
theorem dX6_init_0 : decode cX6_init 0 = .ok (.aload_n 0, 1) := by decide +kernel
theorem dX6_init_1 : decode cX6_init 1 = .ok (.invokespecial 1, 3) := by decide +kernel
theorem dX6_init_4 : decode cX6_init 4 = .ok (.aload_n 0, 1) := by decide +kernel
theorem dX6_init_5 : decode cX6_init 5 = .ok (.iconst 3, 1) := by decide +kernel
theorem dX6_init_6 : decode cX6_init 6 = .ok (.anewarray 9, 3) := by decide +kernel
theorem dX6_init_9 : decode cX6_init 9 = .ok (.putfield 11, 3) := by decide +kernel
theorem dX6_init_12 : decode cX6_init 12 = .ok (.aload_n 0, 1) := by decide +kernel
theorem dX6_init_13 : decode cX6_init 13 = .ok (.iconst 3, 1) := by decide +kernel
theorem dX6_init_14 : decode cX6_init 14 = .ok (.anewarray 15, 3) := by decide +kernel
theorem dX6_init_17 : decode cX6_init 17 = .ok (.putfield 17, 3) := by decide +kernel
theorem dX6_init_20 : decode cX6_init 20 = .ok (.aload_n 0, 1) := by decide +kernel
theorem dX6_init_21 : decode cX6_init 21 = .ok (.new 9, 3) := by decide +kernel
theorem dX6_init_24 : decode cX6_init 24 = .ok (.dup, 1) := by decide +kernel
theorem dX6_init_25 : decode cX6_init 25 = .ok (.bipush 6, 2) := by decide +kernel
theorem dX6_init_27 : decode cX6_init 27 = .ok (.invokespecial 21, 3) := by decide +kernel
theorem dX6_init_30 : decode cX6_init 30 = .ok (.putfield 24, 3) := by decide +kernel
theorem dX6_init_33 : decode cX6_init 33 = .ok (.aload_n 0, 1) := by decide +kernel
theorem dX6_init_34 : decode cX6_init 34 = .ok (.new 9, 3) := by decide +kernel
theorem dX6_init_37 : decode cX6_init 37 = .ok (.dup, 1) := by decide +kernel
theorem dX6_init_38 : decode cX6_init 38 = .ok (.bipush 6, 2) := by decide +kernel
theorem dX6_init_40 : decode cX6_init 40 = .ok (.invokespecial 21, 3) := by decide +kernel
theorem dX6_init_43 : decode cX6_init 43 = .ok (.putfield 28, 3) := by decide +kernel
theorem dX6_init_46 : decode cX6_init 46 = .ok (.aload_n 0, 1) := by decide +kernel
theorem dX6_init_47 : decode cX6_init 47 = .ok (.new 9, 3) := by decide +kernel
theorem dX6_init_50 : decode cX6_init 50 = .ok (.dup, 1) := by decide +kernel
theorem dX6_init_51 : decode cX6_init 51 = .ok (.bipush 24, 2) := by decide +kernel
theorem dX6_init_53 : decode cX6_init 53 = .ok (.invokespecial 21, 3) := by decide +kernel
theorem dX6_init_56 : decode cX6_init 56 = .ok (.putfield 31, 3) := by decide +kernel
theorem dX6_init_59 : decode cX6_init 59 = .ok (.aload_n 0, 1) := by decide +kernel
theorem dX6_init_60 : decode cX6_init 60 = .ok (.new 34, 3) := by decide +kernel
theorem dX6_init_63 : decode cX6_init 63 = .ok (.dup, 1) := by decide +kernel
theorem dX6_init_64 : decode cX6_init 64 = .ok (.invokespecial 36, 3) := by decide +kernel
theorem dX6_init_67 : decode cX6_init 67 = .ok (.putfield 37, 3) := by decide +kernel
theorem dX6_init_70 : decode cX6_init 70 = .ok (.aload_n 0, 1) := by decide +kernel
theorem dX6_init_71 : decode cX6_init 71 = .ok (.new 41, 3) := by decide +kernel
theorem dX6_init_74 : decode cX6_init 74 = .ok (.dup, 1) := by decide +kernel
theorem dX6_init_75 : decode cX6_init 75 = .ok (.aload_n 0, 1) := by decide +kernel
theorem dX6_init_76 : decode cX6_init 76 = .ok (.getfield 37, 3) := by decide +kernel
theorem dX6_init_79 : decode cX6_init 79 = .ok (.invokespecial 43, 3) := by decide +kernel
theorem dX6_init_82 : decode cX6_init 82 = .ok (.putfield 46, 3) := by decide +kernel
theorem dX6_init_85 : decode cX6_init 85 = .ok (.aload_n 0, 1) := by decide +kernel
theorem dX6_init_86 : decode cX6_init 86 = .ok (.new 50, 3) := by decide +kernel
theorem dX6_init_89 : decode cX6_init 89 = .ok (.dup, 1) := by decide +kernel
theorem dX6_init_90 : decode cX6_init 90 = .ok (.aload_n 0, 1) := by decide +kernel
theorem dX6_init_91 : decode cX6_init 91 = .ok (.getfield 37, 3) := by decide +kernel
theorem dX6_init_94 : decode cX6_init 94 = .ok (.invokespecial 52, 3) := by decide +kernel
theorem dX6_init_97 : decode cX6_init 97 = .ok (.putfield 53, 3) := by decide +kernel
theorem dX6_init_100 : decode cX6_init 100 = .ok (.aload_n 0, 1) := by decide +kernel
theorem dX6_init_101 : decode cX6_init 101 = .ok (.iconst (-1), 1) := by decide +kernel
theorem dX6_init_102 : decode cX6_init 102 = .ok (.putfield 57, 3) := by decide +kernel
theorem dX6_init_105 : decode cX6_init 105 = .ok (.aload_n 0, 1) := by decide +kernel
theorem dX6_init_106 : decode cX6_init 106 = .ok (.iconst 0, 1) := by decide +kernel
theorem dX6_init_107 : decode cX6_init 107 = .ok (.putfield 61, 3) := by decide +kernel
theorem dX6_init_110 : decode cX6_init 110 = .ok (.iconst 0, 1) := by decide +kernel
theorem dX6_init_111 : decode cX6_init 111 = .ok (.istore_n 1, 1) := by decide +kernel
theorem dX6_init_112 : decode cX6_init 112 = .ok (.iload_n 1, 1) := by decide +kernel
theorem dX6_init_113 : decode cX6_init 113 = .ok (.iconst 3, 1) := by decide +kernel
theorem dX6_init_114 : decode cX6_init 114 = .ok (.if_icmp .ge 24, 3) := by decide +kernel
theorem dX6_init_117 : decode cX6_init 117 = .ok (.aload_n 0, 1) := by decide +kernel
theorem dX6_init_118 : decode cX6_init 118 = .ok (.getfield 11, 3) := by decide +kernel
theorem dX6_init_121 : decode cX6_init 121 = .ok (.iload_n 1, 1) := by decide +kernel
theorem dX6_init_122 : decode cX6_init 122 = .ok (.new 9, 3) := by decide +kernel
theorem dX6_init_125 : decode cX6_init 125 = .ok (.dup, 1) := by decide +kernel
theorem dX6_init_126 : decode cX6_init 126 = .ok (.bipush 12, 2) := by decide +kernel
theorem dX6_init_128 : decode cX6_init 128 = .ok (.invokespecial 21, 3) := by decide +kernel
theorem dX6_init_131 : decode cX6_init 131 = .ok (.aastore, 1) := by decide +kernel
theorem dX6_init_132 : decode cX6_init 132 = .ok (.iinc 1 1, 3) := by decide +kernel
theorem dX6_init_135 : decode cX6_init 135 = .ok (.goto (-23), 3) := by decide +kernel
theorem dX6_init_138 : decode cX6_init 138 = .ok (.iconst 0, 1) := by decide +kernel
theorem dX6_init_139 : decode cX6_init 139 = .ok (.istore_n 1, 1) := by decide +kernel
theorem dX6_init_140 : decode cX6_init 140 = .ok (.iload_n 1, 1) := by decide +kernel
theorem dX6_init_141 : decode cX6_init 141 = .ok (.iconst 3, 1) := by decide +kernel
theorem dX6_init_142 : decode cX6_init 142 = .ok (.if_icmp .ge 22, 3) := by decide +kernel
theorem dX6_init_145 : decode cX6_init 145 = .ok (.aload_n 0, 1) := by decide +kernel
theorem dX6_init_146 : decode cX6_init 146 = .ok (.getfield 17, 3) := by decide +kernel
theorem dX6_init_149 : decode cX6_init 149 = .ok (.iload_n 1, 1) := by decide +kernel
theorem dX6_init_150 : decode cX6_init 150 = .ok (.new 15, 3) := by decide +kernel
theorem dX6_init_153 : decode cX6_init 153 = .ok (.dup, 1) := by decide +kernel
theorem dX6_init_154 : decode cX6_init 154 = .ok (.invokespecial 64, 3) := by decide +kernel
theorem dX6_init_157 : decode cX6_init 157 = .ok (.aastore, 1) := by decide +kernel
theorem dX6_init_158 : decode cX6_init 158 = .ok (.iinc 1 1, 3) := by decide +kernel
theorem dX6_init_161 : decode cX6_init 161 = .ok (.goto (-21), 3) := by decide +kernel
theorem dX6_init_164 : decode cX6_init 164 = .ok (.return_, 1) := by decide +kernel
theorem dX6_add_0 : decode cX6_add 0 = .ok (.iload_n 1, 1) := by decide +kernel
theorem dX6_add_1 : decode cX6_add 1 = .ok (.invokestatic 65, 3) := by decide +kernel
theorem dX6_add_4 : decode cX6_add 4 = .ok (.ifCond .eq 23, 3) := by decide +kernel
theorem dX6_add_7 : decode cX6_add 7 = .ok (.aload_n 0, 1) := by decide +kernel
theorem dX6_add_8 : decode cX6_add 8 = .ok (.getfield 11, 3) := by decide +kernel
theorem dX6_add_11 : decode cX6_add 11 = .ok (.iload_n 1, 1) := by decide +kernel
theorem dX6_add_12 : decode cX6_add 12 = .ok (.aaload, 1) := by decide +kernel
theorem dX6_add_13 : decode cX6_add 13 = .ok (.iload_n 2, 1) := by decide +kernel
theorem dX6_add_14 : decode cX6_add 14 = .ok (.iload_n 3, 1) := by decide +kernel
theorem dX6_add_15 : decode cX6_add 15 = .ok (.iload 4, 2) := by decide +kernel
theorem dX6_add_17 : decode cX6_add 17 = .ok (.invokevirtual 69, 3) := by decide +kernel
theorem dX6_add_20 : decode cX6_add 20 = .ok (.ifCond .eq 7, 3) := by decide +kernel
theorem dX6_add_23 : decode cX6_add 23 = .ok (.iconst 1, 1) := by decide +kernel
theorem dX6_add_24 : decode cX6_add 24 = .ok (.goto 4, 3) := by decide +kernel
theorem dX6_add_27 : decode cX6_add 27 = .ok (.iconst 0, 1) := by decide +kernel
theorem dX6_add_28 : decode cX6_add 28 = .ok (.ireturn, 1) := by decide +kernel
theorem dX6_rows_0 : decode cX6_rows 0 = .ok (.iload_n 1, 1) := by decide +kernel
theorem dX6_rows_1 : decode cX6_rows 1 = .ok (.invokestatic 65, 3) := by decide +kernel
theorem dX6_rows_4 : decode cX6_rows 4 = .ok (.ifCond .eq 15, 3) := by decide +kernel
theorem dX6_rows_7 : decode cX6_rows 7 = .ok (.aload_n 0, 1) := by decide +kernel
theorem dX6_rows_8 : decode cX6_rows 8 = .ok (.getfield 11, 3) := by decide +kernel
theorem dX6_rows_11 : decode cX6_rows 11 = .ok (.iload_n 1, 1) := by decide +kernel
theorem dX6_rows_12 : decode cX6_rows 12 = .ok (.aaload, 1) := by decide +kernel
theorem dX6_rows_13 : decode cX6_rows 13 = .ok (.getfield 73, 3) := by decide +kernel
theorem dX6_rows_16 : decode cX6_rows 16 = .ok (.goto 4, 3) := by decide +kernel
theorem dX6_rows_19 : decode cX6_rows 19 = .ok (.iconst (-1), 1) := by decide +kernel
theorem dX6_rows_20 : decode cX6_rows 20 = .ok (.ireturn, 1) := by decide +kernel
theorem dX6_plan_0 : decode cX6_plan 0 = .ok (.iload_n 1, 1) := by decide +kernel
theorem dX6_plan_1 : decode cX6_plan 1 = .ok (.invokestatic 65, 3) := by decide +kernel
theorem dX6_plan_4 : decode cX6_plan 4 = .ok (.ifCond .ne 5, 3) := by decide +kernel
theorem dX6_plan_7 : decode cX6_plan 7 = .ok (.iconst 0, 1) := by decide +kernel
theorem dX6_plan_8 : decode cX6_plan 8 = .ok (.ireturn, 1) := by decide +kernel
theorem dX6_plan_9 : decode cX6_plan 9 = .ok (.aload_n 0, 1) := by decide +kernel
theorem dX6_plan_10 : decode cX6_plan 10 = .ok (.iload_n 1, 1) := by decide +kernel
theorem dX6_plan_11 : decode cX6_plan 11 = .ok (.putfield 57, 3) := by decide +kernel
theorem dX6_plan_14 : decode cX6_plan 14 = .ok (.aload_n 0, 1) := by decide +kernel
theorem dX6_plan_15 : decode cX6_plan 15 = .ok (.iconst 0, 1) := by decide +kernel
theorem dX6_plan_16 : decode cX6_plan 16 = .ok (.putfield 61, 3) := by decide +kernel
theorem dX6_plan_19 : decode cX6_plan 19 = .ok (.iconst 1, 1) := by decide +kernel
theorem dX6_plan_20 : decode cX6_plan 20 = .ok (.ireturn, 1) := by decide +kernel
theorem dX6_filter_0 : decode cX6_filter 0 = .ok (.iload_n 1, 1) := by decide +kernel
theorem dX6_filter_1 : decode cX6_filter 1 = .ok (.invokestatic 76, 3) := by decide +kernel
theorem dX6_filter_4 : decode cX6_filter 4 = .ok (.ifCond .eq 27, 3) := by decide +kernel
theorem dX6_filter_7 : decode cX6_filter 7 = .ok (.iload_n 2, 1) := by decide +kernel
theorem dX6_filter_8 : decode cX6_filter 8 = .ok (.ifCond .lt 23, 3) := by decide +kernel
theorem dX6_filter_11 : decode cX6_filter 11 = .ok (.iload_n 2, 1) := by decide +kernel
theorem dX6_filter_12 : decode cX6_filter 12 = .ok (.iconst 3, 1) := by decide +kernel
theorem dX6_filter_13 : decode cX6_filter 13 = .ok (.if_icmp .ge 18, 3) := by decide +kernel
theorem dX6_filter_16 : decode cX6_filter 16 = .ok (.aload_n 0, 1) := by decide +kernel
theorem dX6_filter_17 : decode cX6_filter 17 = .ok (.iconst 0, 1) := by decide +kernel
theorem dX6_filter_18 : decode cX6_filter 18 = .ok (.iload_n 1, 1) := by decide +kernel
theorem dX6_filter_19 : decode cX6_filter 19 = .ok (.iload_n 2, 1) := by decide +kernel
theorem dX6_filter_20 : decode cX6_filter 20 = .ok (.iload_n 3, 1) := by decide +kernel
theorem dX6_filter_21 : decode cX6_filter 21 = .ok (.invokevirtual 79, 3) := by decide +kernel
theorem dX6_filter_24 : decode cX6_filter 24 = .ok (.ifCond .eq 7, 3) := by decide +kernel
theorem dX6_filter_27 : decode cX6_filter 27 = .ok (.iconst 1, 1) := by decide +kernel
theorem dX6_filter_28 : decode cX6_filter 28 = .ok (.goto 4, 3) := by decide +kernel
theorem dX6_filter_31 : decode cX6_filter 31 = .ok (.iconst 0, 1) := by decide +kernel
theorem dX6_filter_32 : decode cX6_filter 32 = .ok (.ireturn, 1) := by decide +kernel
theorem dX6_pick_0 : decode cX6_pick 0 = .ok (.iload_n 1, 1) := by decide +kernel
theorem dX6_pick_1 : decode cX6_pick 1 = .ok (.invokestatic 76, 3) := by decide +kernel
theorem dX6_pick_4 : decode cX6_pick 4 = .ok (.ifCond .eq 32, 3) := by decide +kernel
theorem dX6_pick_7 : decode cX6_pick 7 = .ok (.iload_n 2, 1) := by decide +kernel
theorem dX6_pick_8 : decode cX6_pick 8 = .ok (.invokestatic 76, 3) := by decide +kernel
theorem dX6_pick_11 : decode cX6_pick 11 = .ok (.ifCond .eq 25, 3) := by decide +kernel
theorem dX6_pick_14 : decode cX6_pick 14 = .ok (.iload_n 3, 1) := by decide +kernel
theorem dX6_pick_15 : decode cX6_pick 15 = .ok (.invokestatic 76, 3) := by decide +kernel
theorem dX6_pick_18 : decode cX6_pick 18 = .ok (.ifCond .eq 18, 3) := by decide +kernel
theorem dX6_pick_21 : decode cX6_pick 21 = .ok (.aload_n 0, 1) := by decide +kernel
theorem dX6_pick_22 : decode cX6_pick 22 = .ok (.iconst 1, 1) := by decide +kernel
theorem dX6_pick_23 : decode cX6_pick 23 = .ok (.iload_n 1, 1) := by decide +kernel
theorem dX6_pick_24 : decode cX6_pick 24 = .ok (.iload_n 2, 1) := by decide +kernel
theorem dX6_pick_25 : decode cX6_pick 25 = .ok (.iload_n 3, 1) := by decide +kernel
theorem dX6_pick_26 : decode cX6_pick 26 = .ok (.invokevirtual 79, 3) := by decide +kernel
theorem dX6_pick_29 : decode cX6_pick 29 = .ok (.ifCond .eq 7, 3) := by decide +kernel
theorem dX6_pick_32 : decode cX6_pick 32 = .ok (.iconst 1, 1) := by decide +kernel
theorem dX6_pick_33 : decode cX6_pick 33 = .ok (.goto 4, 3) := by decide +kernel
theorem dX6_pick_36 : decode cX6_pick 36 = .ok (.iconst 0, 1) := by decide +kernel
theorem dX6_pick_37 : decode cX6_pick 37 = .ok (.ireturn, 1) := by decide +kernel
theorem dX6_distinct_0 : decode cX6_distinct 0 = .ok (.aload_n 0, 1) := by decide +kernel
theorem dX6_distinct_1 : decode cX6_distinct 1 = .ok (.iconst 2, 1) := by decide +kernel
theorem dX6_distinct_2 : decode cX6_distinct 2 = .ok (.iconst 0, 1) := by decide +kernel
theorem dX6_distinct_3 : decode cX6_distinct 3 = .ok (.iconst 0, 1) := by decide +kernel
theorem dX6_distinct_4 : decode cX6_distinct 4 = .ok (.iconst 0, 1) := by decide +kernel
theorem dX6_distinct_5 : decode cX6_distinct 5 = .ok (.invokevirtual 79, 3) := by decide +kernel
theorem dX6_distinct_8 : decode cX6_distinct 8 = .ok (.ireturn, 1) := by decide +kernel
theorem dX6_group_0 : decode cX6_group 0 = .ok (.iload_n 1, 1) := by decide +kernel
theorem dX6_group_1 : decode cX6_group 1 = .ok (.invokestatic 76, 3) := by decide +kernel
theorem dX6_group_4 : decode cX6_group 4 = .ok (.ifCond .eq 25, 3) := by decide +kernel
theorem dX6_group_7 : decode cX6_group 7 = .ok (.iload_n 2, 1) := by decide +kernel
theorem dX6_group_8 : decode cX6_group 8 = .ok (.invokestatic 76, 3) := by decide +kernel
theorem dX6_group_11 : decode cX6_group 11 = .ok (.ifCond .eq 18, 3) := by decide +kernel
theorem dX6_group_14 : decode cX6_group 14 = .ok (.aload_n 0, 1) := by decide +kernel
theorem dX6_group_15 : decode cX6_group 15 = .ok (.iconst 3, 1) := by decide +kernel
theorem dX6_group_16 : decode cX6_group 16 = .ok (.iload_n 1, 1) := by decide +kernel
theorem dX6_group_17 : decode cX6_group 17 = .ok (.iload_n 2, 1) := by decide +kernel
theorem dX6_group_18 : decode cX6_group 18 = .ok (.iconst 0, 1) := by decide +kernel
theorem dX6_group_19 : decode cX6_group 19 = .ok (.invokevirtual 79, 3) := by decide +kernel
theorem dX6_group_22 : decode cX6_group 22 = .ok (.ifCond .eq 7, 3) := by decide +kernel
theorem dX6_group_25 : decode cX6_group 25 = .ok (.iconst 1, 1) := by decide +kernel
theorem dX6_group_26 : decode cX6_group 26 = .ok (.goto 4, 3) := by decide +kernel
theorem dX6_group_29 : decode cX6_group 29 = .ok (.iconst 0, 1) := by decide +kernel
theorem dX6_group_30 : decode cX6_group 30 = .ok (.ireturn, 1) := by decide +kernel
theorem dX6_join_0 : decode cX6_join 0 = .ok (.iload_n 1, 1) := by decide +kernel
theorem dX6_join_1 : decode cX6_join 1 = .ok (.invokestatic 65, 3) := by decide +kernel
theorem dX6_join_4 : decode cX6_join 4 = .ok (.ifCond .eq 32, 3) := by decide +kernel
theorem dX6_join_7 : decode cX6_join 7 = .ok (.iload_n 2, 1) := by decide +kernel
theorem dX6_join_8 : decode cX6_join 8 = .ok (.invokestatic 76, 3) := by decide +kernel
theorem dX6_join_11 : decode cX6_join 11 = .ok (.ifCond .eq 25, 3) := by decide +kernel
theorem dX6_join_14 : decode cX6_join 14 = .ok (.iload_n 3, 1) := by decide +kernel
theorem dX6_join_15 : decode cX6_join 15 = .ok (.invokestatic 76, 3) := by decide +kernel
theorem dX6_join_18 : decode cX6_join 18 = .ok (.ifCond .eq 18, 3) := by decide +kernel
theorem dX6_join_21 : decode cX6_join 21 = .ok (.aload_n 0, 1) := by decide +kernel
theorem dX6_join_22 : decode cX6_join 22 = .ok (.iconst 4, 1) := by decide +kernel
theorem dX6_join_23 : decode cX6_join 23 = .ok (.iload_n 1, 1) := by decide +kernel
theorem dX6_join_24 : decode cX6_join 24 = .ok (.iload_n 2, 1) := by decide +kernel
theorem dX6_join_25 : decode cX6_join 25 = .ok (.iload_n 3, 1) := by decide +kernel
theorem dX6_join_26 : decode cX6_join 26 = .ok (.invokevirtual 79, 3) := by decide +kernel
theorem dX6_join_29 : decode cX6_join 29 = .ok (.ifCond .eq 7, 3) := by decide +kernel
theorem dX6_join_32 : decode cX6_join 32 = .ok (.iconst 1, 1) := by decide +kernel
theorem dX6_join_33 : decode cX6_join 33 = .ok (.goto 4, 3) := by decide +kernel
theorem dX6_join_36 : decode cX6_join 36 = .ok (.iconst 0, 1) := by decide +kernel
theorem dX6_join_37 : decode cX6_join 37 = .ok (.ireturn, 1) := by decide +kernel
theorem dX6_run_0 : decode cX6_run 0 = .ok (.aload_n 0, 1) := by decide +kernel
theorem dX6_run_1 : decode cX6_run 1 = .ok (.getfield 57, 3) := by decide +kernel
theorem dX6_run_4 : decode cX6_run 4 = .ok (.invokestatic 65, 3) := by decide +kernel
theorem dX6_run_7 : decode cX6_run 7 = .ok (.ifCond .ne 5, 3) := by decide +kernel
theorem dX6_run_10 : decode cX6_run 10 = .ok (.iconst (-1), 1) := by decide +kernel
theorem dX6_run_11 : decode cX6_run 11 = .ok (.ireturn, 1) := by decide +kernel
theorem dX6_run_12 : decode cX6_run 12 = .ok (.aload_n 0, 1) := by decide +kernel
theorem dX6_run_13 : decode cX6_run 13 = .ok (.getfield 37, 3) := by decide +kernel
theorem dX6_run_16 : decode cX6_run 16 = .ok (.invokevirtual 83, 3) := by decide +kernel
theorem dX6_run_19 : decode cX6_run 19 = .ok (.aload_n 0, 1) := by decide +kernel
theorem dX6_run_20 : decode cX6_run 20 = .ok (.getfield 31, 3) := by decide +kernel
theorem dX6_run_23 : decode cX6_run 23 = .ok (.aload_n 0, 1) := by decide +kernel
theorem dX6_run_24 : decode cX6_run 24 = .ok (.getfield 11, 3) := by decide +kernel
theorem dX6_run_27 : decode cX6_run 27 = .ok (.aload_n 0, 1) := by decide +kernel
theorem dX6_run_28 : decode cX6_run 28 = .ok (.getfield 57, 3) := by decide +kernel
theorem dX6_run_31 : decode cX6_run 31 = .ok (.aaload, 1) := by decide +kernel
theorem dX6_run_32 : decode cX6_run 32 = .ok (.invokevirtual 86, 3) := by decide +kernel
theorem dX6_run_35 : decode cX6_run 35 = .ok (.iconst 0, 1) := by decide +kernel
theorem dX6_run_36 : decode cX6_run 36 = .ok (.istore_n 1, 1) := by decide +kernel
theorem dX6_run_37 : decode cX6_run 37 = .ok (.iload_n 1, 1) := by decide +kernel
theorem dX6_run_38 : decode cX6_run 38 = .ok (.aload_n 0, 1) := by decide +kernel
theorem dX6_run_39 : decode cX6_run 39 = .ok (.getfield 61, 3) := by decide +kernel
theorem dX6_run_42 : decode cX6_run 42 = .ok (.if_icmp .ge 37, 3) := by decide +kernel
theorem dX6_run_45 : decode cX6_run 45 = .ok (.iload_n 1, 1) := by decide +kernel
theorem dX6_run_46 : decode cX6_run 46 = .ok (.iconst 3, 1) := by decide +kernel
theorem dX6_run_47 : decode cX6_run 47 = .ok (.if_icmp .ge 32, 3) := by decide +kernel
theorem dX6_run_50 : decode cX6_run 50 = .ok (.aload_n 0, 1) := by decide +kernel
theorem dX6_run_51 : decode cX6_run 51 = .ok (.aload_n 0, 1) := by decide +kernel
theorem dX6_run_52 : decode cX6_run 52 = .ok (.getfield 17, 3) := by decide +kernel
theorem dX6_run_55 : decode cX6_run 55 = .ok (.iload_n 1, 1) := by decide +kernel
theorem dX6_run_56 : decode cX6_run 56 = .ok (.aaload, 1) := by decide +kernel
theorem dX6_run_57 : decode cX6_run 57 = .ok (.invokevirtual 90, 3) := by decide +kernel
theorem dX6_run_60 : decode cX6_run 60 = .ok (.ifCond .ne 13, 3) := by decide +kernel
theorem dX6_run_63 : decode cX6_run 63 = .ok (.aload_n 0, 1) := by decide +kernel
theorem dX6_run_64 : decode cX6_run 64 = .ok (.getfield 31, 3) := by decide +kernel
theorem dX6_run_67 : decode cX6_run 67 = .ok (.invokevirtual 94, 3) := by decide +kernel
theorem dX6_run_70 : decode cX6_run 70 = .ok (.bipush (-2), 2) := by decide +kernel
theorem dX6_run_72 : decode cX6_run 72 = .ok (.ireturn, 1) := by decide +kernel
theorem dX6_run_73 : decode cX6_run 73 = .ok (.iinc 1 1, 3) := by decide +kernel
theorem dX6_run_76 : decode cX6_run 76 = .ok (.goto (-39), 3) := by decide +kernel
theorem dX6_run_79 : decode cX6_run 79 = .ok (.aload_n 0, 1) := by decide +kernel
theorem dX6_run_80 : decode cX6_run 80 = .ok (.getfield 46, 3) := by decide +kernel
theorem dX6_run_83 : decode cX6_run 83 = .ok (.aload_n 0, 1) := by decide +kernel
theorem dX6_run_84 : decode cX6_run 84 = .ok (.getfield 31, 3) := by decide +kernel
theorem dX6_run_87 : decode cX6_run 87 = .ok (.invokevirtual 97, 3) := by decide +kernel
theorem dX6_run_90 : decode cX6_run 90 = .ok (.aload_n 0, 1) := by decide +kernel
theorem dX6_run_91 : decode cX6_run 91 = .ok (.getfield 31, 3) := by decide +kernel
theorem dX6_run_94 : decode cX6_run 94 = .ok (.getfield 73, 3) := by decide +kernel
theorem dX6_run_97 : decode cX6_run 97 = .ok (.ireturn, 1) := by decide +kernel
theorem dX6_put_0 : decode cX6_put 0 = .ok (.aload_n 0, 1) := by decide +kernel
theorem dX6_put_1 : decode cX6_put 1 = .ok (.invokevirtual 100, 3) := by decide +kernel
theorem dX6_put_4 : decode cX6_put 4 = .ok (.bipush 6, 2) := by decide +kernel
theorem dX6_put_6 : decode cX6_put 6 = .ok (.if_icmp .ge 20, 3) := by decide +kernel
theorem dX6_put_9 : decode cX6_put 9 = .ok (.aload_n 0, 1) := by decide +kernel
theorem dX6_put_10 : decode cX6_put 10 = .ok (.getfield 24, 3) := by decide +kernel
theorem dX6_put_13 : decode cX6_put 13 = .ok (.iload_n 1, 1) := by decide +kernel
theorem dX6_put_14 : decode cX6_put 14 = .ok (.iload_n 2, 1) := by decide +kernel
theorem dX6_put_15 : decode cX6_put 15 = .ok (.iload_n 3, 1) := by decide +kernel
theorem dX6_put_16 : decode cX6_put 16 = .ok (.invokevirtual 69, 3) := by decide +kernel
theorem dX6_put_19 : decode cX6_put 19 = .ok (.ifCond .eq 7, 3) := by decide +kernel
theorem dX6_put_22 : decode cX6_put 22 = .ok (.iconst 1, 1) := by decide +kernel
theorem dX6_put_23 : decode cX6_put 23 = .ok (.goto 4, 3) := by decide +kernel
theorem dX6_put_26 : decode cX6_put 26 = .ok (.iconst 0, 1) := by decide +kernel
theorem dX6_put_27 : decode cX6_put 27 = .ok (.ireturn, 1) := by decide +kernel
theorem dX6_drop_0 : decode cX6_drop 0 = .ok (.aload_n 0, 1) := by decide +kernel
theorem dX6_drop_1 : decode cX6_drop 1 = .ok (.invokevirtual 100, 3) := by decide +kernel
theorem dX6_drop_4 : decode cX6_drop 4 = .ok (.bipush 6, 2) := by decide +kernel
theorem dX6_drop_6 : decode cX6_drop 6 = .ok (.if_icmp .ge 20, 3) := by decide +kernel
theorem dX6_drop_9 : decode cX6_drop 9 = .ok (.aload_n 0, 1) := by decide +kernel
theorem dX6_drop_10 : decode cX6_drop 10 = .ok (.getfield 28, 3) := by decide +kernel
theorem dX6_drop_13 : decode cX6_drop 13 = .ok (.iload_n 1, 1) := by decide +kernel
theorem dX6_drop_14 : decode cX6_drop 14 = .ok (.iconst 0, 1) := by decide +kernel
theorem dX6_drop_15 : decode cX6_drop 15 = .ok (.iconst 0, 1) := by decide +kernel
theorem dX6_drop_16 : decode cX6_drop 16 = .ok (.invokevirtual 69, 3) := by decide +kernel
theorem dX6_drop_19 : decode cX6_drop 19 = .ok (.ifCond .eq 7, 3) := by decide +kernel
theorem dX6_drop_22 : decode cX6_drop 22 = .ok (.iconst 1, 1) := by decide +kernel
theorem dX6_drop_23 : decode cX6_drop 23 = .ok (.goto 4, 3) := by decide +kernel
theorem dX6_drop_26 : decode cX6_drop 26 = .ok (.iconst 0, 1) := by decide +kernel
theorem dX6_drop_27 : decode cX6_drop 27 = .ok (.ireturn, 1) := by decide +kernel
theorem dX6_apply_0 : decode cX6_apply 0 = .ok (.iload_n 1, 1) := by decide +kernel
theorem dX6_apply_1 : decode cX6_apply 1 = .ok (.invokestatic 65, 3) := by decide +kernel
theorem dX6_apply_4 : decode cX6_apply 4 = .ok (.ifCond .ne 5, 3) := by decide +kernel
theorem dX6_apply_7 : decode cX6_apply 7 = .ok (.iconst (-1), 1) := by decide +kernel
theorem dX6_apply_8 : decode cX6_apply 8 = .ok (.ireturn, 1) := by decide +kernel
theorem dX6_apply_9 : decode cX6_apply 9 = .ok (.aload_n 0, 1) := by decide +kernel
theorem dX6_apply_10 : decode cX6_apply 10 = .ok (.getfield 37, 3) := by decide +kernel
theorem dX6_apply_13 : decode cX6_apply 13 = .ok (.invokevirtual 83, 3) := by decide +kernel
theorem dX6_apply_16 : decode cX6_apply 16 = .ok (.aload_n 0, 1) := by decide +kernel
theorem dX6_apply_17 : decode cX6_apply 17 = .ok (.getfield 46, 3) := by decide +kernel
theorem dX6_apply_20 : decode cX6_apply 20 = .ok (.aload_n 0, 1) := by decide +kernel
theorem dX6_apply_21 : decode cX6_apply 21 = .ok (.getfield 11, 3) := by decide +kernel
theorem dX6_apply_24 : decode cX6_apply 24 = .ok (.iload_n 1, 1) := by decide +kernel
theorem dX6_apply_25 : decode cX6_apply 25 = .ok (.aaload, 1) := by decide +kernel
theorem dX6_apply_26 : decode cX6_apply 26 = .ok (.aload_n 0, 1) := by decide +kernel
theorem dX6_apply_27 : decode cX6_apply 27 = .ok (.getfield 24, 3) := by decide +kernel
theorem dX6_apply_30 : decode cX6_apply 30 = .ok (.aload_n 0, 1) := by decide +kernel
theorem dX6_apply_31 : decode cX6_apply 31 = .ok (.getfield 28, 3) := by decide +kernel
theorem dX6_apply_34 : decode cX6_apply 34 = .ok (.invokevirtual 104, 3) := by decide +kernel
theorem dX6_apply_37 : decode cX6_apply 37 = .ok (.istore_n 2, 1) := by decide +kernel
theorem dX6_apply_38 : decode cX6_apply 38 = .ok (.aload_n 0, 1) := by decide +kernel
theorem dX6_apply_39 : decode cX6_apply 39 = .ok (.getfield 24, 3) := by decide +kernel
theorem dX6_apply_42 : decode cX6_apply 42 = .ok (.invokevirtual 94, 3) := by decide +kernel
theorem dX6_apply_45 : decode cX6_apply 45 = .ok (.aload_n 0, 1) := by decide +kernel
theorem dX6_apply_46 : decode cX6_apply 46 = .ok (.getfield 28, 3) := by decide +kernel
theorem dX6_apply_49 : decode cX6_apply 49 = .ok (.invokevirtual 94, 3) := by decide +kernel
theorem dX6_apply_52 : decode cX6_apply 52 = .ok (.iload_n 2, 1) := by decide +kernel
theorem dX6_apply_53 : decode cX6_apply 53 = .ok (.ifCond .eq 15, 3) := by decide +kernel
theorem dX6_apply_56 : decode cX6_apply 56 = .ok (.aload_n 0, 1) := by decide +kernel
theorem dX6_apply_57 : decode cX6_apply 57 = .ok (.getfield 11, 3) := by decide +kernel
theorem dX6_apply_60 : decode cX6_apply 60 = .ok (.iload_n 1, 1) := by decide +kernel
theorem dX6_apply_61 : decode cX6_apply 61 = .ok (.aaload, 1) := by decide +kernel
theorem dX6_apply_62 : decode cX6_apply 62 = .ok (.getfield 73, 3) := by decide +kernel
theorem dX6_apply_65 : decode cX6_apply 65 = .ok (.goto 5, 3) := by decide +kernel
theorem dX6_apply_68 : decode cX6_apply 68 = .ok (.bipush (-2), 2) := by decide +kernel
theorem dX6_apply_70 : decode cX6_apply 70 = .ok (.ireturn, 1) := by decide +kernel
theorem dX6_cell_0 : decode cX6_cell 0 = .ok (.iload_n 2, 1) := by decide +kernel
theorem dX6_cell_1 : decode cX6_cell 1 = .ok (.invokestatic 76, 3) := by decide +kernel
theorem dX6_cell_4 : decode cX6_cell 4 = .ok (.ifCond .eq 15, 3) := by decide +kernel
theorem dX6_cell_7 : decode cX6_cell 7 = .ok (.aload_n 0, 1) := by decide +kernel
theorem dX6_cell_8 : decode cX6_cell 8 = .ok (.getfield 31, 3) := by decide +kernel
theorem dX6_cell_11 : decode cX6_cell 11 = .ok (.iload_n 1, 1) := by decide +kernel
theorem dX6_cell_12 : decode cX6_cell 12 = .ok (.iload_n 2, 1) := by decide +kernel
theorem dX6_cell_13 : decode cX6_cell 13 = .ok (.invokevirtual 108, 3) := by decide +kernel
theorem dX6_cell_16 : decode cX6_cell 16 = .ok (.goto 4, 3) := by decide +kernel
theorem dX6_cell_19 : decode cX6_cell 19 = .ok (.iconst 0, 1) := by decide +kernel
theorem dX6_cell_20 : decode cX6_cell 20 = .ok (.ireturn, 1) := by decide +kernel
theorem dX6_length_0 : decode cX6_length 0 = .ok (.aload_n 0, 1) := by decide +kernel
theorem dX6_length_1 : decode cX6_length 1 = .ok (.getfield 37, 3) := by decide +kernel
theorem dX6_length_4 : decode cX6_length 4 = .ok (.getfield 112, 3) := by decide +kernel
theorem dX6_length_7 : decode cX6_length 7 = .ok (.ireturn, 1) := by decide +kernel
theorem dX6_access_0 : decode cX6_access 0 = .ok (.aload_n 0, 1) := by decide +kernel
theorem dX6_access_1 : decode cX6_access 1 = .ok (.getfield 37, 3) := by decide +kernel
theorem dX6_access_4 : decode cX6_access 4 = .ok (.iload_n 1, 1) := by decide +kernel
theorem dX6_access_5 : decode cX6_access 5 = .ok (.invokevirtual 115, 3) := by decide +kernel
theorem dX6_access_8 : decode cX6_access 8 = .ok (.ireturn, 1) := by decide +kernel
theorem dX6_sum_0 : decode cX6_sum 0 = .ok (.iload_n 1, 1) := by decide +kernel
theorem dX6_sum_1 : decode cX6_sum 1 = .ok (.invokestatic 65, 3) := by decide +kernel
theorem dX6_sum_4 : decode cX6_sum 4 = .ok (.ifCond .eq 15, 3) := by decide +kernel
theorem dX6_sum_7 : decode cX6_sum 7 = .ok (.aload_n 0, 1) := by decide +kernel
theorem dX6_sum_8 : decode cX6_sum 8 = .ok (.getfield 11, 3) := by decide +kernel
theorem dX6_sum_11 : decode cX6_sum 11 = .ok (.iload_n 1, 1) := by decide +kernel
theorem dX6_sum_12 : decode cX6_sum 12 = .ok (.aaload, 1) := by decide +kernel
theorem dX6_sum_13 : decode cX6_sum 13 = .ok (.invokevirtual 119, 3) := by decide +kernel
theorem dX6_sum_16 : decode cX6_sum 16 = .ok (.goto 4, 3) := by decide +kernel
theorem dX6_sum_19 : decode cX6_sum 19 = .ok (.iconst 0, 1) := by decide +kernel
theorem dX6_sum_20 : decode cX6_sum 20 = .ok (.ireturn, 1) := by decide +kernel
theorem dX6_isTable_0 : decode cX6_isTable 0 = .ok (.iload_n 0, 1) := by decide +kernel
theorem dX6_isTable_1 : decode cX6_isTable 1 = .ok (.ifCond .lt 12, 3) := by decide +kernel
theorem dX6_isTable_4 : decode cX6_isTable 4 = .ok (.iload_n 0, 1) := by decide +kernel
theorem dX6_isTable_5 : decode cX6_isTable 5 = .ok (.iconst 3, 1) := by decide +kernel
theorem dX6_isTable_6 : decode cX6_isTable 6 = .ok (.if_icmp .ge 7, 3) := by decide +kernel
theorem dX6_isTable_9 : decode cX6_isTable 9 = .ok (.iconst 1, 1) := by decide +kernel
theorem dX6_isTable_10 : decode cX6_isTable 10 = .ok (.goto 4, 3) := by decide +kernel
theorem dX6_isTable_13 : decode cX6_isTable 13 = .ok (.iconst 0, 1) := by decide +kernel
theorem dX6_isTable_14 : decode cX6_isTable 14 = .ok (.ireturn, 1) := by decide +kernel
theorem dX6_isColumn_0 : decode cX6_isColumn 0 = .ok (.iload_n 0, 1) := by decide +kernel
theorem dX6_isColumn_1 : decode cX6_isColumn 1 = .ok (.ifCond .lt 12, 3) := by decide +kernel
theorem dX6_isColumn_4 : decode cX6_isColumn 4 = .ok (.iload_n 0, 1) := by decide +kernel
theorem dX6_isColumn_5 : decode cX6_isColumn 5 = .ok (.iconst 3, 1) := by decide +kernel
theorem dX6_isColumn_6 : decode cX6_isColumn 6 = .ok (.if_icmp .ge 7, 3) := by decide +kernel
theorem dX6_isColumn_9 : decode cX6_isColumn 9 = .ok (.iconst 1, 1) := by decide +kernel
theorem dX6_isColumn_10 : decode cX6_isColumn 10 = .ok (.goto 4, 3) := by decide +kernel
theorem dX6_isColumn_13 : decode cX6_isColumn 13 = .ok (.iconst 0, 1) := by decide +kernel
theorem dX6_isColumn_14 : decode cX6_isColumn 14 = .ok (.ireturn, 1) := by decide +kernel
theorem dX6_changes_0 : decode cX6_changes 0 = .ok (.aload_n 0, 1) := by decide +kernel
theorem dX6_changes_1 : decode cX6_changes 1 = .ok (.getfield 24, 3) := by decide +kernel
theorem dX6_changes_4 : decode cX6_changes 4 = .ok (.getfield 73, 3) := by decide +kernel
theorem dX6_changes_7 : decode cX6_changes 7 = .ok (.aload_n 0, 1) := by decide +kernel
theorem dX6_changes_8 : decode cX6_changes 8 = .ok (.getfield 28, 3) := by decide +kernel
theorem dX6_changes_11 : decode cX6_changes 11 = .ok (.getfield 73, 3) := by decide +kernel
theorem dX6_changes_14 : decode cX6_changes 14 = .ok (.iadd, 1) := by decide +kernel
theorem dX6_changes_15 : decode cX6_changes 15 = .ok (.ireturn, 1) := by decide +kernel
theorem dX6_append_0 : decode cX6_append 0 = .ok (.aload_n 0, 1) := by decide +kernel
theorem dX6_append_1 : decode cX6_append 1 = .ok (.getfield 57, 3) := by decide +kernel
theorem dX6_append_4 : decode cX6_append 4 = .ok (.iconst (-1), 1) := by decide +kernel
theorem dX6_append_5 : decode cX6_append 5 = .ok (.if_icmp .eq 11, 3) := by decide +kernel
theorem dX6_append_8 : decode cX6_append 8 = .ok (.aload_n 0, 1) := by decide +kernel
theorem dX6_append_9 : decode cX6_append 9 = .ok (.getfield 61, 3) := by decide +kernel
theorem dX6_append_12 : decode cX6_append 12 = .ok (.iconst 3, 1) := by decide +kernel
theorem dX6_append_13 : decode cX6_append 13 = .ok (.if_icmp .lt 5, 3) := by decide +kernel
theorem dX6_append_16 : decode cX6_append 16 = .ok (.iconst 0, 1) := by decide +kernel
theorem dX6_append_17 : decode cX6_append 17 = .ok (.ireturn, 1) := by decide +kernel
theorem dX6_append_18 : decode cX6_append 18 = .ok (.aload_n 0, 1) := by decide +kernel
theorem dX6_append_19 : decode cX6_append 19 = .ok (.getfield 17, 3) := by decide +kernel
theorem dX6_append_22 : decode cX6_append 22 = .ok (.aload_n 0, 1) := by decide +kernel
theorem dX6_append_23 : decode cX6_append 23 = .ok (.getfield 61, 3) := by decide +kernel
theorem dX6_append_26 : decode cX6_append 26 = .ok (.aaload, 1) := by decide +kernel
theorem dX6_append_27 : decode cX6_append 27 = .ok (.iload_n 1, 1) := by decide +kernel
theorem dX6_append_28 : decode cX6_append 28 = .ok (.iload_n 2, 1) := by decide +kernel
theorem dX6_append_29 : decode cX6_append 29 = .ok (.iload_n 3, 1) := by decide +kernel
theorem dX6_append_30 : decode cX6_append 30 = .ok (.iload 4, 2) := by decide +kernel
theorem dX6_append_32 : decode cX6_append 32 = .ok (.invokevirtual 122, 3) := by decide +kernel
theorem dX6_append_35 : decode cX6_append 35 = .ok (.aload_n 0, 1) := by decide +kernel
theorem dX6_append_36 : decode cX6_append 36 = .ok (.dup, 1) := by decide +kernel
theorem dX6_append_37 : decode cX6_append 37 = .ok (.getfield 61, 3) := by decide +kernel
theorem dX6_append_40 : decode cX6_append 40 = .ok (.iconst 1, 1) := by decide +kernel
theorem dX6_append_41 : decode cX6_append 41 = .ok (.iadd, 1) := by decide +kernel
theorem dX6_append_42 : decode cX6_append 42 = .ok (.putfield 61, 3) := by decide +kernel
theorem dX6_append_45 : decode cX6_append 45 = .ok (.iconst 1, 1) := by decide +kernel
theorem dX6_append_46 : decode cX6_append 46 = .ok (.ireturn, 1) := by decide +kernel
theorem dX6_perform_0 : decode cX6_perform 0 = .ok (.aload_n 1, 1) := by decide +kernel
theorem dX6_perform_1 : decode cX6_perform 1 = .ok (.getfield 125, 3) := by decide +kernel
theorem dX6_perform_4 : decode cX6_perform 4 = .ok (.tableswitch 116 0 3 #[32, 57, 82, 95], 32) := by decide +kernel
theorem dX6_perform_36 : decode cX6_perform 36 = .ok (.aload_n 0, 1) := by decide +kernel
theorem dX6_perform_37 : decode cX6_perform 37 = .ok (.getfield 46, 3) := by decide +kernel
theorem dX6_perform_40 : decode cX6_perform 40 = .ok (.aload_n 0, 1) := by decide +kernel
theorem dX6_perform_41 : decode cX6_perform 41 = .ok (.getfield 31, 3) := by decide +kernel
theorem dX6_perform_44 : decode cX6_perform 44 = .ok (.aload_n 1, 1) := by decide +kernel
theorem dX6_perform_45 : decode cX6_perform 45 = .ok (.getfield 128, 3) := by decide +kernel
theorem dX6_perform_48 : decode cX6_perform 48 = .ok (.aload_n 1, 1) := by decide +kernel
theorem dX6_perform_49 : decode cX6_perform 49 = .ok (.getfield 131, 3) := by decide +kernel
theorem dX6_perform_52 : decode cX6_perform 52 = .ok (.aload_n 1, 1) := by decide +kernel
theorem dX6_perform_53 : decode cX6_perform 53 = .ok (.getfield 134, 3) := by decide +kernel
theorem dX6_perform_56 : decode cX6_perform 56 = .ok (.invokevirtual 137, 3) := by decide +kernel
theorem dX6_perform_59 : decode cX6_perform 59 = .ok (.iconst 1, 1) := by decide +kernel
theorem dX6_perform_60 : decode cX6_perform 60 = .ok (.ireturn, 1) := by decide +kernel
theorem dX6_perform_61 : decode cX6_perform 61 = .ok (.aload_n 0, 1) := by decide +kernel
theorem dX6_perform_62 : decode cX6_perform 62 = .ok (.getfield 46, 3) := by decide +kernel
theorem dX6_perform_65 : decode cX6_perform 65 = .ok (.aload_n 0, 1) := by decide +kernel
theorem dX6_perform_66 : decode cX6_perform 66 = .ok (.getfield 31, 3) := by decide +kernel
theorem dX6_perform_69 : decode cX6_perform 69 = .ok (.aload_n 1, 1) := by decide +kernel
theorem dX6_perform_70 : decode cX6_perform 70 = .ok (.getfield 128, 3) := by decide +kernel
theorem dX6_perform_73 : decode cX6_perform 73 = .ok (.aload_n 1, 1) := by decide +kernel
theorem dX6_perform_74 : decode cX6_perform 74 = .ok (.getfield 131, 3) := by decide +kernel
theorem dX6_perform_77 : decode cX6_perform 77 = .ok (.aload_n 1, 1) := by decide +kernel
theorem dX6_perform_78 : decode cX6_perform 78 = .ok (.getfield 134, 3) := by decide +kernel
theorem dX6_perform_81 : decode cX6_perform 81 = .ok (.invokevirtual 141, 3) := by decide +kernel
theorem dX6_perform_84 : decode cX6_perform 84 = .ok (.iconst 1, 1) := by decide +kernel
theorem dX6_perform_85 : decode cX6_perform 85 = .ok (.ireturn, 1) := by decide +kernel
theorem dX6_perform_86 : decode cX6_perform 86 = .ok (.aload_n 0, 1) := by decide +kernel
theorem dX6_perform_87 : decode cX6_perform 87 = .ok (.getfield 46, 3) := by decide +kernel
theorem dX6_perform_90 : decode cX6_perform 90 = .ok (.aload_n 0, 1) := by decide +kernel
theorem dX6_perform_91 : decode cX6_perform 91 = .ok (.getfield 31, 3) := by decide +kernel
theorem dX6_perform_94 : decode cX6_perform 94 = .ok (.invokevirtual 144, 3) := by decide +kernel
theorem dX6_perform_97 : decode cX6_perform 97 = .ok (.iconst 1, 1) := by decide +kernel
theorem dX6_perform_98 : decode cX6_perform 98 = .ok (.ireturn, 1) := by decide +kernel
theorem dX6_perform_99 : decode cX6_perform 99 = .ok (.aload_n 0, 1) := by decide +kernel
theorem dX6_perform_100 : decode cX6_perform 100 = .ok (.getfield 46, 3) := by decide +kernel
theorem dX6_perform_103 : decode cX6_perform 103 = .ok (.aload_n 0, 1) := by decide +kernel
theorem dX6_perform_104 : decode cX6_perform 104 = .ok (.getfield 31, 3) := by decide +kernel
theorem dX6_perform_107 : decode cX6_perform 107 = .ok (.aload_n 1, 1) := by decide +kernel
theorem dX6_perform_108 : decode cX6_perform 108 = .ok (.getfield 128, 3) := by decide +kernel
theorem dX6_perform_111 : decode cX6_perform 111 = .ok (.aload_n 1, 1) := by decide +kernel
theorem dX6_perform_112 : decode cX6_perform 112 = .ok (.getfield 131, 3) := by decide +kernel
theorem dX6_perform_115 : decode cX6_perform 115 = .ok (.invokevirtual 147, 3) := by decide +kernel
theorem dX6_perform_118 : decode cX6_perform 118 = .ok (.iconst 1, 1) := by decide +kernel
theorem dX6_perform_119 : decode cX6_perform 119 = .ok (.ireturn, 1) := by decide +kernel
theorem dX6_perform_120 : decode cX6_perform 120 = .ok (.aload_n 1, 1) := by decide +kernel
theorem dX6_perform_121 : decode cX6_perform 121 = .ok (.getfield 128, 3) := by decide +kernel
theorem dX6_perform_124 : decode cX6_perform 124 = .ok (.invokestatic 65, 3) := by decide +kernel
theorem dX6_perform_127 : decode cX6_perform 127 = .ok (.ifCond .eq 38, 3) := by decide +kernel
theorem dX6_perform_130 : decode cX6_perform 130 = .ok (.aload_n 0, 1) := by decide +kernel
theorem dX6_perform_131 : decode cX6_perform 131 = .ok (.getfield 53, 3) := by decide +kernel
theorem dX6_perform_134 : decode cX6_perform 134 = .ok (.aload_n 0, 1) := by decide +kernel
theorem dX6_perform_135 : decode cX6_perform 135 = .ok (.getfield 31, 3) := by decide +kernel
theorem dX6_perform_138 : decode cX6_perform 138 = .ok (.aload_n 0, 1) := by decide +kernel
theorem dX6_perform_139 : decode cX6_perform 139 = .ok (.getfield 11, 3) := by decide +kernel
theorem dX6_perform_142 : decode cX6_perform 142 = .ok (.aload_n 1, 1) := by decide +kernel
theorem dX6_perform_143 : decode cX6_perform 143 = .ok (.getfield 128, 3) := by decide +kernel
theorem dX6_perform_146 : decode cX6_perform 146 = .ok (.aaload, 1) := by decide +kernel
theorem dX6_perform_147 : decode cX6_perform 147 = .ok (.aload_n 1, 1) := by decide +kernel
theorem dX6_perform_148 : decode cX6_perform 148 = .ok (.getfield 131, 3) := by decide +kernel
theorem dX6_perform_151 : decode cX6_perform 151 = .ok (.aload_n 1, 1) := by decide +kernel
theorem dX6_perform_152 : decode cX6_perform 152 = .ok (.getfield 134, 3) := by decide +kernel
theorem dX6_perform_155 : decode cX6_perform 155 = .ok (.invokevirtual 151, 3) := by decide +kernel
theorem dX6_perform_158 : decode cX6_perform 158 = .ok (.ifCond .eq 7, 3) := by decide +kernel
theorem dX6_perform_161 : decode cX6_perform 161 = .ok (.iconst 1, 1) := by decide +kernel
theorem dX6_perform_162 : decode cX6_perform 162 = .ok (.goto 4, 3) := by decide +kernel
theorem dX6_perform_165 : decode cX6_perform 165 = .ok (.iconst 0, 1) := by decide +kernel
theorem dX6_perform_166 : decode cX6_perform 166 = .ok (.ireturn, 1) := by decide +kernel
theorem dX1_init_0 : decode cX1_init 0 = .ok (.aload_n 0, 1) := by decide +kernel
theorem dX1_init_1 : decode cX1_init 1 = .ok (.invokespecial 3, 3) := by decide +kernel
theorem dX1_init_4 : decode cX1_init 4 = .ok (.aload_n 0, 1) := by decide +kernel
theorem dX1_init_5 : decode cX1_init 5 = .ok (.new 9, 3) := by decide +kernel
theorem dX1_init_8 : decode cX1_init 8 = .ok (.dup, 1) := by decide +kernel
theorem dX1_init_9 : decode cX1_init 9 = .ok (.invokespecial 11, 3) := by decide +kernel
theorem dX1_init_12 : decode cX1_init 12 = .ok (.putfield 12, 3) := by decide +kernel
theorem dX1_init_15 : decode cX1_init 15 = .ok (.aload_n 0, 1) := by decide +kernel
theorem dX1_init_16 : decode cX1_init 16 = .ok (.aload_n 1, 1) := by decide +kernel
theorem dX1_init_17 : decode cX1_init 17 = .ok (.putfield 18, 3) := by decide +kernel
theorem dX1_init_20 : decode cX1_init 20 = .ok (.return_, 1) := by decide +kernel
theorem dX1_match_0 : decode cX1_match 0 = .ok (.aload_n 0, 1) := by decide +kernel
theorem dX1_match_1 : decode cX1_match 1 = .ok (.getfield 18, 3) := by decide +kernel
theorem dX1_match_4 : decode cX1_match 4 = .ok (.invokevirtual 22, 3) := by decide +kernel
theorem dX1_match_7 : decode cX1_match 7 = .ok (.aload_n 0, 1) := by decide +kernel
theorem dX1_match_8 : decode cX1_match 8 = .ok (.getfield 18, 3) := by decide +kernel
theorem dX1_match_11 : decode cX1_match 11 = .ok (.aload_n 1, 1) := by decide +kernel
theorem dX1_match_12 : decode cX1_match 12 = .ok (.iconst 0, 1) := by decide +kernel
theorem dX1_match_13 : decode cX1_match 13 = .ok (.iload_n 3, 1) := by decide +kernel
theorem dX1_match_14 : decode cX1_match 14 = .ok (.iconst 0, 1) := by decide +kernel
theorem dX1_match_15 : decode cX1_match 15 = .ok (.invokevirtual 27, 3) := by decide +kernel
theorem dX1_match_18 : decode cX1_match 18 = .ok (.istore 5, 2) := by decide +kernel
theorem dX1_match_20 : decode cX1_match 20 = .ok (.aload_n 0, 1) := by decide +kernel
theorem dX1_match_21 : decode cX1_match 21 = .ok (.getfield 18, 3) := by decide +kernel
theorem dX1_match_24 : decode cX1_match 24 = .ok (.aload_n 2, 1) := by decide +kernel
theorem dX1_match_25 : decode cX1_match 25 = .ok (.iload 5, 2) := by decide +kernel
theorem dX1_match_27 : decode cX1_match 27 = .ok (.iload 4, 2) := by decide +kernel
theorem dX1_match_29 : decode cX1_match 29 = .ok (.iconst 1, 1) := by decide +kernel
theorem dX1_match_30 : decode cX1_match 30 = .ok (.invokevirtual 27, 3) := by decide +kernel
theorem dX1_match_33 : decode cX1_match 33 = .ok (.istore 6, 2) := by decide +kernel
theorem dX1_match_35 : decode cX1_match 35 = .ok (.aload_n 0, 1) := by decide +kernel
theorem dX1_match_36 : decode cX1_match 36 = .ok (.getfield 18, 3) := by decide +kernel
theorem dX1_match_39 : decode cX1_match 39 = .ok (.iconst 0, 1) := by decide +kernel
theorem dX1_match_40 : decode cX1_match 40 = .ok (.iload 6, 2) := by decide +kernel
theorem dX1_match_42 : decode cX1_match 42 = .ok (.invokevirtual 31, 3) := by decide +kernel
theorem dX1_match_45 : decode cX1_match 45 = .ok (.aload_n 0, 1) := by decide +kernel
theorem dX1_match_46 : decode cX1_match 46 = .ok (.iload 6, 2) := by decide +kernel
theorem dX1_match_48 : decode cX1_match 48 = .ok (.invokevirtual 35, 3) := by decide +kernel
theorem dX1_match_51 : decode cX1_match 51 = .ok (.aload_n 0, 1) := by decide +kernel
theorem dX1_match_52 : decode cX1_match 52 = .ok (.iload 6, 2) := by decide +kernel
theorem dX1_match_54 : decode cX1_match 54 = .ok (.invokevirtual 39, 3) := by decide +kernel
theorem dX1_match_57 : decode cX1_match 57 = .ok (.istore 7, 2) := by decide +kernel
theorem dX1_match_59 : decode cX1_match 59 = .ok (.aload_n 0, 1) := by decide +kernel
theorem dX1_match_60 : decode cX1_match 60 = .ok (.getfield 18, 3) := by decide +kernel
theorem dX1_match_63 : decode cX1_match 63 = .ok (.iconst 0, 1) := by decide +kernel
theorem dX1_match_64 : decode cX1_match 64 = .ok (.iload 6, 2) := by decide +kernel
theorem dX1_match_66 : decode cX1_match 66 = .ok (.invokevirtual 31, 3) := by decide +kernel
theorem dX1_match_69 : decode cX1_match 69 = .ok (.iload 7, 2) := by decide +kernel
theorem dX1_match_71 : decode cX1_match 71 = .ok (.bipush 24, 2) := by decide +kernel
theorem dX1_match_73 : decode cX1_match 73 = .ok (.if_icmp .le 5, 3) := by decide +kernel
theorem dX1_match_76 : decode cX1_match 76 = .ok (.iconst 0, 1) := by decide +kernel
theorem dX1_match_77 : decode cX1_match 77 = .ok (.ireturn, 1) := by decide +kernel
theorem dX1_match_78 : decode cX1_match 78 = .ok (.iload 7, 2) := by decide +kernel
theorem dX1_match_80 : decode cX1_match 80 = .ok (.ifCond .le 47, 3) := by decide +kernel
theorem dX1_match_83 : decode cX1_match 83 = .ok (.aload_n 0, 1) := by decide +kernel
theorem dX1_match_84 : decode cX1_match 84 = .ok (.iload 6, 2) := by decide +kernel
theorem dX1_match_86 : decode cX1_match 86 = .ok (.invokevirtual 43, 3) := by decide +kernel
theorem dX1_match_89 : decode cX1_match 89 = .ok (.aload_n 0, 1) := by decide +kernel
theorem dX1_match_90 : decode cX1_match 90 = .ok (.iconst 0, 1) := by decide +kernel
theorem dX1_match_91 : decode cX1_match 91 = .ok (.iload 6, 2) := by decide +kernel
theorem dX1_match_93 : decode cX1_match 93 = .ok (.iload 7, 2) := by decide +kernel
theorem dX1_match_95 : decode cX1_match 95 = .ok (.iconst 0, 1) := by decide +kernel
theorem dX1_match_96 : decode cX1_match 96 = .ok (.invokevirtual 46, 3) := by decide +kernel
theorem dX1_match_99 : decode cX1_match 99 = .ok (.aload_n 0, 1) := by decide +kernel
theorem dX1_match_100 : decode cX1_match 100 = .ok (.bipush 40, 2) := by decide +kernel
theorem dX1_match_102 : decode cX1_match 102 = .ok (.iload 6, 2) := by decide +kernel
theorem dX1_match_104 : decode cX1_match 104 = .ok (.iload 7, 2) := by decide +kernel
theorem dX1_match_106 : decode cX1_match 106 = .ok (.iconst 1, 1) := by decide +kernel
theorem dX1_match_107 : decode cX1_match 107 = .ok (.invokevirtual 46, 3) := by decide +kernel
theorem dX1_match_110 : decode cX1_match 110 = .ok (.aload_n 0, 1) := by decide +kernel
theorem dX1_match_111 : decode cX1_match 111 = .ok (.getfield 18, 3) := by decide +kernel
theorem dX1_match_114 : decode cX1_match 114 = .ok (.bipush 40, 2) := by decide +kernel
theorem dX1_match_116 : decode cX1_match 116 = .ok (.iload 7, 2) := by decide +kernel
theorem dX1_match_118 : decode cX1_match 118 = .ok (.invokevirtual 31, 3) := by decide +kernel
theorem dX1_match_121 : decode cX1_match 121 = .ok (.aload_n 0, 1) := by decide +kernel
theorem dX1_match_122 : decode cX1_match 122 = .ok (.iload 7, 2) := by decide +kernel
theorem dX1_match_124 : decode cX1_match 124 = .ok (.invokevirtual 50, 3) := by decide +kernel
theorem dX1_match_127 : decode cX1_match 127 = .ok (.aload_n 0, 1) := by decide +kernel
theorem dX1_match_128 : decode cX1_match 128 = .ok (.getfield 18, 3) := by decide +kernel
theorem dX1_match_131 : decode cX1_match 131 = .ok (.aload_n 1, 1) := by decide +kernel
theorem dX1_match_132 : decode cX1_match 132 = .ok (.iload 7, 2) := by decide +kernel
theorem dX1_match_134 : decode cX1_match 134 = .ok (.invokevirtual 53, 3) := by decide +kernel
theorem dX1_match_137 : decode cX1_match 137 = .ok (.iconst 1, 1) := by decide +kernel
theorem dX1_match_138 : decode cX1_match 138 = .ok (.ireturn, 1) := by decide +kernel
theorem dX1_countForth_0 : decode cX1_countForth 0 = .ok (.iconst 0, 1) := by decide +kernel
theorem dX1_countForth_1 : decode cX1_countForth 1 = .ok (.istore_n 2, 1) := by decide +kernel
theorem dX1_countForth_2 : decode cX1_countForth 2 = .ok (.iconst 0, 1) := by decide +kernel
theorem dX1_countForth_3 : decode cX1_countForth 3 = .ok (.istore_n 3, 1) := by decide +kernel
theorem dX1_countForth_4 : decode cX1_countForth 4 = .ok (.iconst 0, 1) := by decide +kernel
theorem dX1_countForth_5 : decode cX1_countForth 5 = .ok (.istore 4, 2) := by decide +kernel
theorem dX1_countForth_7 : decode cX1_countForth 7 = .ok (.iconst 0, 1) := by decide +kernel
theorem dX1_countForth_8 : decode cX1_countForth 8 = .ok (.istore 5, 2) := by decide +kernel
theorem dX1_countForth_10 : decode cX1_countForth 10 = .ok (.iload 5, 2) := by decide +kernel
theorem dX1_countForth_12 : decode cX1_countForth 12 = .ok (.iload_n 1, 1) := by decide +kernel
theorem dX1_countForth_13 : decode cX1_countForth 13 = .ok (.if_icmp .ge 86, 3) := by decide +kernel
theorem dX1_countForth_16 : decode cX1_countForth 16 = .ok (.aload_n 0, 1) := by decide +kernel
theorem dX1_countForth_17 : decode cX1_countForth 17 = .ok (.getfield 18, 3) := by decide +kernel
theorem dX1_countForth_20 : decode cX1_countForth 20 = .ok (.iload 5, 2) := by decide +kernel
theorem dX1_countForth_22 : decode cX1_countForth 22 = .ok (.invokevirtual 57, 3) := by decide +kernel
theorem dX1_countForth_25 : decode cX1_countForth 25 = .ok (.astore 6, 2) := by decide +kernel
theorem dX1_countForth_27 : decode cX1_countForth 27 = .ok (.iload 5, 2) := by decide +kernel
theorem dX1_countForth_29 : decode cX1_countForth 29 = .ok (.ifCond .eq 12, 3) := by decide +kernel
theorem dX1_countForth_32 : decode cX1_countForth 32 = .ok (.aload 6, 2) := by decide +kernel
theorem dX1_countForth_34 : decode cX1_countForth 34 = .ok (.getfield 61, 3) := by decide +kernel
theorem dX1_countForth_37 : decode cX1_countForth 37 = .ok (.iload_n 2, 1) := by decide +kernel
theorem dX1_countForth_38 : decode cX1_countForth 38 = .ok (.if_icmp .eq 14, 3) := by decide +kernel
theorem dX1_countForth_41 : decode cX1_countForth 41 = .ok (.aload 6, 2) := by decide +kernel
theorem dX1_countForth_43 : decode cX1_countForth 43 = .ok (.getfield 61, 3) := by decide +kernel
theorem dX1_countForth_46 : decode cX1_countForth 46 = .ok (.istore_n 2, 1) := by decide +kernel
theorem dX1_countForth_47 : decode cX1_countForth 47 = .ok (.iconst 0, 1) := by decide +kernel
theorem dX1_countForth_48 : decode cX1_countForth 48 = .ok (.istore_n 3, 1) := by decide +kernel
theorem dX1_countForth_49 : decode cX1_countForth 49 = .ok (.iconst 0, 1) := by decide +kernel
theorem dX1_countForth_50 : decode cX1_countForth 50 = .ok (.istore 4, 2) := by decide +kernel
theorem dX1_countForth_52 : decode cX1_countForth 52 = .ok (.aload 6, 2) := by decide +kernel
theorem dX1_countForth_54 : decode cX1_countForth 54 = .ok (.getfield 65, 3) := by decide +kernel
theorem dX1_countForth_57 : decode cX1_countForth 57 = .ok (.ifCond .ne 9, 3) := by decide +kernel
theorem dX1_countForth_60 : decode cX1_countForth 60 = .ok (.iinc 3 1, 3) := by decide +kernel
theorem dX1_countForth_63 : decode cX1_countForth 63 = .ok (.goto 6, 3) := by decide +kernel
theorem dX1_countForth_66 : decode cX1_countForth 66 = .ok (.iinc 4 1, 3) := by decide +kernel
theorem dX1_countForth_69 : decode cX1_countForth 69 = .ok (.aload 6, 2) := by decide +kernel
theorem dX1_countForth_71 : decode cX1_countForth 71 = .ok (.iload_n 3, 1) := by decide +kernel
theorem dX1_countForth_72 : decode cX1_countForth 72 = .ok (.putfield 68, 3) := by decide +kernel
theorem dX1_countForth_75 : decode cX1_countForth 75 = .ok (.aload 6, 2) := by decide +kernel
theorem dX1_countForth_77 : decode cX1_countForth 77 = .ok (.iload 4, 2) := by decide +kernel
theorem dX1_countForth_79 : decode cX1_countForth 79 = .ok (.putfield 71, 3) := by decide +kernel
theorem dX1_countForth_82 : decode cX1_countForth 82 = .ok (.aload_n 0, 1) := by decide +kernel
theorem dX1_countForth_83 : decode cX1_countForth 83 = .ok (.getfield 18, 3) := by decide +kernel
theorem dX1_countForth_86 : decode cX1_countForth 86 = .ok (.iload 5, 2) := by decide +kernel
theorem dX1_countForth_88 : decode cX1_countForth 88 = .ok (.aload 6, 2) := by decide +kernel
theorem dX1_countForth_90 : decode cX1_countForth 90 = .ok (.invokevirtual 74, 3) := by decide +kernel
theorem dX1_countForth_93 : decode cX1_countForth 93 = .ok (.iinc 5 1, 3) := by decide +kernel
theorem dX1_countForth_96 : decode cX1_countForth 96 = .ok (.goto (-86), 3) := by decide +kernel
theorem dX1_countForth_99 : decode cX1_countForth 99 = .ok (.return_, 1) := by decide +kernel
theorem dX1_countBack_0 : decode cX1_countBack 0 = .ok (.iconst 0, 1) := by decide +kernel
theorem dX1_countBack_1 : decode cX1_countBack 1 = .ok (.istore_n 2, 1) := by decide +kernel
theorem dX1_countBack_2 : decode cX1_countBack 2 = .ok (.iconst 0, 1) := by decide +kernel
theorem dX1_countBack_3 : decode cX1_countBack 3 = .ok (.istore_n 3, 1) := by decide +kernel
theorem dX1_countBack_4 : decode cX1_countBack 4 = .ok (.iconst 0, 1) := by decide +kernel
theorem dX1_countBack_5 : decode cX1_countBack 5 = .ok (.istore 4, 2) := by decide +kernel
theorem dX1_countBack_7 : decode cX1_countBack 7 = .ok (.iconst 0, 1) := by decide +kernel
theorem dX1_countBack_8 : decode cX1_countBack 8 = .ok (.istore 5, 2) := by decide +kernel
theorem dX1_countBack_10 : decode cX1_countBack 10 = .ok (.iload_n 1, 1) := by decide +kernel
theorem dX1_countBack_11 : decode cX1_countBack 11 = .ok (.iconst 1, 1) := by decide +kernel
theorem dX1_countBack_12 : decode cX1_countBack 12 = .ok (.isub, 1) := by decide +kernel
theorem dX1_countBack_13 : decode cX1_countBack 13 = .ok (.istore 6, 2) := by decide +kernel
theorem dX1_countBack_15 : decode cX1_countBack 15 = .ok (.iload 6, 2) := by decide +kernel
theorem dX1_countBack_17 : decode cX1_countBack 17 = .ok (.ifCond .lt 105, 3) := by decide +kernel
theorem dX1_countBack_20 : decode cX1_countBack 20 = .ok (.aload_n 0, 1) := by decide +kernel
theorem dX1_countBack_21 : decode cX1_countBack 21 = .ok (.getfield 18, 3) := by decide +kernel
theorem dX1_countBack_24 : decode cX1_countBack 24 = .ok (.iload 6, 2) := by decide +kernel
theorem dX1_countBack_26 : decode cX1_countBack 26 = .ok (.invokevirtual 57, 3) := by decide +kernel
theorem dX1_countBack_29 : decode cX1_countBack 29 = .ok (.astore 7, 2) := by decide +kernel
theorem dX1_countBack_31 : decode cX1_countBack 31 = .ok (.iload 6, 2) := by decide +kernel
theorem dX1_countBack_33 : decode cX1_countBack 33 = .ok (.iload_n 1, 1) := by decide +kernel
theorem dX1_countBack_34 : decode cX1_countBack 34 = .ok (.iconst 1, 1) := by decide +kernel
theorem dX1_countBack_35 : decode cX1_countBack 35 = .ok (.isub, 1) := by decide +kernel
theorem dX1_countBack_36 : decode cX1_countBack 36 = .ok (.if_icmp .eq 12, 3) := by decide +kernel
theorem dX1_countBack_39 : decode cX1_countBack 39 = .ok (.aload 7, 2) := by decide +kernel
theorem dX1_countBack_41 : decode cX1_countBack 41 = .ok (.getfield 61, 3) := by decide +kernel
theorem dX1_countBack_44 : decode cX1_countBack 44 = .ok (.iload_n 2, 1) := by decide +kernel
theorem dX1_countBack_45 : decode cX1_countBack 45 = .ok (.if_icmp .eq 31, 3) := by decide +kernel
theorem dX1_countBack_48 : decode cX1_countBack 48 = .ok (.aload 7, 2) := by decide +kernel
theorem dX1_countBack_50 : decode cX1_countBack 50 = .ok (.getfield 61, 3) := by decide +kernel
theorem dX1_countBack_53 : decode cX1_countBack 53 = .ok (.istore_n 2, 1) := by decide +kernel
theorem dX1_countBack_54 : decode cX1_countBack 54 = .ok (.aload 7, 2) := by decide +kernel
theorem dX1_countBack_56 : decode cX1_countBack 56 = .ok (.getfield 68, 3) := by decide +kernel
theorem dX1_countBack_59 : decode cX1_countBack 59 = .ok (.istore_n 3, 1) := by decide +kernel
theorem dX1_countBack_60 : decode cX1_countBack 60 = .ok (.aload 7, 2) := by decide +kernel
theorem dX1_countBack_62 : decode cX1_countBack 62 = .ok (.getfield 71, 3) := by decide +kernel
theorem dX1_countBack_65 : decode cX1_countBack 65 = .ok (.istore 4, 2) := by decide +kernel
theorem dX1_countBack_67 : decode cX1_countBack 67 = .ok (.iload 5, 2) := by decide +kernel
theorem dX1_countBack_69 : decode cX1_countBack 69 = .ok (.iload_n 3, 1) := by decide +kernel
theorem dX1_countBack_70 : decode cX1_countBack 70 = .ok (.iload 4, 2) := by decide +kernel
theorem dX1_countBack_72 : decode cX1_countBack 72 = .ok (.imul, 1) := by decide +kernel
theorem dX1_countBack_73 : decode cX1_countBack 73 = .ok (.iadd, 1) := by decide +kernel
theorem dX1_countBack_74 : decode cX1_countBack 74 = .ok (.istore 5, 2) := by decide +kernel
theorem dX1_countBack_76 : decode cX1_countBack 76 = .ok (.aload 7, 2) := by decide +kernel
theorem dX1_countBack_78 : decode cX1_countBack 78 = .ok (.iload_n 3, 1) := by decide +kernel
theorem dX1_countBack_79 : decode cX1_countBack 79 = .ok (.putfield 68, 3) := by decide +kernel
theorem dX1_countBack_82 : decode cX1_countBack 82 = .ok (.aload 7, 2) := by decide +kernel
theorem dX1_countBack_84 : decode cX1_countBack 84 = .ok (.iload 4, 2) := by decide +kernel
theorem dX1_countBack_86 : decode cX1_countBack 86 = .ok (.putfield 71, 3) := by decide +kernel
theorem dX1_countBack_89 : decode cX1_countBack 89 = .ok (.aload 7, 2) := by decide +kernel
theorem dX1_countBack_91 : decode cX1_countBack 91 = .ok (.aload 7, 2) := by decide +kernel
theorem dX1_countBack_93 : decode cX1_countBack 93 = .ok (.getfield 65, 3) := by decide +kernel
theorem dX1_countBack_96 : decode cX1_countBack 96 = .ok (.aload 7, 2) := by decide +kernel
theorem dX1_countBack_98 : decode cX1_countBack 98 = .ok (.getfield 61, 3) := by decide +kernel
theorem dX1_countBack_101 : decode cX1_countBack 101 = .ok (.iconst 0, 1) := by decide +kernel
theorem dX1_countBack_102 : decode cX1_countBack 102 = .ok (.invokevirtual 78, 3) := by decide +kernel
theorem dX1_countBack_105 : decode cX1_countBack 105 = .ok (.aload_n 0, 1) := by decide +kernel
theorem dX1_countBack_106 : decode cX1_countBack 106 = .ok (.getfield 18, 3) := by decide +kernel
theorem dX1_countBack_109 : decode cX1_countBack 109 = .ok (.iload 6, 2) := by decide +kernel
theorem dX1_countBack_111 : decode cX1_countBack 111 = .ok (.aload 7, 2) := by decide +kernel
theorem dX1_countBack_113 : decode cX1_countBack 113 = .ok (.invokevirtual 74, 3) := by decide +kernel
theorem dX1_countBack_116 : decode cX1_countBack 116 = .ok (.iinc 6 (-1), 3) := by decide +kernel
theorem dX1_countBack_119 : decode cX1_countBack 119 = .ok (.goto (-104), 3) := by decide +kernel
theorem dX1_countBack_122 : decode cX1_countBack 122 = .ok (.iload 5, 2) := by decide +kernel
theorem dX1_countBack_124 : decode cX1_countBack 124 = .ok (.ireturn, 1) := by decide +kernel
theorem dX1_copyAll_0 : decode cX1_copyAll 0 = .ok (.iconst 0, 1) := by decide +kernel
theorem dX1_copyAll_1 : decode cX1_copyAll 1 = .ok (.istore_n 2, 1) := by decide +kernel
theorem dX1_copyAll_2 : decode cX1_copyAll 2 = .ok (.iload_n 2, 1) := by decide +kernel
theorem dX1_copyAll_3 : decode cX1_copyAll 3 = .ok (.iload_n 1, 1) := by decide +kernel
theorem dX1_copyAll_4 : decode cX1_copyAll 4 = .ok (.if_icmp .ge 21, 3) := by decide +kernel
theorem dX1_copyAll_7 : decode cX1_copyAll 7 = .ok (.aload_n 0, 1) := by decide +kernel
theorem dX1_copyAll_8 : decode cX1_copyAll 8 = .ok (.getfield 18, 3) := by decide +kernel
theorem dX1_copyAll_11 : decode cX1_copyAll 11 = .ok (.iload_n 2, 1) := by decide +kernel
theorem dX1_copyAll_12 : decode cX1_copyAll 12 = .ok (.iload_n 2, 1) := by decide +kernel
theorem dX1_copyAll_13 : decode cX1_copyAll 13 = .ok (.bipush 40, 2) := by decide +kernel
theorem dX1_copyAll_15 : decode cX1_copyAll 15 = .ok (.iadd, 1) := by decide +kernel
theorem dX1_copyAll_16 : decode cX1_copyAll 16 = .ok (.invokevirtual 82, 3) := by decide +kernel
theorem dX1_copyAll_19 : decode cX1_copyAll 19 = .ok (.iinc 2 1, 3) := by decide +kernel
theorem dX1_copyAll_22 : decode cX1_copyAll 22 = .ok (.goto (-20), 3) := by decide +kernel
theorem dX1_copyAll_25 : decode cX1_copyAll 25 = .ok (.return_, 1) := by decide +kernel
theorem dX1_addPairs_0 : decode cX1_addPairs 0 = .ok (.iconst 0, 1) := by decide +kernel
theorem dX1_addPairs_1 : decode cX1_addPairs 1 = .ok (.istore_n 2, 1) := by decide +kernel
theorem dX1_addPairs_2 : decode cX1_addPairs 2 = .ok (.iload_n 2, 1) := by decide +kernel
theorem dX1_addPairs_3 : decode cX1_addPairs 3 = .ok (.iload_n 1, 1) := by decide +kernel
theorem dX1_addPairs_4 : decode cX1_addPairs 4 = .ok (.if_icmp .ge 68, 3) := by decide +kernel
theorem dX1_addPairs_7 : decode cX1_addPairs 7 = .ok (.aload_n 0, 1) := by decide +kernel
theorem dX1_addPairs_8 : decode cX1_addPairs 8 = .ok (.getfield 18, 3) := by decide +kernel
theorem dX1_addPairs_11 : decode cX1_addPairs 11 = .ok (.iload_n 2, 1) := by decide +kernel
theorem dX1_addPairs_12 : decode cX1_addPairs 12 = .ok (.invokevirtual 57, 3) := by decide +kernel
theorem dX1_addPairs_15 : decode cX1_addPairs 15 = .ok (.astore_n 3, 1) := by decide +kernel
theorem dX1_addPairs_16 : decode cX1_addPairs 16 = .ok (.aload_n 0, 1) := by decide +kernel
theorem dX1_addPairs_17 : decode cX1_addPairs 17 = .ok (.getfield 18, 3) := by decide +kernel
theorem dX1_addPairs_20 : decode cX1_addPairs 20 = .ok (.iload_n 2, 1) := by decide +kernel
theorem dX1_addPairs_21 : decode cX1_addPairs 21 = .ok (.bipush 40, 2) := by decide +kernel
theorem dX1_addPairs_23 : decode cX1_addPairs 23 = .ok (.iadd, 1) := by decide +kernel
theorem dX1_addPairs_24 : decode cX1_addPairs 24 = .ok (.invokevirtual 57, 3) := by decide +kernel
theorem dX1_addPairs_27 : decode cX1_addPairs 27 = .ok (.astore 4, 2) := by decide +kernel
theorem dX1_addPairs_29 : decode cX1_addPairs 29 = .ok (.aload_n 3, 1) := by decide +kernel
theorem dX1_addPairs_30 : decode cX1_addPairs 30 = .ok (.aload_n 3, 1) := by decide +kernel
theorem dX1_addPairs_31 : decode cX1_addPairs 31 = .ok (.getfield 61, 3) := by decide +kernel
theorem dX1_addPairs_34 : decode cX1_addPairs 34 = .ok (.aload_n 3, 1) := by decide +kernel
theorem dX1_addPairs_35 : decode cX1_addPairs 35 = .ok (.getfield 85, 3) := by decide +kernel
theorem dX1_addPairs_38 : decode cX1_addPairs 38 = .ok (.aload 4, 2) := by decide +kernel
theorem dX1_addPairs_40 : decode cX1_addPairs 40 = .ok (.getfield 85, 3) := by decide +kernel
theorem dX1_addPairs_43 : decode cX1_addPairs 43 = .ok (.iadd, 1) := by decide +kernel
theorem dX1_addPairs_44 : decode cX1_addPairs 44 = .ok (.aload_n 3, 1) := by decide +kernel
theorem dX1_addPairs_45 : decode cX1_addPairs 45 = .ok (.getfield 88, 3) := by decide +kernel
theorem dX1_addPairs_48 : decode cX1_addPairs 48 = .ok (.aload 4, 2) := by decide +kernel
theorem dX1_addPairs_50 : decode cX1_addPairs 50 = .ok (.getfield 88, 3) := by decide +kernel
theorem dX1_addPairs_53 : decode cX1_addPairs 53 = .ok (.iadd, 1) := by decide +kernel
theorem dX1_addPairs_54 : decode cX1_addPairs 54 = .ok (.invokevirtual 91, 3) := by decide +kernel
theorem dX1_addPairs_57 : decode cX1_addPairs 57 = .ok (.aload_n 0, 1) := by decide +kernel
theorem dX1_addPairs_58 : decode cX1_addPairs 58 = .ok (.getfield 18, 3) := by decide +kernel
theorem dX1_addPairs_61 : decode cX1_addPairs 61 = .ok (.iload_n 2, 1) := by decide +kernel
theorem dX1_addPairs_62 : decode cX1_addPairs 62 = .ok (.aload_n 3, 1) := by decide +kernel
theorem dX1_addPairs_63 : decode cX1_addPairs 63 = .ok (.invokevirtual 74, 3) := by decide +kernel
theorem dX1_addPairs_66 : decode cX1_addPairs 66 = .ok (.iinc 2 1, 3) := by decide +kernel
theorem dX1_addPairs_69 : decode cX1_addPairs 69 = .ok (.goto (-67), 3) := by decide +kernel
theorem dX1_addPairs_72 : decode cX1_addPairs 72 = .ok (.return_, 1) := by decide +kernel
theorem dX1_expand_0 : decode cX1_expand 0 = .ok (.aload_n 0, 1) := by decide +kernel
theorem dX1_expand_1 : decode cX1_expand 1 = .ok (.iload_n 1, 1) := by decide +kernel
theorem dX1_expand_2 : decode cX1_expand 2 = .ok (.iload_n 2, 1) := by decide +kernel
theorem dX1_expand_3 : decode cX1_expand 3 = .ok (.iload 4, 2) := by decide +kernel
theorem dX1_expand_5 : decode cX1_expand 5 = .ok (.invokevirtual 94, 3) := by decide +kernel
theorem dX1_expand_8 : decode cX1_expand 8 = .ok (.aload_n 0, 1) := by decide +kernel
theorem dX1_expand_9 : decode cX1_expand 9 = .ok (.getfield 18, 3) := by decide +kernel
theorem dX1_expand_12 : decode cX1_expand 12 = .ok (.iload_n 1, 1) := by decide +kernel
theorem dX1_expand_13 : decode cX1_expand 13 = .ok (.iload_n 2, 1) := by decide +kernel
theorem dX1_expand_14 : decode cX1_expand 14 = .ok (.invokevirtual 97, 3) := by decide +kernel
theorem dX1_expand_17 : decode cX1_expand 17 = .ok (.aload_n 0, 1) := by decide +kernel
theorem dX1_expand_18 : decode cX1_expand 18 = .ok (.getfield 18, 3) := by decide +kernel
theorem dX1_expand_21 : decode cX1_expand 21 = .ok (.iload_n 1, 1) := by decide +kernel
theorem dX1_expand_22 : decode cX1_expand 22 = .ok (.iload_n 2, 1) := by decide +kernel
theorem dX1_expand_23 : decode cX1_expand 23 = .ok (.iload_n 3, 1) := by decide +kernel
theorem dX1_expand_24 : decode cX1_expand 24 = .ok (.invokestatic 100, 3) := by decide +kernel
theorem dX1_expand_27 : decode cX1_expand 27 = .ok (.invokevirtual 106, 3) := by decide +kernel
theorem dX1_expand_30 : decode cX1_expand 30 = .ok (.aload_n 0, 1) := by decide +kernel
theorem dX1_expand_31 : decode cX1_expand 31 = .ok (.iload_n 1, 1) := by decide +kernel
theorem dX1_expand_32 : decode cX1_expand 32 = .ok (.iload_n 3, 1) := by decide +kernel
theorem dX1_expand_33 : decode cX1_expand 33 = .ok (.invokevirtual 109, 3) := by decide +kernel
theorem dX1_expand_36 : decode cX1_expand 36 = .ok (.return_, 1) := by decide +kernel
theorem dX1_markStarts_0 : decode cX1_markStarts 0 = .ok (.iconst 0, 1) := by decide +kernel
theorem dX1_markStarts_1 : decode cX1_markStarts 1 = .ok (.istore 4, 2) := by decide +kernel
theorem dX1_markStarts_3 : decode cX1_markStarts 3 = .ok (.iconst 0, 1) := by decide +kernel
theorem dX1_markStarts_4 : decode cX1_markStarts 4 = .ok (.istore 5, 2) := by decide +kernel
theorem dX1_markStarts_6 : decode cX1_markStarts 6 = .ok (.iconst 0, 1) := by decide +kernel
theorem dX1_markStarts_7 : decode cX1_markStarts 7 = .ok (.istore 6, 2) := by decide +kernel
theorem dX1_markStarts_9 : decode cX1_markStarts 9 = .ok (.iload 6, 2) := by decide +kernel
theorem dX1_markStarts_11 : decode cX1_markStarts 11 = .ok (.iload_n 2, 1) := by decide +kernel
theorem dX1_markStarts_12 : decode cX1_markStarts 12 = .ok (.if_icmp .ge 97, 3) := by decide +kernel
theorem dX1_markStarts_15 : decode cX1_markStarts 15 = .ok (.aload_n 0, 1) := by decide +kernel
theorem dX1_markStarts_16 : decode cX1_markStarts 16 = .ok (.getfield 18, 3) := by decide +kernel
theorem dX1_markStarts_19 : decode cX1_markStarts 19 = .ok (.iload_n 1, 1) := by decide +kernel
theorem dX1_markStarts_20 : decode cX1_markStarts 20 = .ok (.iload 6, 2) := by decide +kernel
theorem dX1_markStarts_22 : decode cX1_markStarts 22 = .ok (.iadd, 1) := by decide +kernel
theorem dX1_markStarts_23 : decode cX1_markStarts 23 = .ok (.invokevirtual 57, 3) := by decide +kernel
theorem dX1_markStarts_26 : decode cX1_markStarts 26 = .ok (.astore 7, 2) := by decide +kernel
theorem dX1_markStarts_28 : decode cX1_markStarts 28 = .ok (.aload 7, 2) := by decide +kernel
theorem dX1_markStarts_30 : decode cX1_markStarts 30 = .ok (.getfield 65, 3) := by decide +kernel
theorem dX1_markStarts_33 : decode cX1_markStarts 33 = .ok (.iload_n 3, 1) := by decide +kernel
theorem dX1_markStarts_34 : decode cX1_markStarts 34 = .ok (.if_icmp .ne 11, 3) := by decide +kernel
theorem dX1_markStarts_37 : decode cX1_markStarts 37 = .ok (.aload 7, 2) := by decide +kernel
theorem dX1_markStarts_39 : decode cX1_markStarts 39 = .ok (.invokevirtual 112, 3) := by decide +kernel
theorem dX1_markStarts_42 : decode cX1_markStarts 42 = .ok (.goto 4, 3) := by decide +kernel
theorem dX1_markStarts_45 : decode cX1_markStarts 45 = .ok (.iconst 0, 1) := by decide +kernel
theorem dX1_markStarts_46 : decode cX1_markStarts 46 = .ok (.istore 8, 2) := by decide +kernel
theorem dX1_markStarts_48 : decode cX1_markStarts 48 = .ok (.iload 8, 2) := by decide +kernel
theorem dX1_markStarts_50 : decode cX1_markStarts 50 = .ok (.ifCond .le 35, 3) := by decide +kernel
theorem dX1_markStarts_53 : decode cX1_markStarts 53 = .ok (.aload 7, 2) := by decide +kernel
theorem dX1_markStarts_55 : decode cX1_markStarts 55 = .ok (.iload 6, 2) := by decide +kernel
theorem dX1_markStarts_57 : decode cX1_markStarts 57 = .ok (.iload 4, 2) := by decide +kernel
theorem dX1_markStarts_59 : decode cX1_markStarts 59 = .ok (.invokevirtual 116, 3) := by decide +kernel
theorem dX1_markStarts_62 : decode cX1_markStarts 62 = .ok (.aload 7, 2) := by decide +kernel
theorem dX1_markStarts_64 : decode cX1_markStarts 64 = .ok (.iload 5, 2) := by decide +kernel
theorem dX1_markStarts_66 : decode cX1_markStarts 66 = .ok (.iload 4, 2) := by decide +kernel
theorem dX1_markStarts_68 : decode cX1_markStarts 68 = .ok (.isub, 1) := by decide +kernel
theorem dX1_markStarts_69 : decode cX1_markStarts 69 = .ok (.putfield 119, 3) := by decide +kernel
theorem dX1_markStarts_72 : decode cX1_markStarts 72 = .ok (.iinc 4 1, 3) := by decide +kernel
theorem dX1_markStarts_75 : decode cX1_markStarts 75 = .ok (.iload 5, 2) := by decide +kernel
theorem dX1_markStarts_77 : decode cX1_markStarts 77 = .ok (.iload 8, 2) := by decide +kernel
theorem dX1_markStarts_79 : decode cX1_markStarts 79 = .ok (.iadd, 1) := by decide +kernel
theorem dX1_markStarts_80 : decode cX1_markStarts 80 = .ok (.istore 5, 2) := by decide +kernel
theorem dX1_markStarts_82 : decode cX1_markStarts 82 = .ok (.goto 8, 3) := by decide +kernel
theorem dX1_markStarts_85 : decode cX1_markStarts 85 = .ok (.aload 7, 2) := by decide +kernel
theorem dX1_markStarts_87 : decode cX1_markStarts 87 = .ok (.invokevirtual 122, 3) := by decide +kernel
theorem dX1_markStarts_90 : decode cX1_markStarts 90 = .ok (.aload_n 0, 1) := by decide +kernel
theorem dX1_markStarts_91 : decode cX1_markStarts 91 = .ok (.getfield 18, 3) := by decide +kernel
theorem dX1_markStarts_94 : decode cX1_markStarts 94 = .ok (.iload_n 1, 1) := by decide +kernel
theorem dX1_markStarts_95 : decode cX1_markStarts 95 = .ok (.iload 6, 2) := by decide +kernel
theorem dX1_markStarts_97 : decode cX1_markStarts 97 = .ok (.iadd, 1) := by decide +kernel
theorem dX1_markStarts_98 : decode cX1_markStarts 98 = .ok (.aload 7, 2) := by decide +kernel
theorem dX1_markStarts_100 : decode cX1_markStarts 100 = .ok (.invokevirtual 74, 3) := by decide +kernel
theorem dX1_markStarts_103 : decode cX1_markStarts 103 = .ok (.iinc 6 1, 3) := by decide +kernel
theorem dX1_markStarts_106 : decode cX1_markStarts 106 = .ok (.goto (-97), 3) := by decide +kernel
theorem dX1_markStarts_109 : decode cX1_markStarts 109 = .ok (.return_, 1) := by decide +kernel
theorem dX1_fillCopies_0 : decode cX1_fillCopies 0 = .ok (.iconst 0, 1) := by decide +kernel
theorem dX1_fillCopies_1 : decode cX1_fillCopies 1 = .ok (.istore_n 3, 1) := by decide +kernel
theorem dX1_fillCopies_2 : decode cX1_fillCopies 2 = .ok (.iconst 0, 1) := by decide +kernel
theorem dX1_fillCopies_3 : decode cX1_fillCopies 3 = .ok (.istore 4, 2) := by decide +kernel
theorem dX1_fillCopies_5 : decode cX1_fillCopies 5 = .ok (.iload 4, 2) := by decide +kernel
theorem dX1_fillCopies_7 : decode cX1_fillCopies 7 = .ok (.iload_n 2, 1) := by decide +kernel
theorem dX1_fillCopies_8 : decode cX1_fillCopies 8 = .ok (.if_icmp .ge 81, 3) := by decide +kernel
theorem dX1_fillCopies_11 : decode cX1_fillCopies 11 = .ok (.aload_n 0, 1) := by decide +kernel
theorem dX1_fillCopies_12 : decode cX1_fillCopies 12 = .ok (.getfield 18, 3) := by decide +kernel
theorem dX1_fillCopies_15 : decode cX1_fillCopies 15 = .ok (.iload_n 1, 1) := by decide +kernel
theorem dX1_fillCopies_16 : decode cX1_fillCopies 16 = .ok (.iload 4, 2) := by decide +kernel
theorem dX1_fillCopies_18 : decode cX1_fillCopies 18 = .ok (.iadd, 1) := by decide +kernel
theorem dX1_fillCopies_19 : decode cX1_fillCopies 19 = .ok (.invokevirtual 57, 3) := by decide +kernel
theorem dX1_fillCopies_22 : decode cX1_fillCopies 22 = .ok (.astore 5, 2) := by decide +kernel
theorem dX1_fillCopies_24 : decode cX1_fillCopies 24 = .ok (.aload 5, 2) := by decide +kernel
theorem dX1_fillCopies_26 : decode cX1_fillCopies 26 = .ok (.getfield 125, 3) := by decide +kernel
theorem dX1_fillCopies_29 : decode cX1_fillCopies 29 = .ok (.ifCond .eq 17, 3) := by decide +kernel
theorem dX1_fillCopies_32 : decode cX1_fillCopies 32 = .ok (.aload_n 0, 1) := by decide +kernel
theorem dX1_fillCopies_33 : decode cX1_fillCopies 33 = .ok (.getfield 12, 3) := by decide +kernel
theorem dX1_fillCopies_36 : decode cX1_fillCopies 36 = .ok (.aload 5, 2) := by decide +kernel
theorem dX1_fillCopies_38 : decode cX1_fillCopies 38 = .ok (.invokevirtual 129, 3) := by decide +kernel
theorem dX1_fillCopies_41 : decode cX1_fillCopies 41 = .ok (.iconst 0, 1) := by decide +kernel
theorem dX1_fillCopies_42 : decode cX1_fillCopies 42 = .ok (.istore_n 3, 1) := by decide +kernel
theorem dX1_fillCopies_43 : decode cX1_fillCopies 43 = .ok (.goto 15, 3) := by decide +kernel
theorem dX1_fillCopies_46 : decode cX1_fillCopies 46 = .ok (.aload 5, 2) := by decide +kernel
theorem dX1_fillCopies_48 : decode cX1_fillCopies 48 = .ok (.aload_n 0, 1) := by decide +kernel
theorem dX1_fillCopies_49 : decode cX1_fillCopies 49 = .ok (.getfield 12, 3) := by decide +kernel
theorem dX1_fillCopies_52 : decode cX1_fillCopies 52 = .ok (.invokevirtual 129, 3) := by decide +kernel
theorem dX1_fillCopies_55 : decode cX1_fillCopies 55 = .ok (.iinc 3 1, 3) := by decide +kernel
theorem dX1_fillCopies_58 : decode cX1_fillCopies 58 = .ok (.aload 5, 2) := by decide +kernel
theorem dX1_fillCopies_60 : decode cX1_fillCopies 60 = .ok (.aload 5, 2) := by decide +kernel
theorem dX1_fillCopies_62 : decode cX1_fillCopies 62 = .ok (.getfield 61, 3) := by decide +kernel
theorem dX1_fillCopies_65 : decode cX1_fillCopies 65 = .ok (.iload_n 3, 1) := by decide +kernel
theorem dX1_fillCopies_66 : decode cX1_fillCopies 66 = .ok (.iconst 0, 1) := by decide +kernel
theorem dX1_fillCopies_67 : decode cX1_fillCopies 67 = .ok (.invokevirtual 78, 3) := by decide +kernel
theorem dX1_fillCopies_70 : decode cX1_fillCopies 70 = .ok (.aload_n 0, 1) := by decide +kernel
theorem dX1_fillCopies_71 : decode cX1_fillCopies 71 = .ok (.getfield 18, 3) := by decide +kernel
theorem dX1_fillCopies_74 : decode cX1_fillCopies 74 = .ok (.iload_n 1, 1) := by decide +kernel
theorem dX1_fillCopies_75 : decode cX1_fillCopies 75 = .ok (.iload 4, 2) := by decide +kernel
theorem dX1_fillCopies_77 : decode cX1_fillCopies 77 = .ok (.iadd, 1) := by decide +kernel
theorem dX1_fillCopies_78 : decode cX1_fillCopies 78 = .ok (.aload 5, 2) := by decide +kernel
theorem dX1_fillCopies_80 : decode cX1_fillCopies 80 = .ok (.invokevirtual 74, 3) := by decide +kernel
theorem dX1_fillCopies_83 : decode cX1_fillCopies 83 = .ok (.iinc 4 1, 3) := by decide +kernel
theorem dX1_fillCopies_86 : decode cX1_fillCopies 86 = .ok (.goto (-81), 3) := by decide +kernel
theorem dX1_fillCopies_89 : decode cX1_fillCopies 89 = .ok (.return_, 1) := by decide +kernel
theorem dX2_init_0 : decode cX2_init 0 = .ok (.aload_n 0, 1) := by decide +kernel
theorem dX2_init_1 : decode cX2_init 1 = .ok (.invokespecial 3, 3) := by decide +kernel
theorem dX2_init_4 : decode cX2_init 4 = .ok (.aload_n 0, 1) := by decide +kernel
theorem dX2_init_5 : decode cX2_init 5 = .ok (.aload_n 1, 1) := by decide +kernel
theorem dX2_init_6 : decode cX2_init 6 = .ok (.putfield 9, 3) := by decide +kernel
theorem dX2_init_9 : decode cX2_init 9 = .ok (.return_, 1) := by decide +kernel
theorem dX2_order_0 : decode cX2_order 0 = .ok (.aload_n 0, 1) := by decide +kernel
theorem dX2_order_1 : decode cX2_order 1 = .ok (.getfield 9, 3) := by decide +kernel
theorem dX2_order_4 : decode cX2_order 4 = .ok (.aload_n 1, 1) := by decide +kernel
theorem dX2_order_5 : decode cX2_order 5 = .ok (.invokevirtual 15, 3) := by decide +kernel
theorem dX2_order_8 : decode cX2_order 8 = .ok (.istore_n 2, 1) := by decide +kernel
theorem dX2_order_9 : decode cX2_order 9 = .ok (.aload_n 0, 1) := by decide +kernel
theorem dX2_order_10 : decode cX2_order 10 = .ok (.getfield 9, 3) := by decide +kernel
theorem dX2_order_13 : decode cX2_order 13 = .ok (.iconst 0, 1) := by decide +kernel
theorem dX2_order_14 : decode cX2_order 14 = .ok (.iload_n 2, 1) := by decide +kernel
theorem dX2_order_15 : decode cX2_order 15 = .ok (.invokevirtual 21, 3) := by decide +kernel
theorem dX2_order_18 : decode cX2_order 18 = .ok (.aload_n 0, 1) := by decide +kernel
theorem dX2_order_19 : decode cX2_order 19 = .ok (.getfield 9, 3) := by decide +kernel
theorem dX2_order_22 : decode cX2_order 22 = .ok (.aload_n 1, 1) := by decide +kernel
theorem dX2_order_23 : decode cX2_order 23 = .ok (.iload_n 2, 1) := by decide +kernel
theorem dX2_order_24 : decode cX2_order 24 = .ok (.invokevirtual 25, 3) := by decide +kernel
theorem dX2_order_27 : decode cX2_order 27 = .ok (.return_, 1) := by decide +kernel
theorem dX2_keepMatching_0 : decode cX2_keepMatching 0 = .ok (.aload_n 0, 1) := by decide +kernel
theorem dX2_keepMatching_1 : decode cX2_keepMatching 1 = .ok (.getfield 9, 3) := by decide +kernel
theorem dX2_keepMatching_4 : decode cX2_keepMatching 4 = .ok (.aload_n 1, 1) := by decide +kernel
theorem dX2_keepMatching_5 : decode cX2_keepMatching 5 = .ok (.invokevirtual 15, 3) := by decide +kernel
theorem dX2_keepMatching_8 : decode cX2_keepMatching 8 = .ok (.istore 5, 2) := by decide +kernel
theorem dX2_keepMatching_10 : decode cX2_keepMatching 10 = .ok (.iconst 0, 1) := by decide +kernel
theorem dX2_keepMatching_11 : decode cX2_keepMatching 11 = .ok (.istore 6, 2) := by decide +kernel
theorem dX2_keepMatching_13 : decode cX2_keepMatching 13 = .ok (.iconst 0, 1) := by decide +kernel
theorem dX2_keepMatching_14 : decode cX2_keepMatching 14 = .ok (.istore 7, 2) := by decide +kernel
theorem dX2_keepMatching_16 : decode cX2_keepMatching 16 = .ok (.iload 7, 2) := by decide +kernel
theorem dX2_keepMatching_18 : decode cX2_keepMatching 18 = .ok (.iload 5, 2) := by decide +kernel
theorem dX2_keepMatching_20 : decode cX2_keepMatching 20 = .ok (.if_icmp .ge 66, 3) := by decide +kernel
theorem dX2_keepMatching_23 : decode cX2_keepMatching 23 = .ok (.aload_n 0, 1) := by decide +kernel
theorem dX2_keepMatching_24 : decode cX2_keepMatching 24 = .ok (.getfield 9, 3) := by decide +kernel
theorem dX2_keepMatching_27 : decode cX2_keepMatching 27 = .ok (.iload 7, 2) := by decide +kernel
theorem dX2_keepMatching_29 : decode cX2_keepMatching 29 = .ok (.invokevirtual 29, 3) := by decide +kernel
theorem dX2_keepMatching_32 : decode cX2_keepMatching 32 = .ok (.astore 8, 2) := by decide +kernel
theorem dX2_keepMatching_34 : decode cX2_keepMatching 34 = .ok (.aload 8, 2) := by decide +kernel
theorem dX2_keepMatching_36 : decode cX2_keepMatching 36 = .ok (.iload_n 2, 1) := by decide +kernel
theorem dX2_keepMatching_37 : decode cX2_keepMatching 37 = .ok (.invokevirtual 33, 3) := by decide +kernel
theorem dX2_keepMatching_40 : decode cX2_keepMatching 40 = .ok (.iload_n 3, 1) := by decide +kernel
theorem dX2_keepMatching_41 : decode cX2_keepMatching 41 = .ok (.iload 4, 2) := by decide +kernel
theorem dX2_keepMatching_43 : decode cX2_keepMatching 43 = .ok (.invokestatic 39, 3) := by decide +kernel
theorem dX2_keepMatching_46 : decode cX2_keepMatching 46 = .ok (.ifCond .eq 18, 3) := by decide +kernel
theorem dX2_keepMatching_49 : decode cX2_keepMatching 49 = .ok (.aload 8, 2) := by decide +kernel
theorem dX2_keepMatching_51 : decode cX2_keepMatching 51 = .ok (.iload 7, 2) := by decide +kernel
theorem dX2_keepMatching_53 : decode cX2_keepMatching 53 = .ok (.iload 6, 2) := by decide +kernel
theorem dX2_keepMatching_55 : decode cX2_keepMatching 55 = .ok (.invokevirtual 43, 3) := by decide +kernel
theorem dX2_keepMatching_58 : decode cX2_keepMatching 58 = .ok (.iinc 6 1, 3) := by decide +kernel
theorem dX2_keepMatching_61 : decode cX2_keepMatching 61 = .ok (.goto 8, 3) := by decide +kernel
theorem dX2_keepMatching_64 : decode cX2_keepMatching 64 = .ok (.aload 8, 2) := by decide +kernel
theorem dX2_keepMatching_66 : decode cX2_keepMatching 66 = .ok (.invokevirtual 46, 3) := by decide +kernel
theorem dX2_keepMatching_69 : decode cX2_keepMatching 69 = .ok (.aload_n 0, 1) := by decide +kernel
theorem dX2_keepMatching_70 : decode cX2_keepMatching 70 = .ok (.getfield 9, 3) := by decide +kernel
theorem dX2_keepMatching_73 : decode cX2_keepMatching 73 = .ok (.iload 7, 2) := by decide +kernel
theorem dX2_keepMatching_75 : decode cX2_keepMatching 75 = .ok (.aload 8, 2) := by decide +kernel
theorem dX2_keepMatching_77 : decode cX2_keepMatching 77 = .ok (.invokevirtual 49, 3) := by decide +kernel
theorem dX2_keepMatching_80 : decode cX2_keepMatching 80 = .ok (.iinc 7 1, 3) := by decide +kernel
theorem dX2_keepMatching_83 : decode cX2_keepMatching 83 = .ok (.goto (-67), 3) := by decide +kernel
theorem dX2_keepMatching_86 : decode cX2_keepMatching 86 = .ok (.aload_n 0, 1) := by decide +kernel
theorem dX2_keepMatching_87 : decode cX2_keepMatching 87 = .ok (.getfield 9, 3) := by decide +kernel
theorem dX2_keepMatching_90 : decode cX2_keepMatching 90 = .ok (.iconst 0, 1) := by decide +kernel
theorem dX2_keepMatching_91 : decode cX2_keepMatching 91 = .ok (.iload 5, 2) := by decide +kernel
theorem dX2_keepMatching_93 : decode cX2_keepMatching 93 = .ok (.invokevirtual 53, 3) := by decide +kernel
theorem dX2_keepMatching_96 : decode cX2_keepMatching 96 = .ok (.aload_n 0, 1) := by decide +kernel
theorem dX2_keepMatching_97 : decode cX2_keepMatching 97 = .ok (.getfield 9, 3) := by decide +kernel
theorem dX2_keepMatching_100 : decode cX2_keepMatching 100 = .ok (.aload_n 1, 1) := by decide +kernel
theorem dX2_keepMatching_101 : decode cX2_keepMatching 101 = .ok (.iload 6, 2) := by decide +kernel
theorem dX2_keepMatching_103 : decode cX2_keepMatching 103 = .ok (.invokevirtual 25, 3) := by decide +kernel
theorem dX2_keepMatching_106 : decode cX2_keepMatching 106 = .ok (.return_, 1) := by decide +kernel
theorem dX2_matches_0 : decode cX2_matches 0 = .ok (.iload_n 1, 1) := by decide +kernel
theorem dX2_matches_1 : decode cX2_matches 1 = .ok (.ifCond .ne 16, 3) := by decide +kernel
theorem dX2_matches_4 : decode cX2_matches 4 = .ok (.iload_n 0, 1) := by decide +kernel
theorem dX2_matches_5 : decode cX2_matches 5 = .ok (.iload_n 2, 1) := by decide +kernel
theorem dX2_matches_6 : decode cX2_matches 6 = .ok (.if_icmp .ge 7, 3) := by decide +kernel
theorem dX2_matches_9 : decode cX2_matches 9 = .ok (.iconst 1, 1) := by decide +kernel
theorem dX2_matches_10 : decode cX2_matches 10 = .ok (.goto 35, 3) := by decide +kernel
theorem dX2_matches_13 : decode cX2_matches 13 = .ok (.iconst 0, 1) := by decide +kernel
theorem dX2_matches_14 : decode cX2_matches 14 = .ok (.goto 31, 3) := by decide +kernel
theorem dX2_matches_17 : decode cX2_matches 17 = .ok (.iload_n 1, 1) := by decide +kernel
theorem dX2_matches_18 : decode cX2_matches 18 = .ok (.iconst 1, 1) := by decide +kernel
theorem dX2_matches_19 : decode cX2_matches 19 = .ok (.if_icmp .ne 16, 3) := by decide +kernel
theorem dX2_matches_22 : decode cX2_matches 22 = .ok (.iload_n 0, 1) := by decide +kernel
theorem dX2_matches_23 : decode cX2_matches 23 = .ok (.iload_n 2, 1) := by decide +kernel
theorem dX2_matches_24 : decode cX2_matches 24 = .ok (.if_icmp .ne 7, 3) := by decide +kernel
theorem dX2_matches_27 : decode cX2_matches 27 = .ok (.iconst 1, 1) := by decide +kernel
theorem dX2_matches_28 : decode cX2_matches 28 = .ok (.goto 17, 3) := by decide +kernel
theorem dX2_matches_31 : decode cX2_matches 31 = .ok (.iconst 0, 1) := by decide +kernel
theorem dX2_matches_32 : decode cX2_matches 32 = .ok (.goto 13, 3) := by decide +kernel
theorem dX2_matches_35 : decode cX2_matches 35 = .ok (.iload_n 0, 1) := by decide +kernel
theorem dX2_matches_36 : decode cX2_matches 36 = .ok (.iload_n 2, 1) := by decide +kernel
theorem dX2_matches_37 : decode cX2_matches 37 = .ok (.if_icmp .le 7, 3) := by decide +kernel
theorem dX2_matches_40 : decode cX2_matches 40 = .ok (.iconst 1, 1) := by decide +kernel
theorem dX2_matches_41 : decode cX2_matches 41 = .ok (.goto 4, 3) := by decide +kernel
theorem dX2_matches_44 : decode cX2_matches 44 = .ok (.iconst 0, 1) := by decide +kernel
theorem dX2_matches_45 : decode cX2_matches 45 = .ok (.ireturn, 1) := by decide +kernel
theorem dX2_rearrange_0 : decode cX2_rearrange 0 = .ok (.aload_n 0, 1) := by decide +kernel
theorem dX2_rearrange_1 : decode cX2_rearrange 1 = .ok (.getfield 9, 3) := by decide +kernel
theorem dX2_rearrange_4 : decode cX2_rearrange 4 = .ok (.aload_n 1, 1) := by decide +kernel
theorem dX2_rearrange_5 : decode cX2_rearrange 5 = .ok (.invokevirtual 15, 3) := by decide +kernel
theorem dX2_rearrange_8 : decode cX2_rearrange 8 = .ok (.istore 5, 2) := by decide +kernel
theorem dX2_rearrange_10 : decode cX2_rearrange 10 = .ok (.iconst 0, 1) := by decide +kernel
theorem dX2_rearrange_11 : decode cX2_rearrange 11 = .ok (.istore 6, 2) := by decide +kernel
theorem dX2_rearrange_13 : decode cX2_rearrange 13 = .ok (.iload 6, 2) := by decide +kernel
theorem dX2_rearrange_15 : decode cX2_rearrange 15 = .ok (.iload 5, 2) := by decide +kernel
theorem dX2_rearrange_17 : decode cX2_rearrange 17 = .ok (.if_icmp .ge 55, 3) := by decide +kernel
theorem dX2_rearrange_20 : decode cX2_rearrange 20 = .ok (.aload_n 0, 1) := by decide +kernel
theorem dX2_rearrange_21 : decode cX2_rearrange 21 = .ok (.getfield 9, 3) := by decide +kernel
theorem dX2_rearrange_24 : decode cX2_rearrange 24 = .ok (.iload 6, 2) := by decide +kernel
theorem dX2_rearrange_26 : decode cX2_rearrange 26 = .ok (.invokevirtual 29, 3) := by decide +kernel
theorem dX2_rearrange_29 : decode cX2_rearrange 29 = .ok (.astore 7, 2) := by decide +kernel
theorem dX2_rearrange_31 : decode cX2_rearrange 31 = .ok (.aload 7, 2) := by decide +kernel
theorem dX2_rearrange_33 : decode cX2_rearrange 33 = .ok (.aload 7, 2) := by decide +kernel
theorem dX2_rearrange_35 : decode cX2_rearrange 35 = .ok (.iload_n 2, 1) := by decide +kernel
theorem dX2_rearrange_36 : decode cX2_rearrange 36 = .ok (.invokevirtual 33, 3) := by decide +kernel
theorem dX2_rearrange_39 : decode cX2_rearrange 39 = .ok (.aload 7, 2) := by decide +kernel
theorem dX2_rearrange_41 : decode cX2_rearrange 41 = .ok (.iload_n 3, 1) := by decide +kernel
theorem dX2_rearrange_42 : decode cX2_rearrange 42 = .ok (.invokevirtual 33, 3) := by decide +kernel
theorem dX2_rearrange_45 : decode cX2_rearrange 45 = .ok (.aload 7, 2) := by decide +kernel
theorem dX2_rearrange_47 : decode cX2_rearrange 47 = .ok (.iload 4, 2) := by decide +kernel
theorem dX2_rearrange_49 : decode cX2_rearrange 49 = .ok (.invokevirtual 33, 3) := by decide +kernel
theorem dX2_rearrange_52 : decode cX2_rearrange 52 = .ok (.invokevirtual 56, 3) := by decide +kernel
theorem dX2_rearrange_55 : decode cX2_rearrange 55 = .ok (.aload_n 0, 1) := by decide +kernel
theorem dX2_rearrange_56 : decode cX2_rearrange 56 = .ok (.getfield 9, 3) := by decide +kernel
theorem dX2_rearrange_59 : decode cX2_rearrange 59 = .ok (.iload 6, 2) := by decide +kernel
theorem dX2_rearrange_61 : decode cX2_rearrange 61 = .ok (.aload 7, 2) := by decide +kernel
theorem dX2_rearrange_63 : decode cX2_rearrange 63 = .ok (.invokevirtual 49, 3) := by decide +kernel
theorem dX2_rearrange_66 : decode cX2_rearrange 66 = .ok (.iinc 6 1, 3) := by decide +kernel
theorem dX2_rearrange_69 : decode cX2_rearrange 69 = .ok (.goto (-56), 3) := by decide +kernel
theorem dX2_rearrange_72 : decode cX2_rearrange 72 = .ok (.aload_n 0, 1) := by decide +kernel
theorem dX2_rearrange_73 : decode cX2_rearrange 73 = .ok (.getfield 9, 3) := by decide +kernel
theorem dX2_rearrange_76 : decode cX2_rearrange 76 = .ok (.aload_n 1, 1) := by decide +kernel
theorem dX2_rearrange_77 : decode cX2_rearrange 77 = .ok (.iload 5, 2) := by decide +kernel
theorem dX2_rearrange_79 : decode cX2_rearrange 79 = .ok (.invokevirtual 25, 3) := by decide +kernel
theorem dX2_rearrange_82 : decode cX2_rearrange 82 = .ok (.return_, 1) := by decide +kernel
theorem dX2_keepDifferent_0 : decode cX2_keepDifferent 0 = .ok (.aload_n 0, 1) := by decide +kernel
theorem dX2_keepDifferent_1 : decode cX2_keepDifferent 1 = .ok (.getfield 9, 3) := by decide +kernel
theorem dX2_keepDifferent_4 : decode cX2_keepDifferent 4 = .ok (.aload_n 1, 1) := by decide +kernel
theorem dX2_keepDifferent_5 : decode cX2_keepDifferent 5 = .ok (.invokevirtual 15, 3) := by decide +kernel
theorem dX2_keepDifferent_8 : decode cX2_keepDifferent 8 = .ok (.istore_n 2, 1) := by decide +kernel
theorem dX2_keepDifferent_9 : decode cX2_keepDifferent 9 = .ok (.aload_n 0, 1) := by decide +kernel
theorem dX2_keepDifferent_10 : decode cX2_keepDifferent 10 = .ok (.getfield 9, 3) := by decide +kernel
theorem dX2_keepDifferent_13 : decode cX2_keepDifferent 13 = .ok (.iconst 0, 1) := by decide +kernel
theorem dX2_keepDifferent_14 : decode cX2_keepDifferent 14 = .ok (.iload_n 2, 1) := by decide +kernel
theorem dX2_keepDifferent_15 : decode cX2_keepDifferent 15 = .ok (.invokevirtual 21, 3) := by decide +kernel
theorem dX2_keepDifferent_18 : decode cX2_keepDifferent 18 = .ok (.aload_n 0, 1) := by decide +kernel
theorem dX2_keepDifferent_19 : decode cX2_keepDifferent 19 = .ok (.iload_n 2, 1) := by decide +kernel
theorem dX2_keepDifferent_20 : decode cX2_keepDifferent 20 = .ok (.invokevirtual 60, 3) := by decide +kernel
theorem dX2_keepDifferent_23 : decode cX2_keepDifferent 23 = .ok (.istore_n 3, 1) := by decide +kernel
theorem dX2_keepDifferent_24 : decode cX2_keepDifferent 24 = .ok (.aload_n 0, 1) := by decide +kernel
theorem dX2_keepDifferent_25 : decode cX2_keepDifferent 25 = .ok (.getfield 9, 3) := by decide +kernel
theorem dX2_keepDifferent_28 : decode cX2_keepDifferent 28 = .ok (.iconst 0, 1) := by decide +kernel
theorem dX2_keepDifferent_29 : decode cX2_keepDifferent 29 = .ok (.iload_n 2, 1) := by decide +kernel
theorem dX2_keepDifferent_30 : decode cX2_keepDifferent 30 = .ok (.invokevirtual 53, 3) := by decide +kernel
theorem dX2_keepDifferent_33 : decode cX2_keepDifferent 33 = .ok (.aload_n 0, 1) := by decide +kernel
theorem dX2_keepDifferent_34 : decode cX2_keepDifferent 34 = .ok (.getfield 9, 3) := by decide +kernel
theorem dX2_keepDifferent_37 : decode cX2_keepDifferent 37 = .ok (.aload_n 1, 1) := by decide +kernel
theorem dX2_keepDifferent_38 : decode cX2_keepDifferent 38 = .ok (.iload_n 3, 1) := by decide +kernel
theorem dX2_keepDifferent_39 : decode cX2_keepDifferent 39 = .ok (.invokevirtual 25, 3) := by decide +kernel
theorem dX2_keepDifferent_42 : decode cX2_keepDifferent 42 = .ok (.return_, 1) := by decide +kernel
theorem dX2_keepFirstOfEach_0 : decode cX2_keepFirstOfEach 0 = .ok (.iconst 0, 1) := by decide +kernel
theorem dX2_keepFirstOfEach_1 : decode cX2_keepFirstOfEach 1 = .ok (.istore_n 2, 1) := by decide +kernel
theorem dX2_keepFirstOfEach_2 : decode cX2_keepFirstOfEach 2 = .ok (.aconst_null, 1) := by decide +kernel
theorem dX2_keepFirstOfEach_3 : decode cX2_keepFirstOfEach 3 = .ok (.astore_n 3, 1) := by decide +kernel
theorem dX2_keepFirstOfEach_4 : decode cX2_keepFirstOfEach 4 = .ok (.iconst 0, 1) := by decide +kernel
theorem dX2_keepFirstOfEach_5 : decode cX2_keepFirstOfEach 5 = .ok (.istore 4, 2) := by decide +kernel
theorem dX2_keepFirstOfEach_7 : decode cX2_keepFirstOfEach 7 = .ok (.iload 4, 2) := by decide +kernel
theorem dX2_keepFirstOfEach_9 : decode cX2_keepFirstOfEach 9 = .ok (.iload_n 1, 1) := by decide +kernel
theorem dX2_keepFirstOfEach_10 : decode cX2_keepFirstOfEach 10 = .ok (.if_icmp .ge 66, 3) := by decide +kernel
theorem dX2_keepFirstOfEach_13 : decode cX2_keepFirstOfEach 13 = .ok (.aload_n 0, 1) := by decide +kernel
theorem dX2_keepFirstOfEach_14 : decode cX2_keepFirstOfEach 14 = .ok (.getfield 9, 3) := by decide +kernel
theorem dX2_keepFirstOfEach_17 : decode cX2_keepFirstOfEach 17 = .ok (.iload 4, 2) := by decide +kernel
theorem dX2_keepFirstOfEach_19 : decode cX2_keepFirstOfEach 19 = .ok (.invokevirtual 29, 3) := by decide +kernel
theorem dX2_keepFirstOfEach_22 : decode cX2_keepFirstOfEach 22 = .ok (.astore 5, 2) := by decide +kernel
theorem dX2_keepFirstOfEach_24 : decode cX2_keepFirstOfEach 24 = .ok (.aload_n 3, 1) := by decide +kernel
theorem dX2_keepFirstOfEach_25 : decode cX2_keepFirstOfEach 25 = .ok (.ifnull 20, 3) := by decide +kernel
theorem dX2_keepFirstOfEach_28 : decode cX2_keepFirstOfEach 28 = .ok (.aload 5, 2) := by decide +kernel
theorem dX2_keepFirstOfEach_30 : decode cX2_keepFirstOfEach 30 = .ok (.aload_n 3, 1) := by decide +kernel
theorem dX2_keepFirstOfEach_31 : decode cX2_keepFirstOfEach 31 = .ok (.invokevirtual 63, 3) := by decide +kernel
theorem dX2_keepFirstOfEach_34 : decode cX2_keepFirstOfEach 34 = .ok (.ifCond .eq 11, 3) := by decide +kernel
theorem dX2_keepFirstOfEach_37 : decode cX2_keepFirstOfEach 37 = .ok (.aload 5, 2) := by decide +kernel
theorem dX2_keepFirstOfEach_39 : decode cX2_keepFirstOfEach 39 = .ok (.invokevirtual 46, 3) := by decide +kernel
theorem dX2_keepFirstOfEach_42 : decode cX2_keepFirstOfEach 42 = .ok (.goto 14, 3) := by decide +kernel
theorem dX2_keepFirstOfEach_45 : decode cX2_keepFirstOfEach 45 = .ok (.aload 5, 2) := by decide +kernel
theorem dX2_keepFirstOfEach_47 : decode cX2_keepFirstOfEach 47 = .ok (.iload 4, 2) := by decide +kernel
theorem dX2_keepFirstOfEach_49 : decode cX2_keepFirstOfEach 49 = .ok (.iload_n 2, 1) := by decide +kernel
theorem dX2_keepFirstOfEach_50 : decode cX2_keepFirstOfEach 50 = .ok (.invokevirtual 43, 3) := by decide +kernel
theorem dX2_keepFirstOfEach_53 : decode cX2_keepFirstOfEach 53 = .ok (.iinc 2 1, 3) := by decide +kernel
theorem dX2_keepFirstOfEach_56 : decode cX2_keepFirstOfEach 56 = .ok (.aload 5, 2) := by decide +kernel
theorem dX2_keepFirstOfEach_58 : decode cX2_keepFirstOfEach 58 = .ok (.astore_n 3, 1) := by decide +kernel
theorem dX2_keepFirstOfEach_59 : decode cX2_keepFirstOfEach 59 = .ok (.aload_n 0, 1) := by decide +kernel
theorem dX2_keepFirstOfEach_60 : decode cX2_keepFirstOfEach 60 = .ok (.getfield 9, 3) := by decide +kernel
theorem dX2_keepFirstOfEach_63 : decode cX2_keepFirstOfEach 63 = .ok (.iload 4, 2) := by decide +kernel
theorem dX2_keepFirstOfEach_65 : decode cX2_keepFirstOfEach 65 = .ok (.aload 5, 2) := by decide +kernel
theorem dX2_keepFirstOfEach_67 : decode cX2_keepFirstOfEach 67 = .ok (.invokevirtual 49, 3) := by decide +kernel
theorem dX2_keepFirstOfEach_70 : decode cX2_keepFirstOfEach 70 = .ok (.iinc 4 1, 3) := by decide +kernel
theorem dX2_keepFirstOfEach_73 : decode cX2_keepFirstOfEach 73 = .ok (.goto (-66), 3) := by decide +kernel
theorem dX2_keepFirstOfEach_76 : decode cX2_keepFirstOfEach 76 = .ok (.iload_n 2, 1) := by decide +kernel
theorem dX2_keepFirstOfEach_77 : decode cX2_keepFirstOfEach 77 = .ok (.ireturn, 1) := by decide +kernel
theorem dX2_totalUp_0 : decode cX2_totalUp 0 = .ok (.aload_n 0, 1) := by decide +kernel
theorem dX2_totalUp_1 : decode cX2_totalUp 1 = .ok (.getfield 9, 3) := by decide +kernel
theorem dX2_totalUp_4 : decode cX2_totalUp 4 = .ok (.aload_n 1, 1) := by decide +kernel
theorem dX2_totalUp_5 : decode cX2_totalUp 5 = .ok (.iconst 0, 1) := by decide +kernel
theorem dX2_totalUp_6 : decode cX2_totalUp 6 = .ok (.iload_n 2, 1) := by decide +kernel
theorem dX2_totalUp_7 : decode cX2_totalUp 7 = .ok (.iconst 1, 1) := by decide +kernel
theorem dX2_totalUp_8 : decode cX2_totalUp 8 = .ok (.invokevirtual 67, 3) := by decide +kernel
theorem dX2_totalUp_11 : decode cX2_totalUp 11 = .ok (.istore 4, 2) := by decide +kernel
theorem dX2_totalUp_13 : decode cX2_totalUp 13 = .ok (.aload_n 0, 1) := by decide +kernel
theorem dX2_totalUp_14 : decode cX2_totalUp 14 = .ok (.getfield 9, 3) := by decide +kernel
theorem dX2_totalUp_17 : decode cX2_totalUp 17 = .ok (.iconst 0, 1) := by decide +kernel
theorem dX2_totalUp_18 : decode cX2_totalUp 18 = .ok (.iload 4, 2) := by decide +kernel
theorem dX2_totalUp_20 : decode cX2_totalUp 20 = .ok (.invokevirtual 21, 3) := by decide +kernel
theorem dX2_totalUp_23 : decode cX2_totalUp 23 = .ok (.aload_n 0, 1) := by decide +kernel
theorem dX2_totalUp_24 : decode cX2_totalUp 24 = .ok (.iload 4, 2) := by decide +kernel
theorem dX2_totalUp_26 : decode cX2_totalUp 26 = .ok (.iload_n 3, 1) := by decide +kernel
theorem dX2_totalUp_27 : decode cX2_totalUp 27 = .ok (.invokevirtual 71, 3) := by decide +kernel
theorem dX2_totalUp_30 : decode cX2_totalUp 30 = .ok (.istore 5, 2) := by decide +kernel
theorem dX2_totalUp_32 : decode cX2_totalUp 32 = .ok (.aload_n 0, 1) := by decide +kernel
theorem dX2_totalUp_33 : decode cX2_totalUp 33 = .ok (.iload 4, 2) := by decide +kernel
theorem dX2_totalUp_35 : decode cX2_totalUp 35 = .ok (.invokevirtual 75, 3) := by decide +kernel
theorem dX2_totalUp_38 : decode cX2_totalUp 38 = .ok (.aload_n 0, 1) := by decide +kernel
theorem dX2_totalUp_39 : decode cX2_totalUp 39 = .ok (.getfield 9, 3) := by decide +kernel
theorem dX2_totalUp_42 : decode cX2_totalUp 42 = .ok (.iconst 0, 1) := by decide +kernel
theorem dX2_totalUp_43 : decode cX2_totalUp 43 = .ok (.iload 4, 2) := by decide +kernel
theorem dX2_totalUp_45 : decode cX2_totalUp 45 = .ok (.invokevirtual 53, 3) := by decide +kernel
theorem dX2_totalUp_48 : decode cX2_totalUp 48 = .ok (.aload_n 0, 1) := by decide +kernel
theorem dX2_totalUp_49 : decode cX2_totalUp 49 = .ok (.getfield 9, 3) := by decide +kernel
theorem dX2_totalUp_52 : decode cX2_totalUp 52 = .ok (.aload_n 1, 1) := by decide +kernel
theorem dX2_totalUp_53 : decode cX2_totalUp 53 = .ok (.iload 5, 2) := by decide +kernel
theorem dX2_totalUp_55 : decode cX2_totalUp 55 = .ok (.invokevirtual 25, 3) := by decide +kernel
theorem dX2_totalUp_58 : decode cX2_totalUp 58 = .ok (.return_, 1) := by decide +kernel
theorem dX2_addUpForth_0 : decode cX2_addUpForth 0 = .ok (.iconst 0, 1) := by decide +kernel
theorem dX2_addUpForth_1 : decode cX2_addUpForth 1 = .ok (.istore_n 3, 1) := by decide +kernel
theorem dX2_addUpForth_2 : decode cX2_addUpForth 2 = .ok (.iconst 0, 1) := by decide +kernel
theorem dX2_addUpForth_3 : decode cX2_addUpForth 3 = .ok (.istore 4, 2) := by decide +kernel
theorem dX2_addUpForth_5 : decode cX2_addUpForth 5 = .ok (.iconst 0, 1) := by decide +kernel
theorem dX2_addUpForth_6 : decode cX2_addUpForth 6 = .ok (.istore 5, 2) := by decide +kernel
theorem dX2_addUpForth_8 : decode cX2_addUpForth 8 = .ok (.iconst 0, 1) := by decide +kernel
theorem dX2_addUpForth_9 : decode cX2_addUpForth 9 = .ok (.istore 6, 2) := by decide +kernel
theorem dX2_addUpForth_11 : decode cX2_addUpForth 11 = .ok (.iconst 0, 1) := by decide +kernel
theorem dX2_addUpForth_12 : decode cX2_addUpForth 12 = .ok (.istore 7, 2) := by decide +kernel
theorem dX2_addUpForth_14 : decode cX2_addUpForth 14 = .ok (.iload 7, 2) := by decide +kernel
theorem dX2_addUpForth_16 : decode cX2_addUpForth 16 = .ok (.iload_n 1, 1) := by decide +kernel
theorem dX2_addUpForth_17 : decode cX2_addUpForth 17 = .ok (.if_icmp .ge 97, 3) := by decide +kernel
theorem dX2_addUpForth_20 : decode cX2_addUpForth 20 = .ok (.aload_n 0, 1) := by decide +kernel
theorem dX2_addUpForth_21 : decode cX2_addUpForth 21 = .ok (.getfield 9, 3) := by decide +kernel
theorem dX2_addUpForth_24 : decode cX2_addUpForth 24 = .ok (.iload 7, 2) := by decide +kernel
theorem dX2_addUpForth_26 : decode cX2_addUpForth 26 = .ok (.invokevirtual 29, 3) := by decide +kernel
theorem dX2_addUpForth_29 : decode cX2_addUpForth 29 = .ok (.astore 8, 2) := by decide +kernel
theorem dX2_addUpForth_31 : decode cX2_addUpForth 31 = .ok (.iload 7, 2) := by decide +kernel
theorem dX2_addUpForth_33 : decode cX2_addUpForth 33 = .ok (.ifCond .eq 13, 3) := by decide +kernel
theorem dX2_addUpForth_36 : decode cX2_addUpForth 36 = .ok (.aload 8, 2) := by decide +kernel
theorem dX2_addUpForth_38 : decode cX2_addUpForth 38 = .ok (.getfield 79, 3) := by decide +kernel
theorem dX2_addUpForth_41 : decode cX2_addUpForth 41 = .ok (.iload 4, 2) := by decide +kernel
theorem dX2_addUpForth_43 : decode cX2_addUpForth 43 = .ok (.if_icmp .eq 19, 3) := by decide +kernel
theorem dX2_addUpForth_46 : decode cX2_addUpForth 46 = .ok (.iinc 3 1, 3) := by decide +kernel
theorem dX2_addUpForth_49 : decode cX2_addUpForth 49 = .ok (.aload 8, 2) := by decide +kernel
theorem dX2_addUpForth_51 : decode cX2_addUpForth 51 = .ok (.getfield 79, 3) := by decide +kernel
theorem dX2_addUpForth_54 : decode cX2_addUpForth 54 = .ok (.istore 4, 2) := by decide +kernel
theorem dX2_addUpForth_56 : decode cX2_addUpForth 56 = .ok (.iconst 0, 1) := by decide +kernel
theorem dX2_addUpForth_57 : decode cX2_addUpForth 57 = .ok (.istore 5, 2) := by decide +kernel
theorem dX2_addUpForth_59 : decode cX2_addUpForth 59 = .ok (.iconst 0, 1) := by decide +kernel
theorem dX2_addUpForth_60 : decode cX2_addUpForth 60 = .ok (.istore 6, 2) := by decide +kernel
theorem dX2_addUpForth_62 : decode cX2_addUpForth 62 = .ok (.iload 5, 2) := by decide +kernel
theorem dX2_addUpForth_64 : decode cX2_addUpForth 64 = .ok (.aload 8, 2) := by decide +kernel
theorem dX2_addUpForth_66 : decode cX2_addUpForth 66 = .ok (.iload_n 2, 1) := by decide +kernel
theorem dX2_addUpForth_67 : decode cX2_addUpForth 67 = .ok (.invokevirtual 33, 3) := by decide +kernel
theorem dX2_addUpForth_70 : decode cX2_addUpForth 70 = .ok (.iadd, 1) := by decide +kernel
theorem dX2_addUpForth_71 : decode cX2_addUpForth 71 = .ok (.istore 5, 2) := by decide +kernel
theorem dX2_addUpForth_73 : decode cX2_addUpForth 73 = .ok (.iinc 6 1, 3) := by decide +kernel
theorem dX2_addUpForth_76 : decode cX2_addUpForth 76 = .ok (.aload 8, 2) := by decide +kernel
theorem dX2_addUpForth_78 : decode cX2_addUpForth 78 = .ok (.iload 4, 2) := by decide +kernel
theorem dX2_addUpForth_80 : decode cX2_addUpForth 80 = .ok (.iload 5, 2) := by decide +kernel
theorem dX2_addUpForth_82 : decode cX2_addUpForth 82 = .ok (.iload 6, 2) := by decide +kernel
theorem dX2_addUpForth_84 : decode cX2_addUpForth 84 = .ok (.invokevirtual 56, 3) := by decide +kernel
theorem dX2_addUpForth_87 : decode cX2_addUpForth 87 = .ok (.aload 8, 2) := by decide +kernel
theorem dX2_addUpForth_89 : decode cX2_addUpForth 89 = .ok (.iload 7, 2) := by decide +kernel
theorem dX2_addUpForth_91 : decode cX2_addUpForth 91 = .ok (.iload_n 3, 1) := by decide +kernel
theorem dX2_addUpForth_92 : decode cX2_addUpForth 92 = .ok (.iconst 1, 1) := by decide +kernel
theorem dX2_addUpForth_93 : decode cX2_addUpForth 93 = .ok (.isub, 1) := by decide +kernel
theorem dX2_addUpForth_94 : decode cX2_addUpForth 94 = .ok (.invokevirtual 43, 3) := by decide +kernel
theorem dX2_addUpForth_97 : decode cX2_addUpForth 97 = .ok (.aload_n 0, 1) := by decide +kernel
theorem dX2_addUpForth_98 : decode cX2_addUpForth 98 = .ok (.getfield 9, 3) := by decide +kernel
theorem dX2_addUpForth_101 : decode cX2_addUpForth 101 = .ok (.iload 7, 2) := by decide +kernel
theorem dX2_addUpForth_103 : decode cX2_addUpForth 103 = .ok (.aload 8, 2) := by decide +kernel
theorem dX2_addUpForth_105 : decode cX2_addUpForth 105 = .ok (.invokevirtual 49, 3) := by decide +kernel
theorem dX2_addUpForth_108 : decode cX2_addUpForth 108 = .ok (.iinc 7 1, 3) := by decide +kernel
theorem dX2_addUpForth_111 : decode cX2_addUpForth 111 = .ok (.goto (-97), 3) := by decide +kernel
theorem dX2_addUpForth_114 : decode cX2_addUpForth 114 = .ok (.iload_n 3, 1) := by decide +kernel
theorem dX2_addUpForth_115 : decode cX2_addUpForth 115 = .ok (.ireturn, 1) := by decide +kernel
theorem dX2_keepLastOfEach_0 : decode cX2_keepLastOfEach 0 = .ok (.iconst 0, 1) := by decide +kernel
theorem dX2_keepLastOfEach_1 : decode cX2_keepLastOfEach 1 = .ok (.istore_n 2, 1) := by decide +kernel
theorem dX2_keepLastOfEach_2 : decode cX2_keepLastOfEach 2 = .ok (.iload_n 1, 1) := by decide +kernel
theorem dX2_keepLastOfEach_3 : decode cX2_keepLastOfEach 3 = .ok (.iconst 1, 1) := by decide +kernel
theorem dX2_keepLastOfEach_4 : decode cX2_keepLastOfEach 4 = .ok (.isub, 1) := by decide +kernel
theorem dX2_keepLastOfEach_5 : decode cX2_keepLastOfEach 5 = .ok (.istore_n 3, 1) := by decide +kernel
theorem dX2_keepLastOfEach_6 : decode cX2_keepLastOfEach 6 = .ok (.iload_n 3, 1) := by decide +kernel
theorem dX2_keepLastOfEach_7 : decode cX2_keepLastOfEach 7 = .ok (.ifCond .lt 56, 3) := by decide +kernel
theorem dX2_keepLastOfEach_10 : decode cX2_keepLastOfEach 10 = .ok (.aload_n 0, 1) := by decide +kernel
theorem dX2_keepLastOfEach_11 : decode cX2_keepLastOfEach 11 = .ok (.getfield 9, 3) := by decide +kernel
theorem dX2_keepLastOfEach_14 : decode cX2_keepLastOfEach 14 = .ok (.iload_n 3, 1) := by decide +kernel
theorem dX2_keepLastOfEach_15 : decode cX2_keepLastOfEach 15 = .ok (.invokevirtual 29, 3) := by decide +kernel
theorem dX2_keepLastOfEach_18 : decode cX2_keepLastOfEach 18 = .ok (.astore 4, 2) := by decide +kernel
theorem dX2_keepLastOfEach_20 : decode cX2_keepLastOfEach 20 = .ok (.iload_n 3, 1) := by decide +kernel
theorem dX2_keepLastOfEach_21 : decode cX2_keepLastOfEach 21 = .ok (.iload_n 1, 1) := by decide +kernel
theorem dX2_keepLastOfEach_22 : decode cX2_keepLastOfEach 22 = .ok (.iconst 1, 1) := by decide +kernel
theorem dX2_keepLastOfEach_23 : decode cX2_keepLastOfEach 23 = .ok (.isub, 1) := by decide +kernel
theorem dX2_keepLastOfEach_24 : decode cX2_keepLastOfEach 24 = .ok (.if_icmp .ge 17, 3) := by decide +kernel
theorem dX2_keepLastOfEach_27 : decode cX2_keepLastOfEach 27 = .ok (.aload 4, 2) := by decide +kernel
theorem dX2_keepLastOfEach_29 : decode cX2_keepLastOfEach 29 = .ok (.getfield 79, 3) := by decide +kernel
theorem dX2_keepLastOfEach_32 : decode cX2_keepLastOfEach 32 = .ok (.iload_n 2, 1) := by decide +kernel
theorem dX2_keepLastOfEach_33 : decode cX2_keepLastOfEach 33 = .ok (.if_icmp .ne 8, 3) := by decide +kernel
theorem dX2_keepLastOfEach_36 : decode cX2_keepLastOfEach 36 = .ok (.aload 4, 2) := by decide +kernel
theorem dX2_keepLastOfEach_38 : decode cX2_keepLastOfEach 38 = .ok (.invokevirtual 46, 3) := by decide +kernel
theorem dX2_keepLastOfEach_41 : decode cX2_keepLastOfEach 41 = .ok (.aload 4, 2) := by decide +kernel
theorem dX2_keepLastOfEach_43 : decode cX2_keepLastOfEach 43 = .ok (.getfield 79, 3) := by decide +kernel
theorem dX2_keepLastOfEach_46 : decode cX2_keepLastOfEach 46 = .ok (.istore_n 2, 1) := by decide +kernel
theorem dX2_keepLastOfEach_47 : decode cX2_keepLastOfEach 47 = .ok (.aload_n 0, 1) := by decide +kernel
theorem dX2_keepLastOfEach_48 : decode cX2_keepLastOfEach 48 = .ok (.getfield 9, 3) := by decide +kernel
theorem dX2_keepLastOfEach_51 : decode cX2_keepLastOfEach 51 = .ok (.iload_n 3, 1) := by decide +kernel
theorem dX2_keepLastOfEach_52 : decode cX2_keepLastOfEach 52 = .ok (.aload 4, 2) := by decide +kernel
theorem dX2_keepLastOfEach_54 : decode cX2_keepLastOfEach 54 = .ok (.invokevirtual 49, 3) := by decide +kernel
theorem dX2_keepLastOfEach_57 : decode cX2_keepLastOfEach 57 = .ok (.iinc 3 (-1), 3) := by decide +kernel
theorem dX2_keepLastOfEach_60 : decode cX2_keepLastOfEach 60 = .ok (.goto (-54), 3) := by decide +kernel
theorem dX2_keepLastOfEach_63 : decode cX2_keepLastOfEach 63 = .ok (.return_, 1) := by decide +kernel
theorem dX2_change_0 : decode cX2_change 0 = .ok (.aload_n 0, 1) := by decide +kernel
theorem dX2_change_1 : decode cX2_change 1 = .ok (.getfield 9, 3) := by decide +kernel
theorem dX2_change_4 : decode cX2_change 4 = .ok (.aload_n 1, 1) := by decide +kernel
theorem dX2_change_5 : decode cX2_change 5 = .ok (.iconst 0, 1) := by decide +kernel
theorem dX2_change_6 : decode cX2_change 6 = .ok (.iconst 0, 1) := by decide +kernel
theorem dX2_change_7 : decode cX2_change 7 = .ok (.iconst 1, 1) := by decide +kernel
theorem dX2_change_8 : decode cX2_change 8 = .ok (.invokevirtual 67, 3) := by decide +kernel
theorem dX2_change_11 : decode cX2_change 11 = .ok (.istore 4, 2) := by decide +kernel
theorem dX2_change_13 : decode cX2_change 13 = .ok (.aload_n 0, 1) := by decide +kernel
theorem dX2_change_14 : decode cX2_change 14 = .ok (.getfield 9, 3) := by decide +kernel
theorem dX2_change_17 : decode cX2_change 17 = .ok (.aload_n 2, 1) := by decide +kernel
theorem dX2_change_18 : decode cX2_change 18 = .ok (.iload 4, 2) := by decide +kernel
theorem dX2_change_20 : decode cX2_change 20 = .ok (.iconst 0, 1) := by decide +kernel
theorem dX2_change_21 : decode cX2_change 21 = .ok (.iconst 2, 1) := by decide +kernel
theorem dX2_change_22 : decode cX2_change 22 = .ok (.invokevirtual 67, 3) := by decide +kernel
theorem dX2_change_25 : decode cX2_change 25 = .ok (.istore 5, 2) := by decide +kernel
theorem dX2_change_27 : decode cX2_change 27 = .ok (.aload_n 0, 1) := by decide +kernel
theorem dX2_change_28 : decode cX2_change 28 = .ok (.getfield 9, 3) := by decide +kernel
theorem dX2_change_31 : decode cX2_change 31 = .ok (.aload_n 3, 1) := by decide +kernel
theorem dX2_change_32 : decode cX2_change 32 = .ok (.iload 5, 2) := by decide +kernel
theorem dX2_change_34 : decode cX2_change 34 = .ok (.iconst 0, 1) := by decide +kernel
theorem dX2_change_35 : decode cX2_change 35 = .ok (.iconst 0, 1) := by decide +kernel
theorem dX2_change_36 : decode cX2_change 36 = .ok (.invokevirtual 67, 3) := by decide +kernel
theorem dX2_change_39 : decode cX2_change 39 = .ok (.istore 6, 2) := by decide +kernel
theorem dX2_change_41 : decode cX2_change 41 = .ok (.aload_n 0, 1) := by decide +kernel
theorem dX2_change_42 : decode cX2_change 42 = .ok (.getfield 9, 3) := by decide +kernel
theorem dX2_change_45 : decode cX2_change 45 = .ok (.iconst 0, 1) := by decide +kernel
theorem dX2_change_46 : decode cX2_change 46 = .ok (.iload 6, 2) := by decide +kernel
theorem dX2_change_48 : decode cX2_change 48 = .ok (.invokevirtual 21, 3) := by decide +kernel
theorem dX2_change_51 : decode cX2_change 51 = .ok (.aload_n 0, 1) := by decide +kernel
theorem dX2_change_52 : decode cX2_change 52 = .ok (.iload 6, 2) := by decide +kernel
theorem dX2_change_54 : decode cX2_change 54 = .ok (.invokevirtual 83, 3) := by decide +kernel
theorem dX2_change_57 : decode cX2_change 57 = .ok (.istore 7, 2) := by decide +kernel
theorem dX2_change_59 : decode cX2_change 59 = .ok (.aload_n 0, 1) := by decide +kernel
theorem dX2_change_60 : decode cX2_change 60 = .ok (.getfield 9, 3) := by decide +kernel
theorem dX2_change_63 : decode cX2_change 63 = .ok (.iconst 0, 1) := by decide +kernel
theorem dX2_change_64 : decode cX2_change 64 = .ok (.iload 6, 2) := by decide +kernel
theorem dX2_change_66 : decode cX2_change 66 = .ok (.invokevirtual 53, 3) := by decide +kernel
theorem dX2_change_69 : decode cX2_change 69 = .ok (.iload 7, 2) := by decide +kernel
theorem dX2_change_71 : decode cX2_change 71 = .ok (.bipush 12, 2) := by decide +kernel
theorem dX2_change_73 : decode cX2_change 73 = .ok (.if_icmp .le 5, 3) := by decide +kernel
theorem dX2_change_76 : decode cX2_change 76 = .ok (.iconst 0, 1) := by decide +kernel
theorem dX2_change_77 : decode cX2_change 77 = .ok (.ireturn, 1) := by decide +kernel
theorem dX2_change_78 : decode cX2_change 78 = .ok (.aload_n 0, 1) := by decide +kernel
theorem dX2_change_79 : decode cX2_change 79 = .ok (.getfield 9, 3) := by decide +kernel
theorem dX2_change_82 : decode cX2_change 82 = .ok (.aload_n 1, 1) := by decide +kernel
theorem dX2_change_83 : decode cX2_change 83 = .ok (.iload 7, 2) := by decide +kernel
theorem dX2_change_85 : decode cX2_change 85 = .ok (.invokevirtual 25, 3) := by decide +kernel
theorem dX2_change_88 : decode cX2_change 88 = .ok (.iconst 1, 1) := by decide +kernel
theorem dX2_change_89 : decode cX2_change 89 = .ok (.ireturn, 1) := by decide +kernel
theorem dX2_keepUndropped_0 : decode cX2_keepUndropped 0 = .ok (.iconst 0, 1) := by decide +kernel
theorem dX2_keepUndropped_1 : decode cX2_keepUndropped 1 = .ok (.istore_n 2, 1) := by decide +kernel
theorem dX2_keepUndropped_2 : decode cX2_keepUndropped 2 = .ok (.iconst 0, 1) := by decide +kernel
theorem dX2_keepUndropped_3 : decode cX2_keepUndropped 3 = .ok (.istore_n 3, 1) := by decide +kernel
theorem dX2_keepUndropped_4 : decode cX2_keepUndropped 4 = .ok (.iconst 0, 1) := by decide +kernel
theorem dX2_keepUndropped_5 : decode cX2_keepUndropped 5 = .ok (.istore 4, 2) := by decide +kernel
theorem dX2_keepUndropped_7 : decode cX2_keepUndropped 7 = .ok (.iconst 0, 1) := by decide +kernel
theorem dX2_keepUndropped_8 : decode cX2_keepUndropped 8 = .ok (.istore 5, 2) := by decide +kernel
theorem dX2_keepUndropped_10 : decode cX2_keepUndropped 10 = .ok (.iload 5, 2) := by decide +kernel
theorem dX2_keepUndropped_12 : decode cX2_keepUndropped 12 = .ok (.iload_n 1, 1) := by decide +kernel
theorem dX2_keepUndropped_13 : decode cX2_keepUndropped 13 = .ok (.if_icmp .ge 102, 3) := by decide +kernel
theorem dX2_keepUndropped_16 : decode cX2_keepUndropped 16 = .ok (.aload_n 0, 1) := by decide +kernel
theorem dX2_keepUndropped_17 : decode cX2_keepUndropped 17 = .ok (.getfield 9, 3) := by decide +kernel
theorem dX2_keepUndropped_20 : decode cX2_keepUndropped 20 = .ok (.iload 5, 2) := by decide +kernel
theorem dX2_keepUndropped_22 : decode cX2_keepUndropped 22 = .ok (.invokevirtual 29, 3) := by decide +kernel
theorem dX2_keepUndropped_25 : decode cX2_keepUndropped 25 = .ok (.astore 6, 2) := by decide +kernel
theorem dX2_keepUndropped_27 : decode cX2_keepUndropped 27 = .ok (.aload 6, 2) := by decide +kernel
theorem dX2_keepUndropped_29 : decode cX2_keepUndropped 29 = .ok (.getfield 86, 3) := by decide +kernel
theorem dX2_keepUndropped_32 : decode cX2_keepUndropped 32 = .ok (.ifCond .ne 12, 3) := by decide +kernel
theorem dX2_keepUndropped_35 : decode cX2_keepUndropped 35 = .ok (.iconst 1, 1) := by decide +kernel
theorem dX2_keepUndropped_36 : decode cX2_keepUndropped 36 = .ok (.istore_n 3, 1) := by decide +kernel
theorem dX2_keepUndropped_37 : decode cX2_keepUndropped 37 = .ok (.aload 6, 2) := by decide +kernel
theorem dX2_keepUndropped_39 : decode cX2_keepUndropped 39 = .ok (.getfield 79, 3) := by decide +kernel
theorem dX2_keepUndropped_42 : decode cX2_keepUndropped 42 = .ok (.istore 4, 2) := by decide +kernel
theorem dX2_keepUndropped_44 : decode cX2_keepUndropped 44 = .ok (.iload_n 3, 1) := by decide +kernel
theorem dX2_keepUndropped_45 : decode cX2_keepUndropped 45 = .ok (.ifCond .eq 17, 3) := by decide +kernel
theorem dX2_keepUndropped_48 : decode cX2_keepUndropped 48 = .ok (.aload 6, 2) := by decide +kernel
theorem dX2_keepUndropped_50 : decode cX2_keepUndropped 50 = .ok (.getfield 79, 3) := by decide +kernel
theorem dX2_keepUndropped_53 : decode cX2_keepUndropped 53 = .ok (.iload 4, 2) := by decide +kernel
theorem dX2_keepUndropped_55 : decode cX2_keepUndropped 55 = .ok (.if_icmp .ne 7, 3) := by decide +kernel
theorem dX2_keepUndropped_58 : decode cX2_keepUndropped 58 = .ok (.iconst 1, 1) := by decide +kernel
theorem dX2_keepUndropped_59 : decode cX2_keepUndropped 59 = .ok (.goto 4, 3) := by decide +kernel
theorem dX2_keepUndropped_62 : decode cX2_keepUndropped 62 = .ok (.iconst 0, 1) := by decide +kernel
theorem dX2_keepUndropped_63 : decode cX2_keepUndropped 63 = .ok (.istore 7, 2) := by decide +kernel
theorem dX2_keepUndropped_65 : decode cX2_keepUndropped 65 = .ok (.aload 6, 2) := by decide +kernel
theorem dX2_keepUndropped_67 : decode cX2_keepUndropped 67 = .ok (.getfield 86, 3) := by decide +kernel
theorem dX2_keepUndropped_70 : decode cX2_keepUndropped 70 = .ok (.iconst 2, 1) := by decide +kernel
theorem dX2_keepUndropped_71 : decode cX2_keepUndropped 71 = .ok (.if_icmp .eq 8, 3) := by decide +kernel
theorem dX2_keepUndropped_74 : decode cX2_keepUndropped 74 = .ok (.iload 7, 2) := by decide +kernel
theorem dX2_keepUndropped_76 : decode cX2_keepUndropped 76 = .ok (.ifCond .ne 17, 3) := by decide +kernel
theorem dX2_keepUndropped_79 : decode cX2_keepUndropped 79 = .ok (.aload 6, 2) := by decide +kernel
theorem dX2_keepUndropped_81 : decode cX2_keepUndropped 81 = .ok (.iload 5, 2) := by decide +kernel
theorem dX2_keepUndropped_83 : decode cX2_keepUndropped 83 = .ok (.iload_n 2, 1) := by decide +kernel
theorem dX2_keepUndropped_84 : decode cX2_keepUndropped 84 = .ok (.invokevirtual 43, 3) := by decide +kernel
theorem dX2_keepUndropped_87 : decode cX2_keepUndropped 87 = .ok (.iinc 2 1, 3) := by decide +kernel
theorem dX2_keepUndropped_90 : decode cX2_keepUndropped 90 = .ok (.goto 8, 3) := by decide +kernel
theorem dX2_keepUndropped_93 : decode cX2_keepUndropped 93 = .ok (.aload 6, 2) := by decide +kernel
theorem dX2_keepUndropped_95 : decode cX2_keepUndropped 95 = .ok (.invokevirtual 46, 3) := by decide +kernel
theorem dX2_keepUndropped_98 : decode cX2_keepUndropped 98 = .ok (.aload_n 0, 1) := by decide +kernel
theorem dX2_keepUndropped_99 : decode cX2_keepUndropped 99 = .ok (.getfield 9, 3) := by decide +kernel
theorem dX2_keepUndropped_102 : decode cX2_keepUndropped 102 = .ok (.iload 5, 2) := by decide +kernel
theorem dX2_keepUndropped_104 : decode cX2_keepUndropped 104 = .ok (.aload 6, 2) := by decide +kernel
theorem dX2_keepUndropped_106 : decode cX2_keepUndropped 106 = .ok (.invokevirtual 49, 3) := by decide +kernel
theorem dX2_keepUndropped_109 : decode cX2_keepUndropped 109 = .ok (.iinc 5 1, 3) := by decide +kernel
theorem dX2_keepUndropped_112 : decode cX2_keepUndropped 112 = .ok (.goto (-102), 3) := by decide +kernel
theorem dX2_keepUndropped_115 : decode cX2_keepUndropped 115 = .ok (.iload_n 2, 1) := by decide +kernel
theorem dX2_keepUndropped_116 : decode cX2_keepUndropped 116 = .ok (.ireturn, 1) := by decide +kernel
end
section
/-! Words of the calls; printed by program. -/
theorem wcX6_21 : pm_cI gw RX6 21 yX0_init cX0_init 2 1 := ⟨(gw_1 (j := 23) rfl rfl), (gw_1 (j := 24) rfl rfl), (gw_1 (j := 2) rfl rfl), (gw_1 (j := 25) rfl rfl), rfl, by decide +kernel, by decide +kernel, by decide +kernel⟩
theorem wcX6_36 : pm_cI gw RX6 36 yX5_init cX5_init 2 0 := ⟨(gw_1 (j := 48) rfl rfl), (gw_1 (j := 49) rfl rfl), (gw_1 (j := 3) rfl rfl), (gw_1 (j := 50) rfl rfl), rfl, by decide +kernel, by decide +kernel, by decide +kernel⟩
theorem wcX6_43 : pm_cI gw RX6 43 yX2_init cX2_init 2 1 := ⟨(gw_1 (j := 129) rfl rfl), (gw_1 (j := 130) rfl rfl), (gw_1 (j := 5) rfl rfl), (gw_1 (j := 131) rfl rfl), rfl, by decide +kernel, by decide +kernel, by decide +kernel⟩
theorem wcX6_52 : pm_cI gw RX6 52 yX1_init cX1_init 2 1 := ⟨(gw_1 (j := 139) rfl rfl), (gw_1 (j := 140) rfl rfl), (gw_1 (j := 6) rfl rfl), (gw_1 (j := 141) rfl rfl), rfl, by decide +kernel, by decide +kernel, by decide +kernel⟩
theorem wcX6_64 : Cond.methodLinkNest RX6 64 yX4_init "BlindTables" ∈ bt_nw ∧ Cond.instanceMethod yX4_init ∈ gw ∧ Cond.initialized yX4_init.cls ∈ gw ∧ Cond.code yX4_init cX4_init 1 none ∈ gw ∧ yX4_init.name = "<init>" ∧ yX4_init.cls ≠ "java/lang/invoke/MethodHandle" ∧ yX4_init.cls ≠ "java/lang/invoke/VarHandle" ∧ (parseMethodDescriptor yX4_init.desc).map (fun d => d.parameters.length) = some 0 := ⟨List.mem_of_getElem? (i := 2) rfl, (gw_1 (j := 154) rfl rfl), (gw_1 (j := 7) rfl rfl), (gw_1 (j := 155) rfl rfl), rfl, by decide +kernel, by decide +kernel, by decide +kernel⟩
theorem wcX6_65 : pm_cS gw RX6 65 yX6_isTable cX6_isTable 1 (some (.boolean)) 1 := ⟨(gw_1 (j := 209) rfl rfl), (gw_1 (j := 210) rfl rfl), (gw_1 (j := 1) rfl rfl), (gw_1 (j := 211) rfl rfl), rfl, by decide +kernel, by decide +kernel, by decide +kernel⟩
theorem wcX6_69 : pm_cV gw RX6 69 yX0_hold cX0_hold 4 (some (.boolean)) 3 := ⟨(gw_1 (j := 212) rfl rfl), (gw_1 (j := 213) rfl rfl), (gw_1 (j := 214) rfl rfl), (gw_1 (j := 2) rfl rfl), (gw_1 (j := 215) rfl rfl), by decide +kernel, by decide +kernel, by decide +kernel⟩
theorem wcX6_76 : pm_cS gw RX6 76 yX6_isColumn cX6_isColumn 1 (some (.boolean)) 1 := ⟨(gw_1 (j := 228) rfl rfl), (gw_1 (j := 229) rfl rfl), (gw_1 (j := 1) rfl rfl), (gw_1 (j := 230) rfl rfl), rfl, by decide +kernel, by decide +kernel, by decide +kernel⟩
theorem wcX6_79 : pm_cV gw RX6 79 yX6_append cX6_append 5 (some (.boolean)) 4 := ⟨(gw_1 (j := 231) rfl rfl), (gw_1 (j := 233) rfl rfl), (gw_s (q := (yX6_append, 10)) (List.mem_append_left _ (List.mem_of_getElem? (i := 0) rfl))), (gw_1 (j := 1) rfl rfl), (gw_1 (j := 234) rfl rfl), by decide +kernel, by decide +kernel, by decide +kernel⟩
theorem wcX6_83 : pm_cV gw RX6 83 yX5_startTrace cX5_startTrace 1 none 0 := ⟨(gw_2 (j := 19) rfl rfl), (gw_2 (j := 20) rfl rfl), (gw_2 (j := 21) rfl rfl), (gw_1 (j := 3) rfl rfl), (gw_2 (j := 22) rfl rfl), by decide +kernel, by decide +kernel, by decide +kernel⟩
theorem wcX6_86 : pm_cV gw RX6 86 yX0_become cX0_become 3 none 1 := ⟨(gw_2 (j := 23) rfl rfl), (gw_2 (j := 24) rfl rfl), (gw_2 (j := 25) rfl rfl), (gw_1 (j := 2) rfl rfl), (gw_2 (j := 26) rfl rfl), by decide +kernel, by decide +kernel, by decide +kernel⟩
theorem wcX6_90 : pm_cV gw RX6 90 yX6_perform cX6_perform 2 (some (.boolean)) 1 := ⟨(gw_2 (j := 32) rfl rfl), (gw_2 (j := 34) rfl rfl), (gw_s (q := (yX6_perform, 10)) (List.mem_append_left _ (List.mem_of_getElem? (i := 1) rfl))), (gw_1 (j := 1) rfl rfl), (gw_2 (j := 35) rfl rfl), by decide +kernel, by decide +kernel, by decide +kernel⟩
theorem wcX6_94 : pm_cV gw RX6 94 yX0_clear cX0_clear 1 none 0 := ⟨(gw_2 (j := 213) rfl rfl), (gw_2 (j := 28) rfl rfl), (gw_2 (j := 29) rfl rfl), (gw_1 (j := 2) rfl rfl), (gw_2 (j := 30) rfl rfl), by decide +kernel, by decide +kernel, by decide +kernel⟩
theorem wcX6_97 : pm_cV gw RX6 97 yX2_order cX2_order 3 none 1 := ⟨(gw_2 (j := 214) rfl rfl), (gw_2 (j := 215) rfl rfl), (gw_2 (j := 216) rfl rfl), (gw_1 (j := 5) rfl rfl), (gw_2 (j := 217) rfl rfl), by decide +kernel, by decide +kernel, by decide +kernel⟩
theorem wcX6_100 : pm_cV gw RX6 100 yX6_changes cX6_changes 1 (some (.int)) 0 := ⟨(gw_2 (j := 222) rfl rfl), (gw_2 (j := 224) rfl rfl), (gw_s (q := (yX6_changes, 10)) (List.mem_append_left _ (List.mem_of_getElem? (i := 15) rfl))), (gw_1 (j := 1) rfl rfl), (gw_2 (j := 225) rfl rfl), by decide +kernel, by decide +kernel, by decide +kernel⟩
theorem wcX6_104 : pm_cV gw RX6 104 yX2_change cX2_change 8 (some (.boolean)) 3 := ⟨(gw_2 (j := 234) rfl rfl), (gw_2 (j := 235) rfl rfl), (gw_2 (j := 236) rfl rfl), (gw_1 (j := 5) rfl rfl), (gw_2 (j := 237) rfl rfl), by decide +kernel, by decide +kernel, by decide +kernel⟩
theorem wcX6_108 : pm_cV gw RX6 108 yX0_column cX0_column 3 (some (.int)) 2 := ⟨(gw_3 (j := 6) rfl rfl), (gw_3 (j := 7) rfl rfl), (gw_3 (j := 8) rfl rfl), (gw_1 (j := 2) rfl rfl), (gw_3 (j := 9) rfl rfl), by decide +kernel, by decide +kernel, by decide +kernel⟩
theorem wcX6_115 : pm_cV gw RX6 115 yX5_notedAt cX5_notedAt 2 (some (.int)) 1 := ⟨(gw_3 (j := 18) rfl rfl), (gw_3 (j := 19) rfl rfl), (gw_3 (j := 20) rfl rfl), (gw_1 (j := 3) rfl rfl), (gw_3 (j := 21) rfl rfl), by decide +kernel, by decide +kernel, by decide +kernel⟩
theorem wcX6_119 : pm_cV gw RX6 119 yX0_total cX0_total 3 (some (.int)) 0 := ⟨(gw_3 (j := 26) rfl rfl), (gw_3 (j := 27) rfl rfl), (gw_3 (j := 28) rfl rfl), (gw_1 (j := 2) rfl rfl), (gw_3 (j := 29) rfl rfl), by decide +kernel, by decide +kernel, by decide +kernel⟩
theorem wcX6_122 : pm_cV gw RX6 122 yX4_become cX4_become 5 none 4 := ⟨(gw_1 (j := 235) rfl rfl), (gw_1 (j := 236) rfl rfl), (gw_1 (j := 237) rfl rfl), (gw_1 (j := 7) rfl rfl), (gw_1 (j := 238) rfl rfl), by decide +kernel, by decide +kernel, by decide +kernel⟩
theorem wcX6_137 : pm_cV gw RX6 137 yX2_keepMatching cX2_keepMatching 9 none 4 := ⟨(gw_2 (j := 36) rfl rfl), (gw_2 (j := 37) rfl rfl), (gw_2 (j := 38) rfl rfl), (gw_1 (j := 5) rfl rfl), (gw_2 (j := 39) rfl rfl), by decide +kernel, by decide +kernel, by decide +kernel⟩
theorem wcX6_141 : pm_cV gw RX6 141 yX2_rearrange cX2_rearrange 8 none 4 := ⟨(gw_2 (j := 95) rfl rfl), (gw_2 (j := 96) rfl rfl), (gw_2 (j := 97) rfl rfl), (gw_1 (j := 5) rfl rfl), (gw_2 (j := 98) rfl rfl), by decide +kernel, by decide +kernel, by decide +kernel⟩
theorem wcX6_144 : pm_cV gw RX6 144 yX2_keepDifferent cX2_keepDifferent 4 none 1 := ⟨(gw_2 (j := 100) rfl rfl), (gw_2 (j := 101) rfl rfl), (gw_2 (j := 102) rfl rfl), (gw_1 (j := 5) rfl rfl), (gw_2 (j := 103) rfl rfl), by decide +kernel, by decide +kernel, by decide +kernel⟩
theorem wcX6_147 : pm_cV gw RX6 147 yX2_totalUp cX2_totalUp 6 none 3 := ⟨(gw_2 (j := 127) rfl rfl), (gw_2 (j := 128) rfl rfl), (gw_2 (j := 129) rfl rfl), (gw_1 (j := 5) rfl rfl), (gw_2 (j := 130) rfl rfl), by decide +kernel, by decide +kernel, by decide +kernel⟩
theorem wcX6_151 : pm_cV gw RX6 151 yX1_match cX1_match 8 (some (.boolean)) 4 := ⟨(gw_2 (j := 144) rfl rfl), (gw_2 (j := 145) rfl rfl), (gw_2 (j := 146) rfl rfl), (gw_1 (j := 6) rfl rfl), (gw_2 (j := 147) rfl rfl), by decide +kernel, by decide +kernel, by decide +kernel⟩
theorem wcX7_56 : pm_cS gw RX7 56 yX7_outside cX7_outside 3 (some (.boolean)) 3 := ⟨(gw_3 (j := 123) rfl rfl), (gw_3 (j := 124) rfl rfl), (gw_1 (j := 8) rfl rfl), (gw_3 (j := 125) rfl rfl), rfl, by decide +kernel, by decide +kernel, by decide +kernel⟩
theorem wcX7_71 : pm_cV gw RX7 71 yX7_step cX7_step 6 (some (.boolean)) 5 := ⟨(gw_3 (j := 142) rfl rfl), (gw_3 (j := 144) rfl rfl), (gw_s (q := (yX7_step, 27)) (List.mem_append_right _ (List.mem_append_left _ (List.mem_of_getElem? (i := 1) rfl)))), (gw_1 (j := 8) rfl rfl), (gw_3 (j := 145) rfl rfl), by decide +kernel, by decide +kernel, by decide +kernel⟩
theorem wcX7_81 : pm_cV gw RX7 81 yX7_give cX7_give 4 none 3 := ⟨(gw_3 (j := 178) rfl rfl), (gw_3 (j := 180) rfl rfl), (gw_s (q := (yX7_give, 27)) (List.mem_append_right _ (List.mem_append_left _ (List.mem_of_getElem? (i := 5) rfl)))), (gw_1 (j := 8) rfl rfl), (gw_3 (j := 181) rfl rfl), by decide +kernel, by decide +kernel, by decide +kernel⟩
theorem wcX7_85 : pm_cV gw RX7 85 yX7_passes cX7_passes 4 (some (.boolean)) 3 := ⟨(gw_3 (j := 170) rfl rfl), (gw_3 (j := 172) rfl rfl), (gw_s (q := (yX7_passes, 27)) (List.mem_append_right _ (List.mem_append_left _ (List.mem_of_getElem? (i := 3) rfl)))), (gw_1 (j := 8) rfl rfl), (gw_3 (j := 173) rfl rfl), by decide +kernel, by decide +kernel, by decide +kernel⟩
theorem wcX7_88 : pm_cV gw RX7 88 yX7_first cX7_first 7 (some (.boolean)) 2 := ⟨(gw_3 (j := 174) rfl rfl), (gw_3 (j := 176) rfl rfl), (gw_s (q := (yX7_first, 27)) (List.mem_append_right _ (List.mem_append_left _ (List.mem_of_getElem? (i := 4) rfl)))), (gw_1 (j := 8) rfl rfl), (gw_3 (j := 177) rfl rfl), by decide +kernel, by decide +kernel, by decide +kernel⟩
theorem wcX7_92 : pm_cV gw RX7 92 yX7_groupOf cX7_groupOf 7 none 3 := ⟨(gw_3 (j := 182) rfl rfl), (gw_3 (j := 184) rfl rfl), (gw_s (q := (yX7_groupOf, 27)) (List.mem_append_right _ (List.mem_append_left _ (List.mem_of_getElem? (i := 6) rfl)))), (gw_1 (j := 8) rfl rfl), (gw_3 (j := 185) rfl rfl), by decide +kernel, by decide +kernel, by decide +kernel⟩
theorem wcX7_95 : pm_cV gw RX7 95 yX7_joinWith cX7_joinWith 6 none 4 := ⟨(gw_3 (j := 186) rfl rfl), (gw_3 (j := 188) rfl rfl), (gw_s (q := (yX7_joinWith, 27)) (List.mem_append_right _ (List.mem_append_left _ (List.mem_of_getElem? (i := 7) rfl)))), (gw_1 (j := 8) rfl rfl), (gw_3 (j := 189) rfl rfl), by decide +kernel, by decide +kernel, by decide +kernel⟩
theorem wcX7_105 : pm_cV gw RX7 105 yX7_less cX7_less 4 (some (.boolean)) 2 := ⟨(gw_3 (j := 198) rfl rfl), (gw_3 (j := 200) rfl rfl), (gw_s (q := (yX7_less, 27)) (List.mem_append_right _ (List.mem_append_left _ (List.mem_of_getElem? (i := 10) rfl)))), (gw_1 (j := 8) rfl rfl), (gw_3 (j := 201) rfl rfl), by decide +kernel, by decide +kernel, by decide +kernel⟩
theorem wcX7_111 : pm_cV gw RX7 111 yX7_work cX7_work 6 none 1 := ⟨(gw_3 (j := 166) rfl rfl), (gw_3 (j := 168) rfl rfl), (gw_s (q := (yX7_work, 27)) (List.mem_append_right _ (List.mem_append_left _ (List.mem_of_getElem? (i := 2) rfl)))), (gw_1 (j := 8) rfl rfl), (gw_3 (j := 169) rfl rfl), by decide +kernel, by decide +kernel, by decide +kernel⟩
theorem wcX7_115 : pm_cV gw RX7 115 yX7_part cX7_part 5 none 4 := ⟨(gw_3 (j := 190) rfl rfl), (gw_3 (j := 192) rfl rfl), (gw_s (q := (yX7_part, 27)) (List.mem_append_right _ (List.mem_append_left _ (List.mem_of_getElem? (i := 8) rfl)))), (gw_1 (j := 8) rfl rfl), (gw_3 (j := 193) rfl rfl), by decide +kernel, by decide +kernel, by decide +kernel⟩
theorem wcX7_118 : pm_cV gw RX7 118 yX7_order cX7_order 4 none 0 := ⟨(gw_3 (j := 194) rfl rfl), (gw_3 (j := 196) rfl rfl), (gw_s (q := (yX7_order, 27)) (List.mem_append_right _ (List.mem_append_left _ (List.mem_of_getElem? (i := 9) rfl)))), (gw_1 (j := 8) rfl rfl), (gw_3 (j := 197) rfl rfl), by decide +kernel, by decide +kernel, by decide +kernel⟩
theorem wcX7_124 : pm_cV gw RX7 124 yX7_collect cX7_collect 5 (some (.boolean)) 4 := ⟨(gw_3 (j := 206) rfl rfl), (gw_3 (j := 208) rfl rfl), (gw_s (q := (yX7_collect, 27)) (List.mem_append_right _ (List.mem_append_left _ (List.mem_of_getElem? (i := 11) rfl)))), (gw_1 (j := 8) rfl rfl), (gw_3 (j := 209) rfl rfl), by decide +kernel, by decide +kernel, by decide +kernel⟩
theorem wcX7_137 : pm_cV gw RX7 137 yX7_touch cX7_touch 3 none 2 := ⟨(gw_4 (j := 10) rfl rfl), (gw_4 (j := 12) rfl rfl), (gw_s (q := (yX7_touch, 27)) (List.mem_append_right _ (List.mem_append_right _ (List.mem_of_getElem? (i := 2) rfl)))), (gw_1 (j := 8) rfl rfl), (gw_4 (j := 13) rfl rfl), by decide +kernel, by decide +kernel, by decide +kernel⟩
theorem wcX7_141 : pm_cV gw RX7 141 yX7_exchange cX7_exchange 3 none 2 := ⟨(gw_4 (j := 6) rfl rfl), (gw_4 (j := 8) rfl rfl), (gw_s (q := (yX7_exchange, 27)) (List.mem_append_right _ (List.mem_append_right _ (List.mem_of_getElem? (i := 1) rfl)))), (gw_1 (j := 8) rfl rfl), (gw_4 (j := 9) rfl rfl), by decide +kernel, by decide +kernel, by decide +kernel⟩
theorem wcX7_145 : pm_cV gw RX7 145 yX7_compare cX7_compare 7 none 5 := ⟨(gw_4 (j := 2) rfl rfl), (gw_4 (j := 4) rfl rfl), (gw_s (q := (yX7_compare, 27)) (List.mem_append_right _ (List.mem_append_right _ (List.mem_of_getElem? (i := 0) rfl)))), (gw_1 (j := 8) rfl rfl), (gw_4 (j := 5) rfl rfl), by decide +kernel, by decide +kernel, by decide +kernel⟩
theorem wcX7_149 : pm_cV gw RX7 149 yX7_scan cX7_scan 6 none 3 := ⟨(gw_4 (j := 14) rfl rfl), (gw_4 (j := 16) rfl rfl), (gw_s (q := (yX7_scan, 27)) (List.mem_append_right _ (List.mem_append_right _ (List.mem_of_getElem? (i := 3) rfl)))), (gw_1 (j := 8) rfl rfl), (gw_4 (j := 17) rfl rfl), by decide +kernel, by decide +kernel, by decide +kernel⟩
theorem wcX7_153 : pm_cV gw RX7 153 yX7_squeeze cX7_squeeze 5 none 2 := ⟨(gw_4 (j := 22) rfl rfl), (gw_4 (j := 24) rfl rfl), (gw_s (q := (yX7_squeeze, 27)) (List.mem_append_right _ (List.mem_append_right _ (List.mem_of_getElem? (i := 5) rfl)))), (gw_1 (j := 8) rfl rfl), (gw_4 (j := 25) rfl rfl), by decide +kernel, by decide +kernel, by decide +kernel⟩
theorem wcX7_156 : pm_cV gw RX7 156 yX7_spread cX7_spread 6 none 2 := ⟨(gw_4 (j := 26) rfl rfl), (gw_4 (j := 28) rfl rfl), (gw_s (q := (yX7_spread, 27)) (List.mem_append_right _ (List.mem_append_right _ (List.mem_of_getElem? (i := 6) rfl)))), (gw_1 (j := 8) rfl rfl), (gw_4 (j := 29) rfl rfl), by decide +kernel, by decide +kernel, by decide +kernel⟩
theorem wcX7_159 : pm_cV gw RX7 159 yX7_sort cX7_sort 6 none 2 := ⟨(gw_3 (j := 238) rfl rfl), (gw_4 (j := 0) rfl rfl), (gw_s (q := (yX7_sort, 27)) (List.mem_append_right _ (List.mem_append_left _ (List.mem_of_getElem? (i := 15) rfl)))), (gw_1 (j := 8) rfl rfl), (gw_4 (j := 1) rfl rfl), by decide +kernel, by decide +kernel, by decide +kernel⟩
theorem wcX7_162 : pm_cV gw RX7 162 yX7_side cX7_side 4 none 3 := ⟨(gw_4 (j := 18) rfl rfl), (gw_4 (j := 20) rfl rfl), (gw_s (q := (yX7_side, 27)) (List.mem_append_right _ (List.mem_append_right _ (List.mem_of_getElem? (i := 4) rfl)))), (gw_1 (j := 8) rfl rfl), (gw_4 (j := 21) rfl rfl), by decide +kernel, by decide +kernel, by decide +kernel⟩
theorem wcX7_165 : pm_cV gw RX7 165 yX7_joinTrace cX7_joinTrace 4 none 2 := ⟨(gw_3 (j := 234) rfl rfl), (gw_3 (j := 236) rfl rfl), (gw_s (q := (yX7_joinTrace, 27)) (List.mem_append_right _ (List.mem_append_left _ (List.mem_of_getElem? (i := 14) rfl)))), (gw_1 (j := 8) rfl rfl), (gw_3 (j := 237) rfl rfl), by decide +kernel, by decide +kernel, by decide +kernel⟩
theorem wcX7_168 : pm_cV gw RX7 168 yX7_partTrace cX7_partTrace 4 none 1 := ⟨(gw_3 (j := 230) rfl rfl), (gw_3 (j := 232) rfl rfl), (gw_s (q := (yX7_partTrace, 27)) (List.mem_append_right _ (List.mem_append_left _ (List.mem_of_getElem? (i := 13) rfl)))), (gw_1 (j := 8) rfl rfl), (gw_3 (j := 233) rfl rfl), by decide +kernel, by decide +kernel, by decide +kernel⟩
theorem wcX7_171 : pm_cV gw RX7 171 yX7_write cX7_write 3 none 1 := ⟨(gw_3 (j := 226) rfl rfl), (gw_3 (j := 228) rfl rfl), (gw_s (q := (yX7_write, 27)) (List.mem_append_right _ (List.mem_append_left _ (List.mem_of_getElem? (i := 12) rfl)))), (gw_1 (j := 8) rfl rfl), (gw_3 (j := 229) rfl rfl), by decide +kernel, by decide +kernel, by decide +kernel⟩
theorem wcX0_23 : pm_cV gw RX0 23 yX0_clear cX0_clear 1 none 0 := ⟨(gw_2 (j := 27) rfl rfl), (gw_2 (j := 28) rfl rfl), (gw_2 (j := 29) rfl rfl), (gw_1 (j := 2) rfl rfl), (gw_2 (j := 30) rfl rfl), by decide +kernel, by decide +kernel, by decide +kernel⟩
theorem wcX0_26 : pm_cV gw RX0 26 yX0_hold cX0_hold 4 (some (.boolean)) 3 := ⟨(gw_2 (j := 31) rfl rfl), (gw_1 (j := 213) rfl rfl), (gw_1 (j := 214) rfl rfl), (gw_1 (j := 2) rfl rfl), (gw_1 (j := 215) rfl rfl), by decide +kernel, by decide +kernel, by decide +kernel⟩
theorem wcX1_11 : Cond.methodLinkNest RX1 11 yX3_init "BlindTables" ∈ bt_nw ∧ Cond.instanceMethod yX3_init ∈ gw ∧ Cond.initialized yX3_init.cls ∈ gw ∧ Cond.code yX3_init cX3_init 1 none ∈ gw ∧ yX3_init.name = "<init>" ∧ yX3_init.cls ≠ "java/lang/invoke/MethodHandle" ∧ yX3_init.cls ≠ "java/lang/invoke/VarHandle" ∧ (parseMethodDescriptor yX3_init.desc).map (fun d => d.parameters.length) = some 0 := ⟨List.mem_of_getElem? (i := 1) rfl, (gw_1 (j := 56) rfl rfl), (gw_1 (j := 4) rfl rfl), (gw_1 (j := 57) rfl rfl), rfl, by decide +kernel, by decide +kernel, by decide +kernel⟩
theorem wcX1_22 : pm_cV gw RX1 22 yX5_clear cX5_clear 2 none 0 := ⟨(gw_2 (j := 148) rfl rfl), (gw_2 (j := 149) rfl rfl), (gw_2 (j := 150) rfl rfl), (gw_1 (j := 3) rfl rfl), (gw_2 (j := 151) rfl rfl), by decide +kernel, by decide +kernel, by decide +kernel⟩
theorem wcX1_27 : pm_cV gw RX1 27 yX5_layByKey cX5_layByKey 7 (some (.int)) 4 := ⟨(gw_2 (j := 153) rfl rfl), (gw_2 (j := 132) rfl rfl), (gw_2 (j := 133) rfl rfl), (gw_1 (j := 3) rfl rfl), (gw_2 (j := 134) rfl rfl), by decide +kernel, by decide +kernel, by decide +kernel⟩
theorem wcX1_31 : pm_cV gw RX1 31 yX5_sort cX5_sort 6 none 2 := ⟨(gw_2 (j := 154) rfl rfl), (gw_2 (j := 105) rfl rfl), (gw_2 (j := 106) rfl rfl), (gw_1 (j := 3) rfl rfl), (gw_2 (j := 107) rfl rfl), by decide +kernel, by decide +kernel, by decide +kernel⟩
theorem wcX1_35 : pm_cV gw RX1 35 yX1_countForth cX1_countForth 7 none 1 := ⟨(gw_2 (j := 155) rfl rfl), (gw_2 (j := 157) rfl rfl), (gw_s (q := (yX1_countForth, 2)) (List.mem_append_left _ (List.mem_of_getElem? (i := 8) rfl))), (gw_1 (j := 6) rfl rfl), (gw_2 (j := 158) rfl rfl), by decide +kernel, by decide +kernel, by decide +kernel⟩
theorem wcX1_39 : pm_cV gw RX1 39 yX1_countBack cX1_countBack 8 (some (.int)) 1 := ⟨(gw_2 (j := 161) rfl rfl), (gw_2 (j := 163) rfl rfl), (gw_s (q := (yX1_countBack, 2)) (List.mem_append_left _ (List.mem_of_getElem? (i := 9) rfl))), (gw_1 (j := 6) rfl rfl), (gw_2 (j := 164) rfl rfl), by decide +kernel, by decide +kernel, by decide +kernel⟩
theorem wcX1_43 : pm_cV gw RX1 43 yX1_copyAll cX1_copyAll 3 none 1 := ⟨(gw_2 (j := 166) rfl rfl), (gw_2 (j := 168) rfl rfl), (gw_s (q := (yX1_copyAll, 2)) (List.mem_append_left _ (List.mem_of_getElem? (i := 10) rfl))), (gw_1 (j := 6) rfl rfl), (gw_2 (j := 169) rfl rfl), by decide +kernel, by decide +kernel, by decide +kernel⟩
theorem wcX1_46 : pm_cV gw RX1 46 yX1_expand cX1_expand 5 none 4 := ⟨(gw_2 (j := 180) rfl rfl), (gw_2 (j := 182) rfl rfl), (gw_s (q := (yX1_expand, 2)) (List.mem_append_left _ (List.mem_of_getElem? (i := 11) rfl))), (gw_1 (j := 6) rfl rfl), (gw_2 (j := 183) rfl rfl), by decide +kernel, by decide +kernel, by decide +kernel⟩
theorem wcX1_50 : pm_cV gw RX1 50 yX1_addPairs cX1_addPairs 5 none 1 := ⟨(gw_2 (j := 207) rfl rfl), (gw_2 (j := 209) rfl rfl), (gw_s (q := (yX1_addPairs, 2)) (List.mem_append_left _ (List.mem_of_getElem? (i := 14) rfl))), (gw_1 (j := 6) rfl rfl), (gw_2 (j := 210) rfl rfl), by decide +kernel, by decide +kernel, by decide +kernel⟩
theorem wcX1_53 : pm_cV gw RX1 53 yX5_takeAway cX5_takeAway 5 none 2 := ⟨(gw_2 (j := 212) rfl rfl), (gw_2 (j := 90) rfl rfl), (gw_2 (j := 91) rfl rfl), (gw_1 (j := 3) rfl rfl), (gw_2 (j := 92) rfl rfl), by decide +kernel, by decide +kernel, by decide +kernel⟩
theorem wcX1_57 : pm_cV gw RX1 57 yX5_read cX5_read 2 (some (.object "BlindTables$Row")) 1 := ⟨(gw_2 (j := 159) rfl rfl), (gw_2 (j := 57) rfl rfl), (gw_2 (j := 58) rfl rfl), (gw_1 (j := 3) rfl rfl), (gw_2 (j := 59) rfl rfl), by decide +kernel, by decide +kernel, by decide +kernel⟩
theorem wcX1_74 : pm_cV gw RX1 74 yX5_write cX5_write 3 none 2 := ⟨(gw_2 (j := 160) rfl rfl), (gw_2 (j := 80) rfl rfl), (gw_2 (j := 81) rfl rfl), (gw_1 (j := 3) rfl rfl), (gw_2 (j := 82) rfl rfl), by decide +kernel, by decide +kernel, by decide +kernel⟩
theorem wcX1_78 : pm_cV gw RX1 78 yX3_sortBy cX3_sortBy 4 none 3 := ⟨(gw_2 (j := 165) rfl rfl), (gw_2 (j := 53) rfl rfl), (gw_2 (j := 54) rfl rfl), (gw_1 (j := 4) rfl rfl), (gw_2 (j := 55) rfl rfl), by decide +kernel, by decide +kernel, by decide +kernel⟩
theorem wcX1_82 : pm_cV gw RX1 82 yX5_copy cX5_copy 5 none 2 := ⟨(gw_2 (j := 170) rfl rfl), (gw_2 (j := 171) rfl rfl), (gw_2 (j := 172) rfl rfl), (gw_1 (j := 3) rfl rfl), (gw_2 (j := 173) rfl rfl), by decide +kernel, by decide +kernel, by decide +kernel⟩
theorem wcX1_91 : pm_cV gw RX1 91 yX3_setColumns cX3_setColumns 4 none 3 := ⟨(gw_2 (j := 211) rfl rfl), (gw_2 (j := 49) rfl rfl), (gw_2 (j := 50) rfl rfl), (gw_1 (j := 4) rfl rfl), (gw_2 (j := 51) rfl rfl), by decide +kernel, by decide +kernel, by decide +kernel⟩
theorem wcX1_94 : pm_cV gw RX1 94 yX1_markStarts cX1_markStarts 9 none 3 := ⟨(gw_2 (j := 184) rfl rfl), (gw_2 (j := 186) rfl rfl), (gw_s (q := (yX1_markStarts, 2)) (List.mem_append_left _ (List.mem_of_getElem? (i := 12) rfl))), (gw_1 (j := 6) rfl rfl), (gw_2 (j := 187) rfl rfl), by decide +kernel, by decide +kernel, by decide +kernel⟩
theorem wcX1_97 : pm_cV gw RX1 97 yX5_squeeze cX5_squeeze 9 none 2 := ⟨(gw_2 (j := 194) rfl rfl), (gw_2 (j := 84) rfl rfl), (gw_2 (j := 85) rfl rfl), (gw_1 (j := 3) rfl rfl), (gw_2 (j := 86) rfl rfl), by decide +kernel, by decide +kernel, by decide +kernel⟩
theorem wcX1_106 : pm_cV gw RX1 106 yX5_spread cX5_spread 9 none 2 := ⟨(gw_2 (j := 198) rfl rfl), (gw_2 (j := 199) rfl rfl), (gw_2 (j := 200) rfl rfl), (gw_1 (j := 3) rfl rfl), (gw_2 (j := 201) rfl rfl), by decide +kernel, by decide +kernel, by decide +kernel⟩
theorem wcX1_109 : pm_cV gw RX1 109 yX1_fillCopies cX1_fillCopies 6 none 2 := ⟨(gw_2 (j := 202) rfl rfl), (gw_2 (j := 204) rfl rfl), (gw_s (q := (yX1_fillCopies, 2)) (List.mem_append_left _ (List.mem_of_getElem? (i := 13) rfl))), (gw_1 (j := 6) rfl rfl), (gw_2 (j := 205) rfl rfl), by decide +kernel, by decide +kernel, by decide +kernel⟩
theorem wcX1_112 : pm_cV gw RX1 112 yX3_partners cX3_partners 1 (some (.int)) 0 := ⟨(gw_2 (j := 188) rfl rfl), (gw_2 (j := 189) rfl rfl), (gw_2 (j := 190) rfl rfl), (gw_1 (j := 4) rfl rfl), (gw_2 (j := 191) rfl rfl), by decide +kernel, by decide +kernel, by decide +kernel⟩
theorem wcX1_116 : pm_cV gw RX1 116 yX3_keep cX3_keep 3 none 2 := ⟨(gw_2 (j := 192) rfl rfl), (gw_2 (j := 72) rfl rfl), (gw_2 (j := 73) rfl rfl), (gw_1 (j := 4) rfl rfl), (gw_2 (j := 74) rfl rfl), by decide +kernel, by decide +kernel, by decide +kernel⟩
theorem wcX1_122 : pm_cV gw RX1 122 yX3_discard cX3_discard 1 none 0 := ⟨(gw_2 (j := 193) rfl rfl), (gw_2 (j := 76) rfl rfl), (gw_2 (j := 77) rfl rfl), (gw_1 (j := 4) rfl rfl), (gw_2 (j := 78) rfl rfl), by decide +kernel, by decide +kernel, by decide +kernel⟩
theorem wcX1_129 : pm_cV gw RX1 129 yX3_become cX3_become 2 none 1 := ⟨(gw_2 (j := 206) rfl rfl), (gw_2 (j := 175) rfl rfl), (gw_2 (j := 176) rfl rfl), (gw_1 (j := 4) rfl rfl), (gw_2 (j := 177) rfl rfl), by decide +kernel, by decide +kernel, by decide +kernel⟩
theorem wcX2_15 : pm_cV gw RX2 15 yX5_lay cX5_lay 4 (some (.int)) 1 := ⟨(gw_2 (j := 40) rfl rfl), (gw_2 (j := 41) rfl rfl), (gw_2 (j := 42) rfl rfl), (gw_1 (j := 3) rfl rfl), (gw_2 (j := 43) rfl rfl), by decide +kernel, by decide +kernel, by decide +kernel⟩
theorem wcX2_21 : pm_cV gw RX2 21 yX5_sort cX5_sort 6 none 2 := ⟨(gw_2 (j := 104) rfl rfl), (gw_2 (j := 105) rfl rfl), (gw_2 (j := 106) rfl rfl), (gw_1 (j := 3) rfl rfl), (gw_2 (j := 107) rfl rfl), by decide +kernel, by decide +kernel, by decide +kernel⟩
theorem wcX2_25 : pm_cV gw RX2 25 yX5_takeAway cX5_takeAway 5 none 2 := ⟨(gw_2 (j := 89) rfl rfl), (gw_2 (j := 90) rfl rfl), (gw_2 (j := 91) rfl rfl), (gw_1 (j := 3) rfl rfl), (gw_2 (j := 92) rfl rfl), by decide +kernel, by decide +kernel, by decide +kernel⟩
theorem wcX2_29 : pm_cV gw RX2 29 yX5_read cX5_read 2 (some (.object "BlindTables$Row")) 1 := ⟨(gw_2 (j := 56) rfl rfl), (gw_2 (j := 57) rfl rfl), (gw_2 (j := 58) rfl rfl), (gw_1 (j := 3) rfl rfl), (gw_2 (j := 59) rfl rfl), by decide +kernel, by decide +kernel, by decide +kernel⟩
theorem wcX2_33 : pm_cV gw RX2 33 yX3_column cX3_column 2 (some (.int)) 1 := ⟨(gw_2 (j := 64) rfl rfl), (gw_2 (j := 65) rfl rfl), (gw_2 (j := 66) rfl rfl), (gw_1 (j := 4) rfl rfl), (gw_2 (j := 67) rfl rfl), by decide +kernel, by decide +kernel, by decide +kernel⟩
theorem wcX2_39 : pm_cS gw RX2 39 yX2_matches cX2_matches 3 (some (.boolean)) 3 := ⟨(gw_2 (j := 68) rfl rfl), (gw_2 (j := 69) rfl rfl), (gw_1 (j := 5) rfl rfl), (gw_2 (j := 70) rfl rfl), rfl, by decide +kernel, by decide +kernel, by decide +kernel⟩
theorem wcX2_43 : pm_cV gw RX2 43 yX3_keep cX3_keep 3 none 2 := ⟨(gw_2 (j := 71) rfl rfl), (gw_2 (j := 72) rfl rfl), (gw_2 (j := 73) rfl rfl), (gw_1 (j := 4) rfl rfl), (gw_2 (j := 74) rfl rfl), by decide +kernel, by decide +kernel, by decide +kernel⟩
theorem wcX2_46 : pm_cV gw RX2 46 yX3_discard cX3_discard 1 none 0 := ⟨(gw_2 (j := 75) rfl rfl), (gw_2 (j := 76) rfl rfl), (gw_2 (j := 77) rfl rfl), (gw_1 (j := 4) rfl rfl), (gw_2 (j := 78) rfl rfl), by decide +kernel, by decide +kernel, by decide +kernel⟩
theorem wcX2_49 : pm_cV gw RX2 49 yX5_write cX5_write 3 none 2 := ⟨(gw_2 (j := 79) rfl rfl), (gw_2 (j := 80) rfl rfl), (gw_2 (j := 81) rfl rfl), (gw_1 (j := 3) rfl rfl), (gw_2 (j := 82) rfl rfl), by decide +kernel, by decide +kernel, by decide +kernel⟩
theorem wcX2_53 : pm_cV gw RX2 53 yX5_squeeze cX5_squeeze 9 none 2 := ⟨(gw_2 (j := 83) rfl rfl), (gw_2 (j := 84) rfl rfl), (gw_2 (j := 85) rfl rfl), (gw_1 (j := 3) rfl rfl), (gw_2 (j := 86) rfl rfl), by decide +kernel, by decide +kernel, by decide +kernel⟩
theorem wcX2_56 : pm_cV gw RX2 56 yX3_setColumns cX3_setColumns 4 none 3 := ⟨(gw_2 (j := 99) rfl rfl), (gw_2 (j := 49) rfl rfl), (gw_2 (j := 50) rfl rfl), (gw_1 (j := 4) rfl rfl), (gw_2 (j := 51) rfl rfl), by decide +kernel, by decide +kernel, by decide +kernel⟩
theorem wcX2_60 : pm_cV gw RX2 60 yX2_keepFirstOfEach cX2_keepFirstOfEach 6 (some (.int)) 1 := ⟨(gw_2 (j := 119) rfl rfl), (gw_2 (j := 121) rfl rfl), (gw_s (q := (yX2_keepFirstOfEach, 1)) (List.mem_append_left _ (List.mem_of_getElem? (i := 5) rfl))), (gw_1 (j := 5) rfl rfl), (gw_2 (j := 122) rfl rfl), by decide +kernel, by decide +kernel, by decide +kernel⟩
theorem wcX2_63 : pm_cV gw RX2 63 yX3_sameColumns cX3_sameColumns 2 (some (.boolean)) 1 := ⟨(gw_2 (j := 123) rfl rfl), (gw_2 (j := 124) rfl rfl), (gw_2 (j := 125) rfl rfl), (gw_1 (j := 4) rfl rfl), (gw_2 (j := 126) rfl rfl), by decide +kernel, by decide +kernel, by decide +kernel⟩
theorem wcX2_67 : pm_cV gw RX2 67 yX5_layByKey cX5_layByKey 7 (some (.int)) 4 := ⟨(gw_2 (j := 131) rfl rfl), (gw_2 (j := 132) rfl rfl), (gw_2 (j := 133) rfl rfl), (gw_1 (j := 3) rfl rfl), (gw_2 (j := 134) rfl rfl), by decide +kernel, by decide +kernel, by decide +kernel⟩
theorem wcX2_71 : pm_cV gw RX2 71 yX2_addUpForth cX2_addUpForth 9 (some (.int)) 2 := ⟨(gw_2 (j := 136) rfl rfl), (gw_2 (j := 138) rfl rfl), (gw_s (q := (yX2_addUpForth, 1)) (List.mem_append_left _ (List.mem_of_getElem? (i := 6) rfl))), (gw_1 (j := 5) rfl rfl), (gw_2 (j := 139) rfl rfl), by decide +kernel, by decide +kernel, by decide +kernel⟩
theorem wcX2_75 : pm_cV gw RX2 75 yX2_keepLastOfEach cX2_keepLastOfEach 5 none 1 := ⟨(gw_2 (j := 140) rfl rfl), (gw_2 (j := 142) rfl rfl), (gw_s (q := (yX2_keepLastOfEach, 1)) (List.mem_append_left _ (List.mem_of_getElem? (i := 7) rfl))), (gw_1 (j := 5) rfl rfl), (gw_2 (j := 143) rfl rfl), by decide +kernel, by decide +kernel, by decide +kernel⟩
theorem wcX2_83 : pm_cV gw RX2 83 yX2_keepUndropped cX2_keepUndropped 8 (some (.int)) 1 := ⟨(gw_2 (j := 238) rfl rfl), (gw_3 (j := 0) rfl rfl), (gw_s (q := (yX2_keepUndropped, 1)) (List.mem_append_right _ (List.mem_append_left _ (List.mem_of_getElem? (i := 0) rfl)))), (gw_1 (j := 5) rfl rfl), (gw_3 (j := 1) rfl rfl), by decide +kernel, by decide +kernel, by decide +kernel⟩
theorem wcX3_47 : pm_cV gw RX3 47 yX3_setColumns cX3_setColumns 4 none 3 := ⟨(gw_2 (j := 178) rfl rfl), (gw_2 (j := 49) rfl rfl), (gw_2 (j := 50) rfl rfl), (gw_1 (j := 4) rfl rfl), (gw_2 (j := 51) rfl rfl), by decide +kernel, by decide +kernel, by decide +kernel⟩
theorem wcX3_54 : pm_cV gw RX3 54 yX3_sortBy cX3_sortBy 4 none 3 := ⟨(gw_2 (j := 179) rfl rfl), (gw_2 (j := 53) rfl rfl), (gw_2 (j := 54) rfl rfl), (gw_1 (j := 4) rfl rfl), (gw_2 (j := 55) rfl rfl), by decide +kernel, by decide +kernel, by decide +kernel⟩
theorem wcX5_25 : Cond.methodLinkNest RX5 25 yX3_init "BlindTables" ∈ bt_nw ∧ Cond.instanceMethod yX3_init ∈ gw ∧ Cond.initialized yX3_init.cls ∈ gw ∧ Cond.code yX3_init cX3_init 1 none ∈ gw ∧ yX3_init.name = "<init>" ∧ yX3_init.cls ≠ "java/lang/invoke/MethodHandle" ∧ yX3_init.cls ≠ "java/lang/invoke/VarHandle" ∧ (parseMethodDescriptor yX3_init.desc).map (fun d => d.parameters.length) = some 0 := ⟨List.mem_of_getElem? (i := 0) rfl, (gw_1 (j := 56) rfl rfl), (gw_1 (j := 4) rfl rfl), (gw_1 (j := 57) rfl rfl), rfl, by decide +kernel, by decide +kernel, by decide +kernel⟩
theorem wcX5_26 : pm_cV gw RX5 26 yX5_note cX5_note 2 none 1 := ⟨(gw_2 (j := 60) rfl rfl), (gw_2 (j := 62) rfl rfl), (gw_s (q := (yX5_note, 3)) (List.mem_append_left _ (List.mem_of_getElem? (i := 3) rfl))), (gw_1 (j := 3) rfl rfl), (gw_2 (j := 63) rfl rfl), by decide +kernel, by decide +kernel, by decide +kernel⟩
theorem wcX5_30 : pm_cV gw RX5 30 yX5_at cX5_at 2 (some (.object "BlindTables$Row")) 1 := ⟨(gw_2 (j := 44) rfl rfl), (gw_2 (j := 46) rfl rfl), (gw_s (q := (yX5_at, 3)) (List.mem_append_left _ (List.mem_of_getElem? (i := 2) rfl))), (gw_1 (j := 3) rfl rfl), (gw_2 (j := 47) rfl rfl), by decide +kernel, by decide +kernel, by decide +kernel⟩
theorem wcX5_34 : pm_cV gw RX5 34 yX5_read cX5_read 2 (some (.object "BlindTables$Row")) 1 := ⟨(gw_2 (j := 87) rfl rfl), (gw_2 (j := 57) rfl rfl), (gw_2 (j := 58) rfl rfl), (gw_1 (j := 3) rfl rfl), (gw_2 (j := 59) rfl rfl), by decide +kernel, by decide +kernel, by decide +kernel⟩
theorem wcX5_37 : pm_cV gw RX5 37 yX3_become cX3_become 2 none 1 := ⟨(gw_2 (j := 174) rfl rfl), (gw_2 (j := 175) rfl rfl), (gw_2 (j := 176) rfl rfl), (gw_1 (j := 4) rfl rfl), (gw_2 (j := 177) rfl rfl), by decide +kernel, by decide +kernel, by decide +kernel⟩
theorem wcX5_41 : pm_cV gw RX5 41 yX5_write cX5_write 3 none 2 := ⟨(gw_2 (j := 88) rfl rfl), (gw_2 (j := 80) rfl rfl), (gw_2 (j := 81) rfl rfl), (gw_1 (j := 3) rfl rfl), (gw_2 (j := 82) rfl rfl), by decide +kernel, by decide +kernel, by decide +kernel⟩
theorem wcX5_59 : pm_cV gw RX5 59 yX3_setColumns cX3_setColumns 4 none 3 := ⟨(gw_2 (j := 48) rfl rfl), (gw_2 (j := 49) rfl rfl), (gw_2 (j := 50) rfl rfl), (gw_1 (j := 4) rfl rfl), (gw_2 (j := 51) rfl rfl), by decide +kernel, by decide +kernel, by decide +kernel⟩
theorem wcX5_72 : pm_cV gw RX5 72 yX3_sortBy cX3_sortBy 4 none 3 := ⟨(gw_2 (j := 52) rfl rfl), (gw_2 (j := 53) rfl rfl), (gw_2 (j := 54) rfl rfl), (gw_1 (j := 4) rfl rfl), (gw_2 (j := 55) rfl rfl), by decide +kernel, by decide +kernel, by decide +kernel⟩
theorem wcX5_75 : pm_cV gw RX5 75 yX3_column cX3_column 2 (some (.int)) 1 := ⟨(gw_2 (j := 135) rfl rfl), (gw_2 (j := 65) rfl rfl), (gw_2 (j := 66) rfl rfl), (gw_1 (j := 4) rfl rfl), (gw_2 (j := 67) rfl rfl), by decide +kernel, by decide +kernel, by decide +kernel⟩
theorem wcX5_85 : pm_cV gw RX5 85 yX3_discard cX3_discard 1 none 0 := ⟨(gw_2 (j := 152) rfl rfl), (gw_2 (j := 76) rfl rfl), (gw_2 (j := 77) rfl rfl), (gw_1 (j := 4) rfl rfl), (gw_2 (j := 78) rfl rfl), by decide +kernel, by decide +kernel, by decide +kernel⟩
theorem wcX5_88 : pm_cV gw RX5 88 yX0_clear cX0_clear 1 none 0 := ⟨(gw_2 (j := 93) rfl rfl), (gw_2 (j := 28) rfl rfl), (gw_2 (j := 29) rfl rfl), (gw_1 (j := 2) rfl rfl), (gw_2 (j := 30) rfl rfl), by decide +kernel, by decide +kernel, by decide +kernel⟩
theorem wcX5_91 : pm_cV gw RX5 91 yX0_hold cX0_hold 4 (some (.boolean)) 3 := ⟨(gw_2 (j := 94) rfl rfl), (gw_1 (j := 213) rfl rfl), (gw_1 (j := 214) rfl rfl), (gw_1 (j := 2) rfl rfl), (gw_1 (j := 215) rfl rfl), by decide +kernel, by decide +kernel, by decide +kernel⟩
theorem wcX5_95 : pm_cS gw RX5 95 yX5_widest cX5_widest 2 (some (.int)) 1 := ⟨(gw_2 (j := 108) rfl rfl), (gw_2 (j := 109) rfl rfl), (gw_1 (j := 3) rfl rfl), (gw_2 (j := 110) rfl rfl), rfl, by decide +kernel, by decide +kernel, by decide +kernel⟩
theorem wcX5_98 : pm_cV gw RX5 98 yX5_sortPass cX5_sortPass 11 none 5 := ⟨(gw_2 (j := 111) rfl rfl), (gw_2 (j := 113) rfl rfl), (gw_s (q := (yX5_sortPass, 3)) (List.mem_append_left _ (List.mem_of_getElem? (i := 4) rfl))), (gw_1 (j := 3) rfl rfl), (gw_2 (j := 114) rfl rfl), by decide +kernel, by decide +kernel, by decide +kernel⟩
theorem wcX5_102 : pm_cV gw RX5 102 yX3_isBehind cX3_isBehind 2 (some (.boolean)) 1 := ⟨(gw_2 (j := 115) rfl rfl), (gw_2 (j := 116) rfl rfl), (gw_2 (j := 117) rfl rfl), (gw_1 (j := 4) rfl rfl), (gw_2 (j := 118) rfl rfl), by decide +kernel, by decide +kernel, by decide +kernel⟩
end
section
/-! Words for the state: rows, bags, the store. Row: a b c key side lefts rights s1 s2 s3 live back forth (0 .. 12). -/
def rw_fs (f : Nat → Int32) : List Value := [.int (f 0), .int (f 1), .int (f 2), .int (f 3), .int (f 4), .int (f 5), .int (f 6), .int (f 7), .int (f 8), .int (f 9), .int (f 10), .int (f 11), .int (f 12)]
theorem rw_set (f : Nat → Int32) (x : Int32) {k : Nat} (hk : k < 13) : (rw_fs f).set k (.int x) = rw_fs (upd f k x) := by
  rcases (show k = 0 ∨ k = 1 ∨ k = 2 ∨ k = 3 ∨ k = 4 ∨ k = 5 ∨ k = 6 ∨ k = 7 ∨ k = 8 ∨ k = 9 ∨ k = 10 ∨ k = 11 ∨ k = 12 by omega) with rfl | rfl | rfl | rfl | rfl | rfl | rfl | rfl | rfl | rfl | rfl | rfl | rfl <;> rfl
theorem rw_ext {f g : Nat → Int32} (h : ∀ k, k < 13 → f k = g k) : rw_fs f = rw_fs g := by
  unfold rw_fs
  rw [h 0 (by decide), h 1 (by decide), h 2 (by decide), h 3 (by decide), h 4 (by decide), h 5 (by decide), h 6 (by decide), h 7 (by decide), h 8 (by decide), h 9 (by decide), h 10 (by decide), h 11 (by decide), h 12 (by decide)]
theorem pm_same (h : pm_H) (a : Nat) (c : pm_C) : va_up h a c a = c := by simp [va_up]
theorem pm_ne {h : pm_H} {a b : Nat} {c c' : pm_C} (hn : a ≠ b) (ha : h a = c) : va_up h b c' a = c := by simp [va_up, hn, ha]
theorem pm_up2 (h : pm_H) (a : Nat) (c c' : pm_C) : va_up (va_up h a c) a c' = va_up h a c' := by
  funext k
  by_cases hk : k = a <;> simp [va_up, hk]
abbrev rw_T : Type := Nat → Int32
def rw_cols (x y z : Int32) (f : rw_T) : rw_T := upd (upd (upd f 0 x) 1 y) 2 z
def rw_sort (x y z : Int32) (f : rw_T) : rw_T := upd (upd (upd f 7 x) 8 y) 9 z
def rw_col (k : Int32) (f : rw_T) : Int32 := if k = 0 then f 0 else if k = 1 then f 1 else f 2
def rw_keep (p r : Int32) (f : rw_T) : rw_T := upd (upd (upd f 10 1) 11 (p - r)) 12 0
def rw_partners (f : rw_T) : Int32 := if f 4 = 0 then f 6 else f 5
def rw_disc (f : rw_T) : rw_T := upd (upd (upd f 10 0) 11 0) 12 0
def rw_gt (f g : rw_T) : Bool := if f 7 = g 7 then (if f 8 = g 8 then decide (g 9 < f 9) else decide (g 8 < f 8)) else decide (g 7 < f 7)
def b2i (b : Bool) : Int32 := if b = true then 1 else 0
/-- the trace has an end -/
def tk (l : List Int32) : List Int32 := l.take 14688
theorem tk_app (l k : List Int32) : tk (tk l ++ k) = tk (l ++ k) := by
  unfold tk
  rw [List.take_append, List.take_append, List.take_take, Nat.min_self, List.length_take]
  congr 2
  omega
theorem tk_len (l : List Int32) : (tk l).length ≤ 14688 := by
  unfold tk
  rw [List.length_take]
  omega
/-- the store: its cell, its places, its trace, its rows; ix p is the number of the row that lies at place p -/
def so_at (n : Nat) (h : pm_H) (ix : Nat → Nat) (R : Nat → rw_T) (ts : List Int32) : Prop :=
  93 < n ∧ h 15 = pm_O cStore [.ref 16, .ref 17, .int (nI ts.length)] ∧ (∃ pf, h 16 = pm_R tRow 76 pf ∧ ∀ i, i < 76 → pf i = some (18 + ix i)) ∧ (∃ tf, h 17 = pm_I tInt 14688 tf ∧ ∀ i, i < ts.length → ts[i]? = some (tf i)) ∧ (∀ i, i < 76 → ix i < 76) ∧ (∀ j, j < 76 → h (18 + j) = pm_O cRow (rw_fs (R j)) ∧ (R j 10 = 0 ∨ R j 10 = 1)) ∧ ts.length ≤ 14688
def so_fr (h h' : pm_H) : Prop := ∀ q, q < 15 ∨ 93 < q → h' q = h q
theorem so_fr.rf {h : pm_H} : so_fr h h := fun _ _ => rfl
theorem so_fr.tr {h h' h'' : pm_H} (a : so_fr h h') (b : so_fr h' h'') : so_fr h h'' := fun q hq => (b q hq).trans (a q hq)
theorem so_at.row {n : Nat} {h : pm_H} {ix : Nat → Nat} {R : Nat → rw_T} {ts : List Int32} (H : so_at n h ix R ts) {j : Nat} (hj : j < 76) : h (18 + j) = pm_O cRow (rw_fs (R j)) := (H.2.2.2.2.2.1 j hj).1
/-- a row of the store is written -/
theorem so_at.mod {n : Nat} {h : pm_H} {ix : Nat → Nat} {R : Nat → rw_T} {ts : List Int32} (H : so_at n h ix R ts) {j : Nat} (hj : j < 76) {f : rw_T} (hf : f 10 = 0 ∨ f 10 = 1) : so_at n (va_up h (18 + j) (pm_O cRow (rw_fs f))) ix (va_up R j f) ts := by
  obtain ⟨h1, h2, ⟨pf, h3, h3'⟩, ⟨tf, h4, h4'⟩, h5, h6, h7⟩ := H
  refine ⟨h1, pm_ne (by omega) h2, ⟨pf, pm_ne (by omega) h3, h3'⟩, ⟨tf, pm_ne (by omega) h4, h4'⟩, h5, fun k hk => ?_, h7⟩
  by_cases e : k = j
  · subst e
    rw [pm_same]
    simp [va_up, hf]
  · have : 18 + k ≠ 18 + j := by omega
    have e2 : va_up R j f k = R k := by simp [va_up, e]
    rw [e2, pm_ne this (h6 k hk).1]
    exact ⟨rfl, (h6 k hk).2⟩
theorem so_fr.row {h : pm_H} {j : Nat} (hj : j < 76) (c : pm_C) : so_fr h (va_up h (18 + j) c) := fun q hq => pm_ne (by omega) rfl
/-- the store by its places: L p is the row that lies at place p -/
def so_L (n : Nat) (h : pm_H) (L : Nat → rw_T) (ts : List Int32) : Prop :=
  ∃ ix R, so_at n h ix R ts ∧ (∀ i j, i < 76 → j < 76 → ix i = ix j → i = j) ∧ ∀ i, i < 76 → L i = R (ix i)
/-- a row is read, changed and written back -/
theorem so_L.cl {n : Nat} {h : pm_H} {ix : Nat → Nat} {R : Nat → rw_T} {L : Nat → rw_T} {ts : List Int32} {p : Nat} {f : rw_T} (H : so_at n h ix (va_up R (ix p) f) ts) (hi : ∀ i j, i < 76 → j < 76 → ix i = ix j → i = j) (hL : ∀ i, i < 76 → L i = R (ix i)) (hp : p < 76) : so_L n h (va_up L p f) ts := by
  refine ⟨ix, _, H, hi, fun i hi' => ?_⟩
  by_cases e : i = p
  · subst e; simp [va_up]
  · have : ix i ≠ ix p := fun z => e (hi i p hi' hp z)
    simp [va_up, e, this, hL i hi']
/-- two rows change places -/
theorem so_L.sw {n : Nat} {h : pm_H} {ix : Nat → Nat} {R : Nat → rw_T} {L : Nat → rw_T} {ts : List Int32} {p q : Nat} (H : so_at n h (va_up (va_up ix p (ix q)) q (ix p)) R ts) (hi : ∀ i j, i < 76 → j < 76 → ix i = ix j → i = j) (hL : ∀ i, i < 76 → L i = R (ix i)) (hp : p < 76) (hq : q < 76) : so_L n h (nw_sw p q L) ts := by
  refine ⟨_, R, H, fun i j h1 h2 e => ?_, fun i hi' => ?_⟩
  · have hs : ∀ i, va_up (va_up ix p (ix q)) q (ix p) i = ix (if i = q then p else if i = p then q else i) := fun i => by
      simp only [va_up]
      by_cases a : i = q
      · simp [a]
      · rw [if_neg a, if_neg a]
        by_cases b : i = p <;> simp [b]
    have hb : ∀ i, i < 76 → (if i = q then p else if i = p then q else i) < 76 := fun i h => by
      split
      · exact hp
      · split
        · exact hq
        · exact h
    rw [hs, hs] at e
    have := hi _ _ (hb i h1) (hb j h2) e
    repeat' (split at this)
    all_goals omega
  · simp only [va_up, nw_sw]
    by_cases a : i = q
    · subst a
      by_cases b : i = p
      · subst b; simp [hL i hi']
      · simp [b, hL p hp]
    · by_cases b : i = p
      · subst b; simp [a, hL q hq]
      · simp [a, b, hL i hi']
/-- rows outside the store: c of them, by their columns, in the cells b .. b + 3 -/
abbrev bg_T : Type := Int32 × Int32 × Int32
def bg_at (n : Nat) (h : pm_H) (b len : Nat) (l : List bg_T) : Prop :=
  b + 3 < n ∧ l.length ≤ len ∧ len ≤ 24 ∧ h b = pm_O cBag [.ref (b + 1), .ref (b + 2), .ref (b + 3), .int (nI l.length)] ∧ ∃ f1 f2 f3, h (b + 1) = pm_I tInt len f1 ∧ h (b + 2) = pm_I tInt len f2 ∧ h (b + 3) = pm_I tInt len f3 ∧ ∀ r, r < l.length → l[r]? = some (f1 r, f2 r, f3 r)
theorem bg_at.fr {n n' : Nat} {h h' : pm_H} {b len : Nat} {l : List bg_T} (H : bg_at n h b len l) (hn : n ≤ n') (hf : ∀ q, b ≤ q → q ≤ b + 3 → h' q = h q) : bg_at n' h' b len l := by
  obtain ⟨h1, h2, h3, h4, f1, f2, f3, h5, h6, h7, h8⟩ := H
  exact ⟨by omega, h2, h3, by rw [hf b (by omega) (by omega)]; exact h4, f1, f2, f3, by rw [hf (b + 1) (by omega) (by omega)]; exact h5, by rw [hf (b + 2) (by omega) (by omega)]; exact h6, by rw [hf (b + 3) (by omega) (by omega)]; exact h7, h8⟩
end
section
/-! Rows of the store: contracts of the methods of a row. -/
section RWP
variable {l : Launch} {own nm : String} {cc : ByteArray} {nL : Nat} {ret : Option FieldType} {R : Room} {G : pm_Gt} {cells slots pc q n : Nat} {ls : List (Option Value)} {st : List Value} {h : pm_H}
theorem rw_decl : ∀ k, k < 13 → (TX3 k).1 = RX3 := by decide +kernel
theorem rw_fin : ∀ k, k < 13 → (TX3 k).2.2.2 = false := by decide +kernel
theorem rw_int : ∀ k, k < 13 → k ≠ 10 → tyX3 k = .int := by decide +kernel
theorem rw_boo {x : Int32} (h : x = 0 ∨ x = 1) : narrow .boolean (.int x) = .int x ∧ fits .boolean (.int x) = true := by
  rcases h with rfl | rfl <;> exact ⟨by decide, by decide⟩
theorem rw_put (K : pm_K l bt_cl bt_tl gw bt_nw own nm cc nL ret R G) {index k a : Nat} {f : rw_T} {x : Int32} (hk : k < 13) (hk10 : k ≠ 10) (hlink : Cond.fieldLink own index RX3 (TX3 k).2.1 (TX3 k).2.2.1 ∈ gw) (ha : a < n) (hcell : h a = pm_O cRow (rw_fs f)) (d : decode cc pc = .ok (.putfield index, 3)) (hq : pc + 3 = q) (kk : G cells slots q ls st n (va_up h a (pm_O cRow (rw_fs (upd f k x))))) : G cells slots pc ls (.int x :: .ref a :: st) n h :=
  pm_put K inX3 tyX3 tyX3_ok nmX3 rfl hk hlink (rw_decl k hk) (rw_fin k hk) (fun _ => by rw [rw_int k hk hk10]; exact ⟨rfl, rfl⟩) ha hcell hk (rw_set f x hk) d hq kk
theorem rw_putU (K : pm_K l bt_cl bt_tl gw bt_nw own nm cc nL ret R G) {index k a : Nat} {f : rw_T} {x : Int32} (hk : k < 13) (hk10 : k ≠ 10) (hlink : Cond.fieldLink own index RX3 (TX3 k).2.1 (TX3 k).2.2.1 ∈ gw) (ha : a < n) (d : decode cc pc = .ok (.putfield index, 3)) (hq : pc + 3 = q) (kk : G cells slots q ls st n (va_up h a (pm_O cRow (rw_fs (upd f k x))))) : G cells slots pc ls (.int x :: .ref a :: st) n (va_up h a (pm_O cRow (rw_fs f))) :=
  rw_put K hk hk10 hlink ha (pm_same _ _ _) d hq (by rw [pm_up2]; exact kk)
theorem rw_putB (K : pm_K l bt_cl bt_tl gw bt_nw own nm cc nL ret R G) {index a : Nat} {f : rw_T} {x : Int32} (hlink : Cond.fieldLink own index RX3 (TX3 10).2.1 (TX3 10).2.2.1 ∈ gw) (ha : a < n) (hcell : h a = pm_O cRow (rw_fs f)) (hx : x = 0 ∨ x = 1) (d : decode cc pc = .ok (.putfield index, 3)) (hq : pc + 3 = q) (kk : G cells slots q ls st n (va_up h a (pm_O cRow (rw_fs (upd f 10 x))))) : G cells slots pc ls (.int x :: .ref a :: st) n h :=
  pm_put K inX3 tyX3 tyX3_ok nmX3 rfl (k := 10) (by decide) hlink rfl rfl (fun _ => rw_boo hx) ha hcell (Nat.le_of_ble_eq_true rfl) (rw_set f x (by decide)) d hq kk
theorem rw_putBU (K : pm_K l bt_cl bt_tl gw bt_nw own nm cc nL ret R G) {index a : Nat} {f : rw_T} {x : Int32} (hlink : Cond.fieldLink own index RX3 (TX3 10).2.1 (TX3 10).2.2.1 ∈ gw) (ha : a < n) (hx : x = 0 ∨ x = 1) (d : decode cc pc = .ok (.putfield index, 3)) (hq : pc + 3 = q) (kk : G cells slots q ls st n (va_up h a (pm_O cRow (rw_fs (upd f 10 x))))) : G cells slots pc ls (.int x :: .ref a :: st) n (va_up h a (pm_O cRow (rw_fs f))) :=
  rw_putB K hlink ha (pm_same _ _ _) hx d hq (by rw [pm_up2]; exact kk)
end RWP
set_option maxRecDepth 100000 in
theorem c_setColumns (l : Launch) {n : Nat} {h : pm_H} {a : Nat} {f : rw_T} (ha : a < n) (hc : h a = pm_O cRow (rw_fs f)) (x y z : Int32) : bM0 l yX3_setColumns cX3_setColumns 4 none 0 [.ref a, .int x, .int y, .int z] n h (fun r h' => r = none ∧ h' = va_up h a (pm_O cRow (rw_fs (rw_cols x y z f)))) := by
  refine pm_enter rfl (Nat.le_of_ble_eq_true rfl) (fun G K Z => ?_)
  refine pm_aload_n K dX3_setColumns_0 (q := 1) rfl rfl rfl ?_
  refine pm_iload_n K dX3_setColumns_1 (q := 2) rfl rfl rfl ?_
  refine rw_put K (k := 0) (by decide) (by decide) wlX3_7 ha hc dX3_setColumns_2 (q := 5) rfl ?_
  refine pm_aload_n K dX3_setColumns_5 (q := 6) rfl rfl rfl ?_
  refine pm_iload_n K dX3_setColumns_6 (q := 7) rfl rfl rfl ?_
  refine rw_putU K (k := 1) (by decide) (by decide) wlX3_13 ha dX3_setColumns_7 (q := 10) rfl ?_
  refine pm_aload_n K dX3_setColumns_10 (q := 11) rfl rfl rfl ?_
  refine pm_iload_n K dX3_setColumns_11 (q := 12) rfl rfl rfl ?_
  refine rw_putU K (k := 2) (by decide) (by decide) wlX3_16 ha dX3_setColumns_12 (q := 15) rfl ?_
  exact pm_vret Z dX3_setColumns_15 rfl (Nat.le_of_ble_eq_true rfl) (Nat.le_of_ble_eq_true rfl) ⟨rfl, ⟨rfl, rfl⟩⟩
set_option maxRecDepth 100000 in
theorem c_sortBy (l : Launch) {n : Nat} {h : pm_H} {a : Nat} {f : rw_T} (ha : a < n) (hc : h a = pm_O cRow (rw_fs f)) (x y z : Int32) : bM0 l yX3_sortBy cX3_sortBy 4 none 0 [.ref a, .int x, .int y, .int z] n h (fun r h' => r = none ∧ h' = va_up h a (pm_O cRow (rw_fs (rw_sort x y z f)))) := by
  refine pm_enter rfl (Nat.le_of_ble_eq_true rfl) (fun G K Z => ?_)
  refine pm_aload_n K dX3_sortBy_0 (q := 1) rfl rfl rfl ?_
  refine pm_iload_n K dX3_sortBy_1 (q := 2) rfl rfl rfl ?_
  refine rw_put K (k := 7) (by decide) (by decide) wlX3_19 ha hc dX3_sortBy_2 (q := 5) rfl ?_
  refine pm_aload_n K dX3_sortBy_5 (q := 6) rfl rfl rfl ?_
  refine pm_iload_n K dX3_sortBy_6 (q := 7) rfl rfl rfl ?_
  refine rw_putU K (k := 8) (by decide) (by decide) wlX3_22 ha dX3_sortBy_7 (q := 10) rfl ?_
  refine pm_aload_n K dX3_sortBy_10 (q := 11) rfl rfl rfl ?_
  refine pm_iload_n K dX3_sortBy_11 (q := 12) rfl rfl rfl ?_
  refine rw_putU K (k := 9) (by decide) (by decide) wlX3_25 ha dX3_sortBy_12 (q := 15) rfl ?_
  exact pm_vret Z dX3_sortBy_15 rfl (Nat.le_of_ble_eq_true rfl) (Nat.le_of_ble_eq_true rfl) ⟨rfl, ⟨rfl, rfl⟩⟩
set_option maxRecDepth 100000 in
theorem c_keep (l : Launch) {n : Nat} {h : pm_H} {a : Nat} {f : rw_T} (ha : a < n) (hc : h a = pm_O cRow (rw_fs f)) (x y : Int32) : bM0 l yX3_keep cX3_keep 3 none 0 [.ref a, .int x, .int y] n h (fun r h' => r = none ∧ h' = va_up h a (pm_O cRow (rw_fs (rw_keep x y f)))) := by
  refine pm_enter rfl (Nat.le_of_ble_eq_true rfl) (fun G K Z => ?_)
  refine pm_aload_n K dX3_keep_0 (q := 1) rfl rfl rfl ?_
  refine pm_ic1 K dX3_keep_1 (q := 2) rfl ?_
  refine rw_putB K wlX3_28 ha hc (Or.inr rfl) dX3_keep_2 (q := 5) rfl ?_
  refine pm_aload_n K dX3_keep_5 (q := 6) rfl rfl rfl ?_
  refine pm_iload_n K dX3_keep_6 (q := 7) rfl rfl rfl ?_
  refine pm_iload_n K dX3_keep_7 (q := 8) rfl rfl rfl ?_
  refine pm_isub K dX3_keep_8 (q := 9) rfl ?_
  refine rw_putU K (k := 11) (by decide) (by decide) wlX3_32 ha dX3_keep_9 (q := 12) rfl ?_
  refine pm_aload_n K dX3_keep_12 (q := 13) rfl rfl rfl ?_
  refine pm_ic0 K dX3_keep_13 (q := 14) rfl ?_
  refine rw_putU K (k := 12) (by decide) (by decide) wlX3_35 ha dX3_keep_14 (q := 17) rfl ?_
  exact pm_vret Z dX3_keep_17 rfl (Nat.le_of_ble_eq_true rfl) (Nat.le_of_ble_eq_true rfl) ⟨rfl, ⟨rfl, rfl⟩⟩
set_option maxRecDepth 100000 in
theorem c_discard (l : Launch) {n : Nat} {h : pm_H} {a : Nat} {f : rw_T} (ha : a < n) (hc : h a = pm_O cRow (rw_fs f)) : bM0 l yX3_discard cX3_discard 1 none 0 [.ref a] n h (fun r h' => r = none ∧ h' = va_up h a (pm_O cRow (rw_fs (rw_disc f)))) := by
  refine pm_enter rfl (Nat.le_of_ble_eq_true rfl) (fun G K Z => ?_)
  refine pm_aload_n K dX3_discard_0 (q := 1) rfl rfl rfl ?_
  refine pm_ic0 K dX3_discard_1 (q := 2) rfl ?_
  refine rw_putB K wlX3_28 ha hc (Or.inl rfl) dX3_discard_2 (q := 5) rfl ?_
  refine pm_aload_n K dX3_discard_5 (q := 6) rfl rfl rfl ?_
  refine pm_ic0 K dX3_discard_6 (q := 7) rfl ?_
  refine rw_putU K (k := 11) (by decide) (by decide) wlX3_32 ha dX3_discard_7 (q := 10) rfl ?_
  refine pm_aload_n K dX3_discard_10 (q := 11) rfl rfl rfl ?_
  refine pm_ic0 K dX3_discard_11 (q := 12) rfl ?_
  refine rw_putU K (k := 12) (by decide) (by decide) wlX3_35 ha dX3_discard_12 (q := 15) rfl ?_
  exact pm_vret Z dX3_discard_15 rfl (Nat.le_of_ble_eq_true rfl) (Nat.le_of_ble_eq_true rfl) ⟨rfl, ⟨rfl, rfl⟩⟩
set_option maxRecDepth 100000 in
theorem c_column (l : Launch) {n : Nat} {h : pm_H} {a : Nat} {f : rw_T} (ha : a < n) (hc : h a = pm_O cRow (rw_fs f)) (k : Int32) : bM0 l yX3_column cX3_column 2 (some (.int)) 0 [.ref a, .int k] n h (fun r h' => r = some (.int (rw_col k f)) ∧ h' = h) := by
  refine pm_enter rfl (Nat.le_of_ble_eq_true rfl) (fun G K Z => ?_)
  refine pm_iload_n K dX3_column_0 (q := 1) rfl rfl rfl ?_
  refine pm_if_ne K dX3_column_1 (tgt := 11) (q := 4) rfl rfl (fun hx => ?_) (fun hx => ?_)
  · refine pm_iload_n K dX3_column_11 (q := 12) rfl rfl rfl ?_
    refine pm_ic1 K dX3_column_12 (q := 13) rfl ?_
    refine pm_icmp_ne K dX3_column_13 (tgt := 23) (q := 16) rfl rfl (fun hy => ?_) (fun hy => ?_)
    · refine pm_aload_n K dX3_column_23 (q := 24) rfl rfl rfl ?_
      refine pm_get K inX3 rfl (k := 2) (by decide) wlX3_16 rfl ha hc rfl dX3_column_24 (q := 27) rfl ?_
      exact pm_iret Z dX3_column_27 rfl rfl (Nat.le_of_ble_eq_true rfl) (Nat.le_of_ble_eq_true rfl) ⟨rfl, ⟨by rw [rw_col, if_neg hx, if_neg hy], rfl⟩⟩
    · refine pm_aload_n K dX3_column_16 (q := 17) rfl rfl rfl ?_
      refine pm_get K inX3 rfl (k := 1) (by decide) wlX3_13 rfl ha hc rfl dX3_column_17 (q := 20) rfl ?_
      refine pm_goto K dX3_column_20 (q := 27) rfl ?_
      exact pm_iret Z dX3_column_27 rfl rfl (Nat.le_of_ble_eq_true rfl) (Nat.le_of_ble_eq_true rfl) ⟨rfl, ⟨by rw [rw_col, if_neg hx, if_pos hy], rfl⟩⟩
  · refine pm_aload_n K dX3_column_4 (q := 5) rfl rfl rfl ?_
    refine pm_get K inX3 rfl (k := 0) (by decide) wlX3_7 rfl ha hc rfl dX3_column_5 (q := 8) rfl ?_
    refine pm_goto K dX3_column_8 (q := 27) rfl ?_
    exact pm_iret Z dX3_column_27 rfl rfl (Nat.le_of_ble_eq_true rfl) (Nat.le_of_ble_eq_true rfl) ⟨rfl, ⟨by rw [rw_col, if_pos hx], rfl⟩⟩
set_option maxRecDepth 100000 in
theorem c_partners (l : Launch) {n : Nat} {h : pm_H} {a : Nat} {f : rw_T} (ha : a < n) (hc : h a = pm_O cRow (rw_fs f)) : bM0 l yX3_partners cX3_partners 1 (some (.int)) 0 [.ref a] n h (fun r h' => r = some (.int (rw_partners f)) ∧ h' = h) := by
  refine pm_enter rfl (Nat.le_of_ble_eq_true rfl) (fun G K Z => ?_)
  refine pm_aload_n K dX3_partners_0 (q := 1) rfl rfl rfl ?_
  refine pm_get K inX3 rfl (k := 4) (by decide) wlX3_38 rfl ha hc rfl dX3_partners_1 (q := 4) rfl ?_
  refine pm_if_ne K dX3_partners_4 (tgt := 14) (q := 7) rfl rfl (fun hx => ?_) (fun hx => ?_)
  · refine pm_aload_n K dX3_partners_14 (q := 15) rfl rfl rfl ?_
    refine pm_get K inX3 rfl (k := 5) (by decide) wlX3_44 rfl ha hc rfl dX3_partners_15 (q := 18) rfl ?_
    exact pm_iret Z dX3_partners_18 rfl rfl (Nat.le_of_ble_eq_true rfl) (Nat.le_of_ble_eq_true rfl) ⟨rfl, ⟨by rw [rw_partners, if_neg hx], rfl⟩⟩
  · refine pm_aload_n K dX3_partners_7 (q := 8) rfl rfl rfl ?_
    refine pm_get K inX3 rfl (k := 6) (by decide) wlX3_41 rfl ha hc rfl dX3_partners_8 (q := 11) rfl ?_
    refine pm_goto K dX3_partners_11 (q := 18) rfl ?_
    exact pm_iret Z dX3_partners_18 rfl rfl (Nat.le_of_ble_eq_true rfl) (Nat.le_of_ble_eq_true rfl) ⟨rfl, ⟨by rw [rw_partners, if_pos hx], rfl⟩⟩
set_option maxRecDepth 100000 in
theorem c_sameColumns (l : Launch) {n : Nat} {h : pm_H} {a : Nat} {f : rw_T} (ha : a < n) (hc : h a = pm_O cRow (rw_fs f)) {b : Nat} {g : rw_T} (hb : b < n) (hd : h b = pm_O cRow (rw_fs g)) : bM0 l yX3_sameColumns cX3_sameColumns 2 (some (.boolean)) 0 [.ref a, .ref b] n h (fun r h' => r = some (.int (b2i (decide (f 0 = g 0 ∧ f 1 = g 1 ∧ f 2 = g 2)))) ∧ h' = h) := by
  refine pm_enter rfl (Nat.le_of_ble_eq_true rfl) (fun G K Z => ?_)
  refine pm_aload_n K dX3_sameColumns_0 (q := 1) rfl rfl rfl ?_
  refine pm_get K inX3 rfl (k := 0) (by decide) wlX3_7 rfl ha hc rfl dX3_sameColumns_1 (q := 4) rfl ?_
  refine pm_aload_n K dX3_sameColumns_4 (q := 5) rfl rfl rfl ?_
  refine pm_get K inX3 rfl (k := 0) (by decide) wlX3_7 rfl hb hd rfl dX3_sameColumns_5 (q := 8) rfl ?_
  refine pm_icmp_ne K dX3_sameColumns_8 (tgt := 37) (q := 11) rfl rfl (fun h0 => ?_) (fun h0 => ?_)
  · refine pm_ic0 K dX3_sameColumns_37 (q := 38) rfl ?_
    exact pm_iret Z dX3_sameColumns_38 rfl rfl (Nat.le_of_ble_eq_true rfl) (Nat.le_of_ble_eq_true rfl) ⟨rfl, ⟨by rw [decide_eq_false (fun z => h0 z.1)]; rfl, rfl⟩⟩
  · refine pm_aload_n K dX3_sameColumns_11 (q := 12) rfl rfl rfl ?_
    refine pm_get K inX3 rfl (k := 1) (by decide) wlX3_13 rfl ha hc rfl dX3_sameColumns_12 (q := 15) rfl ?_
    refine pm_aload_n K dX3_sameColumns_15 (q := 16) rfl rfl rfl ?_
    refine pm_get K inX3 rfl (k := 1) (by decide) wlX3_13 rfl hb hd rfl dX3_sameColumns_16 (q := 19) rfl ?_
    refine pm_icmp_ne K dX3_sameColumns_19 (tgt := 37) (q := 22) rfl rfl (fun h1 => ?_) (fun h1 => ?_)
    · refine pm_ic0 K dX3_sameColumns_37 (q := 38) rfl ?_
      exact pm_iret Z dX3_sameColumns_38 rfl rfl (Nat.le_of_ble_eq_true rfl) (Nat.le_of_ble_eq_true rfl) ⟨rfl, ⟨by rw [decide_eq_false (fun z => h1 z.2.1)]; rfl, rfl⟩⟩
    · refine pm_aload_n K dX3_sameColumns_22 (q := 23) rfl rfl rfl ?_
      refine pm_get K inX3 rfl (k := 2) (by decide) wlX3_16 rfl ha hc rfl dX3_sameColumns_23 (q := 26) rfl ?_
      refine pm_aload_n K dX3_sameColumns_26 (q := 27) rfl rfl rfl ?_
      refine pm_get K inX3 rfl (k := 2) (by decide) wlX3_16 rfl hb hd rfl dX3_sameColumns_27 (q := 30) rfl ?_
      refine pm_icmp_ne K dX3_sameColumns_30 (tgt := 37) (q := 33) rfl rfl (fun h2 => ?_) (fun h2 => ?_)
      · refine pm_ic0 K dX3_sameColumns_37 (q := 38) rfl ?_
        exact pm_iret Z dX3_sameColumns_38 rfl rfl (Nat.le_of_ble_eq_true rfl) (Nat.le_of_ble_eq_true rfl) ⟨rfl, ⟨by rw [decide_eq_false (fun z => h2 z.2.2)]; rfl, rfl⟩⟩
      · refine pm_ic1 K dX3_sameColumns_33 (q := 34) rfl ?_
        refine pm_goto K dX3_sameColumns_34 (q := 38) rfl ?_
        exact pm_iret Z dX3_sameColumns_38 rfl rfl (Nat.le_of_ble_eq_true rfl) (Nat.le_of_ble_eq_true rfl) ⟨rfl, ⟨by rw [decide_eq_true ⟨h0, h1, h2⟩]; rfl, rfl⟩⟩
set_option maxRecDepth 100000 in
theorem c_isBehind (l : Launch) {n : Nat} {h : pm_H} {a : Nat} {f : rw_T} (ha : a < n) (hc : h a = pm_O cRow (rw_fs f)) {b : Nat} {g : rw_T} (hb : b < n) (hd : h b = pm_O cRow (rw_fs g)) : bM0 l yX3_isBehind cX3_isBehind 2 (some (.boolean)) 0 [.ref a, .ref b] n h (fun r h' => r = some (.int (b2i (rw_gt f g))) ∧ h' = h) := by
  refine pm_enter rfl (Nat.le_of_ble_eq_true rfl) (fun G K Z => ?_)
  refine pm_aload_n K dX3_isBehind_0 (q := 1) rfl rfl rfl ?_
  refine pm_get K inX3 rfl (k := 7) (by decide) wlX3_19 rfl ha hc rfl dX3_isBehind_1 (q := 4) rfl ?_
  refine pm_aload_n K dX3_isBehind_4 (q := 5) rfl rfl rfl ?_
  refine pm_get K inX3 rfl (k := 7) (by decide) wlX3_19 rfl hb hd rfl dX3_isBehind_5 (q := 8) rfl ?_
  refine pm_icmp_eq K dX3_isBehind_8 (tgt := 28) (q := 11) rfl rfl (fun h0 => ?_) (fun h0 => ?_)
  · refine pm_aload_n K dX3_isBehind_28 (q := 29) rfl rfl rfl ?_
    refine pm_get K inX3 rfl (k := 8) (by decide) wlX3_22 rfl ha hc rfl dX3_isBehind_29 (q := 32) rfl ?_
    refine pm_aload_n K dX3_isBehind_32 (q := 33) rfl rfl rfl ?_
    refine pm_get K inX3 rfl (k := 8) (by decide) wlX3_22 rfl hb hd rfl dX3_isBehind_33 (q := 36) rfl ?_
    refine pm_icmp_eq K dX3_isBehind_36 (tgt := 56) (q := 39) rfl rfl (fun h1 => ?_) (fun h1 => ?_)
    · refine pm_aload_n K dX3_isBehind_56 (q := 57) rfl rfl rfl ?_
      refine pm_get K inX3 rfl (k := 9) (by decide) wlX3_25 rfl ha hc rfl dX3_isBehind_57 (q := 60) rfl ?_
      refine pm_aload_n K dX3_isBehind_60 (q := 61) rfl rfl rfl ?_
      refine pm_get K inX3 rfl (k := 9) (by decide) wlX3_25 rfl hb hd rfl dX3_isBehind_61 (q := 64) rfl ?_
      refine pm_icmp_le K dX3_isBehind_64 (tgt := 71) (q := 67) rfl rfl (fun hl => ?_) (fun hl => ?_)
      · refine pm_ic0 K dX3_isBehind_71 (q := 72) rfl ?_
        exact pm_iret Z dX3_isBehind_72 rfl rfl (Nat.le_of_ble_eq_true rfl) (Nat.le_of_ble_eq_true rfl) ⟨rfl, ⟨by rw [rw_gt, if_pos h0, if_pos h1, decide_eq_false (Int32.not_lt.mpr hl)]; rfl, rfl⟩⟩
      · refine pm_ic1 K dX3_isBehind_67 (q := 68) rfl ?_
        refine pm_goto K dX3_isBehind_68 (q := 72) rfl ?_
        exact pm_iret Z dX3_isBehind_72 rfl rfl (Nat.le_of_ble_eq_true rfl) (Nat.le_of_ble_eq_true rfl) ⟨rfl, ⟨by rw [rw_gt, if_pos h0, if_pos h1, decide_eq_true (Int32.not_le.mp hl)]; rfl, rfl⟩⟩
    · refine pm_aload_n K dX3_isBehind_39 (q := 40) rfl rfl rfl ?_
      refine pm_get K inX3 rfl (k := 8) (by decide) wlX3_22 rfl ha hc rfl dX3_isBehind_40 (q := 43) rfl ?_
      refine pm_aload_n K dX3_isBehind_43 (q := 44) rfl rfl rfl ?_
      refine pm_get K inX3 rfl (k := 8) (by decide) wlX3_22 rfl hb hd rfl dX3_isBehind_44 (q := 47) rfl ?_
      refine pm_icmp_le K dX3_isBehind_47 (tgt := 54) (q := 50) rfl rfl (fun hl => ?_) (fun hl => ?_)
      · refine pm_ic0 K dX3_isBehind_54 (q := 55) rfl ?_
        exact pm_iret Z dX3_isBehind_55 rfl rfl (Nat.le_of_ble_eq_true rfl) (Nat.le_of_ble_eq_true rfl) ⟨rfl, ⟨by rw [rw_gt, if_pos h0, if_neg h1, decide_eq_false (Int32.not_lt.mpr hl)]; rfl, rfl⟩⟩
      · refine pm_ic1 K dX3_isBehind_50 (q := 51) rfl ?_
        refine pm_goto K dX3_isBehind_51 (q := 55) rfl ?_
        exact pm_iret Z dX3_isBehind_55 rfl rfl (Nat.le_of_ble_eq_true rfl) (Nat.le_of_ble_eq_true rfl) ⟨rfl, ⟨by rw [rw_gt, if_pos h0, if_neg h1, decide_eq_true (Int32.not_le.mp hl)]; rfl, rfl⟩⟩
  · refine pm_aload_n K dX3_isBehind_11 (q := 12) rfl rfl rfl ?_
    refine pm_get K inX3 rfl (k := 7) (by decide) wlX3_19 rfl ha hc rfl dX3_isBehind_12 (q := 15) rfl ?_
    refine pm_aload_n K dX3_isBehind_15 (q := 16) rfl rfl rfl ?_
    refine pm_get K inX3 rfl (k := 7) (by decide) wlX3_19 rfl hb hd rfl dX3_isBehind_16 (q := 19) rfl ?_
    refine pm_icmp_le K dX3_isBehind_19 (tgt := 26) (q := 22) rfl rfl (fun hl => ?_) (fun hl => ?_)
    · refine pm_ic0 K dX3_isBehind_26 (q := 27) rfl ?_
      exact pm_iret Z dX3_isBehind_27 rfl rfl (Nat.le_of_ble_eq_true rfl) (Nat.le_of_ble_eq_true rfl) ⟨rfl, ⟨by rw [rw_gt, if_neg h0, decide_eq_false (Int32.not_lt.mpr hl)]; rfl, rfl⟩⟩
    · refine pm_ic1 K dX3_isBehind_22 (q := 23) rfl ?_
      refine pm_goto K dX3_isBehind_23 (q := 27) rfl ?_
      exact pm_iret Z dX3_isBehind_27 rfl rfl (Nat.le_of_ble_eq_true rfl) (Nat.le_of_ble_eq_true rfl) ⟨rfl, ⟨by rw [rw_gt, if_neg h0, decide_eq_true (Int32.not_le.mp hl)]; rfl, rfl⟩⟩
set_option maxRecDepth 100000 in
theorem c_become (l : Launch) {n : Nat} {h : pm_H} {a : Nat} {f : rw_T} (ha : a < n) (hc : h a = pm_O cRow (rw_fs f)) {b : Nat} {g : rw_T} (hb : b < n) (hd : h b = pm_O cRow (rw_fs g)) (hab : a ≠ b) (hg : g 10 = 0 ∨ g 10 = 1) : bM0 l yX3_become cX3_become 2 none 1 [.ref a, .ref b] n h (fun r h' => r = none ∧ h' = va_up h a (pm_O cRow (rw_fs g))) := by
  refine pm_enter rfl (Nat.le_of_ble_eq_true rfl) (fun G K Z => ?_)
  refine pm_aload_n K dX3_become_0 (q := 1) rfl rfl rfl ?_
  refine pm_aload_n K dX3_become_1 (q := 2) rfl rfl rfl ?_
  refine pm_get K inX3 rfl (k := 0) (by decide) wlX3_7 rfl hb hd rfl dX3_become_2 (q := 5) rfl ?_
  refine pm_aload_n K dX3_become_5 (q := 6) rfl rfl rfl ?_
  refine pm_get K inX3 rfl (k := 1) (by decide) wlX3_13 rfl hb hd rfl dX3_become_6 (q := 9) rfl ?_
  refine pm_aload_n K dX3_become_9 (q := 10) rfl rfl rfl ?_
  refine pm_get K inX3 rfl (k := 2) (by decide) wlX3_16 rfl hb hd rfl dX3_become_10 (q := 13) rfl ?_
  refine pm_callV0 K gw_ok wcX3_47 (c_setColumns l ha hc (g 0) (g 1) (g 2)) rfl ha hc rfl rfl (Nat.le_of_ble_eq_true rfl) (by decide) dX3_become_13 (q := 16) rfl (fun r1 h1 hp => ?_)
  obtain ⟨rfl, rfl⟩ := hp
  refine pm_aload_n K dX3_become_16 (q := 17) rfl rfl rfl ?_
  refine pm_aload_n K dX3_become_17 (q := 18) rfl rfl rfl ?_
  refine pm_get K inX3 rfl (k := 3) (by decide) wlX3_51 rfl hb (pm_ne (Ne.symm hab) hd) rfl dX3_become_18 (q := 21) rfl ?_
  refine rw_putU K (k := 3) (by decide) (by decide) wlX3_51 ha dX3_become_21 (q := 24) rfl ?_
  refine pm_aload_n K dX3_become_24 (q := 25) rfl rfl rfl ?_
  refine pm_aload_n K dX3_become_25 (q := 26) rfl rfl rfl ?_
  refine pm_get K inX3 rfl (k := 4) (by decide) wlX3_38 rfl hb (pm_ne (Ne.symm hab) hd) rfl dX3_become_26 (q := 29) rfl ?_
  refine rw_putU K (k := 4) (by decide) (by decide) wlX3_38 ha dX3_become_29 (q := 32) rfl ?_
  refine pm_aload_n K dX3_become_32 (q := 33) rfl rfl rfl ?_
  refine pm_aload_n K dX3_become_33 (q := 34) rfl rfl rfl ?_
  refine pm_get K inX3 rfl (k := 5) (by decide) wlX3_44 rfl hb (pm_ne (Ne.symm hab) hd) rfl dX3_become_34 (q := 37) rfl ?_
  refine rw_putU K (k := 5) (by decide) (by decide) wlX3_44 ha dX3_become_37 (q := 40) rfl ?_
  refine pm_aload_n K dX3_become_40 (q := 41) rfl rfl rfl ?_
  refine pm_aload_n K dX3_become_41 (q := 42) rfl rfl rfl ?_
  refine pm_get K inX3 rfl (k := 6) (by decide) wlX3_41 rfl hb (pm_ne (Ne.symm hab) hd) rfl dX3_become_42 (q := 45) rfl ?_
  refine rw_putU K (k := 6) (by decide) (by decide) wlX3_41 ha dX3_become_45 (q := 48) rfl ?_
  refine pm_aload_n K dX3_become_48 (q := 49) rfl rfl rfl ?_
  refine pm_aload_n K dX3_become_49 (q := 50) rfl rfl rfl ?_
  refine pm_get K inX3 rfl (k := 7) (by decide) wlX3_19 rfl hb (pm_ne (Ne.symm hab) hd) rfl dX3_become_50 (q := 53) rfl ?_
  refine pm_aload_n K dX3_become_53 (q := 54) rfl rfl rfl ?_
  refine pm_get K inX3 rfl (k := 8) (by decide) wlX3_22 rfl hb (pm_ne (Ne.symm hab) hd) rfl dX3_become_54 (q := 57) rfl ?_
  refine pm_aload_n K dX3_become_57 (q := 58) rfl rfl rfl ?_
  refine pm_get K inX3 rfl (k := 9) (by decide) wlX3_25 rfl hb (pm_ne (Ne.symm hab) hd) rfl dX3_become_58 (q := 61) rfl ?_
  refine pm_callV0 K gw_ok wcX3_54 (c_sortBy l ha (pm_same _ _ _) (g 7) (g 8) (g 9)) rfl ha (pm_same _ _ _) rfl rfl (Nat.le_of_ble_eq_true rfl) (by decide) dX3_become_61 (q := 64) rfl (fun r1 h1 hp => ?_)
  obtain ⟨rfl, rfl⟩ := hp
  rw [pm_up2]
  refine pm_aload_n K dX3_become_64 (q := 65) rfl rfl rfl ?_
  refine pm_aload_n K dX3_become_65 (q := 66) rfl rfl rfl ?_
  refine pm_get K inX3 rfl (k := 10) (by decide) wlX3_28 rfl hb (pm_ne (Ne.symm hab) hd) rfl dX3_become_66 (q := 69) rfl ?_
  refine rw_putBU K wlX3_28 ha hg dX3_become_69 (q := 72) rfl ?_
  refine pm_aload_n K dX3_become_72 (q := 73) rfl rfl rfl ?_
  refine pm_aload_n K dX3_become_73 (q := 74) rfl rfl rfl ?_
  refine pm_get K inX3 rfl (k := 11) (by decide) wlX3_32 rfl hb (pm_ne (Ne.symm hab) hd) rfl dX3_become_74 (q := 77) rfl ?_
  refine rw_putU K (k := 11) (by decide) (by decide) wlX3_32 ha dX3_become_77 (q := 80) rfl ?_
  refine pm_aload_n K dX3_become_80 (q := 81) rfl rfl rfl ?_
  refine pm_aload_n K dX3_become_81 (q := 82) rfl rfl rfl ?_
  refine pm_get K inX3 rfl (k := 12) (by decide) wlX3_35 rfl hb (pm_ne (Ne.symm hab) hd) rfl dX3_become_82 (q := 85) rfl ?_
  refine rw_putU K (k := 12) (by decide) (by decide) wlX3_35 ha dX3_become_85 (q := 88) rfl ?_
  exact pm_vret Z dX3_become_88 rfl (Nat.le_of_ble_eq_true rfl) (Nat.le_of_ble_eq_true rfl) ⟨rfl, ⟨rfl, by congr 2⟩⟩
end
section
/-! Bags: contracts. -/
theorem bg_push {n : Nat} {h : pm_H} {b len : Nat} {l : List bg_T} {f1 f2 f3 : Nat → Int32} (h1 : b + 3 < n) (h3 : len ≤ 24) (h5 : h (b + 1) = pm_I tInt len f1) (h6 : h (b + 2) = pm_I tInt len f2) (h7 : h (b + 3) = pm_I tInt len f3) (h8 : ∀ r, r < l.length → l[r]? = some (f1 r, f2 r, f3 r)) (hlt : l.length < len) (x y z : Int32) : bg_at n (va_up (va_up (va_up (va_up h (b + 1) (pm_I tInt len (upd f1 l.length x))) (b + 2) (pm_I tInt len (upd f2 l.length y))) (b + 3) (pm_I tInt len (upd f3 l.length z))) b (pm_O cBag [.ref (b + 1), .ref (b + 2), .ref (b + 3), .int (nI l.length + 1)])) b len (l ++ [(x, y, z)]) := by
  refine ⟨h1, by rw [List.length_append]; exact hlt, h3, ?_, upd f1 l.length x, upd f2 l.length y, upd f3 l.length z, ?_, ?_, ?_, fun r hr => ?_⟩
  · rw [pm_same, List.length_append]; rw [← nI_succ]; rfl
  · rw [pm_ne (by omega) (pm_ne (by omega) (pm_ne (by omega) (pm_same _ _ _)))]
  · rw [pm_ne (by omega) (pm_ne (by omega) (pm_same _ _ _))]
  · rw [pm_ne (by omega) (pm_same _ _ _)]
  · rw [List.length_append, List.length_singleton] at hr
    by_cases e : r = l.length
    · subst e
      rw [List.getElem?_append_right (Nat.le_refl _), Nat.sub_self]
      simp [upd]
    · rw [List.getElem?_append_left (by omega), h8 r (by omega)]
      simp [upd, e]
theorem bg_take2 (l : List bg_T) (t : bg_T) (len : Nat) : ((l.take len) ++ [t]).take len = (l ++ [t]).take len := by
  rw [List.take_append, List.take_append, List.take_take, Nat.min_self, List.length_take]
  congr 2
  omega
def bg_cell (l : List bg_T) (r c : Int32) : Int32 := if r < 0 ∨ nI l.length ≤ r then 0 else match l[r.toNatClampNeg]? with
  | some t => if c = 0 then t.1 else if c = 1 then t.2.1 else t.2.2
  | none => 0
theorem bg_cell_at {l : List bg_T} {j : Nat} {c : Int32} {t : bg_T} (hg : l[j]? = some t) (hj : j < l.length) (hl : l.length < 2 ^ 31) : bg_cell l (nI j) c = if c = 0 then t.1 else if c = 1 then t.2.1 else t.2.2 := by
  unfold bg_cell
  rw [if_neg, nI_clamp (by omega), hg]
  rintro (z | z)
  · exact nI_pos (by omega) z
  · exact nI_ge hj hl z
theorem pk_j {x : Int32} {L : Nat} (h0 : ¬ x < 0) (h : x < nI L) (hL : L < 2 ^ 31) : ∃ j : Nat, j < L ∧ x = nI j := by
  obtain ⟨j, h1, h2, -⟩ := pk_mu h0 (Int32.not_le.mpr h) hL
  exact ⟨j, h1, h2⟩
def bg_mix (t : bg_T) : Int32 := 31 * (31 * t.1 + t.2.1) + t.2.2
def bg_sum (l : List bg_T) : Int32 := l.foldl (fun s t => s + bg_mix t) 0
theorem bg_sum_push (l : List bg_T) (t : bg_T) : bg_sum (l ++ [t]) = bg_sum l + bg_mix t := by
  unfold bg_sum
  rw [List.foldl_append]
  rfl
set_option maxRecDepth 100000 in
theorem c_hold (l : Launch) {n : Nat} {h : pm_H} {b len : Nat} {l0 : List bg_T} (H : bg_at n h b len l0) (x y z : Int32) : bM0 l yX0_hold cX0_hold 4 (some (.boolean)) 0 [.ref b, .int x, .int y, .int z] n h (fun r h' => r = some (.int (b2i (decide (l0.length < len)))) ∧ bg_at n h' b len ((l0 ++ [(x, y, z)]).take len) ∧ (∀ q, q < b ∨ b + 3 < q → h' q = h q)) := by
  refine pm_enter rfl (Nat.le_of_ble_eq_true rfl) (fun G K Z => ?_)
  have H0 := H
  obtain ⟨h1, h2, h3, h4, f1, f2, f3, h5, h6, h7, h8⟩ := H
  refine pm_aload_n K dX0_hold_0 (q := 1) rfl rfl rfl ?_
  refine pm_get K inX0 rfl (k := 3) (by decide) wlX0_7 rfl (by omega) h4 rfl dX0_hold_1 (q := 4) rfl ?_
  refine pm_aload_n K dX0_hold_4 (q := 5) rfl rfl rfl ?_
  refine pm_get K inX0 rfl (k := 0) (by decide) wlX0_13 rfl (by omega) h4 rfl dX0_hold_5 (q := 8) rfl ?_
  refine pm_alenI (v := nI len) K (by omega) h5 rfl rfl dX0_hold_8 (q := 9) rfl ?_
  refine pm_icmp_lt K dX0_hold_9 (tgt := 14) (q := 12) rfl rfl (fun hx => ?_) (fun hx => ?_)
  · have hlt : l0.length < len := (nI_ltI (by omega) (by omega)).mp hx
    refine pm_aload_n K dX0_hold_14 (q := 15) rfl rfl rfl ?_
    refine pm_get K inX0 rfl (k := 0) (by decide) wlX0_13 rfl (by omega) h4 rfl dX0_hold_15 (q := 18) rfl ?_
    refine pm_aload_n K dX0_hold_18 (q := 19) rfl rfl rfl ?_
    refine pm_get K inX0 rfl (k := 3) (by decide) wlX0_7 rfl (by omega) h4 rfl dX0_hold_19 (q := 22) rfl ?_
    refine pm_iload_n K dX0_hold_22 (q := 23) rfl rfl rfl ?_
    refine pm_iastN K (by omega) h5 rfl hlt (by omega) dX0_hold_23 (q := 24) rfl ?_
    refine pm_aload_n K dX0_hold_24 (q := 25) rfl rfl rfl ?_
    refine pm_get K inX0 rfl (k := 1) (by decide) wlX0_17 rfl (by omega) (pm_ne (by omega) h4) rfl dX0_hold_25 (q := 28) rfl ?_
    refine pm_aload_n K dX0_hold_28 (q := 29) rfl rfl rfl ?_
    refine pm_get K inX0 rfl (k := 3) (by decide) wlX0_7 rfl (by omega) (pm_ne (by omega) h4) rfl dX0_hold_29 (q := 32) rfl ?_
    refine pm_iload_n K dX0_hold_32 (q := 33) rfl rfl rfl ?_
    refine pm_iastN K (by omega) (pm_ne (by omega) h6) rfl hlt (by omega) dX0_hold_33 (q := 34) rfl ?_
    refine pm_aload_n K dX0_hold_34 (q := 35) rfl rfl rfl ?_
    refine pm_get K inX0 rfl (k := 2) (by decide) wlX0_20 rfl (by omega) (pm_ne (by omega) (pm_ne (by omega) h4)) rfl dX0_hold_35 (q := 38) rfl ?_
    refine pm_aload_n K dX0_hold_38 (q := 39) rfl rfl rfl ?_
    refine pm_get K inX0 rfl (k := 3) (by decide) wlX0_7 rfl (by omega) (pm_ne (by omega) (pm_ne (by omega) h4)) rfl dX0_hold_39 (q := 42) rfl ?_
    refine pm_iload_n K dX0_hold_42 (q := 43) rfl rfl rfl ?_
    refine pm_iastN K (by omega) (pm_ne (by omega) (pm_ne (by omega) h7)) rfl hlt (by omega) dX0_hold_43 (q := 44) rfl ?_
    refine pm_aload_n K dX0_hold_44 (q := 45) rfl rfl rfl ?_
    refine pm_dup K dX0_hold_45 (q := 46) rfl ?_
    refine pm_get K inX0 rfl (k := 3) (by decide) wlX0_7 rfl (by omega) (pm_ne (by omega) (pm_ne (by omega) (pm_ne (by omega) h4))) rfl dX0_hold_46 (q := 49) rfl ?_
    refine pm_ic1 K dX0_hold_49 (q := 50) rfl ?_
    refine pm_iadd K dX0_hold_50 (q := 51) rfl ?_
    refine pm_put (fs' := [.ref (b + 1), .ref (b + 2), .ref (b + 3), .int (nI l0.length + 1)]) K inX0 tyX0 tyX0_ok nmX0 rfl (k := 3) (by decide) wlX0_7 rfl rfl (fun _ => ⟨rfl, rfl⟩) (by omega) (pm_ne (by omega) (pm_ne (by omega) (pm_ne (by omega) h4))) (Nat.le_of_ble_eq_true rfl) rfl dX0_hold_51 (q := 54) rfl ?_
    refine pm_ic1 K dX0_hold_54 (q := 55) rfl ?_
    exact pm_iret Z dX0_hold_55 rfl rfl (Nat.le_of_ble_eq_true rfl) (Nat.le_of_ble_eq_true rfl) ⟨rfl, ⟨by rw [decide_eq_true hlt]; rfl, by rw [List.take_of_length_le (by rw [List.length_append]; exact hlt)]; exact bg_push h1 h3 h5 h6 h7 h8 hlt x y z, fun q hq => by rw [pm_ne (by omega) rfl, pm_ne (by omega) rfl, pm_ne (by omega) rfl, pm_ne (by omega) rfl]⟩⟩
  · have hge : ¬ l0.length < len := fun z => hx ((nI_ltI (by omega) (by omega)).mpr z)
    refine pm_ic0 K dX0_hold_12 (q := 13) rfl ?_
    exact pm_iret Z dX0_hold_13 rfl rfl (Nat.le_of_ble_eq_true rfl) (Nat.le_of_ble_eq_true rfl) ⟨rfl, ⟨by rw [decide_eq_false hge]; rfl, by rw [List.take_append_of_le_length (by omega), List.take_of_length_le (by omega)]; exact H0, fun _ _ => rfl⟩⟩
set_option maxRecDepth 100000 in
theorem c_bclear (l : Launch) {n : Nat} {h : pm_H} {b len : Nat} {l0 : List bg_T} (H : bg_at n h b len l0) : bM0 l yX0_clear cX0_clear 1 none 0 [.ref b] n h (fun r h' => r = none ∧ bg_at n h' b len [] ∧ (∀ q, q < b ∨ b + 3 < q → h' q = h q)) := by
  refine pm_enter rfl (Nat.le_of_ble_eq_true rfl) (fun G K Z => ?_)
  obtain ⟨h1, h2, h3, h4, f1, f2, f3, h5, h6, h7, h8⟩ := H
  refine pm_aload_n K dX0_clear_0 (q := 1) rfl rfl rfl ?_
  refine pm_ic0 K dX0_clear_1 (q := 2) rfl ?_
  refine pm_put (fs' := [.ref (b + 1), .ref (b + 2), .ref (b + 3), .int 0]) K inX0 tyX0 tyX0_ok nmX0 rfl (k := 3) (by decide) wlX0_7 rfl rfl (fun _ => ⟨rfl, rfl⟩) (by omega) h4 (Nat.le_of_ble_eq_true rfl) rfl dX0_clear_2 (q := 5) rfl ?_
  exact pm_vret Z dX0_clear_5 rfl (Nat.le_of_ble_eq_true rfl) (Nat.le_of_ble_eq_true rfl) ⟨rfl, ⟨rfl, ⟨h1, Nat.zero_le _, h3, pm_same _ _ _, f1, f2, f3, pm_ne (by omega) h5, pm_ne (by omega) h6, pm_ne (by omega) h7, fun r hr => absurd hr (Nat.not_lt_zero _)⟩, fun q hq => pm_ne (by omega) rfl⟩⟩
set_option maxRecDepth 100000 in
theorem c_bcolumn (l : Launch) {n : Nat} {h : pm_H} {b len : Nat} {l0 : List bg_T} (H : bg_at n h b len l0) (r0 c0 : Int32) : bM0 l yX0_column cX0_column 3 (some (.int)) 0 [.ref b, .int r0, .int c0] n h (fun r h' => r = some (.int (bg_cell l0 r0 c0)) ∧ h' = h) := by
  refine pm_enter rfl (Nat.le_of_ble_eq_true rfl) (fun G K Z => ?_)
  obtain ⟨h1, h2, h3, h4, f1, f2, f3, h5, h6, h7, h8⟩ := H
  refine pm_iload_n K dX0_column_0 (q := 1) rfl rfl rfl ?_
  refine pm_if_lt K dX0_column_1 (tgt := 12) (q := 4) rfl rfl (fun ha => ?_) (fun ha => ?_)
  · refine pm_ic0 K dX0_column_12 (q := 13) rfl ?_
    exact pm_iret Z dX0_column_13 rfl rfl (Nat.le_of_ble_eq_true rfl) (Nat.le_of_ble_eq_true rfl) ⟨rfl, ⟨by rw [bg_cell, if_pos (Or.inl ha)], rfl⟩⟩
  · refine pm_iload_n K dX0_column_4 (q := 5) rfl rfl rfl ?_
    refine pm_aload_n K dX0_column_5 (q := 6) rfl rfl rfl ?_
    refine pm_get K inX0 rfl (k := 3) (by decide) wlX0_7 rfl (by omega) h4 rfl dX0_column_6 (q := 9) rfl ?_
    refine pm_icmp_lt K dX0_column_9 (tgt := 14) (q := 12) rfl rfl (fun hb => ?_) (fun hb => ?_)
    · obtain ⟨j, hj, rfl⟩ := pk_j ha hb (by omega)
      have hg := h8 j hj
      refine pm_iload_n K dX0_column_14 (q := 15) rfl rfl rfl ?_
      refine pm_if_ne K dX0_column_15 (tgt := 27) (q := 18) rfl rfl (fun hc => ?_) (fun hc => ?_)
      · refine pm_iload_n K dX0_column_27 (q := 28) rfl rfl rfl ?_
        refine pm_ic1 K dX0_column_28 (q := 29) rfl ?_
        refine pm_icmp_ne K dX0_column_29 (tgt := 41) (q := 32) rfl rfl (fun hd => ?_) (fun hd => ?_)
        · refine pm_aload_n K dX0_column_41 (q := 42) rfl rfl rfl ?_
          refine pm_get K inX0 rfl (k := 2) (by decide) wlX0_20 rfl (by omega) h4 rfl dX0_column_42 (q := 45) rfl ?_
          refine pm_iload_n K dX0_column_45 (q := 46) rfl rfl rfl ?_
          refine pm_ialdN K (by omega) h7 rfl (by omega) (by omega) dX0_column_46 (q := 47) rfl ?_
          exact pm_iret Z dX0_column_47 rfl rfl (Nat.le_of_ble_eq_true rfl) (Nat.le_of_ble_eq_true rfl) ⟨rfl, ⟨by have e := bg_cell_at (c := c0) hg hj (by omega); rw [if_neg hc, if_neg hd] at e; exact congrArg (fun z => some (Value.int z)) e.symm, rfl⟩⟩
        · refine pm_aload_n K dX0_column_32 (q := 33) rfl rfl rfl ?_
          refine pm_get K inX0 rfl (k := 1) (by decide) wlX0_17 rfl (by omega) h4 rfl dX0_column_33 (q := 36) rfl ?_
          refine pm_iload_n K dX0_column_36 (q := 37) rfl rfl rfl ?_
          refine pm_ialdN K (by omega) h6 rfl (by omega) (by omega) dX0_column_37 (q := 38) rfl ?_
          refine pm_goto K dX0_column_38 (q := 47) rfl ?_
          exact pm_iret Z dX0_column_47 rfl rfl (Nat.le_of_ble_eq_true rfl) (Nat.le_of_ble_eq_true rfl) ⟨rfl, ⟨by have e := bg_cell_at (c := c0) hg hj (by omega); rw [if_neg hc, if_pos hd] at e; exact congrArg (fun z => some (Value.int z)) e.symm, rfl⟩⟩
      · refine pm_aload_n K dX0_column_18 (q := 19) rfl rfl rfl ?_
        refine pm_get K inX0 rfl (k := 0) (by decide) wlX0_13 rfl (by omega) h4 rfl dX0_column_19 (q := 22) rfl ?_
        refine pm_iload_n K dX0_column_22 (q := 23) rfl rfl rfl ?_
        refine pm_ialdN K (by omega) h5 rfl (by omega) (by omega) dX0_column_23 (q := 24) rfl ?_
        refine pm_goto K dX0_column_24 (q := 47) rfl ?_
        exact pm_iret Z dX0_column_47 rfl rfl (Nat.le_of_ble_eq_true rfl) (Nat.le_of_ble_eq_true rfl) ⟨rfl, ⟨by have e := bg_cell_at (c := c0) hg hj (by omega); rw [if_pos hc] at e; exact congrArg (fun z => some (Value.int z)) e.symm, rfl⟩⟩
    · refine pm_ic0 K dX0_column_12 (q := 13) rfl ?_
      exact pm_iret Z dX0_column_13 rfl rfl (Nat.le_of_ble_eq_true rfl) (Nat.le_of_ble_eq_true rfl) ⟨rfl, ⟨by rw [bg_cell, if_pos (Or.inr (Int32.not_lt.mp hb))], rfl⟩⟩
set_option maxRecDepth 100000 in
theorem c_bbecome (l : Launch) {n : Nat} {h : pm_H} {b len b2 len2 : Nat} {l0 l2 : List bg_T} (H : bg_at n h b len l0) (J : bg_at n h b2 len2 l2) (hbb : b + 3 < b2 ∨ b2 + 3 < b) : bM0 l yX0_become cX0_become 3 none 1 [.ref b, .ref b2] n h (fun r h' => r = none ∧ bg_at n h' b len (l2.take len) ∧ (∀ q, q < b ∨ b + 3 < q → h' q = h q)) := by
  refine pm_enter rfl (Nat.le_of_ble_eq_true rfl) (fun G K Z => ?_)
  refine pm_aload_n K dX0_become_0 (q := 1) rfl rfl rfl ?_
  refine pm_callV0 K gw_ok wcX0_23 (c_bclear l H) rfl (by have := H.1; omega) H.2.2.2.1 rfl rfl (Nat.le_of_ble_eq_true rfl) (by decide) dX0_become_1 (q := 4) rfl (fun r1 h1 hp => ?_)
  obtain ⟨rfl, H1, F1⟩ := hp
  refine pm_ic0 K dX0_become_4 (q := 5) rfl ?_
  refine pm_istore_n K dX0_become_5 (q := 6) rfl rfl (by decide) rfl ?_
  have loop : ∀ (k r : Nat) (h2 : pm_H), r + k = l2.length → bg_at n h2 b len ((l2.take r).take len) → (∀ q, q < b ∨ b + 3 < q → h2 q = h q) → G 0 0 6 [some (.ref b), some (.ref b2), some (.int (nI r))] [] n h2 := by
    intro k
    induction k with
    | zero =>
      intro r h2 hk Hb hF
      have J2 : bg_at n h2 b2 len2 l2 := J.fr (Nat.le_refl _) (fun q a c => hF q (by omega))
      obtain ⟨h1, h2x, h3, h4, f1, f2, f3, h5, h6, h7, h8⟩ := J2
      refine pm_iload_n K dX0_become_6 (q := 7) rfl rfl rfl ?_
      refine pm_aload_n K dX0_become_7 (q := 8) rfl rfl rfl ?_
      refine pm_get K inX0 rfl (k := 3) (by decide) wlX0_7 rfl (by omega) h4 rfl dX0_become_8 (q := 11) rfl ?_
      refine pm_icmp_ge K dX0_become_11 (tgt := 43) (q := 14) rfl rfl (fun _ => ?_) (fun z => absurd z (fun z => z (nI_le (by omega) (by omega))))
      have er : l2.take r = l2 := List.take_of_length_le (by omega)
      rw [er] at Hb
      exact pm_vret Z dX0_become_43 rfl (Nat.le_of_ble_eq_true rfl) (Nat.le_of_ble_eq_true rfl) ⟨rfl, ⟨rfl, Hb, hF⟩⟩
    | succ k ih =>
      intro r h2 hk Hb hF
      have J2 : bg_at n h2 b2 len2 l2 := J.fr (Nat.le_refl _) (fun q a c => hF q (by omega))
      obtain ⟨h1, h2x, h3, h4, f1, f2, f3, h5, h6, h7, h8⟩ := J2
      refine pm_iload_n K dX0_become_6 (q := 7) rfl rfl rfl ?_
      refine pm_aload_n K dX0_become_7 (q := 8) rfl rfl rfl ?_
      refine pm_get K inX0 rfl (k := 3) (by decide) wlX0_7 rfl (by omega) h4 rfl dX0_become_8 (q := 11) rfl ?_
      refine pm_icmp_ge K dX0_become_11 (tgt := 43) (q := 14) rfl rfl (fun z => absurd z (nI_ge (by omega) (by omega))) (fun _ => ?_)
      have hg := h8 r (by omega)
      refine pm_aload_n K dX0_become_14 (q := 15) rfl rfl rfl ?_
      refine pm_aload_n K dX0_become_15 (q := 16) rfl rfl rfl ?_
      refine pm_get K inX0 rfl (k := 0) (by decide) wlX0_13 rfl (by omega) h4 rfl dX0_become_16 (q := 19) rfl ?_
      refine pm_iload_n K dX0_become_19 (q := 20) rfl rfl rfl ?_
      refine pm_ialdN K (by omega) h5 rfl (by omega) (by omega) dX0_become_20 (q := 21) rfl ?_
      refine pm_aload_n K dX0_become_21 (q := 22) rfl rfl rfl ?_
      refine pm_get K inX0 rfl (k := 1) (by decide) wlX0_17 rfl (by omega) h4 rfl dX0_become_22 (q := 25) rfl ?_
      refine pm_iload_n K dX0_become_25 (q := 26) rfl rfl rfl ?_
      refine pm_ialdN K (by omega) h6 rfl (by omega) (by omega) dX0_become_26 (q := 27) rfl ?_
      refine pm_aload_n K dX0_become_27 (q := 28) rfl rfl rfl ?_
      refine pm_get K inX0 rfl (k := 2) (by decide) wlX0_20 rfl (by omega) h4 rfl dX0_become_28 (q := 31) rfl ?_
      refine pm_iload_n K dX0_become_31 (q := 32) rfl rfl rfl ?_
      refine pm_ialdN K (by omega) h7 rfl (by omega) (by omega) dX0_become_32 (q := 33) rfl ?_
      refine pm_callV0 K gw_ok wcX0_26 (c_hold l Hb (f1 r) (f2 r) (f3 r)) rfl (by have := Hb.1; omega) Hb.2.2.2.1 rfl rfl (Nat.le_of_ble_eq_true rfl) (by decide) dX0_become_33 (q := 36) rfl (fun r3 h3x hp => ?_)
      obtain ⟨rfl, H3, F3⟩ := hp
      refine pm_pop K dX0_become_36 (q := 37) rfl ?_
      refine pm_inc K dX0_become_37 (q := 40) rfl rfl (by decide) rfl ?_
      refine pm_goto K dX0_become_40 (q := 6) rfl ?_
      refine ih (r + 1) h3x (by omega) ?_ (fun q hq => (F3 q hq).trans (hF q hq))
      have e1 : l2.take (r + 1) = l2.take r ++ [(f1 r, f2 r, f3 r)] := by rw [List.take_succ, hg]; rfl
      rw [e1, ← bg_take2]; exact H3
  have := loop l2.length 0 h1 (by omega) (by simpa using H1) F1
  rw [nI_0] at this
  exact this
set_option maxRecDepth 100000 in
theorem c_btotal (l : Launch) {n : Nat} {h : pm_H} {b len : Nat} {l0 : List bg_T} (H : bg_at n h b len l0) : bM0 l yX0_total cX0_total 3 (some (.int)) 0 [.ref b] n h (fun r h' => r = some (.int (bg_sum l0)) ∧ h' = h) := by
  refine pm_enter rfl (Nat.le_of_ble_eq_true rfl) (fun G K Z => ?_)
  obtain ⟨h1, h2, h3, h4, f1, f2, f3, h5, h6, h7, h8⟩ := H
  refine pm_ic0 K dX0_total_0 (q := 1) rfl ?_
  refine pm_istore_n K dX0_total_1 (q := 2) rfl rfl (by decide) rfl ?_
  refine pm_ic0 K dX0_total_2 (q := 3) rfl ?_
  refine pm_istore_n K dX0_total_3 (q := 4) rfl rfl (by decide) rfl ?_
  have loop : ∀ (k r : Nat), r + k = l0.length → G 0 0 4 [some (.ref b), some (.int (bg_sum (l0.take r))), some (.int (nI r))] [] n h := by
    intro k
    induction k with
    | zero =>
      intro r hk
      refine pm_iload_n K dX0_total_4 (q := 5) rfl rfl rfl ?_
      refine pm_aload_n K dX0_total_5 (q := 6) rfl rfl rfl ?_
      refine pm_get K inX0 rfl (k := 3) (by decide) wlX0_7 rfl (by omega) h4 rfl dX0_total_6 (q := 9) rfl ?_
      refine pm_icmp_ge K dX0_total_9 (tgt := 47) (q := 12) rfl rfl (fun _ => ?_) (fun z => absurd z (fun z => z (nI_le (by omega) (by omega))))
      refine pm_iload_n K dX0_total_47 (q := 48) rfl rfl rfl ?_
      exact pm_iret Z dX0_total_48 rfl rfl (Nat.le_of_ble_eq_true rfl) (Nat.le_of_ble_eq_true rfl) ⟨rfl, ⟨by rw [List.take_of_length_le (by omega)], rfl⟩⟩
    | succ k ih =>
      intro r hk
      refine pm_iload_n K dX0_total_4 (q := 5) rfl rfl rfl ?_
      refine pm_aload_n K dX0_total_5 (q := 6) rfl rfl rfl ?_
      refine pm_get K inX0 rfl (k := 3) (by decide) wlX0_7 rfl (by omega) h4 rfl dX0_total_6 (q := 9) rfl ?_
      refine pm_icmp_ge K dX0_total_9 (tgt := 47) (q := 12) rfl rfl (fun z => absurd z (nI_ge (by omega) (by omega))) (fun _ => ?_)
      have hg := h8 r (by omega)
      refine pm_iload_n K dX0_total_12 (q := 13) rfl rfl rfl ?_
      refine pm_bipush (v := 31) K dX0_total_13 (q := 15) rfl (by decide) ?_
      refine pm_bipush (v := 31) K dX0_total_15 (q := 17) rfl (by decide) ?_
      refine pm_aload_n K dX0_total_17 (q := 18) rfl rfl rfl ?_
      refine pm_get K inX0 rfl (k := 0) (by decide) wlX0_13 rfl (by omega) h4 rfl dX0_total_18 (q := 21) rfl ?_
      refine pm_iload_n K dX0_total_21 (q := 22) rfl rfl rfl ?_
      refine pm_ialdN K (by omega) h5 rfl (by omega) (by omega) dX0_total_22 (q := 23) rfl ?_
      refine pm_imul K dX0_total_23 (q := 24) rfl ?_
      refine pm_aload_n K dX0_total_24 (q := 25) rfl rfl rfl ?_
      refine pm_get K inX0 rfl (k := 1) (by decide) wlX0_17 rfl (by omega) h4 rfl dX0_total_25 (q := 28) rfl ?_
      refine pm_iload_n K dX0_total_28 (q := 29) rfl rfl rfl ?_
      refine pm_ialdN K (by omega) h6 rfl (by omega) (by omega) dX0_total_29 (q := 30) rfl ?_
      refine pm_iadd K dX0_total_30 (q := 31) rfl ?_
      refine pm_imul K dX0_total_31 (q := 32) rfl ?_
      refine pm_aload_n K dX0_total_32 (q := 33) rfl rfl rfl ?_
      refine pm_get K inX0 rfl (k := 2) (by decide) wlX0_20 rfl (by omega) h4 rfl dX0_total_33 (q := 36) rfl ?_
      refine pm_iload_n K dX0_total_36 (q := 37) rfl rfl rfl ?_
      refine pm_ialdN K (by omega) h7 rfl (by omega) (by omega) dX0_total_37 (q := 38) rfl ?_
      refine pm_iadd K dX0_total_38 (q := 39) rfl ?_
      refine pm_iadd K dX0_total_39 (q := 40) rfl ?_
      refine pm_istore_n K dX0_total_40 (q := 41) rfl rfl (by decide) rfl ?_
      refine pm_inc K dX0_total_41 (q := 44) rfl rfl (by decide) rfl ?_
      refine pm_goto K dX0_total_44 (q := 4) rfl ?_
      have := ih (r + 1) (by omega)
      rw [List.take_succ, hg, Option.toList_some, bg_sum_push] at this
      exact this
  have := loop l0.length 0 (by omega)
  rw [nI_0] at this
  exact this
end
section
/-! The store: its accesses. -/
def so_rd (p : Nat) : Int32 := nI (2 * p)
def so_wr (p : Nat) : Int32 := nI (2 * p + 1)
theorem so_rd_eq (p : Nat) : 2 * nI p = so_rd p := by
  show nI 2 * nI p = nI (2 * p)
  rw [pk_mul]
theorem so_wr_eq (p : Nat) : 2 * nI p + 1 = so_wr p := by
  rw [so_rd_eq]
  show nI (2 * p) + 1 = nI (2 * p + 1)
  rw [nI_succ]
theorem so_id (ix : Nat → Nat) (p : Nat) : va_up ix p (ix p) = ix := by
  funext k
  by_cases h : k = p <;> simp [va_up, h]
def so_nth (ts : List Int32) (k : Int32) : Int32 := if k < 0 ∨ nI ts.length ≤ k then -1 else match ts[k.toNatClampNeg]? with
  | some t => t
  | none => -1
theorem so_nth_at {ts : List Int32} {j : Nat} {t : Int32} (hg : ts[j]? = some t) (hj : j < ts.length) (hl : ts.length < 2 ^ 31) : so_nth ts (nI j) = t := by
  unfold so_nth
  rw [if_neg, nI_clamp (by omega), hg]
  rintro (z | z)
  · exact nI_pos (by omega) z
  · exact nI_ge hj hl z
theorem so_note {n : Nat} {h : pm_H} {ix : Nat → Nat} {R : Nat → rw_T} {ts : List Int32} {tf : Nat → Int32} (H : so_at n h ix R ts) (g17 : h 17 = pm_I tInt 14688 tf) (gtf : ∀ i, i < ts.length → ts[i]? = some (tf i)) (hlt : ts.length < 14688) (x : Int32) : so_at n (va_up (va_up h 17 (pm_I tInt 14688 (upd tf ts.length x))) 15 (pm_O cStore [.ref 16, .ref 17, .int (nI ts.length + 1)])) ix R (ts ++ [x]) := by
  obtain ⟨g0, g15, ⟨pf, g16, gpf⟩, -, gix, gR, gts⟩ := H
  refine ⟨g0, ?_, ⟨pf, pm_ne (by decide) (pm_ne (by decide) g16), gpf⟩, ⟨upd tf ts.length x, pm_ne (by decide) (pm_same _ _ _), fun i hi => ?_⟩, gix, fun j hj => ⟨pm_ne (by omega) (pm_ne (by omega) (gR j hj).1), (gR j hj).2⟩, by rw [List.length_append]; exact hlt⟩
  · rw [pm_same, List.length_append, ← nI_succ]; rfl
  · rw [List.length_append, List.length_singleton] at hi
    by_cases e : i = ts.length
    · subst e
      rw [List.getElem?_append_right (Nat.le_refl _), Nat.sub_self]
      simp [upd]
    · rw [List.getElem?_append_left (by omega), gtf i (by omega)]
      simp [upd, e]
theorem so_put {n : Nat} {h : pm_H} {ix : Nat → Nat} {R : Nat → rw_T} {ts : List Int32} {pf : Nat → Option Nat} (H : so_at n h ix R ts) (g16 : h 16 = pm_R tRow 76 pf) (gpf : ∀ i, i < 76 → pf i = some (18 + ix i)) {p j : Nat} (hp : p < 76) (hj : j < 76) : so_at n (va_up h 16 (pm_R tRow 76 (va_up pf p (some (18 + j))))) (va_up ix p j) R ts := by
  obtain ⟨g0, g15, -, ⟨tf, g17, gtf⟩, gix, gR, gts⟩ := H
  refine ⟨g0, pm_ne (by decide) g15, ⟨_, pm_same _ _ _, fun i hi => ?_⟩, ⟨tf, pm_ne (by decide) g17, gtf⟩, fun i hi => ?_, fun k hk => ⟨pm_ne (by omega) (gR k hk).1, (gR k hk).2⟩, gts⟩
  · by_cases e : i = p
    · subst e; simp [va_up]
    · simp [va_up, e, gpf i hi]
  · by_cases e : i = p
    · subst e; simp [va_up, hj]
    · simp [va_up, e, gix i hi]
set_option maxRecDepth 100000 in
theorem c_note (l : Launch) {n : Nat} {h : pm_H} {ix : Nat → Nat} {R : Nat → rw_T} {ts : List Int32} (H : so_at n h ix R ts) (x : Int32) : bM0 l yX5_note cX5_note 2 none 0 [.ref 15, .int x] n h (fun r h' => r = none ∧ so_at n h' ix R (tk (ts ++ [x])) ∧ (∀ q, q ≠ 15 → q ≠ 17 → h' q = h q)) := by
  refine pm_enter rfl (Nat.le_of_ble_eq_true rfl) (fun G K Z => ?_)
  have H0 := H
  obtain ⟨g0, g15, ⟨pf, g16, gpf⟩, ⟨tf, g17, gtf⟩, gix, gR, gts⟩ := H
  refine pm_aload_n K dX5_note_0 (q := 1) rfl rfl rfl ?_
  refine pm_get K inX5 rfl (k := 2) (by decide) wlX5_21 rfl (by omega) g15 rfl dX5_note_1 (q := 4) rfl ?_
  refine pm_sipush (v := nI 14688) K dX5_note_4 (q := 7) rfl (by decide) ?_
  refine pm_icmp_ge K dX5_note_7 (tgt := 30) (q := 10) rfl rfl (fun hx => ?_) (fun hx => ?_)
  · have hge : 14688 ≤ ts.length := (nI_leI (by decide) (by omega)).mp hx
    exact pm_vret Z dX5_note_30 rfl (Nat.le_of_ble_eq_true rfl) (Nat.le_of_ble_eq_true rfl) ⟨rfl, ⟨rfl, by rw [show tk (ts ++ [x]) = ts by unfold tk; rw [List.take_append_of_le_length hge, List.take_of_length_le (by omega)]]; exact H0, fun _ _ _ => rfl⟩⟩
  · have hlt : ts.length < 14688 := Nat.lt_of_not_le (fun z => hx ((nI_leI (by decide) (by omega)).mpr z))
    refine pm_aload_n K dX5_note_10 (q := 11) rfl rfl rfl ?_
    refine pm_get K inX5 rfl (k := 1) (by decide) wlX5_17 rfl (by omega) g15 rfl dX5_note_11 (q := 14) rfl ?_
    refine pm_aload_n K dX5_note_14 (q := 15) rfl rfl rfl ?_
    refine pm_get K inX5 rfl (k := 2) (by decide) wlX5_21 rfl (by omega) g15 rfl dX5_note_15 (q := 18) rfl ?_
    refine pm_iload_n K dX5_note_18 (q := 19) rfl rfl rfl ?_
    refine pm_iastN K (by omega) g17 rfl hlt (by decide) dX5_note_19 (q := 20) rfl ?_
    refine pm_aload_n K dX5_note_20 (q := 21) rfl rfl rfl ?_
    refine pm_dup K dX5_note_21 (q := 22) rfl ?_
    refine pm_get K inX5 rfl (k := 2) (by decide) wlX5_21 rfl (by omega) (pm_ne (by decide) g15) rfl dX5_note_22 (q := 25) rfl ?_
    refine pm_ic1 K dX5_note_25 (q := 26) rfl ?_
    refine pm_iadd K dX5_note_26 (q := 27) rfl ?_
    refine pm_put (fs' := [.ref 16, .ref 17, .int (nI ts.length + 1)]) K inX5 tyX5 tyX5_ok nmX5 rfl (k := 2) (by decide) wlX5_21 rfl rfl (fun _ => ⟨rfl, rfl⟩) (by omega) (pm_ne (by decide) g15) (Nat.le_of_ble_eq_true rfl) rfl dX5_note_27 (q := 30) rfl ?_
    exact pm_vret Z dX5_note_30 rfl (Nat.le_of_ble_eq_true rfl) (Nat.le_of_ble_eq_true rfl) ⟨rfl, ⟨rfl, by rw [show tk (ts ++ [x]) = ts ++ [x] by unfold tk; exact List.take_of_length_le (by rw [List.length_append]; exact hlt)]; exact so_note H0 g17 gtf hlt x, fun q a b => by rw [pm_ne a rfl, pm_ne b rfl]⟩⟩
set_option maxRecDepth 100000 in
theorem c_at (l : Launch) {n : Nat} {h : pm_H} {ix : Nat → Nat} {R : Nat → rw_T} {ts : List Int32} (H : so_at n h ix R ts) {p : Nat} (hp : p < 76) : bM0 l yX5_at cX5_at 2 (some (.object "BlindTables$Row")) 0 [.ref 15, .int (nI p)] n h (fun r h' => r = some (.ref (18 + ix p)) ∧ h' = h) := by
  refine pm_enter rfl (Nat.le_of_ble_eq_true rfl) (fun G K Z => ?_)
  obtain ⟨g0, g15, ⟨pf, g16, gpf⟩, ⟨tf, g17, gtf⟩, gix, gR, gts⟩ := H
  refine pm_aload_n K dX5_at_0 (q := 1) rfl rfl rfl ?_
  refine pm_get K inX5 rfl (k := 0) (by decide) wlX5_13 rfl (by omega) g15 rfl dX5_at_1 (q := 4) rfl ?_
  refine pm_iload_n K dX5_at_4 (q := 5) rfl rfl rfl ?_
  refine pm_if_lt K dX5_at_5 (tgt := 18) (q := 8) rfl rfl (fun z => absurd z (nI_pos (by omega))) (fun _ => ?_)
  refine pm_iload_n K dX5_at_8 (q := 9) rfl rfl rfl ?_
  refine pm_bipush (v := nI 76) K dX5_at_9 (q := 11) rfl (by decide) ?_
  refine pm_icmp_ge K dX5_at_11 (tgt := 18) (q := 14) rfl rfl (fun z => absurd z (nI_ge hp (by decide))) (fun _ => ?_)
  refine pm_iload_n K dX5_at_14 (q := 15) rfl rfl rfl ?_
  refine pm_goto K dX5_at_15 (q := 19) rfl ?_
  refine pm_aaldN K (by omega) g16 rfl hp (by decide) (gpf p hp) dX5_at_19 (q := 20) rfl ?_
  exact pm_aret Z dX5_at_20 rfl (Nat.le_of_ble_eq_true rfl) (Nat.le_of_ble_eq_true rfl) ⟨rfl, ⟨rfl, rfl⟩⟩
set_option maxRecDepth 100000 in
theorem c_read (l : Launch) {n : Nat} {h : pm_H} {ix : Nat → Nat} {R : Nat → rw_T} {ts : List Int32} (H : so_at n h ix R ts) {p : Nat} (hp : p < 76) : bM0 l yX5_read cX5_read 2 (some (.object "BlindTables$Row")) 1 [.ref 15, .int (nI p)] n h (fun r h' => r = some (.ref (18 + ix p)) ∧ so_at n h' ix R (tk (ts ++ [so_rd p])) ∧ (∀ q, q ≠ 15 → q ≠ 17 → h' q = h q)) := by
  refine pm_enter rfl (Nat.le_of_ble_eq_true rfl) (fun G K Z => ?_)
  refine pm_aload_n K dX5_read_0 (q := 1) rfl rfl rfl ?_
  refine pm_ic2 K dX5_read_1 (q := 2) rfl ?_
  refine pm_iload_n K dX5_read_2 (q := 3) rfl rfl rfl ?_
  refine pm_imul K dX5_read_3 (q := 4) rfl ?_
  refine pm_callV0 K gw_ok wcX5_26 (c_note l H (2 * nI p)) rfl (by have := H.1; omega) H.2.1 rfl rfl (Nat.le_of_ble_eq_true rfl) (by decide) dX5_read_4 (q := 7) rfl (fun r1 h1 hp => ?_)
  obtain ⟨rfl, H1, F1⟩ := hp
  rw [so_rd_eq] at H1
  refine pm_aload_n K dX5_read_7 (q := 8) rfl rfl rfl ?_
  refine pm_iload_n K dX5_read_8 (q := 9) rfl rfl rfl ?_
  refine pm_callV0 K gw_ok wcX5_30 (c_at l H1 hp) rfl (by have := H1.1; omega) H1.2.1 rfl rfl (Nat.le_of_ble_eq_true rfl) (by decide) dX5_read_9 (q := 12) rfl (fun r2 h2 hq2 => ?_)
  obtain ⟨rfl, rfl⟩ := hq2
  exact pm_aret Z dX5_read_12 rfl (Nat.le_of_ble_eq_true rfl) (Nat.le_of_ble_eq_true rfl) ⟨rfl, ⟨rfl, H1, F1⟩⟩
set_option maxRecDepth 100000 in
theorem c_write (l : Launch) {n : Nat} {h : pm_H} {ix : Nat → Nat} {R : Nat → rw_T} {ts : List Int32} (H : so_at n h ix R ts) {p j : Nat} (hp : p < 76) (hj : j < 76) : bM0 l yX5_write cX5_write 3 none 1 [.ref 15, .int (nI p), .ref (18 + j)] n h (fun r h' => r = none ∧ so_at n h' (va_up ix p j) R (tk (ts ++ [so_wr p])) ∧ (∀ q, q < 15 ∨ 17 < q → h' q = h q)) := by
  refine pm_enter rfl (Nat.le_of_ble_eq_true rfl) (fun G K Z => ?_)
  refine pm_aload_n K dX5_write_0 (q := 1) rfl rfl rfl ?_
  refine pm_ic2 K dX5_write_1 (q := 2) rfl ?_
  refine pm_iload_n K dX5_write_2 (q := 3) rfl rfl rfl ?_
  refine pm_imul K dX5_write_3 (q := 4) rfl ?_
  refine pm_ic1 K dX5_write_4 (q := 5) rfl ?_
  refine pm_iadd K dX5_write_5 (q := 6) rfl ?_
  refine pm_callV0 K gw_ok wcX5_26 (c_note l H (2 * nI p + 1)) rfl (by have := H.1; omega) H.2.1 rfl rfl (Nat.le_of_ble_eq_true rfl) (by decide) dX5_write_6 (q := 9) rfl (fun r2 h1 hq2 => ?_)
  obtain ⟨rfl, H, F1⟩ := hq2
  rw [so_wr_eq] at H
  have H1 := H
  obtain ⟨g0, g15, ⟨pf, g16, gpf⟩, ⟨tf, g17, gtf⟩, gix, gR, gts⟩ := H
  refine pm_iload_n K dX5_write_9 (q := 10) rfl rfl rfl ?_
  refine pm_if_lt K dX5_write_10 (tgt := 26) (q := 13) rfl rfl (fun z => absurd z (nI_pos (by omega))) (fun _ => ?_)
  refine pm_iload_n K dX5_write_13 (q := 14) rfl rfl rfl ?_
  refine pm_bipush (v := nI 76) K dX5_write_14 (q := 16) rfl (by decide) ?_
  refine pm_icmp_ge K dX5_write_16 (tgt := 26) (q := 19) rfl rfl (fun z => absurd z (nI_ge hp (by decide))) (fun _ => ?_)
  refine pm_aload_n K dX5_write_19 (q := 20) rfl rfl rfl ?_
  refine pm_get K inX5 rfl (k := 0) (by decide) wlX5_13 rfl (by omega) g15 rfl dX5_write_20 (q := 23) rfl ?_
  refine pm_iload_n K dX5_write_23 (q := 24) rfl rfl rfl ?_
  refine pm_aload_n K dX5_write_24 (q := 25) rfl rfl rfl ?_
  refine pm_aastN K (by omega) g16 (by omega) (gR j hj).1 rfl rfl hp (by decide) dX5_write_25 (q := 26) rfl ?_
  exact pm_vret Z dX5_write_26 rfl (Nat.le_of_ble_eq_true rfl) (Nat.le_of_ble_eq_true rfl) ⟨rfl, ⟨rfl, so_put H1 g16 gpf hp hj, fun q hq => by rw [pm_ne (by omega) rfl]; exact F1 q (by omega) (by omega)⟩⟩
set_option maxRecDepth 100000 in
theorem c_startTrace (l : Launch) {n : Nat} {h : pm_H} {ix : Nat → Nat} {R : Nat → rw_T} {ts : List Int32} (H : so_at n h ix R ts) : bM0 l yX5_startTrace cX5_startTrace 1 none 0 [.ref 15] n h (fun r h' => r = none ∧ so_at n h' ix R [] ∧ (∀ q, q ≠ 15 → h' q = h q)) := by
  refine pm_enter rfl (Nat.le_of_ble_eq_true rfl) (fun G K Z => ?_)
  obtain ⟨g0, g15, ⟨pf, g16, gpf⟩, ⟨tf, g17, gtf⟩, gix, gR, gts⟩ := H
  refine pm_aload_n K dX5_startTrace_0 (q := 1) rfl rfl rfl ?_
  refine pm_ic0 K dX5_startTrace_1 (q := 2) rfl ?_
  refine pm_put (fs' := [.ref 16, .ref 17, .int 0]) K inX5 tyX5 tyX5_ok nmX5 rfl (k := 2) (by decide) wlX5_21 rfl rfl (fun _ => ⟨rfl, rfl⟩) (by omega) g15 (Nat.le_of_ble_eq_true rfl) rfl dX5_startTrace_2 (q := 5) rfl ?_
  exact pm_vret Z dX5_startTrace_5 rfl (Nat.le_of_ble_eq_true rfl) (Nat.le_of_ble_eq_true rfl) ⟨rfl, ⟨rfl, ⟨g0, pm_same _ _ _, ⟨pf, pm_ne (by decide) g16, gpf⟩, ⟨tf, pm_ne (by decide) g17, fun i hi => absurd hi (Nat.not_lt_zero _)⟩, gix, fun j hj => ⟨pm_ne (by omega) (gR j hj).1, (gR j hj).2⟩, Nat.zero_le _⟩, fun q hq => pm_ne hq rfl⟩⟩
set_option maxRecDepth 100000 in
theorem c_notedAt (l : Launch) {n : Nat} {h : pm_H} {ix : Nat → Nat} {R : Nat → rw_T} {ts : List Int32} (H : so_at n h ix R ts) (k : Int32) : bM0 l yX5_notedAt cX5_notedAt 2 (some (.int)) 0 [.ref 15, .int k] n h (fun r h' => r = some (.int (so_nth ts k)) ∧ h' = h) := by
  refine pm_enter rfl (Nat.le_of_ble_eq_true rfl) (fun G K Z => ?_)
  obtain ⟨g0, g15, ⟨pf, g16, gpf⟩, ⟨tf, g17, gtf⟩, gix, gR, gts⟩ := H
  refine pm_iload_n K dX5_notedAt_0 (q := 1) rfl rfl rfl ?_
  refine pm_if_lt K dX5_notedAt_1 (tgt := 21) (q := 4) rfl rfl (fun ha => ?_) (fun ha => ?_)
  · refine pm_icm1 K dX5_notedAt_21 (q := 22) rfl ?_
    exact pm_iret Z dX5_notedAt_22 rfl rfl (Nat.le_of_ble_eq_true rfl) (Nat.le_of_ble_eq_true rfl) ⟨rfl, ⟨by rw [so_nth, if_pos (Or.inl ha)], rfl⟩⟩
  · refine pm_iload_n K dX5_notedAt_4 (q := 5) rfl rfl rfl ?_
    refine pm_aload_n K dX5_notedAt_5 (q := 6) rfl rfl rfl ?_
    refine pm_get K inX5 rfl (k := 2) (by decide) wlX5_21 rfl (by omega) g15 rfl dX5_notedAt_6 (q := 9) rfl ?_
    refine pm_icmp_ge K dX5_notedAt_9 (tgt := 21) (q := 12) rfl rfl (fun hb => ?_) (fun hb => ?_)
    · refine pm_icm1 K dX5_notedAt_21 (q := 22) rfl ?_
      exact pm_iret Z dX5_notedAt_22 rfl rfl (Nat.le_of_ble_eq_true rfl) (Nat.le_of_ble_eq_true rfl) ⟨rfl, ⟨by rw [so_nth, if_pos (Or.inr hb)], rfl⟩⟩
    · obtain ⟨j, hj, rfl⟩ := pk_j ha (Int32.not_le.mp hb) (by omega)
      have hg := gtf j hj
      refine pm_aload_n K dX5_notedAt_12 (q := 13) rfl rfl rfl ?_
      refine pm_get K inX5 rfl (k := 1) (by decide) wlX5_17 rfl (by omega) g15 rfl dX5_notedAt_13 (q := 16) rfl ?_
      refine pm_iload_n K dX5_notedAt_16 (q := 17) rfl rfl rfl ?_
      refine pm_ialdN K (by omega) g17 rfl (by omega) (by decide) dX5_notedAt_17 (q := 18) rfl ?_
      refine pm_goto K dX5_notedAt_18 (q := 22) rfl ?_
      exact pm_iret Z dX5_notedAt_22 rfl rfl (Nat.le_of_ble_eq_true rfl) (Nat.le_of_ble_eq_true rfl) ⟨rfl, ⟨congrArg (fun z => some (Value.int z)) (so_nth_at hg hj (by omega)).symm, rfl⟩⟩
set_option maxRecDepth 100000 in
theorem c_copy (l : Launch) {n : Nat} {h : pm_H} {ix : Nat → Nat} {R : Nat → rw_T} {ts : List Int32} (H : so_at n h ix R ts) {p q0 : Nat} (hp : p < 76) (hq : q0 < 76) (hne : ix q0 ≠ ix p) : bM0 l yX5_copy cX5_copy 5 none 2 [.ref 15, .int (nI p), .int (nI q0)] n h (fun r h' => r = none ∧ so_at n h' ix (va_up R (ix q0) (R (ix p))) (tk (ts ++ [so_rd p, so_wr q0])) ∧ so_fr h h') := by
  refine pm_enter rfl (Nat.le_of_ble_eq_true rfl) (fun G K Z => ?_)
  refine pm_aload_n K dX5_copy_0 (q := 1) rfl rfl rfl ?_
  refine pm_iload_n K dX5_copy_1 (q := 2) rfl rfl rfl ?_
  refine pm_callV0 K gw_ok wcX5_34 (c_read l H hp) rfl (by have := H.1; omega) H.2.1 rfl rfl (Nat.le_of_ble_eq_true rfl) (by decide) dX5_copy_2 (q := 5) rfl (fun r1 h1 hp => ?_)
  obtain ⟨rfl, H1, F1⟩ := hp
  refine pm_astore_n K dX5_copy_5 (q := 6) rfl rfl (by decide) rfl ?_
  refine pm_aload_n K dX5_copy_6 (q := 7) rfl rfl rfl ?_
  refine pm_iload_n K dX5_copy_7 (q := 8) rfl rfl rfl ?_
  refine pm_callV0 K gw_ok wcX5_30 (c_at l H1 hq) rfl (by have := H1.1; omega) H1.2.1 rfl rfl (Nat.le_of_ble_eq_true rfl) (by decide) dX5_copy_8 (q := 11) rfl (fun r2 h2 hq2 => ?_)
  obtain ⟨rfl, rfl⟩ := hq2
  have g0 := H1.1
  have gx := H1.2.2.2.2.1 q0 hq
  have gy := H1.2.2.2.2.1 p hp
  refine pm_astore K dX5_copy_11 (q := 13) rfl (by decide) rfl ?_
  refine pm_aload K dX5_copy_13 (q := 15) rfl rfl ?_
  refine pm_aload_n K dX5_copy_15 (q := 16) rfl rfl rfl ?_
  refine pm_callV0 K gw_ok wcX5_37 (c_become l (by omega) (H1.row gx) (by omega) (H1.row gy) (by omega) (H1.2.2.2.2.2.1 _ gy).2) rfl (by omega) (H1.row gx) rfl rfl (Nat.le_of_ble_eq_true rfl) (by decide) dX5_copy_16 (q := 19) rfl (fun r3 h3 hp => ?_)
  obtain ⟨rfl, rfl⟩ := hp
  have H2 := H1.mod gx (f := R (ix p)) (H1.2.2.2.2.2.1 _ gy).2
  refine pm_aload_n K dX5_copy_19 (q := 20) rfl rfl rfl ?_
  refine pm_iload_n K dX5_copy_20 (q := 21) rfl rfl rfl ?_
  refine pm_aload K dX5_copy_21 (q := 23) rfl rfl ?_
  refine pm_callV0 K gw_ok wcX5_41 (c_write l H2 hq gx) rfl (by have := H2.1; omega) H2.2.1 rfl rfl (Nat.le_of_ble_eq_true rfl) (by decide) dX5_copy_23 (q := 26) rfl (fun r4 h4 hp => ?_)
  obtain ⟨rfl, H3, F3⟩ := hp
  rw [tk_app, List.append_assoc, so_id] at H3
  exact pm_vret Z dX5_copy_26 rfl (Nat.le_of_ble_eq_true rfl) (Nat.le_of_ble_eq_true rfl) ⟨rfl, ⟨rfl, H3, fun q hq => by rw [F3 q (by omega), pm_ne (by omega) rfl, F1 q (by omega) (by omega)]⟩⟩
end
section
/-! The store: laying rows in, taking them away. -/
def so_map (b m : Nat) (F : Nat → rw_T → rw_T) (L : Nat → rw_T) : Nat → rw_T := fun i => if b ≤ i ∧ i < b + m then F (i - b) (L i) else L i
theorem so_map_at {b m : Nat} {F : Nat → rw_T → rw_T} {L : Nat → rw_T} : so_map b m F L (b + m) = L (b + m) := by
  unfold so_map
  rw [if_neg (by omega)]
theorem so_map_at0 {m : Nat} {F : Nat → rw_T → rw_T} {L : Nat → rw_T} : so_map 0 m F L m = L m := by
  unfold so_map
  rw [if_neg (by omega)]
theorem so_map_0 (b : Nat) (F : Nat → rw_T → rw_T) (L : Nat → rw_T) : so_map b 0 F L = L := by
  funext i
  unfold so_map
  rw [if_neg (by omega)]
theorem so_map_succ (b m : Nat) (F : Nat → rw_T → rw_T) (L : Nat → rw_T) : so_map b (m + 1) F L = va_up (so_map b m F L) (b + m) (F m (L (b + m))) := by
  funext i
  unfold so_map va_up
  by_cases h : i = b + m
  · subst h
    rw [if_pos (by omega), if_pos rfl, show b + m - b = m by omega]
  · rw [if_neg h]
    dsimp only
    by_cases h2 : b ≤ i ∧ i < b + m
    · rw [if_pos h2, if_pos (by omega)]
    · rw [if_neg h2, if_neg (by omega)]
theorem so_map_succ0 (m : Nat) (F : Nat → rw_T → rw_T) (L : Nat → rw_T) : so_map 0 (m + 1) F L = va_up (so_map 0 m F L) m (F m (L m)) := by
  have := so_map_succ 0 m F L
  rw [Nat.zero_add] at this
  exact this
def so_lay1 (t : bg_T) (f : rw_T) : rw_T := rw_sort t.1 t.2.1 t.2.2 (rw_cols t.1 t.2.1 t.2.2 f)
def so_key (c sd : Int32) (t : bg_T) (f : rw_T) : rw_T := rw_sort (rw_col c (rw_cols t.1 t.2.1 t.2.2 f)) sd 0 (upd (upd (rw_cols t.1 t.2.1 t.2.2 f) 3 (rw_col c (rw_cols t.1 t.2.1 t.2.2 f))) 4 sd)
def rw_c3 (f : rw_T) : bg_T := (f 0, f 1, f 2)
theorem so_at.mv {n : Nat} {h h' : pm_H} {ix : Nat → Nat} {R : Nat → rw_T} {ts : List Int32} (H : so_at n h ix R ts) (hf : ∀ q, 15 ≤ q ∧ q ≤ 93 → h' q = h q) : so_at n h' ix R ts := by
  obtain ⟨g0, g15, ⟨pf, g16, gpf⟩, ⟨tf, g17, gtf⟩, gix, gR, gts⟩ := H
  exact ⟨g0, by rw [hf 15 (by omega)]; exact g15, ⟨pf, by rw [hf 16 (by omega)]; exact g16, gpf⟩, ⟨tf, by rw [hf 17 (by omega)]; exact g17, gtf⟩, gix, fun j hj => ⟨by rw [hf (18 + j) (by omega)]; exact (gR j hj).1, (gR j hj).2⟩, gts⟩
theorem so_L.mv {n : Nat} {h h' : pm_H} {L : Nat → rw_T} {ts : List Int32} (H : so_L n h L ts) (hf : ∀ q, 15 ≤ q ∧ q ≤ 93 → h' q = h q) : so_L n h' L ts := by
  obtain ⟨ix, R, HA, hi, hL⟩ := H
  exact ⟨ix, R, HA.mv hf, hi, hL⟩
set_option maxRecDepth 100000 in
theorem c_lay (l : Launch) {n : Nat} {h : pm_H} {L : Nat → rw_T} {ts : List Int32} (H : so_L n h L ts) {b len : Nat} {l0 : List bg_T} (B : bg_at n h b len l0) (hb : b + 3 < 15 ∨ 93 < b) : bM0 l yX5_lay cX5_lay 4 (some (.int)) 2 [.ref 15, .ref b] n h (fun r h' => r = some (.int (nI l0.length)) ∧ so_L n h' (so_map 0 l0.length (fun r f => so_lay1 (l0.getD r (0, 0, 0)) f) L) ts ∧ so_fr h h') := by
  refine pm_enter rfl (Nat.le_of_ble_eq_true rfl) (fun G K Z => ?_)
  refine pm_ic0 K dX5_lay_0 (q := 1) rfl ?_
  refine pm_istore_n K dX5_lay_1 (q := 2) rfl rfl (by decide) rfl ?_
  have loop : ∀ (k r : Nat) (h2 : pm_H) (x3 : Option Value), r + k = l0.length → so_L n h2 (so_map 0 r (fun r f => so_lay1 (l0.getD r (0, 0, 0)) f) L) ts → so_fr h h2 → G 0 0 2 [some (.ref 15), some (.ref b), some (.int (nI r)), x3] [] n h2 := by
    intro k
    induction k with
    | zero =>
      intro r h2 x3 hk HL hF
      have J2 : bg_at n h2 b len l0 := B.fr (Nat.le_refl _) (fun q a c => hF q (by omega))
      obtain ⟨h1, h2x, h3, h4, f1, f2, f3, h5, h6, h7, h8⟩ := J2
      refine pm_iload_n K dX5_lay_2 (q := 3) rfl rfl rfl ?_
      refine pm_aload_n K dX5_lay_3 (q := 4) rfl rfl rfl ?_
      refine pm_get K inX0 rfl (k := 3) (by decide) wlX5_45 rfl (by omega) h4 rfl dX5_lay_4 (q := 7) rfl ?_
      refine pm_icmp_ge K dX5_lay_7 (tgt := 60) (q := 10) rfl rfl (fun _ => ?_) (fun z => absurd z (fun z => z (nI_le (by omega) (by omega))))
      refine pm_aload_n K dX5_lay_60 (q := 61) rfl rfl rfl ?_
      refine pm_get K inX0 rfl (k := 3) (by decide) wlX5_45 rfl (by omega) h4 rfl dX5_lay_61 (q := 64) rfl ?_
      have er : r = l0.length := by omega
      subst er
      exact pm_iret Z dX5_lay_64 rfl rfl (Nat.le_of_ble_eq_true rfl) (Nat.le_of_ble_eq_true rfl) ⟨rfl, ⟨rfl, HL, hF⟩⟩
    | succ k ih =>
      intro r h2 x3 hk HL hF
      have J2 : bg_at n h2 b len l0 := B.fr (Nat.le_refl _) (fun q a c => hF q (by omega))
      obtain ⟨h1, h2x, h3, h4, f1, f2, f3, h5, h6, h7, h8⟩ := J2
      refine pm_iload_n K dX5_lay_2 (q := 3) rfl rfl rfl ?_
      refine pm_aload_n K dX5_lay_3 (q := 4) rfl rfl rfl ?_
      refine pm_get K inX0 rfl (k := 3) (by decide) wlX5_45 rfl (by omega) h4 rfl dX5_lay_4 (q := 7) rfl ?_
      refine pm_icmp_ge K dX5_lay_7 (tgt := 60) (q := 10) rfl rfl (fun z => absurd z (nI_ge (by omega) (by omega))) (fun _ => ?_)
      have hg := h8 r (by omega)
      obtain ⟨ix, R, HA, hi, hL⟩ := HL
      have g0 := HA.1
      have gx := HA.2.2.2.2.1 r (by omega)
      refine pm_aload_n K dX5_lay_10 (q := 11) rfl rfl rfl ?_
      refine pm_iload_n K dX5_lay_11 (q := 12) rfl rfl rfl ?_
      refine pm_callV0 K gw_ok wcX5_30 (c_at l HA (p := r) (by omega)) rfl (by have := HA.1; omega) HA.2.1 rfl rfl (Nat.le_of_ble_eq_true rfl) (by decide) dX5_lay_12 (q := 15) rfl (fun r1 h1 hp => ?_)
      obtain ⟨rfl, rfl⟩ := hp
      refine pm_astore_n K dX5_lay_15 (q := 16) rfl rfl (by decide) rfl ?_
      refine pm_aload_n K dX5_lay_16 (q := 17) rfl rfl rfl ?_
      refine pm_aload_n K dX5_lay_17 (q := 18) rfl rfl rfl ?_
      refine pm_get K inX0 rfl (k := 0) (by decide) wlX5_50 rfl (by omega) h4 rfl dX5_lay_18 (q := 21) rfl ?_
      refine pm_iload_n K dX5_lay_21 (q := 22) rfl rfl rfl ?_
      refine pm_ialdN K (by omega) h5 rfl (by omega) (by omega) dX5_lay_22 (q := 23) rfl ?_
      refine pm_aload_n K dX5_lay_23 (q := 24) rfl rfl rfl ?_
      refine pm_get K inX0 rfl (k := 1) (by decide) wlX5_53 rfl (by omega) h4 rfl dX5_lay_24 (q := 27) rfl ?_
      refine pm_iload_n K dX5_lay_27 (q := 28) rfl rfl rfl ?_
      refine pm_ialdN K (by omega) h6 rfl (by omega) (by omega) dX5_lay_28 (q := 29) rfl ?_
      refine pm_aload_n K dX5_lay_29 (q := 30) rfl rfl rfl ?_
      refine pm_get K inX0 rfl (k := 2) (by decide) wlX5_56 rfl (by omega) h4 rfl dX5_lay_30 (q := 33) rfl ?_
      refine pm_iload_n K dX5_lay_33 (q := 34) rfl rfl rfl ?_
      refine pm_ialdN K (by omega) h7 rfl (by omega) (by omega) dX5_lay_34 (q := 35) rfl ?_
      refine pm_callV0 K gw_ok wcX5_59 (c_setColumns l (by omega) (HA.row gx) (f1 r) (f2 r) (f3 r)) rfl (by omega) (HA.row gx) rfl rfl (Nat.le_of_ble_eq_true rfl) (by decide) dX5_lay_35 (q := 38) rfl (fun r4 h4x hp => ?_)
      obtain ⟨rfl, rfl⟩ := hp
      refine pm_aload_n K dX5_lay_38 (q := 39) rfl rfl rfl ?_
      refine pm_aload_n K dX5_lay_39 (q := 40) rfl rfl rfl ?_
      refine pm_get K inX3 rfl (k := 0) (by decide) wlX5_63 rfl (by omega) (pm_same _ _ _) rfl dX5_lay_40 (q := 43) rfl ?_
      refine pm_aload_n K dX5_lay_43 (q := 44) rfl rfl rfl ?_
      refine pm_get K inX3 rfl (k := 1) (by decide) wlX5_66 rfl (by omega) (pm_same _ _ _) rfl dX5_lay_44 (q := 47) rfl ?_
      refine pm_aload_n K dX5_lay_47 (q := 48) rfl rfl rfl ?_
      refine pm_get K inX3 rfl (k := 2) (by decide) wlX5_69 rfl (by omega) (pm_same _ _ _) rfl dX5_lay_48 (q := 51) rfl ?_
      refine pm_callV0 K gw_ok wcX5_72 (c_sortBy l (by omega) (pm_same _ _ _) (f1 r) (f2 r) (f3 r)) rfl (by omega) (pm_same _ _ _) rfl rfl (Nat.le_of_ble_eq_true rfl) (by decide) dX5_lay_51 (q := 54) rfl (fun r5 h5x hp => ?_)
      obtain ⟨rfl, rfl⟩ := hp
      rw [pm_up2]
      refine pm_inc K dX5_lay_54 (q := 57) rfl rfl (by decide) rfl ?_
      refine pm_goto K dX5_lay_57 (q := 2) rfl ?_
      refine ih (r + 1) _ _ (by omega) ?_ (hF.tr (so_fr.row gx _))
      have HM := HA.mod gx (f := so_lay1 (f1 r, f2 r, f3 r) (R (ix r))) ((HA.2.2.2.2.2.1 _ gx).2)
      have HC := so_L.cl HM hi hL (by omega)
      rw [so_map_succ0, List.getD_eq_getElem?_getD, hg, ← so_map_at0 (m := r) (F := _) (L := L), hL r (by omega)]
      exact HC
  have := loop l0.length 0 h none (by omega) (by rw [so_map_0]; exact H) so_fr.rf
  rw [nI_0] at this
  exact this
set_option maxRecDepth 100000 in
theorem c_layByKey (l : Launch) {n : Nat} {h : pm_H} {L : Nat → rw_T} {ts : List Int32} (H : so_L n h L ts) {b len : Nat} {l0 : List bg_T} (B : bg_at n h b len l0) (hb : b + 3 < 15 ∨ 93 < b) {p0 : Nat} (hp0 : p0 + l0.length ≤ 76) (c0 sd : Int32) : bM0 l yX5_layByKey cX5_layByKey 7 (some (.int)) 2 [.ref 15, .ref b, .int (nI p0), .int c0, .int sd] n h (fun r h' => r = some (.int (nI (p0 + l0.length))) ∧ so_L n h' (so_map p0 l0.length (fun r f => so_key c0 sd (l0.getD r (0, 0, 0)) f) L) ts ∧ so_fr h h') := by
  refine pm_enter rfl (Nat.le_of_ble_eq_true rfl) (fun G K Z => ?_)
  refine pm_ic0 K dX5_layByKey_0 (q := 1) rfl ?_
  refine pm_istore K dX5_layByKey_1 (q := 3) rfl (by decide) rfl ?_
  have loop : ∀ (k r : Nat) (h2 : pm_H) (x3 : Option Value), r + k = l0.length → so_L n h2 (so_map p0 r (fun r f => so_key c0 sd (l0.getD r (0, 0, 0)) f) L) ts → so_fr h h2 → G 0 0 3 [some (.ref 15), some (.ref b), some (.int (nI p0)), some (.int c0), some (.int sd), some (.int (nI r)), x3] [] n h2 := by
    intro k
    induction k with
    | zero =>
      intro r h2 x3 hk HL hF
      have J2 : bg_at n h2 b len l0 := B.fr (Nat.le_refl _) (fun q a c => hF q (by omega))
      obtain ⟨h1, h2x, h3, h4, f1, f2, f3, h5, h6, h7, h8⟩ := J2
      refine pm_iload K dX5_layByKey_3 (q := 5) rfl rfl ?_
      refine pm_aload_n K dX5_layByKey_5 (q := 6) rfl rfl rfl ?_
      refine pm_get K inX0 rfl (k := 3) (by decide) wlX5_45 rfl (by omega) h4 rfl dX5_layByKey_6 (q := 9) rfl ?_
      refine pm_icmp_ge K dX5_layByKey_9 (tgt := 85) (q := 12) rfl rfl (fun _ => ?_) (fun z => absurd z (fun z => z (nI_le (by omega) (by omega))))
      refine pm_iload_n K dX5_layByKey_85 (q := 86) rfl rfl rfl ?_
      refine pm_aload_n K dX5_layByKey_86 (q := 87) rfl rfl rfl ?_
      refine pm_get K inX0 rfl (k := 3) (by decide) wlX5_45 rfl (by omega) h4 rfl dX5_layByKey_87 (q := 90) rfl ?_
      refine pm_iadd K dX5_layByKey_90 (q := 91) rfl ?_
      have er : r = l0.length := by omega
      subst er
      exact pm_iret Z dX5_layByKey_91 rfl rfl (Nat.le_of_ble_eq_true rfl) (Nat.le_of_ble_eq_true rfl) ⟨rfl, ⟨by rw [nI_add], HL, hF⟩⟩
    | succ k ih =>
      intro r h2 x3 hk HL hF
      have J2 : bg_at n h2 b len l0 := B.fr (Nat.le_refl _) (fun q a c => hF q (by omega))
      obtain ⟨h1, h2x, h3, h4, f1, f2, f3, h5, h6, h7, h8⟩ := J2
      refine pm_iload K dX5_layByKey_3 (q := 5) rfl rfl ?_
      refine pm_aload_n K dX5_layByKey_5 (q := 6) rfl rfl rfl ?_
      refine pm_get K inX0 rfl (k := 3) (by decide) wlX5_45 rfl (by omega) h4 rfl dX5_layByKey_6 (q := 9) rfl ?_
      refine pm_icmp_ge K dX5_layByKey_9 (tgt := 85) (q := 12) rfl rfl (fun z => absurd z (nI_ge (by omega) (by omega))) (fun _ => ?_)
      have hg := h8 r (by omega)
      obtain ⟨ix, R, HA, hi, hL⟩ := HL
      have g0 := HA.1
      have gx := HA.2.2.2.2.1 (p0 + r) (by omega)
      refine pm_aload_n K dX5_layByKey_12 (q := 13) rfl rfl rfl ?_
      refine pm_iload_n K dX5_layByKey_13 (q := 14) rfl rfl rfl ?_
      refine pm_iload K dX5_layByKey_14 (q := 16) rfl rfl ?_
      refine pm_iadd K dX5_layByKey_16 (q := 17) rfl ?_
      rw [nI_add]
      refine pm_callV0 K gw_ok wcX5_30 (c_at l HA (p := p0 + r) (by omega)) rfl (by have := HA.1; omega) HA.2.1 rfl rfl (Nat.le_of_ble_eq_true rfl) (by decide) dX5_layByKey_17 (q := 20) rfl (fun r1 h1 hp => ?_)
      obtain ⟨rfl, rfl⟩ := hp
      refine pm_astore K dX5_layByKey_20 (q := 22) rfl (by decide) rfl ?_
      refine pm_aload K dX5_layByKey_22 (q := 24) rfl rfl ?_
      refine pm_aload_n K dX5_layByKey_24 (q := 25) rfl rfl rfl ?_
      refine pm_get K inX0 rfl (k := 0) (by decide) wlX5_50 rfl (by omega) h4 rfl dX5_layByKey_25 (q := 28) rfl ?_
      refine pm_iload K dX5_layByKey_28 (q := 30) rfl rfl ?_
      refine pm_ialdN K (by omega) h5 rfl (by omega) (by omega) dX5_layByKey_30 (q := 31) rfl ?_
      refine pm_aload_n K dX5_layByKey_31 (q := 32) rfl rfl rfl ?_
      refine pm_get K inX0 rfl (k := 1) (by decide) wlX5_53 rfl (by omega) h4 rfl dX5_layByKey_32 (q := 35) rfl ?_
      refine pm_iload K dX5_layByKey_35 (q := 37) rfl rfl ?_
      refine pm_ialdN K (by omega) h6 rfl (by omega) (by omega) dX5_layByKey_37 (q := 38) rfl ?_
      refine pm_aload_n K dX5_layByKey_38 (q := 39) rfl rfl rfl ?_
      refine pm_get K inX0 rfl (k := 2) (by decide) wlX5_56 rfl (by omega) h4 rfl dX5_layByKey_39 (q := 42) rfl ?_
      refine pm_iload K dX5_layByKey_42 (q := 44) rfl rfl ?_
      refine pm_ialdN K (by omega) h7 rfl (by omega) (by omega) dX5_layByKey_44 (q := 45) rfl ?_
      refine pm_callV0 K gw_ok wcX5_59 (c_setColumns l (by omega) (HA.row gx) (f1 r) (f2 r) (f3 r)) rfl (by omega) (HA.row gx) rfl rfl (Nat.le_of_ble_eq_true rfl) (by decide) dX5_layByKey_45 (q := 48) rfl (fun r4 h4x hp => ?_)
      obtain ⟨rfl, rfl⟩ := hp
      refine pm_aload K dX5_layByKey_48 (q := 50) rfl rfl ?_
      refine pm_aload K dX5_layByKey_50 (q := 52) rfl rfl ?_
      refine pm_iload_n K dX5_layByKey_52 (q := 53) rfl rfl rfl ?_
      refine pm_callV0 K gw_ok wcX5_75 (c_column l (by omega) (pm_same _ _ _) c0) rfl (by omega) (pm_same _ _ _) rfl rfl (Nat.le_of_ble_eq_true rfl) (by decide) dX5_layByKey_53 (q := 56) rfl (fun r5 h5x hp => ?_)
      obtain ⟨rfl, rfl⟩ := hp
      refine rw_putU K (k := 3) (by decide) (by decide) wlX5_79 (by omega) dX5_layByKey_56 (q := 59) rfl ?_
      refine pm_aload K dX5_layByKey_59 (q := 61) rfl rfl ?_
      refine pm_iload K dX5_layByKey_61 (q := 63) rfl rfl ?_
      refine rw_putU K (k := 4) (by decide) (by decide) wlX5_82 (by omega) dX5_layByKey_63 (q := 66) rfl ?_
      refine pm_aload K dX5_layByKey_66 (q := 68) rfl rfl ?_
      refine pm_aload K dX5_layByKey_68 (q := 70) rfl rfl ?_
      refine pm_get K inX3 rfl (k := 3) (by decide) wlX5_79 rfl (by omega) (pm_same _ _ _) rfl dX5_layByKey_70 (q := 73) rfl ?_
      refine pm_iload K dX5_layByKey_73 (q := 75) rfl rfl ?_
      refine pm_ic0 K dX5_layByKey_75 (q := 76) rfl ?_
      refine pm_callV0 K gw_ok wcX5_72 (c_sortBy l (by omega) (pm_same _ _ _) (rw_col c0 (rw_cols (f1 r) (f2 r) (f3 r) (R (ix (p0 + r))))) sd 0) rfl (by omega) (pm_same _ _ _) rfl rfl (Nat.le_of_ble_eq_true rfl) (by decide) dX5_layByKey_76 (q := 79) rfl (fun r6 h6x hp => ?_)
      obtain ⟨rfl, rfl⟩ := hp
      rw [pm_up2]
      refine pm_inc K dX5_layByKey_79 (q := 82) rfl rfl (by decide) rfl ?_
      refine pm_goto K dX5_layByKey_82 (q := 3) rfl ?_
      refine ih (r + 1) _ _ (by omega) ?_ (hF.tr (so_fr.row gx _))
      have HM := HA.mod gx (f := so_key c0 sd (f1 r, f2 r, f3 r) (R (ix (p0 + r)))) ((HA.2.2.2.2.2.1 _ gx).2)
      have HC := so_L.cl HM hi hL (by omega)
      rw [so_map_succ, List.getD_eq_getElem?_getD, hg, ← so_map_at (b := p0) (m := r) (F := _) (L := L), hL (p0 + r) (by omega)]
      exact HC
  have := loop l0.length 0 h none (by omega) (by rw [so_map_0]; exact H) so_fr.rf
  rw [nI_0] at this
  exact this
set_option maxRecDepth 100000 in
theorem c_takeAway (l : Launch) {n : Nat} {h : pm_H} {L : Nat → rw_T} {ts : List Int32} (H : so_L n h L ts) {b len : Nat} {l0 : List bg_T} (B : bg_at n h b len l0) (hb : b + 3 < 15 ∨ 93 < b) {m : Nat} (hm : m ≤ 76) : bM0 l yX5_takeAway cX5_takeAway 5 none 2 [.ref 15, .ref b, .int (nI m)] n h (fun r h' => r = none ∧ bg_at n h' b len (((nw_ls 0 m L).map rw_c3).take len) ∧ ∀ q, q < b ∨ b + 3 < q → h' q = h q) := by
  refine pm_enter rfl (Nat.le_of_ble_eq_true rfl) (fun G K Z => ?_)
  refine pm_aload_n K dX5_takeAway_0 (q := 1) rfl rfl rfl ?_
  refine pm_callV0 K gw_ok wcX5_88 (c_bclear l B) rfl (by have := B.1; omega) B.2.2.2.1 rfl rfl (Nat.le_of_ble_eq_true rfl) (by decide) dX5_takeAway_1 (q := 4) rfl (fun r1 h1 hp => ?_)
  obtain ⟨rfl, B1, F1⟩ := hp
  refine pm_ic0 K dX5_takeAway_4 (q := 5) rfl ?_
  refine pm_istore_n K dX5_takeAway_5 (q := 6) rfl rfl (by decide) rfl ?_
  have loop : ∀ (k r : Nat) (h2 : pm_H) (x3 : Option Value), r + k = m → bg_at n h2 b len (((nw_ls 0 r L).map rw_c3).take len) → (∀ q, q < b ∨ b + 3 < q → h2 q = h q) → G 0 0 6 [some (.ref 15), some (.ref b), some (.int (nI m)), some (.int (nI r)), x3] [] n h2 := by
    intro k
    induction k with
    | zero =>
      intro r h2 x3 hk HB hF
      refine pm_iload_n K dX5_takeAway_6 (q := 7) rfl rfl rfl ?_
      refine pm_iload_n K dX5_takeAway_7 (q := 8) rfl rfl rfl ?_
      refine pm_icmp_ge K dX5_takeAway_8 (tgt := 44) (q := 11) rfl rfl (fun _ => ?_) (fun z => absurd z (fun z => z (nI_le (by omega) (by omega))))
      have er : r = m := by omega
      subst er
      exact pm_vret Z dX5_takeAway_44 rfl (Nat.le_of_ble_eq_true rfl) (Nat.le_of_ble_eq_true rfl) ⟨rfl, ⟨rfl, HB, hF⟩⟩
    | succ k ih =>
      intro r h2 x3 hk HB hF
      refine pm_iload_n K dX5_takeAway_6 (q := 7) rfl rfl rfl ?_
      refine pm_iload_n K dX5_takeAway_7 (q := 8) rfl rfl rfl ?_
      refine pm_icmp_ge K dX5_takeAway_8 (tgt := 44) (q := 11) rfl rfl (fun z => absurd z (nI_ge (by omega) (by omega))) (fun _ => ?_)
      obtain ⟨ix, R, HA0, hi, hL⟩ := H
      have HA := so_at.mv HA0 (fun q hq => hF q (by omega))
      have g0 := HA.1
      have gx := HA.2.2.2.2.1 r (by omega)
      refine pm_aload_n K dX5_takeAway_11 (q := 12) rfl rfl rfl ?_
      refine pm_iload_n K dX5_takeAway_12 (q := 13) rfl rfl rfl ?_
      refine pm_callV0 K gw_ok wcX5_30 (c_at l HA (p := r) (by omega)) rfl (by have := HA.1; omega) HA.2.1 rfl rfl (Nat.le_of_ble_eq_true rfl) (by decide) dX5_takeAway_13 (q := 16) rfl (fun r1 h1 hp => ?_)
      obtain ⟨rfl, rfl⟩ := hp
      refine pm_astore K dX5_takeAway_16 (q := 18) rfl (by decide) rfl ?_
      refine pm_aload_n K dX5_takeAway_18 (q := 19) rfl rfl rfl ?_
      refine pm_aload K dX5_takeAway_19 (q := 21) rfl rfl ?_
      refine pm_get K inX3 rfl (k := 0) (by decide) wlX5_63 rfl (by omega) (HA.row gx) rfl dX5_takeAway_21 (q := 24) rfl ?_
      refine pm_aload K dX5_takeAway_24 (q := 26) rfl rfl ?_
      refine pm_get K inX3 rfl (k := 1) (by decide) wlX5_66 rfl (by omega) (HA.row gx) rfl dX5_takeAway_26 (q := 29) rfl ?_
      refine pm_aload K dX5_takeAway_29 (q := 31) rfl rfl ?_
      refine pm_get K inX3 rfl (k := 2) (by decide) wlX5_69 rfl (by omega) (HA.row gx) rfl dX5_takeAway_31 (q := 34) rfl ?_
      refine pm_callV0 K gw_ok wcX5_91 (c_hold l HB (R (ix r) 0) (R (ix r) 1) (R (ix r) 2)) rfl (by have := HB.1; omega) HB.2.2.2.1 rfl rfl (Nat.le_of_ble_eq_true rfl) (by decide) dX5_takeAway_34 (q := 37) rfl (fun r3 h3 hp => ?_)
      obtain ⟨rfl, HB2, F2⟩ := hp
      refine pm_pop K dX5_takeAway_37 (q := 38) rfl ?_
      refine pm_inc K dX5_takeAway_38 (q := 41) rfl rfl (by decide) rfl ?_
      refine pm_goto K dX5_takeAway_41 (q := 6) rfl ?_
      refine ih (r + 1) h3 _ (by omega) ?_ (fun q hq => (F2 q hq).trans (hF q hq))
      rw [nw_ls_succ, List.map_append, List.map_cons, List.map_nil, ← bg_take2, Nat.zero_add, hL r (by omega)]
      exact HB2
  have := loop m 0 h1 none (by omega) (by simpa [nw_ls] using B1) F1
  rw [nI_0] at this
  exact this
set_option maxRecDepth 100000 in
theorem c_sclear (l : Launch) {n : Nat} {h : pm_H} {L : Nat → rw_T} {ts : List Int32} (H : so_L n h L ts) : bM0 l yX5_clear cX5_clear 2 none 2 [.ref 15] n h (fun r h' => r = none ∧ so_L n h' (so_map 0 76 (fun _ f => rw_disc f) L) ts ∧ so_fr h h') := by
  refine pm_enter rfl (Nat.le_of_ble_eq_true rfl) (fun G K Z => ?_)
  refine pm_ic0 K dX5_clear_0 (q := 1) rfl ?_
  refine pm_istore_n K dX5_clear_1 (q := 2) rfl rfl (by decide) rfl ?_
  have loop : ∀ (k r : Nat) (h2 : pm_H), r + k = 76 → so_L n h2 (so_map 0 r (fun _ f => rw_disc f) L) ts → so_fr h h2 → G 0 0 2 [some (.ref 15), some (.int (nI r))] [] n h2 := by
    intro k
    induction k with
    | zero =>
      intro r h2 hk HL hF
      refine pm_iload_n K dX5_clear_2 (q := 3) rfl rfl rfl ?_
      refine pm_bipush (v := nI 76) K dX5_clear_3 (q := 5) rfl (by decide) ?_
      refine pm_icmp_ge K dX5_clear_5 (tgt := 23) (q := 8) rfl rfl (fun _ => ?_) (fun z => absurd z (fun z => z (nI_le (by omega) (by omega))))
      have er : r = 76 := by omega
      subst er
      exact pm_vret Z dX5_clear_23 rfl (Nat.le_of_ble_eq_true rfl) (Nat.le_of_ble_eq_true rfl) ⟨rfl, ⟨rfl, HL, hF⟩⟩
    | succ k ih =>
      intro r h2 hk HL hF
      refine pm_iload_n K dX5_clear_2 (q := 3) rfl rfl rfl ?_
      refine pm_bipush (v := nI 76) K dX5_clear_3 (q := 5) rfl (by decide) ?_
      refine pm_icmp_ge K dX5_clear_5 (tgt := 23) (q := 8) rfl rfl (fun z => absurd z (nI_ge (by omega) (by decide))) (fun _ => ?_)
      obtain ⟨ix, R, HA, hi, hL⟩ := HL
      have H := HA
      obtain ⟨g0, g15, ⟨pf, g16, gpf⟩, ⟨tf, g17, gtf⟩, gix, gR, gts⟩ := H
      have gx := gix r (by omega)
      refine pm_aload_n K dX5_clear_8 (q := 9) rfl rfl rfl ?_
      refine pm_get K inX5 rfl (k := 0) (by decide) wlX5_13 rfl (by omega) g15 rfl dX5_clear_9 (q := 12) rfl ?_
      refine pm_iload_n K dX5_clear_12 (q := 13) rfl rfl rfl ?_
      refine pm_aaldN K (by omega) g16 rfl (by omega) (by decide) (gpf r (by omega)) dX5_clear_13 (q := 14) rfl ?_
      refine pm_callV0 K gw_ok wcX5_85 (c_discard l (by omega) (HA.row gx)) rfl (by omega) (HA.row gx) rfl rfl (Nat.le_of_ble_eq_true rfl) (by decide) dX5_clear_14 (q := 17) rfl (fun r1 h1 hp => ?_)
      obtain ⟨rfl, rfl⟩ := hp
      refine pm_inc K dX5_clear_17 (q := 20) rfl rfl (by decide) rfl ?_
      refine pm_goto K dX5_clear_20 (q := 2) rfl ?_
      refine ih (r + 1) _ (by omega) ?_ (hF.tr (so_fr.row gx _))
      have HM := HA.mod gx (f := rw_disc (R (ix r))) (Or.inl rfl)
      have HC := so_L.cl HM hi hL (by omega)
      rw [so_map_succ0, ← so_map_at0 (m := r) (F := _) (L := L), hL r (by omega)]
      exact HC
  have := loop 76 0 h (by omega) (by rw [so_map_0]; exact H) so_fr.rf
  rw [nI_0] at this
  exact this
end
section
/-! The store: a pass of the sort. -/
def so_t (n : Nat) : Nat := (n - 1).log2
theorem so_t_eq {t n : Nat} (h : t = 0 ∨ 2 ^ t < n) (h2 : n ≤ 2 ^ (t + 1)) : so_t n = t := by
  unfold so_t
  by_cases h0 : n - 1 = 0
  · rw [h0]
    rcases h with rfl | h
    · rfl
    · have : 0 < 2 ^ t := Nat.two_pow_pos t
      omega
  · rw [Nat.log2_eq_iff h0]
    rcases h with rfl | h
    · constructor
      · show 2 ^ 0 ≤ _
        omega
      · omega
    · omega
def rw_lt (f g : rw_T) : Bool := rw_gt g f
def tr_ps (b p r d : Nat) : Nat → List Int32
  | 0 => []
  | m + 1 => tr_ps b p r d m ++ (if m &&& p = r then [so_rd (b + m), so_rd (b + m + d), so_wr (b + m), so_wr (b + m + d)] else [])
theorem tr_ps_0 (b p r d : Nat) : tr_ps b p r d 0 = [] := rfl
theorem tr_ps_no {b p r d m : Nat} (h : ¬ m &&& p = r) : tr_ps b p r d (m + 1) = tr_ps b p r d m := by
  rw [tr_ps, if_neg h, List.append_nil]
theorem tr_ps_yes {b p r d m : Nat} (h : m &&& p = r) : tr_ps b p r d (m + 1) = tr_ps b p r d m ++ [so_rd (b + m), so_rd (b + m + d), so_wr (b + m), so_wr (b + m + d)] := by
  rw [tr_ps, if_pos h]
theorem nw_ps_no {α : Type} {lt : α → α → Bool} {b p r d m : Nat} {L : Nat → α} (h : ¬ m &&& p = r) : nw_ps lt b p r d (m + 1) L = nw_ps lt b p r d m L := by
  rw [nw_ps, if_neg h]
theorem nw_ps_yes {α : Type} {lt : α → α → Bool} {b p r d m : Nat} {L : Nat → α} (h : m &&& p = r) (hs : lt (nw_ps lt b p r d m L (b + m + d)) (nw_ps lt b p r d m L (b + m)) = true) : nw_ps lt b p r d (m + 1) L = nw_sw (b + m) (b + m + d) (nw_ps lt b p r d m L) := by
  rw [nw_ps, if_pos h, nw_cx, if_pos hs]
theorem nw_ps_stay {α : Type} {lt : α → α → Bool} {b p r d m : Nat} {L : Nat → α} (hs : lt (nw_ps lt b p r d m L (b + m + d)) (nw_ps lt b p r d m L (b + m)) = false) : nw_ps lt b p r d (m + 1) L = nw_ps lt b p r d m L := by
  rw [nw_ps]
  split
  · rw [nw_cx, if_neg (by rw [hs]; decide)]
  · rfl
theorem so_L.tke {n : Nat} {h : pm_H} {L : Nat → rw_T} {ts : List Int32} (H : so_L n h L ts) : so_L n h L (tk ts) := by
  obtain ⟨ix, R, HA, hi, hL⟩ := H
  have e : tk ts = ts := List.take_of_length_le HA.2.2.2.2.2.2
  rw [e]
  exact ⟨ix, R, HA, hi, hL⟩
theorem nx_and (a b : Nat) : nI a &&& nI b = nI (a &&& b) := by
  apply Int32.toBitVec_inj.mp
  show (nI a).toBitVec &&& (nI b).toBitVec = (nI (a &&& b)).toBitVec
  show BitVec.ofNat 32 a &&& BitVec.ofNat 32 b = BitVec.ofNat 32 (a &&& b)
  rw [BitVec.ofNat_and]
set_option maxRecDepth 100000 in
theorem c_widest (l : Launch) {n : Nat} {h : pm_H} {m0 : Nat} (hm : m0 ≤ 76) : bM0 l yX5_widest cX5_widest 2 (some (.int)) 0 [.int (nI m0)] n h (fun r h' => r = some (.int (nI (2 ^ so_t m0))) ∧ h' = h) := by
  refine pm_enter rfl (Nat.le_of_ble_eq_true rfl) (fun G K Z => ?_)
  refine pm_ic1 K dX5_widest_0 (q := 1) rfl ?_
  refine pm_istore_n K dX5_widest_1 (q := 2) rfl rfl (by decide) rfl ?_
  have loop : ∀ (k t : Nat), t + k = 7 → (t = 0 ∨ 2 ^ t < m0) → G 0 0 2 [some (.int (nI m0)), some (.int (nI (2 ^ t)))] [] n h := by
    intro k
    induction k with
    | zero =>
      intro t hk ht
      exfalso
      have e : t = 7 := by omega
      subst e
      omega
    | succ k ih =>
      intro t hk ht
      have hd : 2 ^ t < 76 := by
        rcases ht with rfl | ht
        · decide
        · omega
      have h2 : 2 ^ (t + 1) = 2 * 2 ^ t := by rw [Nat.pow_succ]; omega
      refine pm_iload_n K dX5_widest_2 (q := 3) rfl rfl rfl ?_
      refine pm_bipush (v := nI 76) K dX5_widest_3 (q := 5) rfl (by decide) ?_
      refine pm_icmp_ge K dX5_widest_5 (tgt := 22) (q := 8) rfl rfl (fun z => absurd z (nI_ge hd (by decide))) (fun _ => ?_)
      refine pm_ic2 K dX5_widest_8 (q := 9) rfl ?_
      refine pm_iload_n K dX5_widest_9 (q := 10) rfl rfl rfl ?_
      refine pm_imul K dX5_widest_10 (q := 11) rfl ?_
      refine pm_iload_n K dX5_widest_11 (q := 12) rfl rfl rfl ?_
      rw [show (2 : Int32) * nI (2 ^ t) = nI (2 * 2 ^ t) from pk_mul 2 (2 ^ t)]
      refine pm_icmp_ge K dX5_widest_12 (tgt := 22) (q := 15) rfl rfl (fun hx => ?_) (fun hx => ?_)
      · have hle : m0 ≤ 2 * 2 ^ t := (nI_leI (by omega) (by omega)).mp hx
        refine pm_iload_n K dX5_widest_22 (q := 23) rfl rfl rfl ?_
        exact pm_iret Z dX5_widest_23 rfl rfl (Nat.le_of_ble_eq_true rfl) (Nat.le_of_ble_eq_true rfl) ⟨rfl, ⟨by rw [so_t_eq ht (by omega)], rfl⟩⟩
      · have hlt : 2 * 2 ^ t < m0 := Nat.lt_of_not_le (fun z => hx ((nI_leI (by omega) (by omega)).mpr z))
        refine pm_iload_n K dX5_widest_15 (q := 16) rfl rfl rfl ?_
        refine pm_ic2 K dX5_widest_16 (q := 17) rfl ?_
        refine pm_imul K dX5_widest_17 (q := 18) rfl ?_
        refine pm_istore_n K dX5_widest_18 (q := 19) rfl rfl (by decide) rfl ?_
        refine pm_goto K dX5_widest_19 (q := 2) rfl ?_
        have := ih (t + 1) (by omega) (Or.inr (by omega))
        rw [h2, Nat.mul_comm, show nI (2 ^ t * 2) = nI (2 ^ t) * 2 from (pk_mul (2 ^ t) 2).symm] at this
        exact this
  have := loop 7 0 (by omega) (Or.inl rfl)
  exact this
set_option maxRecDepth 100000 in
theorem c_sortPass (l : Launch) {n : Nat} {h : pm_H} {L : Nat → rw_T} {ts : List Int32} (H : so_L n h L ts) {b0 m0 p r0 d : Nat} (hb : b0 + m0 ≤ 76) (hd : d ≤ m0) (hd0 : 0 < d) (hp : p < 76) (hr : r0 < 76) : bM0 l yX5_sortPass cX5_sortPass 11 none 2 [.ref 15, .int (nI b0), .int (nI m0), .int (nI p), .int (nI r0), .int (nI d)] n h (fun r h' => r = none ∧ so_L n h' (nw_ps rw_lt b0 p r0 d (m0 - d) L) (tk (ts ++ tr_ps b0 p r0 d (m0 - d))) ∧ so_fr h h') := by
  refine pm_enter rfl (Nat.le_of_ble_eq_true rfl) (fun G K Z => ?_)
  refine pm_ic0 K dX5_sortPass_0 (q := 1) rfl ?_
  refine pm_istore K dX5_sortPass_1 (q := 3) rfl (by decide) rfl ?_
  have loop : ∀ (k i : Nat) (h2 : pm_H) (x7 x8 x9 x10 : Option Value), i + k = m0 - d → so_L n h2 (nw_ps rw_lt b0 p r0 d i L) (tk (ts ++ tr_ps b0 p r0 d i)) → so_fr h h2 → G 0 0 3 [some (.ref 15), some (.int (nI b0)), some (.int (nI m0)), some (.int (nI p)), some (.int (nI r0)), some (.int (nI d)), some (.int (nI i)), x7, x8, x9, x10] [] n h2 := by
    intro k
    induction k with
    | zero =>
      intro i h2 x7 x8 x9 x10 hk HL hF
      refine pm_iload K dX5_sortPass_3 (q := 5) rfl rfl ?_
      refine pm_iload_n K dX5_sortPass_5 (q := 6) rfl rfl rfl ?_
      refine pm_iload K dX5_sortPass_6 (q := 8) rfl rfl ?_
      refine pm_isub K dX5_sortPass_8 (q := 9) rfl ?_
      rw [pk_sub hd]
      refine pm_icmp_ge K dX5_sortPass_9 (tgt := 100) (q := 12) rfl rfl (fun _ => ?_) (fun z => absurd z (fun z => z (nI_le (by omega) (by omega))))
      have er : i = m0 - d := by omega
      subst er
      exact pm_vret Z dX5_sortPass_100 rfl (Nat.le_of_ble_eq_true rfl) (Nat.le_of_ble_eq_true rfl) ⟨rfl, ⟨rfl, HL, hF⟩⟩
    | succ k ih =>
      intro i h2 x7 x8 x9 x10 hk HL hF
      refine pm_iload K dX5_sortPass_3 (q := 5) rfl rfl ?_
      refine pm_iload_n K dX5_sortPass_5 (q := 6) rfl rfl rfl ?_
      refine pm_iload K dX5_sortPass_6 (q := 8) rfl rfl ?_
      refine pm_isub K dX5_sortPass_8 (q := 9) rfl ?_
      rw [pk_sub hd]
      refine pm_icmp_ge K dX5_sortPass_9 (tgt := 100) (q := 12) rfl rfl (fun z => absurd z (nI_ge (by omega) (by omega))) (fun _ => ?_)
      refine pm_iload K dX5_sortPass_12 (q := 14) rfl rfl ?_
      refine pm_iload_n K dX5_sortPass_14 (q := 15) rfl rfl rfl ?_
      refine pm_iand K dX5_sortPass_15 (q := 16) rfl ?_
      refine pm_iload K dX5_sortPass_16 (q := 18) rfl rfl ?_
      rw [nx_and]
      refine pm_icmp_ne K dX5_sortPass_18 (tgt := 94) (q := 21) rfl rfl (fun hx => ?_) (fun hx => ?_)
      · have hne : ¬ i &&& p = r0 := fun z => hx (by rw [z])
        refine pm_inc K dX5_sortPass_94 (q := 97) rfl rfl (by decide) rfl ?_
        refine pm_goto K dX5_sortPass_97 (q := 3) rfl ?_
        refine ih (i + 1) h2 _ _ _ _ (by omega) ?_ hF
        rw [nw_ps_no hne, tr_ps_no hne]
        exact HL
      · have hlp : i &&& p < 76 := Nat.lt_of_le_of_lt Nat.and_le_right hp
        have hq : i &&& p = r0 := (nI_eq (by omega) (by omega)).mp hx
        obtain ⟨ix, R, HA, hi, hL⟩ := HL
        have g0 := HA.1
        have gx := HA.2.2.2.2.1 (b0 + i) (by omega)
        have gy := HA.2.2.2.2.1 (b0 + i + d) (by omega)
        have hxy : ix (b0 + i) ≠ ix (b0 + i + d) := fun z => by have := hi _ _ (by omega) (by omega) z; omega
        refine pm_iload_n K dX5_sortPass_21 (q := 22) rfl rfl rfl ?_
        refine pm_iload K dX5_sortPass_22 (q := 24) rfl rfl ?_
        refine pm_iadd K dX5_sortPass_24 (q := 25) rfl ?_
        rw [nI_add]
        refine pm_istore K dX5_sortPass_25 (q := 27) rfl (by decide) rfl ?_
        refine pm_aload_n K dX5_sortPass_27 (q := 28) rfl rfl rfl ?_
        refine pm_iload K dX5_sortPass_28 (q := 30) rfl rfl ?_
        refine pm_callV0 K gw_ok wcX5_34 (c_read l HA (p := b0 + i) (by omega)) rfl (by have := HA.1; omega) HA.2.1 rfl rfl (Nat.le_of_ble_eq_true rfl) (by decide) dX5_sortPass_30 (q := 33) rfl (fun r1 h1 hp => ?_)
        obtain ⟨rfl, H1, F1⟩ := hp
        refine pm_astore K dX5_sortPass_33 (q := 35) rfl (by decide) rfl ?_
        refine pm_aload_n K dX5_sortPass_35 (q := 36) rfl rfl rfl ?_
        refine pm_iload K dX5_sortPass_36 (q := 38) rfl rfl ?_
        refine pm_iload K dX5_sortPass_38 (q := 40) rfl rfl ?_
        refine pm_iadd K dX5_sortPass_40 (q := 41) rfl ?_
        rw [nI_add]
        refine pm_callV0 K gw_ok wcX5_34 (c_read l H1 (p := b0 + i + d) (by omega)) rfl (by have := H1.1; omega) H1.2.1 rfl rfl (Nat.le_of_ble_eq_true rfl) (by decide) dX5_sortPass_41 (q := 44) rfl (fun r2 h2x hp => ?_)
        obtain ⟨rfl, H2, F2⟩ := hp
        refine pm_astore K dX5_sortPass_44 (q := 46) rfl (by decide) rfl ?_
        refine pm_aload K dX5_sortPass_46 (q := 48) rfl rfl ?_
        refine pm_aload K dX5_sortPass_48 (q := 50) rfl rfl ?_
        refine pm_callV0 K gw_ok wcX5_102 (c_isBehind l (by omega) (H2.row gx) (by omega) (H2.row gy)) rfl (by omega) (H2.row gx) rfl rfl (Nat.le_of_ble_eq_true rfl) (by decide) dX5_sortPass_50 (q := 53) rfl (fun r3 h3x hp => ?_)
        obtain ⟨rfl, rfl⟩ := hp
        refine pm_istore K dX5_sortPass_53 (q := 55) rfl (by decide) rfl ?_
        cases hgt : rw_gt (R (ix (b0 + i))) (R (ix (b0 + i + d)))
        · refine pm_aload_n K dX5_sortPass_55 (q := 56) rfl rfl rfl ?_
          refine pm_iload K dX5_sortPass_56 (q := 58) rfl rfl ?_
          refine pm_iload K dX5_sortPass_58 (q := 60) rfl rfl ?_
          refine pm_if_eq K dX5_sortPass_60 (tgt := 68) (q := 63) rfl rfl (fun _ => ?_) (fun z => absurd z (fun z => z rfl))
          refine pm_aload K dX5_sortPass_68 (q := 70) rfl rfl ?_
          refine pm_callV0 K gw_ok wcX5_41 (c_write l H2 (p := b0 + i) (by omega) gx) rfl (by have := H2.1; omega) H2.2.1 rfl rfl (Nat.le_of_ble_eq_true rfl) (by decide) dX5_sortPass_70 (q := 73) rfl (fun r4 h4x hp => ?_)
          obtain ⟨rfl, H3, F3⟩ := hp
          refine pm_aload_n K dX5_sortPass_73 (q := 74) rfl rfl rfl ?_
          refine pm_iload K dX5_sortPass_74 (q := 76) rfl rfl ?_
          refine pm_iload K dX5_sortPass_76 (q := 78) rfl rfl ?_
          refine pm_iadd K dX5_sortPass_78 (q := 79) rfl ?_
          rw [nI_add]
          refine pm_iload K dX5_sortPass_79 (q := 81) rfl rfl ?_
          refine pm_if_eq K dX5_sortPass_81 (tgt := 89) (q := 84) rfl rfl (fun _ => ?_) (fun z => absurd z (fun z => z rfl))
          refine pm_aload K dX5_sortPass_89 (q := 91) rfl rfl ?_
          refine pm_callV0 K gw_ok wcX5_41 (c_write l H3 (p := b0 + i + d) (by omega) gy) rfl (by have := H3.1; omega) H3.2.1 rfl rfl (Nat.le_of_ble_eq_true rfl) (by decide) dX5_sortPass_91 (q := 94) rfl (fun r5 h5x hp => ?_)
          obtain ⟨rfl, H4, F4⟩ := hp
          refine pm_inc K dX5_sortPass_94 (q := 97) rfl rfl (by decide) rfl ?_
          refine pm_goto K dX5_sortPass_97 (q := 3) rfl ?_
          refine ih (i + 1) h5x _ _ _ _ (by omega) ?_ (fun q hq => by rw [F4 q (by omega), F3 q (by omega), F2 q (by omega) (by omega), F1 q (by omega) (by omega), hF q hq])
          simp only [tk_app, List.append_assoc, List.cons_append, List.nil_append] at H4
          rw [so_id, so_id] at H4
          rw [nw_ps_stay (by rw [hL _ (by omega), hL _ (by omega)]; exact hgt), tr_ps_yes hq]
          exact ⟨ix, R, H4, hi, hL⟩
        · refine pm_aload_n K dX5_sortPass_55 (q := 56) rfl rfl rfl ?_
          refine pm_iload K dX5_sortPass_56 (q := 58) rfl rfl ?_
          refine pm_iload K dX5_sortPass_58 (q := 60) rfl rfl ?_
          refine pm_if_eq K dX5_sortPass_60 (tgt := 68) (q := 63) rfl rfl (fun z => absurd z (by decide)) (fun _ => ?_)
          refine pm_aload K dX5_sortPass_63 (q := 65) rfl rfl ?_
          refine pm_goto K dX5_sortPass_65 (q := 70) rfl ?_
          refine pm_callV0 K gw_ok wcX5_41 (c_write l H2 (p := b0 + i) (by omega) gy) rfl (by have := H2.1; omega) H2.2.1 rfl rfl (Nat.le_of_ble_eq_true rfl) (by decide) dX5_sortPass_70 (q := 73) rfl (fun r4 h4x hp => ?_)
          obtain ⟨rfl, H3, F3⟩ := hp
          refine pm_aload_n K dX5_sortPass_73 (q := 74) rfl rfl rfl ?_
          refine pm_iload K dX5_sortPass_74 (q := 76) rfl rfl ?_
          refine pm_iload K dX5_sortPass_76 (q := 78) rfl rfl ?_
          refine pm_iadd K dX5_sortPass_78 (q := 79) rfl ?_
          rw [nI_add]
          refine pm_iload K dX5_sortPass_79 (q := 81) rfl rfl ?_
          refine pm_if_eq K dX5_sortPass_81 (tgt := 89) (q := 84) rfl rfl (fun z => absurd z (by decide)) (fun _ => ?_)
          refine pm_aload K dX5_sortPass_84 (q := 86) rfl rfl ?_
          refine pm_goto K dX5_sortPass_86 (q := 91) rfl ?_
          refine pm_callV0 K gw_ok wcX5_41 (c_write l H3 (p := b0 + i + d) (by omega) gx) rfl (by have := H3.1; omega) H3.2.1 rfl rfl (Nat.le_of_ble_eq_true rfl) (by decide) dX5_sortPass_91 (q := 94) rfl (fun r5 h5x hp => ?_)
          obtain ⟨rfl, H4, F4⟩ := hp
          refine pm_inc K dX5_sortPass_94 (q := 97) rfl rfl (by decide) rfl ?_
          refine pm_goto K dX5_sortPass_97 (q := 3) rfl ?_
          refine ih (i + 1) h5x _ _ _ _ (by omega) ?_ (fun q hq => by rw [F4 q (by omega), F3 q (by omega), F2 q (by omega) (by omega), F1 q (by omega) (by omega), hF q hq])
          simp only [tk_app, List.append_assoc, List.cons_append, List.nil_append] at H4
          rw [nw_ps_yes hq (by rw [hL _ (by omega), hL _ (by omega)]; exact hgt), tr_ps_yes hq]
          exact so_L.sw H4 hi hL (by omega) (by omega)
  have := loop (m0 - d) 0 h none none none none (by omega) (by rw [tr_ps_0, List.append_nil]; exact so_L.tke H) so_fr.rf
  rw [nI_0] at this
  exact this
end
section
/-! The store: its networks. -/
def tr_sd (b n d : Nat) : Nat → List Int32
  | 0 => []
  | m + 1 => tr_sd b n d m ++ [so_rd (b + (n - 1 - m - d)), so_rd (b + (n - 1 - m)), so_wr (b + (n - 1 - m - d)), so_wr (b + (n - 1 - m))]
theorem tr_sd_s (b n d m : Nat) : tr_sd b n d (m + 1) = tr_sd b n d m ++ [so_rd (b + (n - 1 - m - d)), so_rd (b + (n - 1 - m)), so_wr (b + (n - 1 - m - d)), so_wr (b + (n - 1 - m))] := rfl
def tr_sds (b n : Nat) : Nat → List Int32
  | 0 => []
  | k + 1 => tr_sd b n (2 ^ k) (n - 2 ^ k) ++ tr_sds b n k
theorem nw_sd_no {α : Type} {w : α → Nat} {b n d m : Nat} {L : Nat → α} (h : w (nw_sd w b n d m L (b + (n - 1 - m - d))) &&& d = 0) : nw_sd w b n d (m + 1) L = nw_sd w b n d m L := by
  rw [nw_sd, if_pos h]
theorem nw_sd_yes {α : Type} {w : α → Nat} {b n d m : Nat} {L : Nat → α} (h : ¬ w (nw_sd w b n d m L (b + (n - 1 - m - d))) &&& d = 0) : nw_sd w b n d (m + 1) L = nw_sw (b + (n - 1 - m - d)) (b + (n - 1 - m)) (nw_sd w b n d m L) := by
  rw [nw_sd, if_neg h]
theorem so_t_sp {n : Nat} (h : 2 ≤ n) : 2 ^ so_t n < n ∧ n ≤ 2 ^ (so_t n + 1) := by
  have h0 : n - 1 ≠ 0 := by omega
  have := (Nat.log2_eq_iff h0 (k := so_t n)).mp rfl
  omega
theorem so_t_lt {n : Nat} (h : 2 ≤ n) (h2 : n ≤ 76) : so_t n < 7 := by
  have h1 := (so_t_sp h).1
  refine Nat.lt_of_not_le (fun z => ?_)
  have : 2 ^ 7 ≤ 2 ^ so_t n := Nat.pow_le_pow_right (by omega) z
  omega
theorem so_t_le {n : Nat} (h : 1 ≤ n) : 2 ^ so_t n ≤ n := by
  by_cases h2 : 2 ≤ n
  · exact Nat.le_of_lt (so_t_sp h2).1
  · have : n = 1 := by omega
    subst this
    exact Nat.le_refl _
def so_pw : Nat → Int32
  | 0 => 0
  | k + 1 => nI (2 ^ k)
theorem so_pw_s (k : Nat) : so_pw (k + 1) = nI (2 ^ k) := rfl
theorem so_half {k : Nat} (h : 2 ^ k < 2 ^ 31) : nI (2 ^ k) / 2 = so_pw k := by
  show nI (2 ^ k) / nI 2 = so_pw k
  rw [pk_div h (by decide) (by decide)]
  cases k with
  | zero => rfl
  | succ k =>
    rw [so_pw_s, Nat.pow_succ]
    congr 1
    omega
theorem so_half2 {k j : Nat} (h : 2 ^ (k + (j + 1)) < 2 ^ 31) : nI (2 ^ (k + (j + 1))) / 2 = nI (2 ^ (k + j)) := so_half h
def tr_in (b n u : Nat) : Nat → List Int32
  | 0 => []
  | k + 1 => tr_ps b (2 ^ u) (2 ^ u) (2 ^ (u + k + 1) - 2 ^ u) (n - (2 ^ (u + k + 1) - 2 ^ u)) ++ tr_in b n u k
def tr_out (b n t : Nat) : Nat → List Int32
  | 0 => []
  | k + 1 => tr_ps b (2 ^ k) 0 (2 ^ k) (n - 2 ^ k) ++ (tr_in b n k (t - k) ++ tr_out b n t k)
def so_sort (b m : Nat) (L : Nat → rw_T) : Nat → rw_T := if m < 2 then L else nw_out rw_lt b m (so_t m) (so_t m + 1) L
def tr_sort (b m : Nat) : List Int32 := if m < 2 then [] else tr_out b m (so_t m) (so_t m + 1)
def rw_wb (f : rw_T) : Nat := (f 11).toBitVec.toNat
def rw_wf (f : rw_T) : Nat := (f 12).toBitVec.toNat
theorem so_nI (x : Int32) : nI x.toBitVec.toNat = x := by
  apply Int32.toBitVec_inj.1
  show BitVec.ofNat 32 x.toBitVec.toNat = x.toBitVec
  apply BitVec.eq_of_toNat_eq
  rw [BitVec.toNat_ofNat]
  exact Nat.mod_eq_of_lt x.toBitVec.isLt
theorem so_and0 {x : Int32} {k : Nat} : x &&& nI (2 ^ k) = 0 ↔ x.toBitVec.toNat &&& 2 ^ k = 0 := by
  have e : x &&& nI (2 ^ k) = nI (x.toBitVec.toNat &&& 2 ^ k) := by
    rw [← nx_and, so_nI]
  rw [e]
  have hlt : x.toBitVec.toNat &&& 2 ^ k < 2 ^ 32 := Nat.lt_of_le_of_lt Nat.and_le_left x.toBitVec.isLt
  constructor
  · intro h
    have := pk_tn hlt
    rw [h] at this
    exact this.symm
  · intro h
    rw [h]
    rfl
def so_k (n : Nat) : Nat := if n ≤ 1 then 0 else so_t n + 1
theorem so_k_eq {n k : Nat} (h : ∀ j, j < k → 2 ^ j < n) (h2 : n ≤ 2 ^ k) : so_k n = k := by
  unfold so_k
  cases k with
  | zero => rw [if_pos (by simpa using h2)]
  | succ k =>
    have h1 := h k (by omega)
    have : 0 < 2 ^ k := Nat.two_pow_pos k
    rw [if_neg (by omega), so_t_eq (Or.inr h1) h2]
def tr_sq (b d : Nat) : Nat → List Int32
  | 0 => []
  | m + 1 => tr_sq b d m ++ [so_rd (b + m), so_rd (b + (m + d)), so_wr (b + m), so_wr (b + (m + d))]
theorem tr_sq_s (b d m : Nat) : tr_sq b d (m + 1) = tr_sq b d m ++ [so_rd (b + m), so_rd (b + (m + d)), so_wr (b + m), so_wr (b + (m + d))] := rfl
def tr_sqs (b n : Nat) : Nat → List Int32
  | 0 => []
  | k + 1 => tr_sqs b n k ++ tr_sq b (2 ^ k) (n - 2 ^ k)
theorem nw_sq_no {α : Type} {w : α → Nat} {b d m : Nat} {L : Nat → α} (h : w (nw_sq w b d m L (b + (m + d))) &&& d = 0) : nw_sq w b d (m + 1) L = nw_sq w b d m L := by
  rw [nw_sq, if_pos h]
theorem nw_sq_yes {α : Type} {w : α → Nat} {b d m : Nat} {L : Nat → α} (h : ¬ w (nw_sq w b d m L (b + (m + d))) &&& d = 0) : nw_sq w b d (m + 1) L = nw_sw (b + m) (b + (m + d)) (nw_sq w b d m L) := by
  rw [nw_sq, if_neg h]
set_option maxRecDepth 100000 in
theorem c_sort (l : Launch) {n : Nat} {h : pm_H} {L : Nat → rw_T} {ts : List Int32} (H : so_L n h L ts) {b0 m0 : Nat} (hb : b0 + m0 ≤ 76) : bM0 l yX5_sort cX5_sort 6 none 3 [.ref 15, .int (nI b0), .int (nI m0)] n h (fun r h' => r = none ∧ so_L n h' (so_sort b0 m0 L) (tk (ts ++ tr_sort b0 m0)) ∧ so_fr h h') := by
  refine pm_enter rfl (Nat.le_of_ble_eq_true rfl) (fun G K Z => ?_)
  refine pm_iload_n K dX5_sort_0 (q := 1) rfl rfl rfl ?_
  refine pm_ic2 K dX5_sort_1 (q := 2) rfl ?_
  refine pm_icmp_ge K dX5_sort_2 (tgt := 6) (q := 5) rfl rfl (fun hx => ?_) (fun hx => ?_)
  · have hge : 2 ≤ m0 := (nI_leI (by decide) (by omega)).mp hx
    obtain ⟨ht1, ht2⟩ := so_t_sp hge
    have ht6 : so_t m0 < 7 := so_t_lt hge (by omega)
    obtain ⟨LF, hLF⟩ : ∃ z, z = so_sort b0 m0 L := ⟨_, rfl⟩
    obtain ⟨tsF, htF⟩ : ∃ z, z = tk (ts ++ tr_sort b0 m0) := ⟨_, rfl⟩
    rw [← hLF, ← htF] at Z
    rw [so_sort, if_neg (by omega)] at hLF
    rw [tr_sort, if_neg (by omega)] at htF
    refine pm_iload_n K dX5_sort_6 (q := 7) rfl rfl rfl ?_
    refine pm_callS0 K gw_ok wcX5_95 (c_widest l (m0 := m0) (by omega)) rfl rfl (Nat.le_of_ble_eq_true rfl) (by decide) dX5_sort_7 (q := 10) rfl (fun r2 h2 hq2 => ?_)
    obtain ⟨rfl, hh⟩ := hq2
    rw [hh]
    refine pm_istore_n K dX5_sort_10 (q := 11) rfl rfl (by decide) rfl ?_
    refine pm_iload_n K dX5_sort_11 (q := 12) rfl rfl rfl ?_
    refine pm_istore K dX5_sort_12 (q := 14) rfl (by decide) rfl ?_
    generalize so_t m0 = t at ht1 ht2 ht6 hLF htF ⊢
    have outer : ∀ (k : Nat) (L1 : Nat → rw_T) (h2 : pm_H) (ts1 : List Int32) (x5 : Option Value), k ≤ t + 1 → so_L n h2 L1 ts1 → so_fr h h2 → nw_out rw_lt b0 m0 t k L1 = LF → tk (ts1 ++ tr_out b0 m0 t k) = tsF → G 0 0 14 [some (.ref 15), some (.int (nI b0)), some (.int (nI m0)), some (.int (nI (2 ^ t))), some (.int (so_pw k)), x5] [] n h2 := by
      intro k
      induction k with
      | zero =>
        intro L1 h2 ts1 x5 hk HL hF e1 e2
        refine pm_iload K dX5_sort_14 (q := 16) rfl rfl ?_
        refine pm_if_le K dX5_sort_16 (tgt := 73) (q := 19) rfl rfl (fun _ => ?_) (fun z => absurd z (fun z => z (by decide)))
        have e1 : L1 = LF := e1
        subst e1
        rw [tr_out, List.append_nil] at e2
        subst e2
        exact pm_vret Z dX5_sort_73 rfl (Nat.le_of_ble_eq_true rfl) (Nat.le_of_ble_eq_true rfl) ⟨rfl, ⟨rfl, HL.tke, hF⟩⟩
      | succ k ih =>
        intro L1 h2 ts1 x5 hk HL hF e1 e2
        have hpk : 2 ^ k ≤ 2 ^ t := Nat.pow_le_pow_right (by omega) (by omega)
        have hp0 : 0 < 2 ^ k := Nat.two_pow_pos k
        have ht76 : 2 ^ t < 76 := by omega
        rw [so_pw_s]
        refine pm_iload K dX5_sort_14 (q := 16) rfl rfl ?_
        refine pm_if_le K dX5_sort_16 (tgt := 73) (q := 19) rfl rfl (fun z => absurd z (nI_nle hp0 (by omega))) (fun _ => ?_)
        obtain ⟨ix, R, HA, hi, hL⟩ := id HL
        refine pm_aload_n K dX5_sort_19 (q := 20) rfl rfl rfl ?_
        refine pm_iload_n K dX5_sort_20 (q := 21) rfl rfl rfl ?_
        refine pm_iload_n K dX5_sort_21 (q := 22) rfl rfl rfl ?_
        refine pm_iload K dX5_sort_22 (q := 24) rfl rfl ?_
        refine pm_ic0 K dX5_sort_24 (q := 25) rfl ?_
        refine pm_iload K dX5_sort_25 (q := 27) rfl rfl ?_
        refine pm_callV0 K gw_ok wcX5_98 (c_sortPass l HL (b0 := b0) (m0 := m0) (p := 2 ^ k) (r0 := 0) (d := 2 ^ k) hb (by omega) hp0 (by omega) (by omega)) rfl (by have := HA.1; omega) HA.2.1 rfl rfl (Nat.le_of_ble_eq_true rfl) (by decide) dX5_sort_27 (q := 30) rfl (fun r1 h1 hp => ?_)
        obtain ⟨rfl, HL1, F1⟩ := hp
        refine pm_iload_n K dX5_sort_30 (q := 31) rfl rfl rfl ?_
        refine pm_istore K dX5_sort_31 (q := 33) rfl (by decide) rfl ?_
        have inner : ∀ (j : Nat) (L2 : Nat → rw_T) (h3 : pm_H) (ts2 : List Int32), k + j ≤ t → so_L n h3 L2 ts2 → so_fr h h3 → nw_out rw_lt b0 m0 t k (nw_in rw_lt b0 m0 k j L2) = LF → tk (ts2 ++ (tr_in b0 m0 k j ++ tr_out b0 m0 t k)) = tsF → G 0 0 33 [some (.ref 15), some (.int (nI b0)), some (.int (nI m0)), some (.int (nI (2 ^ t))), some (.int (nI (2 ^ k))), some (.int (nI (2 ^ (k + j))))] [] n h3 := by
          intro j
          induction j with
          | zero =>
            intro L2 h3 ts2 hj HL2 hF2 f1 f2
            refine pm_iload K dX5_sort_33 (q := 35) rfl rfl ?_
            refine pm_iload K dX5_sort_35 (q := 37) rfl rfl ?_
            refine pm_icmp_le K dX5_sort_37 (tgt := 64) (q := 40) rfl rfl (fun _ => ?_) (fun z => absurd z (fun z => z (nI_le (Nat.le_refl _) (by omega))))
            refine pm_iload K dX5_sort_64 (q := 66) rfl rfl ?_
            refine pm_ic2 K dX5_sort_66 (q := 67) rfl ?_
            refine pm_idiv K dX5_sort_67 (q := 68) rfl (by decide) ?_
            rw [so_half (by omega)]
            refine pm_istore K dX5_sort_68 (q := 70) rfl (by decide) rfl ?_
            refine pm_goto K dX5_sort_70 (q := 14) rfl ?_
            exact ih L2 h3 ts2 _ (by omega) HL2 hF2 f1 f2
          | succ j ihj =>
            intro L2 h3 ts2 hj HL2 hF2 f1 f2
            have hq1 : 2 ^ (k + (j + 1)) ≤ 2 ^ t := Nat.pow_le_pow_right (by omega) (by omega)
            have hq2 : 2 ^ (k + (j + 1)) = 2 * 2 ^ (k + j) := by rw [← Nat.add_assoc, Nat.pow_succ]; omega
            have hq3 : 2 ^ k ≤ 2 ^ (k + j) := Nat.pow_le_pow_right (by omega) (by omega)
            obtain ⟨ix2, R2, HA2, hi2, hL2⟩ := id HL2
            refine pm_iload K dX5_sort_33 (q := 35) rfl rfl ?_
            refine pm_iload K dX5_sort_35 (q := 37) rfl rfl ?_
            refine pm_icmp_le K dX5_sort_37 (tgt := 64) (q := 40) rfl rfl (fun z => absurd z (nI_ge (by omega) (by omega))) (fun _ => ?_)
            refine pm_aload_n K dX5_sort_40 (q := 41) rfl rfl rfl ?_
            refine pm_iload_n K dX5_sort_41 (q := 42) rfl rfl rfl ?_
            refine pm_iload_n K dX5_sort_42 (q := 43) rfl rfl rfl ?_
            refine pm_iload K dX5_sort_43 (q := 45) rfl rfl ?_
            refine pm_iload K dX5_sort_45 (q := 47) rfl rfl ?_
            refine pm_iload K dX5_sort_47 (q := 49) rfl rfl ?_
            refine pm_iload K dX5_sort_49 (q := 51) rfl rfl ?_
            refine pm_isub K dX5_sort_51 (q := 52) rfl ?_
            rw [pk_sub (by omega)]
            refine pm_callV0 K gw_ok wcX5_98 (c_sortPass l HL2 (b0 := b0) (m0 := m0) (p := 2 ^ k) (r0 := 2 ^ k) (d := 2 ^ (k + (j + 1)) - 2 ^ k) hb (by omega) (by omega) (by omega) (by omega)) rfl (by have := HA2.1; omega) HA2.2.1 rfl rfl (Nat.le_of_ble_eq_true rfl) (by decide) dX5_sort_52 (q := 55) rfl (fun r4 h4 hp => ?_)
            obtain ⟨rfl, HL3, F3⟩ := hp
            refine pm_iload K dX5_sort_55 (q := 57) rfl rfl ?_
            refine pm_ic2 K dX5_sort_57 (q := 58) rfl ?_
            refine pm_idiv K dX5_sort_58 (q := 59) rfl (by decide) ?_
            rw [so_half2 (by omega)]
            refine pm_istore K dX5_sort_59 (q := 61) rfl (by decide) rfl ?_
            refine pm_goto K dX5_sort_61 (q := 33) rfl ?_
            refine ihj _ h4 _ (by omega) HL3 (hF2.tr F3) f1 ?_
            rw [tk_app, List.append_assoc, ← List.append_assoc (tr_ps _ _ _ _ _)]
            exact f2
        have e3 : k + (t - k) = t := by omega
        have := inner (t - k) _ h1 _ (by omega) HL1 (hF.tr F1) e1 (by rw [tk_app, List.append_assoc]; exact e2)
        rw [e3] at this
        exact this
    have := outer (t + 1) L h ts none (by omega) H so_fr.rf hLF.symm htF.symm
    rw [so_pw_s] at this
    exact this
  · have hlt : m0 < 2 := Nat.lt_of_not_le (fun z => hx (nI_le z (by omega)))
    exact pm_vret Z dX5_sort_5 rfl (Nat.le_of_ble_eq_true rfl) (Nat.le_of_ble_eq_true rfl) ⟨rfl, ⟨rfl, by rw [so_sort, tr_sort, if_pos hlt, if_pos hlt, List.append_nil]; exact H.tke, so_fr.rf⟩⟩
set_option maxRecDepth 100000 in
theorem c_squeeze (l : Launch) {n : Nat} {h : pm_H} {L : Nat → rw_T} {ts : List Int32} (H : so_L n h L ts) {b0 m0 : Nat} (hb : b0 + m0 ≤ 76) : bM0 l yX5_squeeze cX5_squeeze 9 none 2 [.ref 15, .int (nI b0), .int (nI m0)] n h (fun r h' => r = none ∧ so_L n h' (nw_sqs rw_wb b0 m0 (so_k m0) L) (tk (ts ++ tr_sqs b0 m0 (so_k m0))) ∧ so_fr h h') := by
  refine pm_enter rfl (Nat.le_of_ble_eq_true rfl) (fun G K Z => ?_)
  refine pm_ic1 K dX5_squeeze_0 (q := 1) rfl ?_
  refine pm_istore_n K dX5_squeeze_1 (q := 2) rfl rfl (by decide) rfl ?_
  have outer : ∀ (g k : Nat) (h2 : pm_H) (x4 x5 x6 x7 x8 : Option Value), k + g = 8 → (∀ j, j < k → 2 ^ j < m0) → so_L n h2 (nw_sqs rw_wb b0 m0 k L) (tk (ts ++ tr_sqs b0 m0 k)) → so_fr h h2 → G 0 0 2 [some (.ref 15), some (.int (nI b0)), some (.int (nI m0)), some (.int (nI (2 ^ k))), x4, x5, x6, x7, x8] [] n h2 := by
    intro g
    induction g with
    | zero =>
      intro k h2 x4 x5 x6 x7 x8 hk hj
      exfalso
      have := hj 7 (by omega)
      omega
    | succ g ih =>
      intro k h2 x4 x5 x6 x7 x8 hk hj HL hF
      have hp0 : 0 < 2 ^ k := Nat.two_pow_pos k
      have hk8 : 2 ^ k ≤ 2 ^ 7 := Nat.pow_le_pow_right (by omega) (by omega)
      refine pm_iload_n K dX5_squeeze_2 (q := 3) rfl rfl rfl ?_
      refine pm_iload_n K dX5_squeeze_3 (q := 4) rfl rfl rfl ?_
      refine pm_icmp_ge K dX5_squeeze_4 (tgt := 114) (q := 7) rfl rfl (fun hx => ?_) (fun hx => ?_)
      · have hle : m0 ≤ 2 ^ k := (nI_leI (by omega) (by omega)).mp hx
        rw [← so_k_eq hj hle] at HL
        exact pm_vret Z dX5_squeeze_114 rfl (Nat.le_of_ble_eq_true rfl) (Nat.le_of_ble_eq_true rfl) ⟨rfl, ⟨rfl, HL, hF⟩⟩
      · have hlt : 2 ^ k < m0 := Nat.lt_of_not_le (fun z => hx ((nI_leI (by omega) (by omega)).mpr z))
        refine pm_iload_n K dX5_squeeze_7 (q := 8) rfl rfl rfl ?_
        refine pm_bipush (v := nI 76) K dX5_squeeze_8 (q := 10) rfl (by decide) ?_
        refine pm_icmp_ge K dX5_squeeze_10 (tgt := 114) (q := 13) rfl rfl (fun z => absurd z (nI_ge (by omega) (by decide))) (fun _ => ?_)
        refine pm_iload_n K dX5_squeeze_13 (q := 14) rfl rfl rfl ?_
        refine pm_istore K dX5_squeeze_14 (q := 16) rfl (by decide) rfl ?_
        have inner : ∀ (j m : Nat) (h3 : pm_H) (x5 x6 x7 x8 : Option Value), m + j = m0 - 2 ^ k → so_L n h3 (nw_sq rw_wb b0 (2 ^ k) m (nw_sqs rw_wb b0 m0 k L)) (tk (ts ++ (tr_sqs b0 m0 k ++ tr_sq b0 (2 ^ k) m))) → so_fr h h3 → G 0 0 16 [some (.ref 15), some (.int (nI b0)), some (.int (nI m0)), some (.int (nI (2 ^ k))), some (.int (nI (m + 2 ^ k))), x5, x6, x7, x8] [] n h3 := by
          intro j
          induction j with
          | zero =>
            intro m h3 x5 x6 x7 x8 hm HL3 hF3
            refine pm_iload K dX5_squeeze_16 (q := 18) rfl rfl ?_
            refine pm_iload_n K dX5_squeeze_18 (q := 19) rfl rfl rfl ?_
            refine pm_icmp_ge K dX5_squeeze_19 (tgt := 107) (q := 22) rfl rfl (fun _ => ?_) (fun z => absurd z (fun z => z (nI_le (by omega) (by omega))))
            have em : m = m0 - 2 ^ k := by omega
            subst em
            have e2 : nI (2 ^ k) * 2 = nI (2 ^ (k + 1)) := by rw [Nat.pow_succ]; exact pk_mul _ 2
            refine pm_iload_n K dX5_squeeze_107 (q := 108) rfl rfl rfl ?_
            refine pm_ic2 K dX5_squeeze_108 (q := 109) rfl ?_
            refine pm_imul K dX5_squeeze_109 (q := 110) rfl ?_
            rw [e2]
            refine pm_istore_n K dX5_squeeze_110 (q := 111) rfl rfl (by decide) rfl ?_
            refine pm_goto K dX5_squeeze_111 (q := 2) rfl ?_
            exact ih (k + 1) h3 _ _ _ _ _ (by omega) (fun j hj2 => by rcases Nat.lt_succ_iff_lt_or_eq.mp hj2 with z | rfl; exact hj j z; exact hlt) HL3 hF3
          | succ j ihj =>
            intro m h3 x5 x6 x7 x8 hm HL3 hF3
            refine pm_iload K dX5_squeeze_16 (q := 18) rfl rfl ?_
            refine pm_iload_n K dX5_squeeze_18 (q := 19) rfl rfl rfl ?_
            refine pm_icmp_ge K dX5_squeeze_19 (tgt := 107) (q := 22) rfl rfl (fun z => absurd z (nI_ge (by omega) (by omega))) (fun _ => ?_)
            obtain ⟨ix, R, HA, hi, hL⟩ := HL3
            have g0 := HA.1
            have gx := HA.2.2.2.2.1 (b0 + m) (by omega)
            have gy := HA.2.2.2.2.1 (b0 + (m + 2 ^ k)) (by omega)
            have es : nI (b0 + (m + 2 ^ k)) - nI (2 ^ k) = nI (b0 + m) := by rw [pk_sub (by omega)]; congr 1; omega
            refine pm_iload_n K dX5_squeeze_22 (q := 23) rfl rfl rfl ?_
            refine pm_iload K dX5_squeeze_23 (q := 25) rfl rfl ?_
            refine pm_iadd K dX5_squeeze_25 (q := 26) rfl ?_
            rw [nI_add]
            refine pm_istore K dX5_squeeze_26 (q := 28) rfl (by decide) rfl ?_
            refine pm_aload_n K dX5_squeeze_28 (q := 29) rfl rfl rfl ?_
            refine pm_iload K dX5_squeeze_29 (q := 31) rfl rfl ?_
            refine pm_iload_n K dX5_squeeze_31 (q := 32) rfl rfl rfl ?_
            refine pm_isub K dX5_squeeze_32 (q := 33) rfl ?_
            rw [es]
            refine pm_callV0 K gw_ok wcX5_34 (c_read l HA (p := b0 + m) (by omega)) rfl (by have := HA.1; omega) HA.2.1 rfl rfl (Nat.le_of_ble_eq_true rfl) (by decide) dX5_squeeze_33 (q := 36) rfl (fun r1 h1 hp => ?_)
            obtain ⟨rfl, H1, F1⟩ := hp
            refine pm_astore K dX5_squeeze_36 (q := 38) rfl (by decide) rfl ?_
            refine pm_aload_n K dX5_squeeze_38 (q := 39) rfl rfl rfl ?_
            refine pm_iload K dX5_squeeze_39 (q := 41) rfl rfl ?_
            refine pm_callV0 K gw_ok wcX5_34 (c_read l H1 (p := b0 + (m + 2 ^ k)) (by omega)) rfl (by have := H1.1; omega) H1.2.1 rfl rfl (Nat.le_of_ble_eq_true rfl) (by decide) dX5_squeeze_41 (q := 44) rfl (fun r2 h2x hp => ?_)
            obtain ⟨rfl, H2, F2⟩ := hp
            refine pm_astore K dX5_squeeze_44 (q := 46) rfl (by decide) rfl ?_
            refine pm_aload K dX5_squeeze_46 (q := 48) rfl rfl ?_
            refine pm_get K inX3 rfl (k := 11) (by decide) wlX5_106 rfl (by omega) (H2.row gy) rfl dX5_squeeze_48 (q := 51) rfl ?_
            refine pm_iload_n K dX5_squeeze_51 (q := 52) rfl rfl rfl ?_
            refine pm_iand K dX5_squeeze_52 (q := 53) rfl ?_
            refine pm_if_eq K dX5_squeeze_53 (tgt := 60) (q := 56) rfl rfl (fun hw => ?_) (fun hw => ?_)
            · refine pm_ic0 K dX5_squeeze_60 (q := 61) rfl ?_
              refine pm_istore K dX5_squeeze_61 (q := 63) rfl (by decide) rfl ?_
              refine pm_aload_n K dX5_squeeze_63 (q := 64) rfl rfl rfl ?_
              refine pm_iload K dX5_squeeze_64 (q := 66) rfl rfl ?_
              refine pm_iload_n K dX5_squeeze_66 (q := 67) rfl rfl rfl ?_
              refine pm_isub K dX5_squeeze_67 (q := 68) rfl ?_
              rw [es]
              refine pm_iload K dX5_squeeze_68 (q := 70) rfl rfl ?_
              refine pm_if_eq K dX5_squeeze_70 (tgt := 78) (q := 73) rfl rfl (fun _ => ?_) (fun z => absurd z (fun z => z rfl))
              refine pm_aload K dX5_squeeze_78 (q := 80) rfl rfl ?_
              refine pm_callV0 K gw_ok wcX5_41 (c_write l H2 (p := b0 + m) (by omega) gx) rfl (by have := H2.1; omega) H2.2.1 rfl rfl (Nat.le_of_ble_eq_true rfl) (by decide) dX5_squeeze_80 (q := 83) rfl (fun r4 h4x hp => ?_)
              obtain ⟨rfl, H3, F3⟩ := hp
              refine pm_aload_n K dX5_squeeze_83 (q := 84) rfl rfl rfl ?_
              refine pm_iload K dX5_squeeze_84 (q := 86) rfl rfl ?_
              refine pm_iload K dX5_squeeze_86 (q := 88) rfl rfl ?_
              refine pm_if_eq K dX5_squeeze_88 (tgt := 96) (q := 91) rfl rfl (fun _ => ?_) (fun z => absurd z (fun z => z rfl))
              refine pm_aload K dX5_squeeze_96 (q := 98) rfl rfl ?_
              refine pm_callV0 K gw_ok wcX5_41 (c_write l H3 (p := b0 + (m + 2 ^ k)) (by omega) gy) rfl (by have := H3.1; omega) H3.2.1 rfl rfl (Nat.le_of_ble_eq_true rfl) (by decide) dX5_squeeze_98 (q := 101) rfl (fun r5 h5x hp => ?_)
              obtain ⟨rfl, H4, F4⟩ := hp
              refine pm_inc K dX5_squeeze_101 (q := 104) rfl rfl (by decide) rfl ?_
              refine pm_goto K dX5_squeeze_104 (q := 16) rfl ?_
              rw [show m + 2 ^ k + 1 = m + 1 + 2 ^ k by omega]
              refine ihj (m + 1) h5x _ _ _ _ (by omega) ?_ (fun q hq => by rw [F4 q (by omega), F3 q (by omega), F2 q (by omega) (by omega), F1 q (by omega) (by omega), hF3 q hq])
              simp only [tk_app, List.append_assoc, List.cons_append, List.nil_append] at H4
              rw [so_id, so_id] at H4
              rw [nw_sq_no (by rw [hL _ (by omega)]; exact so_and0.mp hw), tr_sq_s]
              exact ⟨ix, R, H4, hi, hL⟩
            · refine pm_ic1 K dX5_squeeze_56 (q := 57) rfl ?_
              refine pm_goto K dX5_squeeze_57 (q := 61) rfl ?_
              refine pm_istore K dX5_squeeze_61 (q := 63) rfl (by decide) rfl ?_
              refine pm_aload_n K dX5_squeeze_63 (q := 64) rfl rfl rfl ?_
              refine pm_iload K dX5_squeeze_64 (q := 66) rfl rfl ?_
              refine pm_iload_n K dX5_squeeze_66 (q := 67) rfl rfl rfl ?_
              refine pm_isub K dX5_squeeze_67 (q := 68) rfl ?_
              rw [es]
              refine pm_iload K dX5_squeeze_68 (q := 70) rfl rfl ?_
              refine pm_if_eq K dX5_squeeze_70 (tgt := 78) (q := 73) rfl rfl (fun z => absurd z (by decide)) (fun _ => ?_)
              refine pm_aload K dX5_squeeze_73 (q := 75) rfl rfl ?_
              refine pm_goto K dX5_squeeze_75 (q := 80) rfl ?_
              refine pm_callV0 K gw_ok wcX5_41 (c_write l H2 (p := b0 + m) (by omega) gy) rfl (by have := H2.1; omega) H2.2.1 rfl rfl (Nat.le_of_ble_eq_true rfl) (by decide) dX5_squeeze_80 (q := 83) rfl (fun r4 h4x hp => ?_)
              obtain ⟨rfl, H3, F3⟩ := hp
              refine pm_aload_n K dX5_squeeze_83 (q := 84) rfl rfl rfl ?_
              refine pm_iload K dX5_squeeze_84 (q := 86) rfl rfl ?_
              refine pm_iload K dX5_squeeze_86 (q := 88) rfl rfl ?_
              refine pm_if_eq K dX5_squeeze_88 (tgt := 96) (q := 91) rfl rfl (fun z => absurd z (by decide)) (fun _ => ?_)
              refine pm_aload K dX5_squeeze_91 (q := 93) rfl rfl ?_
              refine pm_goto K dX5_squeeze_93 (q := 98) rfl ?_
              refine pm_callV0 K gw_ok wcX5_41 (c_write l H3 (p := b0 + (m + 2 ^ k)) (by omega) gx) rfl (by have := H3.1; omega) H3.2.1 rfl rfl (Nat.le_of_ble_eq_true rfl) (by decide) dX5_squeeze_98 (q := 101) rfl (fun r5 h5x hp => ?_)
              obtain ⟨rfl, H4, F4⟩ := hp
              refine pm_inc K dX5_squeeze_101 (q := 104) rfl rfl (by decide) rfl ?_
              refine pm_goto K dX5_squeeze_104 (q := 16) rfl ?_
              rw [show m + 2 ^ k + 1 = m + 1 + 2 ^ k by omega]
              refine ihj (m + 1) h5x _ _ _ _ (by omega) ?_ (fun q hq => by rw [F4 q (by omega), F3 q (by omega), F2 q (by omega) (by omega), F1 q (by omega) (by omega), hF3 q hq])
              simp only [tk_app, List.append_assoc, List.cons_append, List.nil_append] at H4
              rw [nw_sq_yes (by rw [hL _ (by omega)]; exact fun z => hw (so_and0.mpr z)), tr_sq_s]
              exact so_L.sw H4 hi hL (by omega) (by omega)
        have := inner (m0 - 2 ^ k) 0 h2 x5 x6 x7 x8 (by omega) (by rw [tr_sq, List.append_nil]; exact HL) hF
        rw [Nat.zero_add] at this
        exact this
  have := outer 8 0 h none none none none none (by omega) (fun j hj => absurd hj (Nat.not_lt_zero _)) (by rw [tr_sqs, List.append_nil]; exact H.tke) so_fr.rf
  exact this
set_option maxRecDepth 100000 in
theorem c_spread (l : Launch) {n : Nat} {h : pm_H} {L : Nat → rw_T} {ts : List Int32} (H : so_L n h L ts) {b0 m0 : Nat} (hb : b0 + m0 ≤ 76) (hm1 : 1 ≤ m0) : bM0 l yX5_spread cX5_spread 9 none 2 [.ref 15, .int (nI b0), .int (nI m0)] n h (fun r h' => r = none ∧ so_L n h' (nw_sds rw_wf b0 m0 (so_t m0 + 1) L) (tk (ts ++ tr_sds b0 m0 (so_t m0 + 1))) ∧ so_fr h h') := by
  refine pm_enter rfl (Nat.le_of_ble_eq_true rfl) (fun G K Z => ?_)
  have htm : 2 ^ so_t m0 ≤ m0 := so_t_le hm1
  obtain ⟨LF, hLF⟩ : ∃ z, z = nw_sds rw_wf b0 m0 (so_t m0 + 1) L := ⟨_, rfl⟩
  obtain ⟨tsF, htF⟩ : ∃ z, z = tk (ts ++ tr_sds b0 m0 (so_t m0 + 1)) := ⟨_, rfl⟩
  rw [← hLF, ← htF] at Z
  refine pm_iload_n K dX5_spread_0 (q := 1) rfl rfl rfl ?_
  refine pm_callS0 K gw_ok wcX5_95 (c_widest l (m0 := m0) (by omega)) rfl rfl (Nat.le_of_ble_eq_true rfl) (by decide) dX5_spread_1 (q := 4) rfl (fun r2 h2 hq2 => ?_)
  obtain ⟨rfl, hh⟩ := hq2
  rw [hh]
  refine pm_istore_n K dX5_spread_4 (q := 5) rfl rfl (by decide) rfl ?_
  generalize so_t m0 = t at htm hLF htF ⊢
  have outer : ∀ (k : Nat) (L1 : Nat → rw_T) (h2 : pm_H) (ts1 : List Int32) (x4 x5 x6 x7 x8 : Option Value), k ≤ t + 1 → so_L n h2 L1 ts1 → so_fr h h2 → nw_sds rw_wf b0 m0 k L1 = LF → tk (ts1 ++ tr_sds b0 m0 k) = tsF → G 0 0 5 [some (.ref 15), some (.int (nI b0)), some (.int (nI m0)), some (.int (so_pw k)), x4, x5, x6, x7, x8] [] n h2 := by
    intro k
    induction k with
    | zero =>
      intro L1 h2 ts1 x4 x5 x6 x7 x8 hk HL hF e1 e2
      refine pm_iload_n K dX5_spread_5 (q := 6) rfl rfl rfl ?_
      refine pm_if_le K dX5_spread_6 (tgt := 112) (q := 9) rfl rfl (fun _ => ?_) (fun z => absurd z (fun z => z (by decide)))
      have e1 : L1 = LF := e1
      subst e1
      rw [tr_sds, List.append_nil] at e2
      subst e2
      exact pm_vret Z dX5_spread_112 rfl (Nat.le_of_ble_eq_true rfl) (Nat.le_of_ble_eq_true rfl) ⟨rfl, ⟨rfl, HL.tke, hF⟩⟩
    | succ k ih =>
      intro L1 h2 ts1 x4 x5 x6 x7 x8 hk HL hF e1 e2
      have hpk : 2 ^ k ≤ 2 ^ t := Nat.pow_le_pow_right (by omega) (by omega)
      have hp0 : 0 < 2 ^ k := Nat.two_pow_pos k
      rw [so_pw_s]
      refine pm_iload_n K dX5_spread_5 (q := 6) rfl rfl rfl ?_
      refine pm_if_le K dX5_spread_6 (tgt := 112) (q := 9) rfl rfl (fun z => absurd z (nI_nle hp0 (by omega))) (fun _ => ?_)
      refine pm_iload_n K dX5_spread_9 (q := 10) rfl rfl rfl ?_
      refine pm_ic1 K dX5_spread_10 (q := 11) rfl ?_
      refine pm_isub K dX5_spread_11 (q := 12) rfl ?_
      rw [show nI m0 - 1 = nI (m0 - 1) from pk_sub (b := 1) hm1]
      refine pm_istore K dX5_spread_12 (q := 14) rfl (by decide) rfl ?_
      have inner : ∀ (j m : Nat) (h3 : pm_H) (x5 x6 x7 x8 : Option Value), m + j = m0 - 2 ^ k → so_L n h3 (nw_sd rw_wf b0 m0 (2 ^ k) m L1) (tk (ts1 ++ tr_sd b0 m0 (2 ^ k) m)) → so_fr h h3 → G 0 0 14 [some (.ref 15), some (.int (nI b0)), some (.int (nI m0)), some (.int (nI (2 ^ k))), some (.int (nI (m0 - 1 - m))), x5, x6, x7, x8] [] n h3 := by
        intro j
        induction j with
        | zero =>
          intro m h3 x5 x6 x7 x8 hm HL3 hF3
          refine pm_iload K dX5_spread_14 (q := 16) rfl rfl ?_
          refine pm_iload_n K dX5_spread_16 (q := 17) rfl rfl rfl ?_
          refine pm_icmp_lt K dX5_spread_17 (tgt := 105) (q := 20) rfl rfl (fun _ => ?_) (fun z => absurd z (fun z => z (nI_lt (by omega) (by omega))))
          have em : m = m0 - 2 ^ k := by omega
          subst em
          refine pm_iload_n K dX5_spread_105 (q := 106) rfl rfl rfl ?_
          refine pm_ic2 K dX5_spread_106 (q := 107) rfl ?_
          refine pm_idiv K dX5_spread_107 (q := 108) rfl (by decide) ?_
          rw [so_half (by omega)]
          refine pm_istore_n K dX5_spread_108 (q := 109) rfl rfl (by decide) rfl ?_
          refine pm_goto K dX5_spread_109 (q := 5) rfl ?_
          exact ih _ h3 _ _ _ _ _ _ (by omega) HL3 hF3 e1 (by rw [tk_app, List.append_assoc]; exact e2)
        | succ j ihj =>
          intro m h3 x5 x6 x7 x8 hm HL3 hF3
          refine pm_iload K dX5_spread_14 (q := 16) rfl rfl ?_
          refine pm_iload_n K dX5_spread_16 (q := 17) rfl rfl rfl ?_
          refine pm_icmp_lt K dX5_spread_17 (tgt := 105) (q := 20) rfl rfl (fun z => absurd z (nI_nlt (by omega) (by omega))) (fun _ => ?_)
          obtain ⟨ix, R, HA, hi, hL⟩ := HL3
          have g0 := HA.1
          have gx := HA.2.2.2.2.1 (b0 + (m0 - 1 - m - 2 ^ k)) (by omega)
          have gy := HA.2.2.2.2.1 (b0 + (m0 - 1 - m)) (by omega)
          have es : nI (b0 + (m0 - 1 - m)) - nI (2 ^ k) = nI (b0 + (m0 - 1 - m - 2 ^ k)) := by rw [pk_sub (by omega)]; congr 1; omega
          refine pm_iload_n K dX5_spread_20 (q := 21) rfl rfl rfl ?_
          refine pm_iload K dX5_spread_21 (q := 23) rfl rfl ?_
          refine pm_iadd K dX5_spread_23 (q := 24) rfl ?_
          rw [nI_add]
          refine pm_istore K dX5_spread_24 (q := 26) rfl (by decide) rfl ?_
          refine pm_aload_n K dX5_spread_26 (q := 27) rfl rfl rfl ?_
          refine pm_iload K dX5_spread_27 (q := 29) rfl rfl ?_
          refine pm_iload_n K dX5_spread_29 (q := 30) rfl rfl rfl ?_
          refine pm_isub K dX5_spread_30 (q := 31) rfl ?_
          rw [es]
          refine pm_callV0 K gw_ok wcX5_34 (c_read l HA (p := b0 + (m0 - 1 - m - 2 ^ k)) (by omega)) rfl (by have := HA.1; omega) HA.2.1 rfl rfl (Nat.le_of_ble_eq_true rfl) (by decide) dX5_spread_31 (q := 34) rfl (fun r1 h1 hp => ?_)
          obtain ⟨rfl, H1, F1⟩ := hp
          refine pm_astore K dX5_spread_34 (q := 36) rfl (by decide) rfl ?_
          refine pm_aload_n K dX5_spread_36 (q := 37) rfl rfl rfl ?_
          refine pm_iload K dX5_spread_37 (q := 39) rfl rfl ?_
          refine pm_callV0 K gw_ok wcX5_34 (c_read l H1 (p := b0 + (m0 - 1 - m)) (by omega)) rfl (by have := H1.1; omega) H1.2.1 rfl rfl (Nat.le_of_ble_eq_true rfl) (by decide) dX5_spread_39 (q := 42) rfl (fun r2 h2x hp => ?_)
          obtain ⟨rfl, H2, F2⟩ := hp
          refine pm_astore K dX5_spread_42 (q := 44) rfl (by decide) rfl ?_
          refine pm_aload K dX5_spread_44 (q := 46) rfl rfl ?_
          refine pm_get K inX3 rfl (k := 12) (by decide) wlX5_109 rfl (by omega) (H2.row gx) rfl dX5_spread_46 (q := 49) rfl ?_
          refine pm_iload_n K dX5_spread_49 (q := 50) rfl rfl rfl ?_
          refine pm_iand K dX5_spread_50 (q := 51) rfl ?_
          refine pm_if_eq K dX5_spread_51 (tgt := 58) (q := 54) rfl rfl (fun hw => ?_) (fun hw => ?_)
          · refine pm_ic0 K dX5_spread_58 (q := 59) rfl ?_
            refine pm_istore K dX5_spread_59 (q := 61) rfl (by decide) rfl ?_
            refine pm_aload_n K dX5_spread_61 (q := 62) rfl rfl rfl ?_
            refine pm_iload K dX5_spread_62 (q := 64) rfl rfl ?_
            refine pm_iload_n K dX5_spread_64 (q := 65) rfl rfl rfl ?_
            refine pm_isub K dX5_spread_65 (q := 66) rfl ?_
            rw [es]
            refine pm_iload K dX5_spread_66 (q := 68) rfl rfl ?_
            refine pm_if_eq K dX5_spread_68 (tgt := 76) (q := 71) rfl rfl (fun _ => ?_) (fun z => absurd z (fun z => z rfl))
            refine pm_aload K dX5_spread_76 (q := 78) rfl rfl ?_
            refine pm_callV0 K gw_ok wcX5_41 (c_write l H2 (p := b0 + (m0 - 1 - m - 2 ^ k)) (by omega) gx) rfl (by have := H2.1; omega) H2.2.1 rfl rfl (Nat.le_of_ble_eq_true rfl) (by decide) dX5_spread_78 (q := 81) rfl (fun r4 h4x hp => ?_)
            obtain ⟨rfl, H3, F3⟩ := hp
            refine pm_aload_n K dX5_spread_81 (q := 82) rfl rfl rfl ?_
            refine pm_iload K dX5_spread_82 (q := 84) rfl rfl ?_
            refine pm_iload K dX5_spread_84 (q := 86) rfl rfl ?_
            refine pm_if_eq K dX5_spread_86 (tgt := 94) (q := 89) rfl rfl (fun _ => ?_) (fun z => absurd z (fun z => z rfl))
            refine pm_aload K dX5_spread_94 (q := 96) rfl rfl ?_
            refine pm_callV0 K gw_ok wcX5_41 (c_write l H3 (p := b0 + (m0 - 1 - m)) (by omega) gy) rfl (by have := H3.1; omega) H3.2.1 rfl rfl (Nat.le_of_ble_eq_true rfl) (by decide) dX5_spread_96 (q := 99) rfl (fun r5 h5x hp => ?_)
            obtain ⟨rfl, H4, F4⟩ := hp
            refine pm_iinc (v := nI (m0 - 1 - (m + 1))) K dX5_spread_99 (q := 102) rfl rfl (by rw [show m0 - 1 - m = m0 - 1 - (m + 1) + 1 by omega, ← pk_m1 (m0 - 1 - (m + 1))]; congr 1) (by decide) rfl ?_
            refine pm_goto K dX5_spread_102 (q := 14) rfl ?_
            refine ihj (m + 1) h5x _ _ _ _ (by omega) ?_ (fun q hq => by rw [F4 q (by omega), F3 q (by omega), F2 q (by omega) (by omega), F1 q (by omega) (by omega), hF3 q hq])
            simp only [tk_app, List.append_assoc, List.cons_append, List.nil_append] at H4
            rw [so_id, so_id] at H4
            rw [nw_sd_no (by rw [hL _ (by omega)]; exact so_and0.mp hw), tr_sd_s]
            exact ⟨ix, R, H4, hi, hL⟩
          · refine pm_ic1 K dX5_spread_54 (q := 55) rfl ?_
            refine pm_goto K dX5_spread_55 (q := 59) rfl ?_
            refine pm_istore K dX5_spread_59 (q := 61) rfl (by decide) rfl ?_
            refine pm_aload_n K dX5_spread_61 (q := 62) rfl rfl rfl ?_
            refine pm_iload K dX5_spread_62 (q := 64) rfl rfl ?_
            refine pm_iload_n K dX5_spread_64 (q := 65) rfl rfl rfl ?_
            refine pm_isub K dX5_spread_65 (q := 66) rfl ?_
            rw [es]
            refine pm_iload K dX5_spread_66 (q := 68) rfl rfl ?_
            refine pm_if_eq K dX5_spread_68 (tgt := 76) (q := 71) rfl rfl (fun z => absurd z (by decide)) (fun _ => ?_)
            refine pm_aload K dX5_spread_71 (q := 73) rfl rfl ?_
            refine pm_goto K dX5_spread_73 (q := 78) rfl ?_
            refine pm_callV0 K gw_ok wcX5_41 (c_write l H2 (p := b0 + (m0 - 1 - m - 2 ^ k)) (by omega) gy) rfl (by have := H2.1; omega) H2.2.1 rfl rfl (Nat.le_of_ble_eq_true rfl) (by decide) dX5_spread_78 (q := 81) rfl (fun r4 h4x hp => ?_)
            obtain ⟨rfl, H3, F3⟩ := hp
            refine pm_aload_n K dX5_spread_81 (q := 82) rfl rfl rfl ?_
            refine pm_iload K dX5_spread_82 (q := 84) rfl rfl ?_
            refine pm_iload K dX5_spread_84 (q := 86) rfl rfl ?_
            refine pm_if_eq K dX5_spread_86 (tgt := 94) (q := 89) rfl rfl (fun z => absurd z (by decide)) (fun _ => ?_)
            refine pm_aload K dX5_spread_89 (q := 91) rfl rfl ?_
            refine pm_goto K dX5_spread_91 (q := 96) rfl ?_
            refine pm_callV0 K gw_ok wcX5_41 (c_write l H3 (p := b0 + (m0 - 1 - m)) (by omega) gx) rfl (by have := H3.1; omega) H3.2.1 rfl rfl (Nat.le_of_ble_eq_true rfl) (by decide) dX5_spread_96 (q := 99) rfl (fun r5 h5x hp => ?_)
            obtain ⟨rfl, H4, F4⟩ := hp
            refine pm_iinc (v := nI (m0 - 1 - (m + 1))) K dX5_spread_99 (q := 102) rfl rfl (by rw [show m0 - 1 - m = m0 - 1 - (m + 1) + 1 by omega, ← pk_m1 (m0 - 1 - (m + 1))]; congr 1) (by decide) rfl ?_
            refine pm_goto K dX5_spread_102 (q := 14) rfl ?_
            refine ihj (m + 1) h5x _ _ _ _ (by omega) ?_ (fun q hq => by rw [F4 q (by omega), F3 q (by omega), F2 q (by omega) (by omega), F1 q (by omega) (by omega), hF3 q hq])
            simp only [tk_app, List.append_assoc, List.cons_append, List.nil_append] at H4
            rw [nw_sd_yes (by rw [hL _ (by omega)]; exact fun z => hw (so_and0.mpr z)), tr_sd_s]
            exact so_L.sw H4 hi hL (by omega) (by omega)
      have := inner (m0 - 2 ^ k) 0 h2 x5 x6 x7 x8 (by omega) (by rw [tr_sd, List.append_nil]; exact HL.tke) hF
      exact this
  have := outer (t + 1) L h ts none none none none none (by omega) H so_fr.rf hLF.symm htF.symm
  rw [so_pw_s] at this
  exact this
end
section
/-! The sort puts rows in order and keeps them. -/
theorem rw_lt_iff (f g : rw_T) : rw_lt f g = true ↔ (f 7).toInt < (g 7).toInt ∨ (f 7).toInt = (g 7).toInt ∧ ((f 8).toInt < (g 8).toInt ∨ (f 8).toInt = (g 8).toInt ∧ (f 9).toInt < (g 9).toInt) := by
  have e7 : g 7 = f 7 ↔ (g 7).toInt = (f 7).toInt := Int32.toInt_inj.symm
  have e8 : g 8 = f 8 ↔ (g 8).toInt = (f 8).toInt := Int32.toInt_inj.symm
  unfold rw_lt rw_gt
  by_cases h7 : g 7 = f 7
  · rw [if_pos h7]
    have h7' := e7.mp h7
    by_cases h8 : g 8 = f 8
    · have h8' := e8.mp h8
      rw [if_pos h8, decide_eq_true_iff, Int32.lt_iff_toInt_lt]
      omega
    · have h8' : ¬ (g 8).toInt = (f 8).toInt := fun z => h8 (e8.mpr z)
      rw [if_neg h8, decide_eq_true_iff, Int32.lt_iff_toInt_lt]
      omega
  · have h7' : ¬ (g 7).toInt = (f 7).toInt := fun z => h7 (e7.mpr z)
    rw [if_neg h7, decide_eq_true_iff, Int32.lt_iff_toInt_lt]
    omega
theorem rw_lt_no (f g : rw_T) : rw_lt f g = false ↔ ¬ ((f 7).toInt < (g 7).toInt ∨ (f 7).toInt = (g 7).toInt ∧ ((f 8).toInt < (g 8).toInt ∨ (f 8).toInt = (g 8).toInt ∧ (f 9).toInt < (g 9).toInt)) := by
  rw [← rw_lt_iff, Bool.not_eq_true]
theorem so_sort_sp (b m : Nat) (L : Nat → rw_T) : nw_Pm b m L (so_sort b m L) ∧ ∀ i, i + 1 < m → rw_lt (so_sort b m L (b + (i + 1))) (so_sort b m L (b + i)) = false := by
  unfold so_sort
  by_cases h : m < 2
  · rw [if_pos h]
    exact ⟨nw_Pm.rf, fun i hi => absurd hi (by omega)⟩
  · rw [if_neg h]
    obtain ⟨h1, h2⟩ := so_t_sp (n := m) (by omega)
    refine ⟨nw_Pm.out h1 _ _ (Nat.le_refl _), fun i hi => nw_sorts (fun a => ?_) (fun a b c h1 h2 => ?_) (fun a b c h1 h2 => ?_) h2 L i hi⟩
    · rw [rw_lt_no]; omega
    · rw [rw_lt_iff] at h1 h2 ⊢; omega
    · rw [rw_lt_no] at h1
      rw [rw_lt_iff] at h2 ⊢
      omega
theorem so_sort_le (b m : Nat) (L : Nat → rw_T) : ∀ (k i : Nat), i + k < m → rw_lt (so_sort b m L (b + (i + k))) (so_sort b m L (b + i)) = false
  | 0, i, h => by rw [rw_lt_no]; simp only [Nat.add_zero]; omega
  | k + 1, i, h => by
    have h1 := so_sort_le b m L k i (by omega)
    have h2 := (so_sort_sp b m L).2 (i + k) (by omega)
    rw [rw_lt_no] at h1 h2 ⊢
    rw [show i + (k + 1) = i + k + 1 by omega]
    omega
theorem so_sort_pw (b m : Nat) (L : Nat → rw_T) : (nw_ls b m (so_sort b m L)).Pairwise (fun x y => rw_lt y x = false) := by
  rw [List.pairwise_iff_getElem]
  intro i j hi hj hij
  rw [nw_ls_len] at hi hj
  have e1 := nw_ls_get (b := b) (so_sort b m L) hi
  have e2 := nw_ls_get (b := b) (so_sort b m L) hj
  rw [List.getElem?_eq_getElem (by rw [nw_ls_len]; exact hi)] at e1
  rw [List.getElem?_eq_getElem (by rw [nw_ls_len]; exact hj)] at e2
  rw [Option.some.inj e1, Option.some.inj e2]
  have := so_sort_le b m L (j - i) i (by omega)
  rw [show i + (j - i) = j by omega] at this
  exact this
/-- rows by their columns -/
def bg_le (x y : bg_T) : Prop := x.1.toInt < y.1.toInt ∨ x.1.toInt = y.1.toInt ∧ (x.2.1.toInt < y.2.1.toInt ∨ x.2.1.toInt = y.2.1.toInt ∧ x.2.2.toInt ≤ y.2.2.toInt)
theorem bg_le_anti {x y : bg_T} (h1 : bg_le x y) (h2 : bg_le y x) : x = y := by
  unfold bg_le at h1 h2
  have a : x.1 = y.1 := Int32.toInt_inj.mp (by omega)
  have b : x.2.1 = y.2.1 := Int32.toInt_inj.mp (by omega)
  have c : x.2.2 = y.2.2 := Int32.toInt_inj.mp (by omega)
  obtain ⟨x1, x2, x3⟩ := x
  obtain ⟨y1, y2, y3⟩ := y
  simp only at a b c
  rw [a, b, c]
/-- laid by their columns and sorted: the same rows, in order -/
def so_lays (l : List bg_T) (L : Nat → rw_T) : Nat → rw_T := so_map 0 l.length (fun r f => so_lay1 (l.getD r (0, 0, 0)) f) L
theorem so_lays_at {l : List bg_T} {L : Nat → rw_T} {i : Nat} (h : i < l.length) : so_lays l L i = so_lay1 (l.getD i (0, 0, 0)) (L i) := by
  unfold so_lays so_map
  rw [if_pos (by omega), Nat.sub_zero]
theorem so_lays_c3 (l : List bg_T) (L : Nat → rw_T) : (nw_ls 0 l.length (so_lays l L)).map rw_c3 = l := by
  apply List.ext_getElem?
  intro i
  rw [List.getElem?_map]
  by_cases h : i < l.length
  · rw [nw_ls_get _ h, Nat.zero_add, so_lays_at h, Option.map_some, List.getD_eq_getElem?_getD, List.getElem?_eq_getElem h]
    rfl
  · rw [List.getElem?_eq_none (by rw [nw_ls_len]; omega), List.getElem?_eq_none (by omega)]
    rfl
theorem so_order (l : List bg_T) (L : Nat → rw_T) : ((nw_ls 0 l.length (so_sort 0 l.length (so_lays l L))).map rw_c3).Perm l ∧ ((nw_ls 0 l.length (so_sort 0 l.length (so_lays l L))).map rw_c3).Pairwise bg_le := by
  have hp := (so_sort_sp 0 l.length (so_lays l L)).1.1
  constructor
  · have := hp.map rw_c3
    rw [so_lays_c3] at this
    exact this
  · have hk : ∀ f ∈ nw_ls 0 l.length (so_sort 0 l.length (so_lays l L)), f 7 = f 0 ∧ f 8 = f 1 ∧ f 9 = f 2 := by
      intro f hf
      have hf := hp.mem_iff.mp hf
      obtain ⟨i, hi, rfl⟩ := nw_ls_mem.mp hf
      rw [Nat.zero_add, so_lays_at hi]
      exact ⟨rfl, rfl, rfl⟩
    rw [List.pairwise_map]
    refine (so_sort_pw 0 l.length (so_lays l L)).imp_of_mem (fun hx hy h => ?_)
    obtain ⟨a1, a2, a3⟩ := hk _ hx
    obtain ⟨b1, b2, b3⟩ := hk _ hy
    rw [rw_lt_no, a1, a2, a3, b1, b2, b3] at h
    unfold bg_le rw_c3
    simp only
    omega
end
section
/-! The operators. -/
def op_m (v op x : Int32) : Bool := if op = 0 then decide (v < x) else if op = 1 then decide (v = x) else decide (x < v)
def op_fr (b : Nat) (h h' : pm_H) : Prop := ∀ q, (q < 15 ∨ 93 < q) → (q < b ∨ b + 3 < q) → h' q = h q
/-- what an operator leaves: the store with its trace, the bag with its rows, all else as it was -/
def op_P (n : Nat) (h : pm_H) (b len : Nat) (ts : List Int32) (h' : pm_H) (l' : List bg_T) (tr : List Int32) : Prop := (∃ L', so_L n h' L' (tk (ts ++ tr))) ∧ bg_at n h' b len l' ∧ op_fr b h h'
def tr_sc (b : Nat) : Nat → List Int32
  | 0 => []
  | m + 1 => tr_sc b m ++ [so_rd (b + m), so_wr (b + m)]
theorem tr_sc_s (b m : Nat) : tr_sc b (m + 1) = tr_sc b m ++ [so_rd (b + m), so_wr (b + m)] := rfl
def tr_bk (n : Nat) : Nat → List Int32
  | 0 => []
  | m + 1 => tr_bk n m ++ [so_rd (n - 1 - m), so_wr (n - 1 - m)]
theorem so_k_le (n : Nat) : n ≤ 2 ^ so_k n := by
  unfold so_k
  by_cases h : n ≤ 1
  · rw [if_pos h]; exact h
  · rw [if_neg h]
    exact (so_t_sp (by omega)).2
def rw_dead (f : rw_T) : Prop := f 10 = 0 ∧ f 11 = 0 ∧ f 12 = 0
theorem rw_dead_wb {f : rw_T} (h : rw_dead f) : rw_wb f = 0 := by
  unfold rw_wb
  rw [h.2.1]
  rfl
theorem rw_dead_disc (f : rw_T) : rw_dead (rw_disc f) := ⟨rfl, rfl, rfl⟩
theorem rw_keep_wb {p r : Nat} (h : r ≤ p) (hp : p < 76) (f : rw_T) : rw_wb (rw_keep (nI p) (nI r) f) = p - r := by
  show (nI p - nI r).toBitVec.toNat = p - r
  rw [pk_sub h, pk_tn (by omega)]
/-- what squeezing brings to the front -/
theorem so_squeezed {N : Nat → rw_T} {live : Nat → Bool} {m : Nat} (hk : ∀ p, p < m → live p = true → rw_wb (N p) = p - (nw_mk live p).length) (hd : ∀ p, p < m → live p = false → rw_dead (N p)) : nw_ls 0 (nw_mk live m).length (nw_sqs rw_wb 0 m (so_k m) N) = (nw_mk live m).map N := by
  have h := (nw_sq_rows (w := rw_wb) (dead := rw_dead) (b := 0) (n := m) (k := so_k m) (L := N) (live := live) (so_k_le m) (fun x hx => rw_dead_wb hx) (fun p hp hl => by rw [Nat.zero_add]; exact hk p hp hl) (fun p hp hl => by rw [Nat.zero_add]; exact hd p hp hl)).1
  apply List.ext_getElem?
  intro j
  rw [List.getElem?_map]
  by_cases hj : j < (nw_mk live m).length
  · rw [nw_ls_get _ hj, h j _ (List.getElem?_eq_getElem hj), List.getElem?_eq_getElem hj, Nat.zero_add]
    rfl
  · rw [List.getElem?_eq_none (by rw [nw_ls_len]; omega), List.getElem?_eq_none (by omega)]
    rfl
theorem mk_filter {α : Type} (P : α → Bool) (g : Nat → α) (n : Nat) : (nw_mk (fun p => P (g p)) n).map g = ((List.range n).map g).filter P := by
  unfold nw_mk
  rw [List.filter_map]
  rfl
theorem mk_getD (l : List bg_T) (d : bg_T) : (List.range l.length).map (fun p => l.getD p d) = l := by
  apply List.ext_getElem?
  intro i
  rw [List.getElem?_map]
  by_cases h : i < l.length
  · rw [List.getElem?_range h, Option.map_some, List.getD_eq_getElem?_getD, List.getElem?_eq_getElem h]
    rfl
  · rw [List.getElem?_eq_none (by rw [List.length_range]; omega), List.getElem?_eq_none (by omega)]
    rfl
set_option maxRecDepth 100000 in
theorem c_matches (l : Launch) {n : Nat} {h : pm_H} (v op x : Int32) : bM0 l yX2_matches cX2_matches 3 (some (.boolean)) 0 [.int v, .int op, .int x] n h (fun r h' => r = some (.int (b2i (op_m v op x))) ∧ h' = h) := by
  refine pm_enter rfl (Nat.le_of_ble_eq_true rfl) (fun G K Z => ?_)
  refine pm_iload_n K dX2_matches_0 (q := 1) rfl rfl rfl ?_
  refine pm_if_ne K dX2_matches_1 (tgt := 17) (q := 4) rfl rfl (fun h0 => ?_) (fun h0 => ?_)
  · refine pm_iload_n K dX2_matches_17 (q := 18) rfl rfl rfl ?_
    refine pm_ic1 K dX2_matches_18 (q := 19) rfl ?_
    refine pm_icmp_ne K dX2_matches_19 (tgt := 35) (q := 22) rfl rfl (fun h2 => ?_) (fun h2 => ?_)
    · refine pm_iload_n K dX2_matches_35 (q := 36) rfl rfl rfl ?_
      refine pm_iload_n K dX2_matches_36 (q := 37) rfl rfl rfl ?_
      refine pm_icmp_le K dX2_matches_37 (tgt := 44) (q := 40) rfl rfl (fun h3 => ?_) (fun h3 => ?_)
      · refine pm_ic0 K dX2_matches_44 (q := 45) rfl ?_
        exact pm_iret Z dX2_matches_45 rfl rfl (Nat.le_of_ble_eq_true rfl) (Nat.le_of_ble_eq_true rfl) ⟨rfl, ⟨by rw [op_m, if_neg h0, if_neg h2, decide_eq_false (Int32.not_lt.mpr h3)]; rfl, rfl⟩⟩
      · refine pm_ic1 K dX2_matches_40 (q := 41) rfl ?_
        refine pm_goto K dX2_matches_41 (q := 45) rfl ?_
        exact pm_iret Z dX2_matches_45 rfl rfl (Nat.le_of_ble_eq_true rfl) (Nat.le_of_ble_eq_true rfl) ⟨rfl, ⟨by rw [op_m, if_neg h0, if_neg h2, decide_eq_true (Int32.not_le.mp h3)]; rfl, rfl⟩⟩
    · refine pm_iload_n K dX2_matches_22 (q := 23) rfl rfl rfl ?_
      refine pm_iload_n K dX2_matches_23 (q := 24) rfl rfl rfl ?_
      refine pm_icmp_ne K dX2_matches_24 (tgt := 31) (q := 27) rfl rfl (fun h4 => ?_) (fun h4 => ?_)
      · refine pm_ic0 K dX2_matches_31 (q := 32) rfl ?_
        refine pm_goto K dX2_matches_32 (q := 45) rfl ?_
        exact pm_iret Z dX2_matches_45 rfl rfl (Nat.le_of_ble_eq_true rfl) (Nat.le_of_ble_eq_true rfl) ⟨rfl, ⟨by rw [op_m, if_neg h0, if_pos h2, decide_eq_false h4]; rfl, rfl⟩⟩
      · refine pm_ic1 K dX2_matches_27 (q := 28) rfl ?_
        refine pm_goto K dX2_matches_28 (q := 45) rfl ?_
        exact pm_iret Z dX2_matches_45 rfl rfl (Nat.le_of_ble_eq_true rfl) (Nat.le_of_ble_eq_true rfl) ⟨rfl, ⟨by rw [op_m, if_neg h0, if_pos h2, decide_eq_true h4]; rfl, rfl⟩⟩
  · refine pm_iload_n K dX2_matches_4 (q := 5) rfl rfl rfl ?_
    refine pm_iload_n K dX2_matches_5 (q := 6) rfl rfl rfl ?_
    refine pm_icmp_ge K dX2_matches_6 (tgt := 13) (q := 9) rfl rfl (fun h1 => ?_) (fun h1 => ?_)
    · refine pm_ic0 K dX2_matches_13 (q := 14) rfl ?_
      refine pm_goto K dX2_matches_14 (q := 45) rfl ?_
      exact pm_iret Z dX2_matches_45 rfl rfl (Nat.le_of_ble_eq_true rfl) (Nat.le_of_ble_eq_true rfl) ⟨rfl, ⟨by rw [op_m, if_pos h0, decide_eq_false (Int32.not_lt.mpr h1)]; rfl, rfl⟩⟩
    · refine pm_ic1 K dX2_matches_9 (q := 10) rfl ?_
      refine pm_goto K dX2_matches_10 (q := 45) rfl ?_
      exact pm_iret Z dX2_matches_45 rfl rfl (Nat.le_of_ble_eq_true rfl) (Nat.le_of_ble_eq_true rfl) ⟨rfl, ⟨by rw [op_m, if_pos h0, decide_eq_true (Int32.not_le.mp h1)]; rfl, rfl⟩⟩
set_option maxRecDepth 100000 in
theorem c_order (l : Launch) {n : Nat} {h : pm_H} {L : Nat → rw_T} {ts : List Int32} (H : so_L n h L ts) (hn : 111 < n) (O : h 94 = pm_O cOps [.ref 15]) {b len : Nat} {l0 : List bg_T} (B : bg_at n h b len l0) (hb : b + 3 < 15 ∨ 96 < b) : bM0 l yX2_order cX2_order 3 none 4 [.ref 94, .ref b] n h (fun r h' => r = none ∧ ∃ l1, l1.Perm l0 ∧ l1.Pairwise bg_le ∧ op_P n h b len ts h' l1 (tr_sort 0 l0.length)) := by
  refine pm_enter rfl (Nat.le_of_ble_eq_true rfl) (fun G K Z => ?_)
  have hlen : l0.length ≤ 24 := Nat.le_trans B.2.1 B.2.2.1
  obtain ⟨ix0, R0, HA0, hi0, hL0⟩ := id H
  refine pm_aload_n K dX2_order_0 (q := 1) rfl rfl rfl ?_
  refine pm_get K inX2 rfl (k := 0) (by decide) wlX2_9 rfl (by omega) O rfl dX2_order_1 (q := 4) rfl ?_
  refine pm_aload_n K dX2_order_4 (q := 5) rfl rfl rfl ?_
  refine pm_callV0 K gw_ok wcX2_15 (c_lay l H B (by omega)) rfl (by omega) HA0.2.1 rfl rfl (Nat.le_of_ble_eq_true rfl) (by decide) dX2_order_5 (q := 8) rfl (fun r1 h1 hp => ?_)
  obtain ⟨rfl, HL1, F1⟩ := hp
  obtain ⟨ix1, R1, HA1, hi1, hL1⟩ := id HL1
  refine pm_istore_n K dX2_order_8 (q := 9) rfl rfl (by decide) rfl ?_
  refine pm_aload_n K dX2_order_9 (q := 10) rfl rfl rfl ?_
  refine pm_get K inX2 rfl (k := 0) (by decide) wlX2_9 rfl (by omega) ((F1 94 (by omega)).trans O) rfl dX2_order_10 (q := 13) rfl ?_
  refine pm_ic0 K dX2_order_13 (q := 14) rfl ?_
  refine pm_iload_n K dX2_order_14 (q := 15) rfl rfl rfl ?_
  refine pm_callV0 K gw_ok wcX2_21 (c_sort l HL1 (b0 := 0) (m0 := l0.length) (by omega)) rfl (by omega) HA1.2.1 rfl rfl (Nat.le_of_ble_eq_true rfl) (by decide) dX2_order_15 (q := 18) rfl (fun r2 h2 hp => ?_)
  obtain ⟨rfl, HL2, F2⟩ := hp
  obtain ⟨ix2, R2, HA2, hi2, hL2⟩ := id HL2
  have F12 := F1.tr F2
  have B2 : bg_at n h2 b len l0 := B.fr (Nat.le_refl _) (fun q a c => F12 q (by omega))
  refine pm_aload_n K dX2_order_18 (q := 19) rfl rfl rfl ?_
  refine pm_get K inX2 rfl (k := 0) (by decide) wlX2_9 rfl (by omega) ((F12 94 (by omega)).trans O) rfl dX2_order_19 (q := 22) rfl ?_
  refine pm_aload_n K dX2_order_22 (q := 23) rfl rfl rfl ?_
  refine pm_iload_n K dX2_order_23 (q := 24) rfl rfl rfl ?_
  refine pm_callV0 K gw_ok wcX2_25 (c_takeAway l HL2 B2 (by omega) (m := l0.length) (by omega)) rfl (by omega) HA2.2.1 rfl rfl (Nat.le_of_ble_eq_true rfl) (by decide) dX2_order_24 (q := 27) rfl (fun r3 h3 hp => ?_)
  obtain ⟨rfl, B3, F3⟩ := hp
  obtain ⟨hp1, hp2⟩ := so_order l0 L
  have e1 : (((nw_ls 0 l0.length (so_sort 0 l0.length (so_lays l0 L))).map rw_c3).take len) = (nw_ls 0 l0.length (so_sort 0 l0.length (so_lays l0 L))).map rw_c3 := List.take_of_length_le (by rw [hp1.length_eq]; exact B.2.1)
  exact pm_vret Z dX2_order_27 rfl (Nat.le_of_ble_eq_true rfl) (Nat.le_of_ble_eq_true rfl) ⟨rfl, ⟨rfl, _, hp1, hp2, ⟨_, HL2.mv (fun q hq => F3 q (by omega))⟩, by rw [← e1]; exact B3, fun q a c => by rw [F3 q c, F12 q a]⟩⟩
end
section
/-! The operators: filter and pick. -/
def bg_col (k : Int32) (t : bg_T) : Int32 := if k = 0 then t.1 else if k = 1 then t.2.1 else t.2.2
theorem rw_col_c3 (k : Int32) (f : rw_T) : rw_col k f = bg_col k (rw_c3 f) := rfl
/-- kept with its rank, or discarded -/
def op_mark (live : Nat → Bool) (p : Nat) (f : rw_T) : rw_T := if live p = true then rw_keep (nI p) (nI (nw_mk live p).length) f else rw_disc f
theorem op_mark_t {live : Nat → Bool} {p : Nat} {f : rw_T} (h : live p = true) : op_mark live p f = rw_keep (nI p) (nI (nw_mk live p).length) f := if_pos h
theorem op_mark_f {live : Nat → Bool} {p : Nat} {f : rw_T} (h : live p = false) : op_mark live p f = rw_disc f := if_neg (by rw [h]; decide)
theorem nw_mk_t {live : Nat → Bool} {p : Nat} (h : live p = true) : (nw_mk live (p + 1)).length = (nw_mk live p).length + 1 := by
  rw [nw_mk_succ, if_pos h, List.length_append]
  rfl
theorem nw_mk_f {live : Nat → Bool} {p : Nat} (h : live p = false) : (nw_mk live (p + 1)).length = (nw_mk live p).length := by
  rw [nw_mk_succ, if_neg (by rw [h]; decide), List.append_nil]
theorem op_mark_c3 (live : Nat → Bool) (p : Nat) (f : rw_T) : rw_c3 (op_mark live p f) = rw_c3 f := by
  unfold op_mark
  split <;> rfl
theorem so_map_in {m p : Nat} {F : Nat → rw_T → rw_T} {M : Nat → rw_T} (h : p < m) : so_map 0 m F M p = F p (M p) := by
  unfold so_map
  rw [if_pos (by omega), Nat.sub_zero]
theorem op_marked {live : Nat → Bool} {M : Nat → rw_T} {m : Nat} (hm : m ≤ 76) : (nw_ls 0 (nw_mk live m).length (nw_sqs rw_wb 0 m (so_k m) (so_map 0 m (op_mark live) M))).map rw_c3 = (nw_mk live m).map (fun p => rw_c3 (M p)) := by
  rw [so_squeezed (live := live) (fun p hp hl => ?_) (fun p hp hl => ?_), List.map_map]
  · apply List.map_congr_left
    intro p hp
    have := (nw_mk_mem.mp hp).1
    show rw_c3 (so_map 0 m (op_mark live) M p) = _
    rw [so_map_in this, op_mark_c3]
  · rw [so_map_in hp, op_mark_t hl]
    exact rw_keep_wb (nw_mk_le live p) (by omega) _
  · rw [so_map_in hp, op_mark_f hl]
    exact rw_dead_disc _
theorem so_lays_c {l : List bg_T} {L : Nat → rw_T} {p : Nat} (h : p < l.length) : rw_c3 (so_lays l L p) = l.getD p (0, 0, 0) := by
  rw [so_lays_at h]
  rfl
theorem mk_congr {α : Type} {live live' : Nat → Bool} {g g' : Nat → α} {n : Nat} (h1 : ∀ p, p < n → live p = live' p) (h2 : ∀ p, p < n → g p = g' p) : (nw_mk live n).map g = (nw_mk live' n).map g' := by
  have e : nw_mk live n = nw_mk live' n := List.filter_congr (fun p hp => h1 p (List.mem_range.mp hp))
  rw [e]
  apply List.map_congr_left
  intro p hp
  exact h2 p (nw_mk_mem.mp hp).1
theorem op_fil {l : List bg_T} {L : Nat → rw_T} {c op x : Int32} {live : Nat → Bool} (h : ∀ p, live p = op_m (rw_col c (so_lays l L p)) op x) : (nw_mk live l.length).map (fun p => rw_c3 (so_lays l L p)) = l.filter (fun t => op_m (bg_col c t) op x) := by
  rw [mk_congr (live' := fun p => (fun t => op_m (bg_col c t) op x) (l.getD p (0, 0, 0))) (g' := fun p => l.getD p (0, 0, 0)) (fun p hp => by rw [h, rw_col_c3, so_lays_c hp]) (fun p hp => so_lays_c hp)]
  refine (mk_filter (fun t => op_m (bg_col c t) op x) (fun p => l.getD p (0, 0, 0)) l.length).trans ?_
  rw [mk_getD]
theorem op_picked {l : List bg_T} {L : Nat → rw_T} {a b c : Int32} : (nw_ls 0 l.length (so_map 0 l.length (fun _ f => rw_cols (rw_col a f) (rw_col b f) (rw_col c f) f) (so_lays l L))).map rw_c3 = l.map (fun t => (bg_col a t, bg_col b t, bg_col c t)) := by
  apply List.ext_getElem?
  intro i
  rw [List.getElem?_map, List.getElem?_map]
  by_cases h : i < l.length
  · have e := so_lays_c (L := L) h
    rw [nw_ls_get _ h, Nat.zero_add, so_map_in h, List.getElem?_eq_getElem h]
    rw [List.getD_eq_getElem?_getD, List.getElem?_eq_getElem h] at e
    have e : rw_c3 (so_lays l L i) = l[i] := e
    rw [Option.map_some, Option.map_some, ← e]
    rfl
  · rw [List.getElem?_eq_none (by rw [nw_ls_len]; omega), List.getElem?_eq_none (by omega)]
    rfl
set_option maxRecDepth 100000 in
theorem c_keepMatching (l : Launch) {n : Nat} {h : pm_H} {L : Nat → rw_T} {ts : List Int32} (H : so_L n h L ts) (hn : 111 < n) (O : h 94 = pm_O cOps [.ref 15]) {b len : Nat} {l0 : List bg_T} (B : bg_at n h b len l0) (hb : b + 3 < 15 ∨ 96 < b) (c0 op x : Int32) : bM0 l yX2_keepMatching cX2_keepMatching 9 none 3 [.ref 94, .ref b, .int c0, .int op, .int x] n h (fun r h' => r = none ∧ op_P n h b len ts h' (l0.filter (fun t => op_m (bg_col c0 t) op x)) (tr_sc 0 l0.length ++ tr_sqs 0 l0.length (so_k l0.length))) := by
  refine pm_enter rfl (Nat.le_of_ble_eq_true rfl) (fun G K Z => ?_)
  have hlen : l0.length ≤ 24 := Nat.le_trans B.2.1 B.2.2.1
  obtain ⟨ix0, R0, HA0, hi0, hL0⟩ := id H
  refine pm_aload_n K dX2_keepMatching_0 (q := 1) rfl rfl rfl ?_
  refine pm_get K inX2 rfl (k := 0) (by decide) wlX2_9 rfl (by omega) O rfl dX2_keepMatching_1 (q := 4) rfl ?_
  refine pm_aload_n K dX2_keepMatching_4 (q := 5) rfl rfl rfl ?_
  refine pm_callV0 K gw_ok wcX2_15 (c_lay l H B (by omega)) rfl (by omega) HA0.2.1 rfl rfl (Nat.le_of_ble_eq_true rfl) (by decide) dX2_keepMatching_5 (q := 8) rfl (fun r1 h1 hp => ?_)
  obtain ⟨rfl, HL1, F1⟩ := hp
  refine pm_istore K dX2_keepMatching_8 (q := 10) rfl (by decide) rfl ?_
  refine pm_ic0 K dX2_keepMatching_10 (q := 11) rfl ?_
  refine pm_istore K dX2_keepMatching_11 (q := 13) rfl (by decide) rfl ?_
  refine pm_ic0 K dX2_keepMatching_13 (q := 14) rfl ?_
  refine pm_istore K dX2_keepMatching_14 (q := 16) rfl (by decide) rfl ?_
  obtain ⟨M, hM⟩ : ∃ z, z = so_lays l0 L := ⟨_, rfl⟩
  obtain ⟨live, hlv⟩ : ∃ z : Nat → Bool, ∀ p, z p = op_m (rw_col c0 (M p)) op x := ⟨_, fun _ => rfl⟩
  have HL1 : so_L n h1 M ts := by rw [hM]; exact HL1
  have loop : ∀ (k p : Nat) (h2 : pm_H) (x8 : Option Value), p + k = l0.length → so_L n h2 (so_map 0 p (op_mark live) M) (tk (ts ++ tr_sc 0 p)) → so_fr h h2 → G 0 0 16 [some (.ref 94), some (.ref b), some (.int c0), some (.int op), some (.int x), some (.int (nI l0.length)), some (.int (nI (nw_mk live p).length)), some (.int (nI p)), x8] [] n h2 := by
    intro k
    induction k with
    | zero =>
      intro p h2 x8 hk HL hF
      refine pm_iload K dX2_keepMatching_16 (q := 18) rfl rfl ?_
      refine pm_iload K dX2_keepMatching_18 (q := 20) rfl rfl ?_
      refine pm_icmp_ge K dX2_keepMatching_20 (tgt := 86) (q := 23) rfl rfl (fun _ => ?_) (fun z => absurd z (fun z => z (nI_le (by omega) (by omega))))
      have ep : p = l0.length := by omega
      subst ep
      obtain ⟨ix2, R2, HA2, hi2, hL2⟩ := id HL
      have hml := nw_mk_le live l0.length
      refine pm_aload_n K dX2_keepMatching_86 (q := 87) rfl rfl rfl ?_
      refine pm_get K inX2 rfl (k := 0) (by decide) wlX2_9 rfl (by omega) ((hF 94 (by omega)).trans O) rfl dX2_keepMatching_87 (q := 90) rfl ?_
      refine pm_ic0 K dX2_keepMatching_90 (q := 91) rfl ?_
      refine pm_iload K dX2_keepMatching_91 (q := 93) rfl rfl ?_
      refine pm_callV0 K gw_ok wcX2_53 (c_squeeze l HL (b0 := 0) (m0 := l0.length) (by omega)) rfl (by omega) HA2.2.1 rfl rfl (Nat.le_of_ble_eq_true rfl) (by decide) dX2_keepMatching_93 (q := 96) rfl (fun r3 h3 hp => ?_)
      obtain ⟨rfl, HL3, F3⟩ := hp
      have hF3 := hF.tr F3
      obtain ⟨ix3, R3, HA3, hi3, hL3⟩ := id HL3
      have B3 : bg_at n h3 b len l0 := B.fr (Nat.le_refl _) (fun q a c => hF3 q (by omega))
      refine pm_aload_n K dX2_keepMatching_96 (q := 97) rfl rfl rfl ?_
      refine pm_get K inX2 rfl (k := 0) (by decide) wlX2_9 rfl (by omega) ((hF3 94 (by omega)).trans O) rfl dX2_keepMatching_97 (q := 100) rfl ?_
      refine pm_aload_n K dX2_keepMatching_100 (q := 101) rfl rfl rfl ?_
      refine pm_iload K dX2_keepMatching_101 (q := 103) rfl rfl ?_
      refine pm_callV0 K gw_ok wcX2_25 (c_takeAway l HL3 B3 (by omega) (m := (nw_mk live l0.length).length) (by omega)) rfl (by omega) HA3.2.1 rfl rfl (Nat.le_of_ble_eq_true rfl) (by decide) dX2_keepMatching_103 (q := 106) rfl (fun r4 h4 hp => ?_)
      obtain ⟨rfl, B4, F4⟩ := hp
      have e0 : (nw_mk live l0.length).map (fun p => rw_c3 (M p)) = l0.filter (fun t => op_m (bg_col c0 t) op x) := by
        rw [hM] at hlv ⊢
        exact op_fil hlv
      rw [op_marked (by omega), e0, List.take_of_length_le (Nat.le_trans (List.length_filter_le _ _) B.2.1)] at B4
      rw [tk_app, List.append_assoc] at HL3
      exact pm_vret Z dX2_keepMatching_106 rfl (Nat.le_of_ble_eq_true rfl) (Nat.le_of_ble_eq_true rfl) ⟨rfl, ⟨rfl, ⟨_, HL3.mv (fun q hq => F4 q (by omega))⟩, B4, fun q a c => by rw [F4 q c, hF3 q a]⟩⟩
    | succ k ih =>
      intro p h2 x8 hk HL hF
      refine pm_iload K dX2_keepMatching_16 (q := 18) rfl rfl ?_
      refine pm_iload K dX2_keepMatching_18 (q := 20) rfl rfl ?_
      refine pm_icmp_ge K dX2_keepMatching_20 (tgt := 86) (q := 23) rfl rfl (fun z => absurd z (nI_ge (by omega) (by omega))) (fun _ => ?_)
      obtain ⟨ix, R, HA, hi, hL⟩ := HL
      have gx := HA.2.2.2.2.1 (p) (by omega)
      refine pm_aload_n K dX2_keepMatching_23 (q := 24) rfl rfl rfl ?_
      refine pm_get K inX2 rfl (k := 0) (by decide) wlX2_9 rfl (by omega) ((hF 94 (by omega)).trans O) rfl dX2_keepMatching_24 (q := 27) rfl ?_
      refine pm_iload K dX2_keepMatching_27 (q := 29) rfl rfl ?_
      refine pm_callV0 K gw_ok wcX2_29 (c_read l HA (p := p) (by omega)) rfl (by omega) HA.2.1 rfl rfl (Nat.le_of_ble_eq_true rfl) (by decide) dX2_keepMatching_29 (q := 32) rfl (fun r1 h1 hp => ?_)
      obtain ⟨rfl, H1, F1⟩ := hp
      have eM : R (ix p) = M p := by rw [← hL p (by omega), so_map_at0]
      refine pm_astore K dX2_keepMatching_32 (q := 34) rfl (by decide) rfl ?_
      refine pm_aload K dX2_keepMatching_34 (q := 36) rfl rfl ?_
      refine pm_iload_n K dX2_keepMatching_36 (q := 37) rfl rfl rfl ?_
      refine pm_callV0 K gw_ok wcX2_33 (c_column l (by omega) (H1.row gx) c0) rfl (by omega) (H1.row gx) rfl rfl (Nat.le_of_ble_eq_true rfl) (by decide) dX2_keepMatching_37 (q := 40) rfl (fun r5 h5 hp => ?_)
      obtain ⟨rfl, e1⟩ := hp
      rw [e1]
      refine pm_iload_n K dX2_keepMatching_40 (q := 41) rfl rfl rfl ?_
      refine pm_iload K dX2_keepMatching_41 (q := 43) rfl rfl ?_
      refine pm_callS0 K gw_ok wcX2_39 (c_matches l (rw_col c0 (R (ix p))) op x) rfl rfl (Nat.le_of_ble_eq_true rfl) (by decide) dX2_keepMatching_43 (q := 46) rfl (fun r6 h6 hp => ?_)
      obtain ⟨rfl, e2⟩ := hp
      rw [e2, eM, ← hlv p]
      cases hv : live p
      · refine pm_if_eq K dX2_keepMatching_46 (tgt := 64) (q := 49) rfl rfl (fun _ => ?_) (fun z => absurd z (fun z => z rfl))
        refine pm_aload K dX2_keepMatching_64 (q := 66) rfl rfl ?_
        refine pm_callV0 K gw_ok wcX2_46 (c_discard l (by omega) (H1.row gx)) rfl (by omega) (H1.row gx) rfl rfl (Nat.le_of_ble_eq_true rfl) (by decide) dX2_keepMatching_66 (q := 69) rfl (fun r7 h7 hp => ?_)
        obtain ⟨rfl, rfl⟩ := hp
        have H2 := H1.mod gx (f := rw_disc (R (ix p))) (Or.inl rfl)
        refine pm_aload_n K dX2_keepMatching_69 (q := 70) rfl rfl rfl ?_
        refine pm_get K inX2 rfl (k := 0) (by decide) wlX2_9 rfl (by omega) (pm_ne (by omega) ((F1 94 (by omega) (by omega)).trans ((hF 94 (by omega)).trans O))) rfl dX2_keepMatching_70 (q := 73) rfl ?_
        refine pm_iload K dX2_keepMatching_73 (q := 75) rfl rfl ?_
        refine pm_aload K dX2_keepMatching_75 (q := 77) rfl rfl ?_
        refine pm_callV0 K gw_ok wcX2_49 (c_write l H2 (p := p) (by omega) gx) rfl (by omega) (pm_ne (by omega) H1.2.1) rfl rfl (Nat.le_of_ble_eq_true rfl) (by decide) dX2_keepMatching_77 (q := 80) rfl (fun r9 h9 hp => ?_)
        obtain ⟨rfl, H3, F3⟩ := hp
        rw [so_id] at H3
        simp only [tk_app, List.append_assoc, List.cons_append, List.nil_append] at H3
        have hF9 : so_fr h h9 := fun q hq => by rw [F3 q (by omega), pm_ne (by omega) rfl, F1 q (by omega) (by omega), hF q hq]
        refine pm_inc K dX2_keepMatching_80 (q := 83) rfl rfl (by decide) rfl ?_
        refine pm_goto K dX2_keepMatching_83 (q := 16) rfl ?_
        have HC := so_L.cl H3 hi hL (by omega)
        have := ih (p + 1) h9 (some (.ref (18 + ix p))) (by omega) (by rw [so_map_succ0, op_mark_f hv, tr_sc_s, Nat.zero_add, ← eM]; exact HC) hF9
        rw [nw_mk_f hv] at this
        exact this
      · refine pm_if_eq K dX2_keepMatching_46 (tgt := 64) (q := 49) rfl rfl (fun z => absurd z (by decide)) (fun _ => ?_)
        refine pm_aload K dX2_keepMatching_49 (q := 51) rfl rfl ?_
        refine pm_iload K dX2_keepMatching_51 (q := 53) rfl rfl ?_
        refine pm_iload K dX2_keepMatching_53 (q := 55) rfl rfl ?_
        refine pm_callV0 K gw_ok wcX2_43 (c_keep l (by omega) (H1.row gx) (nI p) (nI (nw_mk live p).length)) rfl (by omega) (H1.row gx) rfl rfl (Nat.le_of_ble_eq_true rfl) (by decide) dX2_keepMatching_55 (q := 58) rfl (fun r7 h7 hp => ?_)
        obtain ⟨rfl, rfl⟩ := hp
        refine pm_inc K dX2_keepMatching_58 (q := 61) rfl rfl (by decide) rfl ?_
        refine pm_goto K dX2_keepMatching_61 (q := 69) rfl ?_
        have H2 := H1.mod gx (f := rw_keep (nI p) (nI (nw_mk live p).length) (R (ix p))) (Or.inr rfl)
        refine pm_aload_n K dX2_keepMatching_69 (q := 70) rfl rfl rfl ?_
        refine pm_get K inX2 rfl (k := 0) (by decide) wlX2_9 rfl (by omega) (pm_ne (by omega) ((F1 94 (by omega) (by omega)).trans ((hF 94 (by omega)).trans O))) rfl dX2_keepMatching_70 (q := 73) rfl ?_
        refine pm_iload K dX2_keepMatching_73 (q := 75) rfl rfl ?_
        refine pm_aload K dX2_keepMatching_75 (q := 77) rfl rfl ?_
        refine pm_callV0 K gw_ok wcX2_49 (c_write l H2 (p := p) (by omega) gx) rfl (by omega) (pm_ne (by omega) H1.2.1) rfl rfl (Nat.le_of_ble_eq_true rfl) (by decide) dX2_keepMatching_77 (q := 80) rfl (fun r9 h9 hp => ?_)
        obtain ⟨rfl, H3, F3⟩ := hp
        rw [so_id] at H3
        simp only [tk_app, List.append_assoc, List.cons_append, List.nil_append] at H3
        have hF9 : so_fr h h9 := fun q hq => by rw [F3 q (by omega), pm_ne (by omega) rfl, F1 q (by omega) (by omega), hF q hq]
        refine pm_inc K dX2_keepMatching_80 (q := 83) rfl rfl (by decide) rfl ?_
        refine pm_goto K dX2_keepMatching_83 (q := 16) rfl ?_
        have HC := so_L.cl H3 hi hL (by omega)
        have := ih (p + 1) h9 (some (.ref (18 + ix p))) (by omega) (by rw [so_map_succ0, op_mark_t hv, tr_sc_s, Nat.zero_add, ← eM]; exact HC) hF9
        rw [nw_mk_t hv] at this
        exact this
  have := loop l0.length 0 h1 none (by omega) (by rw [so_map_0, tr_sc, List.append_nil]; exact HL1.tke) F1
  exact this
set_option maxRecDepth 100000 in
theorem c_rearrange (l : Launch) {n : Nat} {h : pm_H} {L : Nat → rw_T} {ts : List Int32} (H : so_L n h L ts) (hn : 111 < n) (O : h 94 = pm_O cOps [.ref 15]) {b len : Nat} {l0 : List bg_T} (B : bg_at n h b len l0) (hb : b + 3 < 15 ∨ 96 < b) (a0 b0 c0 : Int32) : bM0 l yX2_rearrange cX2_rearrange 8 none 3 [.ref 94, .ref b, .int a0, .int b0, .int c0] n h (fun r h' => r = none ∧ op_P n h b len ts h' (l0.map (fun t => (bg_col a0 t, bg_col b0 t, bg_col c0 t))) (tr_sc 0 l0.length)) := by
  refine pm_enter rfl (Nat.le_of_ble_eq_true rfl) (fun G K Z => ?_)
  have hlen : l0.length ≤ 24 := Nat.le_trans B.2.1 B.2.2.1
  obtain ⟨ix0, R0, HA0, hi0, hL0⟩ := id H
  refine pm_aload_n K dX2_rearrange_0 (q := 1) rfl rfl rfl ?_
  refine pm_get K inX2 rfl (k := 0) (by decide) wlX2_9 rfl (by omega) O rfl dX2_rearrange_1 (q := 4) rfl ?_
  refine pm_aload_n K dX2_rearrange_4 (q := 5) rfl rfl rfl ?_
  refine pm_callV0 K gw_ok wcX2_15 (c_lay l H B (by omega)) rfl (by omega) HA0.2.1 rfl rfl (Nat.le_of_ble_eq_true rfl) (by decide) dX2_rearrange_5 (q := 8) rfl (fun r1 h1 hp => ?_)
  obtain ⟨rfl, HL1, F1⟩ := hp
  refine pm_istore K dX2_rearrange_8 (q := 10) rfl (by decide) rfl ?_
  refine pm_ic0 K dX2_rearrange_10 (q := 11) rfl ?_
  refine pm_istore K dX2_rearrange_11 (q := 13) rfl (by decide) rfl ?_
  obtain ⟨M, hM⟩ : ∃ z, z = so_lays l0 L := ⟨_, rfl⟩
  have HL1 : so_L n h1 M ts := by rw [hM]; exact HL1
  have loop : ∀ (k p : Nat) (h2 : pm_H) (x8 : Option Value), p + k = l0.length → so_L n h2 (so_map 0 p (fun _ f => rw_cols (rw_col a0 f) (rw_col b0 f) (rw_col c0 f) f) M) (tk (ts ++ tr_sc 0 p)) → so_fr h h2 → G 0 0 13 [some (.ref 94), some (.ref b), some (.int a0), some (.int b0), some (.int c0), some (.int (nI l0.length)), some (.int (nI p)), x8] [] n h2 := by
    intro k
    induction k with
    | zero =>
      intro p h2 x8 hk HL hF
      refine pm_iload K dX2_rearrange_13 (q := 15) rfl rfl ?_
      refine pm_iload K dX2_rearrange_15 (q := 17) rfl rfl ?_
      refine pm_icmp_ge K dX2_rearrange_17 (tgt := 72) (q := 20) rfl rfl (fun _ => ?_) (fun z => absurd z (fun z => z (nI_le (by omega) (by omega))))
      have ep : p = l0.length := by omega
      subst ep
      obtain ⟨ix2, R2, HA2, hi2, hL2⟩ := id HL
      have B3 : bg_at n h2 b len l0 := B.fr (Nat.le_refl _) (fun q a c => hF q (by omega))
      refine pm_aload_n K dX2_rearrange_72 (q := 73) rfl rfl rfl ?_
      refine pm_get K inX2 rfl (k := 0) (by decide) wlX2_9 rfl (by omega) ((hF 94 (by omega)).trans O) rfl dX2_rearrange_73 (q := 76) rfl ?_
      refine pm_aload_n K dX2_rearrange_76 (q := 77) rfl rfl rfl ?_
      refine pm_iload K dX2_rearrange_77 (q := 79) rfl rfl ?_
      refine pm_callV0 K gw_ok wcX2_25 (c_takeAway l HL B3 (by omega) (m := l0.length) (by omega)) rfl (by omega) HA2.2.1 rfl rfl (Nat.le_of_ble_eq_true rfl) (by decide) dX2_rearrange_79 (q := 82) rfl (fun r4 h4 hp => ?_)
      obtain ⟨rfl, B4, F4⟩ := hp
      rw [hM, op_picked, List.take_of_length_le (by rw [List.length_map]; exact B.2.1)] at B4
      exact pm_vret Z dX2_rearrange_82 rfl (Nat.le_of_ble_eq_true rfl) (Nat.le_of_ble_eq_true rfl) ⟨rfl, ⟨rfl, ⟨_, HL.mv (fun q hq => F4 q (by omega))⟩, B4, fun q a c => by rw [F4 q c, hF q a]⟩⟩
    | succ k ih =>
      intro p h2 x8 hk HL hF
      refine pm_iload K dX2_rearrange_13 (q := 15) rfl rfl ?_
      refine pm_iload K dX2_rearrange_15 (q := 17) rfl rfl ?_
      refine pm_icmp_ge K dX2_rearrange_17 (tgt := 72) (q := 20) rfl rfl (fun z => absurd z (nI_ge (by omega) (by omega))) (fun _ => ?_)
      obtain ⟨ix, R, HA, hi, hL⟩ := HL
      have gx := HA.2.2.2.2.1 (p) (by omega)
      refine pm_aload_n K dX2_rearrange_20 (q := 21) rfl rfl rfl ?_
      refine pm_get K inX2 rfl (k := 0) (by decide) wlX2_9 rfl (by omega) ((hF 94 (by omega)).trans O) rfl dX2_rearrange_21 (q := 24) rfl ?_
      refine pm_iload K dX2_rearrange_24 (q := 26) rfl rfl ?_
      refine pm_callV0 K gw_ok wcX2_29 (c_read l HA (p := p) (by omega)) rfl (by omega) HA.2.1 rfl rfl (Nat.le_of_ble_eq_true rfl) (by decide) dX2_rearrange_26 (q := 29) rfl (fun r1 h1 hp => ?_)
      obtain ⟨rfl, H1, F1⟩ := hp
      have eM : R (ix p) = M p := by rw [← hL p (by omega), so_map_at0]
      refine pm_astore K dX2_rearrange_29 (q := 31) rfl (by decide) rfl ?_
      refine pm_aload K dX2_rearrange_31 (q := 33) rfl rfl ?_
      refine pm_aload K dX2_rearrange_33 (q := 35) rfl rfl ?_
      refine pm_iload_n K dX2_rearrange_35 (q := 36) rfl rfl rfl ?_
      refine pm_callV0 K gw_ok wcX2_33 (c_column l (by omega) (H1.row gx) a0) rfl (by omega) (H1.row gx) rfl rfl (Nat.le_of_ble_eq_true rfl) (by decide) dX2_rearrange_36 (q := 39) rfl (fun r5 h5 hp => ?_)
      obtain ⟨rfl, e1⟩ := hp
      rw [e1]
      refine pm_aload K dX2_rearrange_39 (q := 41) rfl rfl ?_
      refine pm_iload_n K dX2_rearrange_41 (q := 42) rfl rfl rfl ?_
      refine pm_callV0 K gw_ok wcX2_33 (c_column l (by omega) (H1.row gx) b0) rfl (by omega) (H1.row gx) rfl rfl (Nat.le_of_ble_eq_true rfl) (by decide) dX2_rearrange_42 (q := 45) rfl (fun r5 h6 hp => ?_)
      obtain ⟨rfl, e1⟩ := hp
      rw [e1]
      refine pm_aload K dX2_rearrange_45 (q := 47) rfl rfl ?_
      refine pm_iload K dX2_rearrange_47 (q := 49) rfl rfl ?_
      refine pm_callV0 K gw_ok wcX2_33 (c_column l (by omega) (H1.row gx) c0) rfl (by omega) (H1.row gx) rfl rfl (Nat.le_of_ble_eq_true rfl) (by decide) dX2_rearrange_49 (q := 52) rfl (fun r5 h7 hp => ?_)
      obtain ⟨rfl, e1⟩ := hp
      rw [e1]
      refine pm_callV0 K gw_ok wcX2_56 (c_setColumns l (by omega) (H1.row gx) (rw_col a0 (R (ix p))) (rw_col b0 (R (ix p))) (rw_col c0 (R (ix p)))) rfl (by omega) (H1.row gx) rfl rfl (Nat.le_of_ble_eq_true rfl) (by decide) dX2_rearrange_52 (q := 55) rfl (fun r8 h8 hp => ?_)
      obtain ⟨rfl, rfl⟩ := hp
      have H2 := H1.mod gx (f := rw_cols (rw_col a0 (R (ix p))) (rw_col b0 (R (ix p))) (rw_col c0 (R (ix p))) (R (ix p))) ((H1.2.2.2.2.2.1 _ gx).2)
      refine pm_aload_n K dX2_rearrange_55 (q := 56) rfl rfl rfl ?_
      refine pm_get K inX2 rfl (k := 0) (by decide) wlX2_9 rfl (by omega) (pm_ne (by omega) ((F1 94 (by omega) (by omega)).trans ((hF 94 (by omega)).trans O))) rfl dX2_rearrange_56 (q := 59) rfl ?_
      refine pm_iload K dX2_rearrange_59 (q := 61) rfl rfl ?_
      refine pm_aload K dX2_rearrange_61 (q := 63) rfl rfl ?_
      refine pm_callV0 K gw_ok wcX2_49 (c_write l H2 (p := p) (by omega) gx) rfl (by omega) (pm_ne (by omega) H1.2.1) rfl rfl (Nat.le_of_ble_eq_true rfl) (by decide) dX2_rearrange_63 (q := 66) rfl (fun r9 h9 hp => ?_)
      obtain ⟨rfl, H3, F3⟩ := hp
      rw [so_id] at H3
      simp only [tk_app, List.append_assoc, List.cons_append, List.nil_append] at H3
      have hF9 : so_fr h h9 := fun q hq => by rw [F3 q (by omega), pm_ne (by omega) rfl, F1 q (by omega) (by omega), hF q hq]
      refine pm_inc K dX2_rearrange_66 (q := 69) rfl rfl (by decide) rfl ?_
      refine pm_goto K dX2_rearrange_69 (q := 13) rfl ?_
      have HC := so_L.cl H3 hi hL (by omega)
      exact ih (p + 1) h9 _ (by omega) (by rw [so_map_succ0, tr_sc_s, Nat.zero_add, ← eM]; exact HC) hF9
  have := loop l0.length 0 h1 none (by omega) (by rw [so_map_0, tr_sc, List.append_nil]; exact HL1.tke) F1
  exact this
end
section
/-! The operators: each row once. -/
theorem so_cl2 {ix : Nat → Nat} {R N : Nat → rw_T} {p : Nat} {f : rw_T} (hi : ∀ i j, i < 76 → j < 76 → ix i = ix j → i = j) (hL : ∀ i, i < 76 → N i = R (ix i)) (hp : p < 76) : ∀ i, i < 76 → va_up N p f i = va_up R (ix p) f (ix i) := fun i hi' => by
  by_cases e : i = p
  · subst e; simp [va_up]
  · have : ix i ≠ ix p := fun z => e (hi i p hi' hp z)
    simp [va_up, e, this, hL i hi']
theorem so_at.tke {n : Nat} {h : pm_H} {ix : Nat → Nat} {R : Nat → rw_T} {ts : List Int32} (H : so_at n h ix R ts) : tk ts = ts := List.take_of_length_le H.2.2.2.2.2.2
/-- the row is another than the one before it -/
def op_new (M : Nat → rw_T) (p : Nat) : Bool := !(decide (p ≠ 0 ∧ rw_c3 (M p) = rw_c3 (M (p - 1))))
theorem op_new_f {M : Nat → rw_T} {p : Nat} (h : ¬ p = 0) (hs : rw_c3 (M p) = rw_c3 (M (p - 1))) : op_new M p = false := by
  unfold op_new
  rw [decide_eq_true ⟨h, hs⟩]
  rfl
theorem op_new_t {M : Nat → rw_T} {p : Nat} (h : p ≠ 0 → ¬ rw_c3 (M p) = rw_c3 (M (p - 1))) : op_new M p = true := by
  unfold op_new
  rw [decide_eq_false (fun z => h z.1 z.2)]
  rfl
def op_bf (ix : Nat → Nat) (p : Nat) : Value := if p = 0 then .null else .ref (18 + ix (p - 1))
theorem op_sm (f g : rw_T) : decide (f 0 = g 0 ∧ f 1 = g 1 ∧ f 2 = g 2) = decide (rw_c3 f = rw_c3 g) := by
  unfold rw_c3
  simp
/-- the first of each, of rows in order: each row once -/
theorem op_dist (g : Nat → bg_T) (m : Nat) (hs : ((List.range m).map g).Pairwise bg_le) : ((nw_mk (fun p => !(decide (p ≠ 0 ∧ g p = g (p - 1)))) m).map g).Nodup ∧ ∀ t, t ∈ (nw_mk (fun p => !(decide (p ≠ 0 ∧ g p = g (p - 1)))) m).map g ↔ ∃ p, p < m ∧ g p = t := by
  have hle : ∀ i j, i < j → j < m → bg_le (g i) (g j) := fun i j hij hj => by
    rw [List.pairwise_map, List.pairwise_iff_getElem] at hs
    have := hs i j (by rw [List.length_range]; omega) (by rw [List.length_range]; omega) hij
    simpa using this
  constructor
  · rw [List.Nodup, List.pairwise_map]
    have hlt : (nw_mk (fun p => !(decide (p ≠ 0 ∧ g p = g (p - 1)))) m).Pairwise (· < ·) := List.Pairwise.filter _ List.pairwise_lt_range
    refine hlt.imp_of_mem (fun {a b} ha hb hab he => ?_)
    have hb' := nw_mk_mem.mp hb
    have hn : ¬ (b ≠ 0 ∧ g b = g (b - 1)) := fun z => by
      have h5 : (!(decide (b ≠ 0 ∧ g b = g (b - 1)))) = true := hb'.2
      rw [decide_eq_true z] at h5
      cases h5
    refine hn ⟨by omega, ?_⟩
    by_cases h : a = b - 1
    · rw [← h]; exact he.symm
    · exact bg_le_anti (by rw [← he]; exact hle a (b - 1) (by omega) (by omega)) (hle (b - 1) b (by omega) hb'.1)
  · intro t
    constructor
    · intro h
      obtain ⟨p, hp, rfl⟩ := List.mem_map.mp h
      exact ⟨p, (nw_mk_mem.mp hp).1, rfl⟩
    · rintro ⟨p, hp, rfl⟩
      induction p with
      | zero => exact List.mem_map.mpr ⟨0, nw_mk_mem.mpr ⟨hp, by simp⟩, rfl⟩
      | succ p ih =>
        by_cases h : g (p + 1) = g p
        · rw [h]; exact ih (by omega)
        · exact List.mem_map.mpr ⟨p + 1, nw_mk_mem.mpr ⟨hp, by simp [h]⟩, rfl⟩
set_option maxRecDepth 100000 in
theorem c_keepFirst (l : Launch) {n : Nat} {h : pm_H} {M : Nat → rw_T} {ts : List Int32} (H : so_L n h M ts) (hn : 111 < n) (O : h 94 = pm_O cOps [.ref 15]) {m : Nat} (hm : m ≤ 76) : bM0 l yX2_keepFirstOfEach cX2_keepFirstOfEach 6 (some (.int)) 2 [.ref 94, .int (nI m)] n h (fun r h' => r = some (.int (nI (nw_mk (op_new M) m).length)) ∧ so_L n h' (so_map 0 m (op_mark (op_new M)) M) (tk (ts ++ tr_sc 0 m)) ∧ so_fr h h') := by
  refine pm_enter rfl (Nat.le_of_ble_eq_true rfl) (fun G K Z => ?_)
  obtain ⟨ix, R0, HA0, hi, hL0⟩ := id H
  refine pm_ic0 K dX2_keepFirstOfEach_0 (q := 1) rfl ?_
  refine pm_istore_n K dX2_keepFirstOfEach_1 (q := 2) rfl rfl (by decide) rfl ?_
  refine pm_null K dX2_keepFirstOfEach_2 (q := 3) rfl ?_
  refine pm_astore_nN K dX2_keepFirstOfEach_3 (q := 4) rfl rfl (by decide) rfl ?_
  refine pm_ic0 K dX2_keepFirstOfEach_4 (q := 5) rfl ?_
  refine pm_istore K dX2_keepFirstOfEach_5 (q := 7) rfl (by decide) rfl ?_
  have loop : ∀ (k p : Nat) (h2 : pm_H) (R : Nat → rw_T) (x5 : Option Value), p + k = m → so_at n h2 ix R (tk (ts ++ tr_sc 0 p)) → (∀ i, i < 76 → so_map 0 p (op_mark (op_new M)) M i = R (ix i)) → so_fr h h2 → G 0 0 7 [some (.ref 94), some (.int (nI m)), some (.int (nI (nw_mk (op_new M) p).length)), some (op_bf ix p), some (.int (nI p)), x5] [] n h2 := by
    intro k
    induction k with
    | zero =>
      intro p h2 R x5 hk HA hL hF
      refine pm_iload K dX2_keepFirstOfEach_7 (q := 9) rfl rfl ?_
      refine pm_iload_n K dX2_keepFirstOfEach_9 (q := 10) rfl rfl rfl ?_
      refine pm_icmp_ge K dX2_keepFirstOfEach_10 (tgt := 76) (q := 13) rfl rfl (fun _ => ?_) (fun z => absurd z (fun z => z (nI_le (by omega) (by omega))))
      have ep : p = m := by omega
      subst ep
      refine pm_iload_n K dX2_keepFirstOfEach_76 (q := 77) rfl rfl rfl ?_
      exact pm_iret Z dX2_keepFirstOfEach_77 rfl rfl (Nat.le_of_ble_eq_true rfl) (Nat.le_of_ble_eq_true rfl) ⟨rfl, ⟨rfl, ⟨ix, R, HA, hi, hL⟩, hF⟩⟩
    | succ k ih =>
      intro p h2 R x5 hk HA hL hF
      refine pm_iload K dX2_keepFirstOfEach_7 (q := 9) rfl rfl ?_
      refine pm_iload_n K dX2_keepFirstOfEach_9 (q := 10) rfl rfl rfl ?_
      refine pm_icmp_ge K dX2_keepFirstOfEach_10 (tgt := 76) (q := 13) rfl rfl (fun z => absurd z (nI_ge (by omega) (by omega))) (fun _ => ?_)
      have gx := HA.2.2.2.2.1 (p) (by omega)
      refine pm_aload_n K dX2_keepFirstOfEach_13 (q := 14) rfl rfl rfl ?_
      refine pm_get K inX2 rfl (k := 0) (by decide) wlX2_9 rfl (by omega) ((hF 94 (by omega)).trans O) rfl dX2_keepFirstOfEach_14 (q := 17) rfl ?_
      refine pm_iload K dX2_keepFirstOfEach_17 (q := 19) rfl rfl ?_
      refine pm_callV0 K gw_ok wcX2_29 (c_read l HA (p := p) (by omega)) rfl (by omega) HA.2.1 rfl rfl (Nat.le_of_ble_eq_true rfl) (by decide) dX2_keepFirstOfEach_19 (q := 22) rfl (fun r1 h1 hp => ?_)
      obtain ⟨rfl, H1, F1⟩ := hp
      have eM : R (ix p) = M p := by rw [← hL p (by omega), so_map_at0]
      refine pm_astore K dX2_keepFirstOfEach_22 (q := 24) rfl (by decide) rfl ?_
      have hcl := fun f => so_cl2 (f := f) hi hL (show p < 76 by omega)
      by_cases hp0 : p = 0
      · have hv : op_new M p = true := by rw [hp0]; rfl
        have eb : op_bf ix p = .null := if_pos hp0
        rw [eb]
        refine pm_aload_nN K dX2_keepFirstOfEach_24 (q := 25) rfl rfl rfl ?_
        refine pm_ifnullN K dX2_keepFirstOfEach_25 (q := 45) rfl ?_
        refine pm_aload K dX2_keepFirstOfEach_45 (q := 47) rfl rfl ?_
        refine pm_iload K dX2_keepFirstOfEach_47 (q := 49) rfl rfl ?_
        refine pm_iload_n K dX2_keepFirstOfEach_49 (q := 50) rfl rfl rfl ?_
        refine pm_callV0 K gw_ok wcX2_43 (c_keep l (by omega) (H1.row gx) (nI p) (nI (nw_mk (op_new M) p).length)) rfl (by omega) (H1.row gx) rfl rfl (Nat.le_of_ble_eq_true rfl) (by decide) dX2_keepFirstOfEach_50 (q := 53) rfl (fun r7 h7 hp => ?_)
        obtain ⟨rfl, rfl⟩ := hp
        refine pm_inc K dX2_keepFirstOfEach_53 (q := 56) rfl rfl (by decide) rfl ?_
        refine pm_aload K dX2_keepFirstOfEach_56 (q := 58) rfl rfl ?_
        refine pm_astore_n K dX2_keepFirstOfEach_58 (q := 59) rfl rfl (by decide) rfl ?_
        have H2 := H1.mod gx (f := rw_keep (nI p) (nI (nw_mk (op_new M) p).length) (R (ix p))) (Or.inr rfl)
        refine pm_aload_n K dX2_keepFirstOfEach_59 (q := 60) rfl rfl rfl ?_
        refine pm_get K inX2 rfl (k := 0) (by decide) wlX2_9 rfl (by omega) (pm_ne (by omega) ((F1 94 (by omega) (by omega)).trans ((hF 94 (by omega)).trans O))) rfl dX2_keepFirstOfEach_60 (q := 63) rfl ?_
        refine pm_iload K dX2_keepFirstOfEach_63 (q := 65) rfl rfl ?_
        refine pm_aload K dX2_keepFirstOfEach_65 (q := 67) rfl rfl ?_
        refine pm_callV0 K gw_ok wcX2_49 (c_write l H2 (p := p) (by omega) gx) rfl (by omega) (pm_ne (by omega) H1.2.1) rfl rfl (Nat.le_of_ble_eq_true rfl) (by decide) dX2_keepFirstOfEach_67 (q := 70) rfl (fun r9 h9 hp => ?_)
        obtain ⟨rfl, H3, F3⟩ := hp
        rw [so_id] at H3
        simp only [tk_app, List.append_assoc, List.cons_append, List.nil_append] at H3
        have hF9 : so_fr h h9 := fun q hq => by rw [F3 q (by omega), pm_ne (by omega) rfl, F1 q (by omega) (by omega), hF q hq]
        refine pm_inc K dX2_keepFirstOfEach_70 (q := 73) rfl rfl (by decide) rfl ?_
        refine pm_goto K dX2_keepFirstOfEach_73 (q := 7) rfl ?_
        have := ih (p + 1) h9 _ (some (.ref (18 + ix p))) (by omega) (by rw [tr_sc_s, Nat.zero_add]; exact H3) (by rw [so_map_succ0, op_mark_t hv, ← eM]; exact hcl _) hF9
        rw [nw_mk_t hv] at this
        exact this
      · have eb : op_bf ix p = .ref (18 + ix (p - 1)) := if_neg hp0
        rw [eb]
        have gy := HA.2.2.2.2.1 (p - 1) (by omega)
        refine pm_aload_n K dX2_keepFirstOfEach_24 (q := 25) rfl rfl rfl ?_
        refine pm_ifnull K dX2_keepFirstOfEach_25 (q := 28) rfl ?_
        refine pm_aload K dX2_keepFirstOfEach_28 (q := 30) rfl rfl ?_
        refine pm_aload_n K dX2_keepFirstOfEach_30 (q := 31) rfl rfl rfl ?_
        refine pm_callV0 K gw_ok wcX2_63 (c_sameColumns l (by omega) (H1.row gx) (by omega) (H1.row gy)) rfl (by omega) (H1.row gx) rfl rfl (Nat.le_of_ble_eq_true rfl) (by decide) dX2_keepFirstOfEach_31 (q := 34) rfl (fun r5 h5 hp => ?_)
        obtain ⟨rfl, e1⟩ := hp
        rw [e1]
        have ey : rw_c3 (R (ix (p - 1))) = rw_c3 (M (p - 1)) := by rw [← hL (p - 1) (by omega), so_map_in (by omega), op_mark_c3]
        rw [op_sm, ey, eM]
        by_cases hs : rw_c3 (M p) = rw_c3 (M (p - 1))
        · have hv : op_new M p = false := op_new_f hp0 hs
          rw [decide_eq_true hs]
          refine pm_if_eq K dX2_keepFirstOfEach_34 (tgt := 45) (q := 37) rfl rfl (fun z => absurd z (by decide)) (fun _ => ?_)
          refine pm_aload K dX2_keepFirstOfEach_37 (q := 39) rfl rfl ?_
          refine pm_callV0 K gw_ok wcX2_46 (c_discard l (by omega) (H1.row gx)) rfl (by omega) (H1.row gx) rfl rfl (Nat.le_of_ble_eq_true rfl) (by decide) dX2_keepFirstOfEach_39 (q := 42) rfl (fun r7 h7 hp => ?_)
          obtain ⟨rfl, rfl⟩ := hp
          refine pm_goto K dX2_keepFirstOfEach_42 (q := 56) rfl ?_
          refine pm_aload K dX2_keepFirstOfEach_56 (q := 58) rfl rfl ?_
          refine pm_astore_n K dX2_keepFirstOfEach_58 (q := 59) rfl rfl (by decide) rfl ?_
          have H2 := H1.mod gx (f := rw_disc (R (ix p))) (Or.inl rfl)
          refine pm_aload_n K dX2_keepFirstOfEach_59 (q := 60) rfl rfl rfl ?_
          refine pm_get K inX2 rfl (k := 0) (by decide) wlX2_9 rfl (by omega) (pm_ne (by omega) ((F1 94 (by omega) (by omega)).trans ((hF 94 (by omega)).trans O))) rfl dX2_keepFirstOfEach_60 (q := 63) rfl ?_
          refine pm_iload K dX2_keepFirstOfEach_63 (q := 65) rfl rfl ?_
          refine pm_aload K dX2_keepFirstOfEach_65 (q := 67) rfl rfl ?_
          refine pm_callV0 K gw_ok wcX2_49 (c_write l H2 (p := p) (by omega) gx) rfl (by omega) (pm_ne (by omega) H1.2.1) rfl rfl (Nat.le_of_ble_eq_true rfl) (by decide) dX2_keepFirstOfEach_67 (q := 70) rfl (fun r9 h9 hp => ?_)
          obtain ⟨rfl, H3, F3⟩ := hp
          rw [so_id] at H3
          simp only [tk_app, List.append_assoc, List.cons_append, List.nil_append] at H3
          have hF9 : so_fr h h9 := fun q hq => by rw [F3 q (by omega), pm_ne (by omega) rfl, F1 q (by omega) (by omega), hF q hq]
          refine pm_inc K dX2_keepFirstOfEach_70 (q := 73) rfl rfl (by decide) rfl ?_
          refine pm_goto K dX2_keepFirstOfEach_73 (q := 7) rfl ?_
          have := ih (p + 1) h9 _ (some (.ref (18 + ix p))) (by omega) (by rw [tr_sc_s, Nat.zero_add]; exact H3) (by rw [so_map_succ0, op_mark_f hv, ← eM]; exact hcl _) hF9
          rw [nw_mk_f hv] at this
          exact this
        · have hv : op_new M p = true := op_new_t (fun _ => hs)
          rw [decide_eq_false hs]
          refine pm_if_eq K dX2_keepFirstOfEach_34 (tgt := 45) (q := 37) rfl rfl (fun _ => ?_) (fun z => absurd z (fun z => z rfl))
          refine pm_aload K dX2_keepFirstOfEach_45 (q := 47) rfl rfl ?_
          refine pm_iload K dX2_keepFirstOfEach_47 (q := 49) rfl rfl ?_
          refine pm_iload_n K dX2_keepFirstOfEach_49 (q := 50) rfl rfl rfl ?_
          refine pm_callV0 K gw_ok wcX2_43 (c_keep l (by omega) (H1.row gx) (nI p) (nI (nw_mk (op_new M) p).length)) rfl (by omega) (H1.row gx) rfl rfl (Nat.le_of_ble_eq_true rfl) (by decide) dX2_keepFirstOfEach_50 (q := 53) rfl (fun r7 h7 hp => ?_)
          obtain ⟨rfl, rfl⟩ := hp
          refine pm_inc K dX2_keepFirstOfEach_53 (q := 56) rfl rfl (by decide) rfl ?_
          refine pm_aload K dX2_keepFirstOfEach_56 (q := 58) rfl rfl ?_
          refine pm_astore_n K dX2_keepFirstOfEach_58 (q := 59) rfl rfl (by decide) rfl ?_
          have H2 := H1.mod gx (f := rw_keep (nI p) (nI (nw_mk (op_new M) p).length) (R (ix p))) (Or.inr rfl)
          refine pm_aload_n K dX2_keepFirstOfEach_59 (q := 60) rfl rfl rfl ?_
          refine pm_get K inX2 rfl (k := 0) (by decide) wlX2_9 rfl (by omega) (pm_ne (by omega) ((F1 94 (by omega) (by omega)).trans ((hF 94 (by omega)).trans O))) rfl dX2_keepFirstOfEach_60 (q := 63) rfl ?_
          refine pm_iload K dX2_keepFirstOfEach_63 (q := 65) rfl rfl ?_
          refine pm_aload K dX2_keepFirstOfEach_65 (q := 67) rfl rfl ?_
          refine pm_callV0 K gw_ok wcX2_49 (c_write l H2 (p := p) (by omega) gx) rfl (by omega) (pm_ne (by omega) H1.2.1) rfl rfl (Nat.le_of_ble_eq_true rfl) (by decide) dX2_keepFirstOfEach_67 (q := 70) rfl (fun r9 h9 hp => ?_)
          obtain ⟨rfl, H3, F3⟩ := hp
          rw [so_id] at H3
          simp only [tk_app, List.append_assoc, List.cons_append, List.nil_append] at H3
          have hF9 : so_fr h h9 := fun q hq => by rw [F3 q (by omega), pm_ne (by omega) rfl, F1 q (by omega) (by omega), hF q hq]
          refine pm_inc K dX2_keepFirstOfEach_70 (q := 73) rfl rfl (by decide) rfl ?_
          refine pm_goto K dX2_keepFirstOfEach_73 (q := 7) rfl ?_
          have := ih (p + 1) h9 _ (some (.ref (18 + ix p))) (by omega) (by rw [tr_sc_s, Nat.zero_add]; exact H3) (by rw [so_map_succ0, op_mark_t hv, ← eM]; exact hcl _) hF9
          rw [nw_mk_t hv] at this
          exact this
  have := loop m 0 h R0 none (by omega) (by rw [tr_sc, List.append_nil, so_at.tke HA0]; exact HA0) (by rw [so_map_0]; exact hL0) so_fr.rf
  exact this
set_option maxRecDepth 100000 in
theorem c_keepDifferent (l : Launch) {n : Nat} {h : pm_H} {L : Nat → rw_T} {ts : List Int32} (H : so_L n h L ts) (hn : 111 < n) (O : h 94 = pm_O cOps [.ref 15]) {b len : Nat} {l0 : List bg_T} (B : bg_at n h b len l0) (hb : b + 3 < 15 ∨ 96 < b) : bM0 l yX2_keepDifferent cX2_keepDifferent 4 none 4 [.ref 94, .ref b] n h (fun r h' => r = none ∧ ∃ l1, l1.Nodup ∧ (∀ t, t ∈ l1 ↔ t ∈ l0) ∧ op_P n h b len ts h' l1 (tr_sort 0 l0.length ++ (tr_sc 0 l0.length ++ tr_sqs 0 l0.length (so_k l0.length)))) := by
  refine pm_enter rfl (Nat.le_of_ble_eq_true rfl) (fun G K Z => ?_)
  have hlen : l0.length ≤ 24 := Nat.le_trans B.2.1 B.2.2.1
  obtain ⟨ix0, R0, HA0, hi0, hL0⟩ := id H
  refine pm_aload_n K dX2_keepDifferent_0 (q := 1) rfl rfl rfl ?_
  refine pm_get K inX2 rfl (k := 0) (by decide) wlX2_9 rfl (by omega) O rfl dX2_keepDifferent_1 (q := 4) rfl ?_
  refine pm_aload_n K dX2_keepDifferent_4 (q := 5) rfl rfl rfl ?_
  refine pm_callV0 K gw_ok wcX2_15 (c_lay l H B (by omega)) rfl (by omega) HA0.2.1 rfl rfl (Nat.le_of_ble_eq_true rfl) (by decide) dX2_keepDifferent_5 (q := 8) rfl (fun r1 h1 hp => ?_)
  obtain ⟨rfl, HL1, F1⟩ := hp
  obtain ⟨ix1, R1, HA1, hi1, hL1⟩ := id HL1
  refine pm_istore_n K dX2_keepDifferent_8 (q := 9) rfl rfl (by decide) rfl ?_
  refine pm_aload_n K dX2_keepDifferent_9 (q := 10) rfl rfl rfl ?_
  refine pm_get K inX2 rfl (k := 0) (by decide) wlX2_9 rfl (by omega) ((F1 94 (by omega)).trans O) rfl dX2_keepDifferent_10 (q := 13) rfl ?_
  refine pm_ic0 K dX2_keepDifferent_13 (q := 14) rfl ?_
  refine pm_iload_n K dX2_keepDifferent_14 (q := 15) rfl rfl rfl ?_
  refine pm_callV0 K gw_ok wcX2_21 (c_sort l HL1 (b0 := 0) (m0 := l0.length) (by omega)) rfl (by omega) HA1.2.1 rfl rfl (Nat.le_of_ble_eq_true rfl) (by decide) dX2_keepDifferent_15 (q := 18) rfl (fun r2 h2 hp => ?_)
  obtain ⟨rfl, HL2, F2⟩ := hp
  have F12 := F1.tr F2
  obtain ⟨M, hM⟩ : ∃ z, z = so_sort 0 l0.length (so_lays l0 L) := ⟨_, rfl⟩
  have HL2 : so_L n h2 M (tk (ts ++ tr_sort 0 l0.length)) := by rw [hM]; exact HL2
  refine pm_aload_n K dX2_keepDifferent_18 (q := 19) rfl rfl rfl ?_
  refine pm_iload_n K dX2_keepDifferent_19 (q := 20) rfl rfl rfl ?_
  refine pm_callV0 K gw_ok wcX2_60 (c_keepFirst l HL2 hn ((F12 94 (by omega)).trans O) (m := l0.length) (by omega)) rfl (by omega) ((F12 94 (by omega)).trans O) rfl rfl (Nat.le_of_ble_eq_true rfl) (by decide) dX2_keepDifferent_20 (q := 23) rfl (fun r3 h3 hp => ?_)
  obtain ⟨rfl, HL3, F3⟩ := hp
  have F13 := F12.tr F3
  have hml := nw_mk_le (op_new M) l0.length
  obtain ⟨ix3, R3, HA3, hi3, hL3⟩ := id HL3
  refine pm_istore_n K dX2_keepDifferent_23 (q := 24) rfl rfl (by decide) rfl ?_
  refine pm_aload_n K dX2_keepDifferent_24 (q := 25) rfl rfl rfl ?_
  refine pm_get K inX2 rfl (k := 0) (by decide) wlX2_9 rfl (by omega) ((F13 94 (by omega)).trans O) rfl dX2_keepDifferent_25 (q := 28) rfl ?_
  refine pm_ic0 K dX2_keepDifferent_28 (q := 29) rfl ?_
  refine pm_iload_n K dX2_keepDifferent_29 (q := 30) rfl rfl rfl ?_
  refine pm_callV0 K gw_ok wcX2_53 (c_squeeze l HL3 (b0 := 0) (m0 := l0.length) (by omega)) rfl (by omega) HA3.2.1 rfl rfl (Nat.le_of_ble_eq_true rfl) (by decide) dX2_keepDifferent_30 (q := 33) rfl (fun r4 h4 hp => ?_)
  obtain ⟨rfl, HL4, F4⟩ := hp
  have F14 := F13.tr F4
  obtain ⟨ix4, R4, HA4, hi4, hL4⟩ := id HL4
  have B4 : bg_at n h4 b len l0 := B.fr (Nat.le_refl _) (fun q a c => F14 q (by omega))
  refine pm_aload_n K dX2_keepDifferent_33 (q := 34) rfl rfl rfl ?_
  refine pm_get K inX2 rfl (k := 0) (by decide) wlX2_9 rfl (by omega) ((F14 94 (by omega)).trans O) rfl dX2_keepDifferent_34 (q := 37) rfl ?_
  refine pm_aload_n K dX2_keepDifferent_37 (q := 38) rfl rfl rfl ?_
  refine pm_iload_n K dX2_keepDifferent_38 (q := 39) rfl rfl rfl ?_
  refine pm_callV0 K gw_ok wcX2_25 (c_takeAway l HL4 B4 (by omega) (m := (nw_mk (op_new M) l0.length).length) (by omega)) rfl (by omega) HA4.2.1 rfl rfl (Nat.le_of_ble_eq_true rfl) (by decide) dX2_keepDifferent_39 (q := 42) rfl (fun r5 h5 hp => ?_)
  obtain ⟨rfl, B5, F5⟩ := hp
  obtain ⟨hp1, hp2⟩ := so_order l0 L
  rw [← hM] at hp1 hp2
  rw [op_marked (by omega), List.take_of_length_le (by rw [List.length_map]; exact Nat.le_trans hml B.2.1)] at B5
  simp only [tk_app, List.append_assoc] at HL4
  obtain ⟨hd1, hd2⟩ := op_dist (fun p => rw_c3 (M p)) l0.length (by have := hp2; simp only [nw_ls, List.map_map] at this; simpa [Function.comp_def] using this)
  exact pm_vret Z dX2_keepDifferent_42 rfl (Nat.le_of_ble_eq_true rfl) (Nat.le_of_ble_eq_true rfl) ⟨rfl, ⟨rfl, _, hd1, fun t => (hd2 t).trans (by rw [← hp1.mem_iff]; simp [nw_ls]), ⟨_, HL4.mv (fun q hq => F5 q (by omega))⟩, B5, fun q a c => by rw [F5 q c, F14 q a]⟩⟩
end
section
/-! The operators: groups. -/
/-- groups, key, sum, number behind p rows -/
def ga_a (M : Nat → rw_T) (sc : Int32) : Nat → Nat × Int32 × Int32 × Nat
  | 0 => (0, 0, 0, 0)
  | p + 1 => if p = 0 ∨ ¬ M p 3 = (ga_a M sc p).2.1 then ((ga_a M sc p).1 + 1, M p 3, 0 + rw_col sc (M p), 1) else ((ga_a M sc p).1, (ga_a M sc p).2.1, (ga_a M sc p).2.2.1 + rw_col sc (M p), (ga_a M sc p).2.2.2 + 1)
def ga_F (M : Nat → rw_T) (sc : Int32) (p : Nat) (f : rw_T) : rw_T := rw_keep (nI p) (nI ((ga_a M sc (p + 1)).1 - 1)) (rw_cols (ga_a M sc (p + 1)).2.1 (ga_a M sc (p + 1)).2.2.1 (nI (ga_a M sc (p + 1)).2.2.2) f)
theorem ga_new {M : Nat → rw_T} {sc : Int32} {p : Nat} (h : p = 0 ∨ ¬ M p 3 = (ga_a M sc p).2.1) : ga_a M sc (p + 1) = ((ga_a M sc p).1 + 1, M p 3, 0 + rw_col sc (M p), 1) := by
  rw [ga_a, if_pos h]
theorem ga_old {M : Nat → rw_T} {sc : Int32} {p : Nat} (h : ¬ (p = 0 ∨ ¬ M p 3 = (ga_a M sc p).2.1)) : ga_a M sc (p + 1) = ((ga_a M sc p).1, (ga_a M sc p).2.1, (ga_a M sc p).2.2.1 + rw_col sc (M p), (ga_a M sc p).2.2.2 + 1) := by
  rw [ga_a, if_neg h]
theorem ga_F_new {M : Nat → rw_T} {sc : Int32} {p : Nat} {f : rw_T} (h : p = 0 ∨ ¬ M p 3 = (ga_a M sc p).2.1) : ga_F M sc p f = rw_keep (nI p) (nI (ga_a M sc p).1) (rw_cols (M p 3) (0 + rw_col sc (M p)) (nI 1) f) := by
  rw [ga_F, ga_new h]
  rfl
theorem ga_F_old {M : Nat → rw_T} {sc : Int32} {p : Nat} {f : rw_T} (h : ¬ (p = 0 ∨ ¬ M p 3 = (ga_a M sc p).2.1)) : ga_F M sc p f = rw_keep (nI p) (nI ((ga_a M sc p).1 - 1)) (rw_cols (ga_a M sc p).2.1 ((ga_a M sc p).2.2.1 + rw_col sc (M p)) (nI ((ga_a M sc p).2.2.2 + 1)) f) := by
  rw [ga_F, ga_old h]
theorem ga_pos (M : Nat → rw_T) (sc : Int32) : ∀ {p : Nat}, ¬ p = 0 → 1 ≤ (ga_a M sc p).1
  | 0, h => absurd rfl h
  | p + 1, _ => by
    rw [ga_a]
    split
    · exact Nat.le_add_left _ _
    · rename_i h
      exact ga_pos M sc (fun z => h (Or.inl z))
def so_bk (k m : Nat) (F : Nat → rw_T → rw_T) (N : Nat → rw_T) : Nat → rw_T := fun i => if k ≤ i ∧ i < m then F i (N i) else N i
theorem so_bk_out {k m : Nat} {F : Nat → rw_T → rw_T} {N : Nat → rw_T} {i : Nat} (h : i < k ∨ m ≤ i) : so_bk k m F N i = N i := by
  unfold so_bk
  rw [if_neg (by omega)]
theorem so_bk_in {k m : Nat} {F : Nat → rw_T → rw_T} {N : Nat → rw_T} {i : Nat} (h : k ≤ i) (h2 : i < m) : so_bk k m F N i = F i (N i) := by
  unfold so_bk
  rw [if_pos ⟨h, h2⟩]
theorem so_bk_0 (m : Nat) (F : Nat → rw_T → rw_T) (N : Nat → rw_T) : so_bk m m F N = N := by
  funext i
  exact so_bk_out (by omega)
theorem so_bk_s {k m : Nat} {F : Nat → rw_T → rw_T} {N : Nat → rw_T} (h : k < m) : so_bk k m F N = va_up (so_bk (k + 1) m F N) k (F k (N k)) := by
  funext i
  by_cases e : i = k
  · subst e
    rw [so_bk_in (Nat.le_refl _) h]
    simp [va_up]
  · simp only [va_up, e, if_false]
    unfold so_bk
    by_cases h2 : k + 1 ≤ i ∧ i < m
    · rw [if_pos h2, if_pos (by omega)]
    · rw [if_neg h2, if_neg (by omega)]
theorem so_bk_same {k m : Nat} {F : Nat → rw_T → rw_T} {N : Nat → rw_T} (h : k < m) : va_up (so_bk (k + 1) m F N) k (N k) = so_bk (k + 1) m F N := by
  funext i
  by_cases e : i = k
  · subst e
    rw [so_bk_out (by omega)]
    simp [va_up]
  · simp [va_up, e]
def kl_last (M : Nat → rw_T) (m p : Nat) : Bool := decide (p + 1 = m ∨ ¬ M p 3 = M (p + 1) 3)
def kl_F (M : Nat → rw_T) (m p : Nat) (f : rw_T) : rw_T := if kl_last M m p = true then f else rw_disc f
theorem kl_F_t {M : Nat → rw_T} {m p : Nat} {f : rw_T} (h : p + 1 = m ∨ ¬ M p 3 = M (p + 1) 3) : kl_F M m p f = f := if_pos (decide_eq_true h)
theorem kl_F_f {M : Nat → rw_T} {m p : Nat} {f : rw_T} (h : ¬ (p + 1 = m ∨ ¬ M p 3 = M (p + 1) 3)) : kl_F M m p f = rw_disc f := if_neg (by rw [kl_last, decide_eq_false h]; decide)
theorem tr_bk_s {m k : Nat} (h : k + 1 ≤ m) : tr_bk m (m - k) = tr_bk m (m - (k + 1)) ++ [so_rd k, so_wr k] := by
  have e : m - k = m - (k + 1) + 1 := by omega
  rw [e, tr_bk]
  have e2 : m - 1 - (m - (k + 1)) = k := by omega
  rw [e2]
set_option maxRecDepth 100000 in
theorem c_addUp (l : Launch) {n : Nat} {h : pm_H} {M : Nat → rw_T} {ts : List Int32} (H : so_L n h M ts) (hn : 111 < n) (O : h 94 = pm_O cOps [.ref 15]) {m : Nat} (hm : m ≤ 76) (sc : Int32) : bM0 l yX2_addUpForth cX2_addUpForth 9 (some (.int)) 2 [.ref 94, .int (nI m), .int sc] n h (fun r h' => r = some (.int (nI (ga_a M sc m).1)) ∧ so_L n h' (so_map 0 m (ga_F M sc) M) (tk (ts ++ tr_sc 0 m)) ∧ so_fr h h') := by
  refine pm_enter rfl (Nat.le_of_ble_eq_true rfl) (fun G K Z => ?_)
  obtain ⟨ix, R0, HA0, hi, hL0⟩ := id H
  refine pm_ic0 K dX2_addUpForth_0 (q := 1) rfl ?_
  refine pm_istore_n K dX2_addUpForth_1 (q := 2) rfl rfl (by decide) rfl ?_
  refine pm_ic0 K dX2_addUpForth_2 (q := 3) rfl ?_
  refine pm_istore K dX2_addUpForth_3 (q := 5) rfl (by decide) rfl ?_
  refine pm_ic0 K dX2_addUpForth_5 (q := 6) rfl ?_
  refine pm_istore K dX2_addUpForth_6 (q := 8) rfl (by decide) rfl ?_
  refine pm_ic0 K dX2_addUpForth_8 (q := 9) rfl ?_
  refine pm_istore K dX2_addUpForth_9 (q := 11) rfl (by decide) rfl ?_
  refine pm_ic0 K dX2_addUpForth_11 (q := 12) rfl ?_
  refine pm_istore K dX2_addUpForth_12 (q := 14) rfl (by decide) rfl ?_
  have loop : ∀ (k p : Nat) (h2 : pm_H) (R : Nat → rw_T) (x8 : Option Value), p + k = m → so_at n h2 ix R (tk (ts ++ tr_sc 0 p)) → (∀ i, i < 76 → so_map 0 p (ga_F M sc) M i = R (ix i)) → so_fr h h2 → G 0 0 14 [some (.ref 94), some (.int (nI m)), some (.int sc), some (.int (nI (ga_a M sc p).1)), some (.int (ga_a M sc p).2.1), some (.int (ga_a M sc p).2.2.1), some (.int (nI (ga_a M sc p).2.2.2)), some (.int (nI p)), x8] [] n h2 := by
    intro k
    induction k with
    | zero =>
      intro p h2 R x8 hk HA hL hF
      refine pm_iload K dX2_addUpForth_14 (q := 16) rfl rfl ?_
      refine pm_iload_n K dX2_addUpForth_16 (q := 17) rfl rfl rfl ?_
      refine pm_icmp_ge K dX2_addUpForth_17 (tgt := 114) (q := 20) rfl rfl (fun _ => ?_) (fun z => absurd z (fun z => z (nI_le (by omega) (by omega))))
      have ep : p = m := by omega
      subst ep
      refine pm_iload_n K dX2_addUpForth_114 (q := 115) rfl rfl rfl ?_
      exact pm_iret Z dX2_addUpForth_115 rfl rfl (Nat.le_of_ble_eq_true rfl) (Nat.le_of_ble_eq_true rfl) ⟨rfl, ⟨rfl, ⟨ix, R, HA, hi, hL⟩, hF⟩⟩
    | succ k ih =>
      intro p h2 R x8 hk HA hL hF
      refine pm_iload K dX2_addUpForth_14 (q := 16) rfl rfl ?_
      refine pm_iload_n K dX2_addUpForth_16 (q := 17) rfl rfl rfl ?_
      refine pm_icmp_ge K dX2_addUpForth_17 (tgt := 114) (q := 20) rfl rfl (fun z => absurd z (nI_ge (by omega) (by omega))) (fun _ => ?_)
      have gx := HA.2.2.2.2.1 (p) (by omega)
      refine pm_aload_n K dX2_addUpForth_20 (q := 21) rfl rfl rfl ?_
      refine pm_get K inX2 rfl (k := 0) (by decide) wlX2_9 rfl (by omega) ((hF 94 (by omega)).trans O) rfl dX2_addUpForth_21 (q := 24) rfl ?_
      refine pm_iload K dX2_addUpForth_24 (q := 26) rfl rfl ?_
      refine pm_callV0 K gw_ok wcX2_29 (c_read l HA (p := p) (by omega)) rfl (by omega) HA.2.1 rfl rfl (Nat.le_of_ble_eq_true rfl) (by decide) dX2_addUpForth_26 (q := 29) rfl (fun r1 h1 hp => ?_)
      obtain ⟨rfl, H1, F1⟩ := hp
      have eM : R (ix p) = M p := by rw [← hL p (by omega), so_map_at0]
      refine pm_astore K dX2_addUpForth_29 (q := 31) rfl (by decide) rfl ?_
      have hcl := fun f => so_cl2 (f := f) hi hL (show p < 76 by omega)
      by_cases hp0 : p = 0
      · have hnw : p = 0 ∨ ¬ M p 3 = (ga_a M sc p).2.1 := Or.inl hp0
        refine pm_iload K dX2_addUpForth_31 (q := 33) rfl rfl ?_
        refine pm_if_eq K dX2_addUpForth_33 (tgt := 46) (q := 36) rfl rfl (fun _ => ?_) (fun z => absurd z (fun z => z (by rw [hp0]; rfl)))
        refine pm_inc K dX2_addUpForth_46 (q := 49) rfl rfl (by decide) rfl ?_
        refine pm_aload K dX2_addUpForth_49 (q := 51) rfl rfl ?_
        refine pm_get K inX3 rfl (k := 3) (by decide) wlX2_79 rfl (by omega) (H1.row gx) rfl dX2_addUpForth_51 (q := 54) rfl ?_
        refine pm_istore K dX2_addUpForth_54 (q := 56) rfl (by decide) rfl ?_
        refine pm_ic0 K dX2_addUpForth_56 (q := 57) rfl ?_
        refine pm_istore K dX2_addUpForth_57 (q := 59) rfl (by decide) rfl ?_
        refine pm_ic0 K dX2_addUpForth_59 (q := 60) rfl ?_
        refine pm_istore K dX2_addUpForth_60 (q := 62) rfl (by decide) rfl ?_
        refine pm_iload K dX2_addUpForth_62 (q := 64) rfl rfl ?_
        refine pm_aload K dX2_addUpForth_64 (q := 66) rfl rfl ?_
        refine pm_iload_n K dX2_addUpForth_66 (q := 67) rfl rfl rfl ?_
        refine pm_callV0 K gw_ok wcX2_33 (c_column l (by omega) (H1.row gx) sc) rfl (by omega) (H1.row gx) rfl rfl (Nat.le_of_ble_eq_true rfl) (by decide) dX2_addUpForth_67 (q := 70) rfl (fun r5 h5 hp => ?_)
        obtain ⟨rfl, e1⟩ := hp
        rw [e1]
        refine pm_iadd K dX2_addUpForth_70 (q := 71) rfl ?_
        refine pm_istore K dX2_addUpForth_71 (q := 73) rfl (by decide) rfl ?_
        refine pm_inc K dX2_addUpForth_73 (q := 76) rfl rfl (by decide) rfl ?_
        refine pm_aload K dX2_addUpForth_76 (q := 78) rfl rfl ?_
        refine pm_iload K dX2_addUpForth_78 (q := 80) rfl rfl ?_
        refine pm_iload K dX2_addUpForth_80 (q := 82) rfl rfl ?_
        refine pm_iload K dX2_addUpForth_82 (q := 84) rfl rfl ?_
        refine pm_callV0 K gw_ok wcX2_56 (c_setColumns l (by omega) (H1.row gx) (R (ix p) 3) (0 + rw_col sc (R (ix p))) (nI 1)) rfl (by omega) (H1.row gx) rfl rfl (Nat.le_of_ble_eq_true rfl) (by decide) dX2_addUpForth_84 (q := 87) rfl (fun r6 h6 hp => ?_)
        obtain ⟨rfl, rfl⟩ := hp
        refine pm_aload K dX2_addUpForth_87 (q := 89) rfl rfl ?_
        refine pm_iload K dX2_addUpForth_89 (q := 91) rfl rfl ?_
        refine pm_iload_n K dX2_addUpForth_91 (q := 92) rfl rfl rfl ?_
        refine pm_ic1 K dX2_addUpForth_92 (q := 93) rfl ?_
        refine pm_isub K dX2_addUpForth_93 (q := 94) rfl ?_
        rw [nI_pred]
        refine pm_callV0 K gw_ok wcX2_43 (c_keep l (by omega) (pm_same _ _ _) (nI p) (nI (ga_a M sc p).1)) rfl (by omega) (pm_same _ _ _) rfl rfl (Nat.le_of_ble_eq_true rfl) (by decide) dX2_addUpForth_94 (q := 97) rfl (fun r7 h7 hp => ?_)
        obtain ⟨rfl, rfl⟩ := hp
        rw [pm_up2]
        have H2 := H1.mod gx (f := rw_keep (nI p) (nI (ga_a M sc p).1) (rw_cols (R (ix p) 3) (0 + rw_col sc (R (ix p))) (nI 1) (R (ix p)))) (Or.inr rfl)
        refine pm_aload_n K dX2_addUpForth_97 (q := 98) rfl rfl rfl ?_
        refine pm_get K inX2 rfl (k := 0) (by decide) wlX2_9 rfl (by omega) (pm_ne (by omega) ((F1 94 (by omega) (by omega)).trans ((hF 94 (by omega)).trans O))) rfl dX2_addUpForth_98 (q := 101) rfl ?_
        refine pm_iload K dX2_addUpForth_101 (q := 103) rfl rfl ?_
        refine pm_aload K dX2_addUpForth_103 (q := 105) rfl rfl ?_
        refine pm_callV0 K gw_ok wcX2_49 (c_write l H2 (p := p) (by omega) gx) rfl (by omega) (pm_ne (by omega) H1.2.1) rfl rfl (Nat.le_of_ble_eq_true rfl) (by decide) dX2_addUpForth_105 (q := 108) rfl (fun r9 h9 hp => ?_)
        obtain ⟨rfl, H3, F3⟩ := hp
        rw [so_id] at H3
        simp only [tk_app, List.append_assoc, List.cons_append, List.nil_append] at H3
        have hF9 : so_fr h h9 := fun q hq => by rw [F3 q (by omega), pm_ne (by omega) rfl, F1 q (by omega) (by omega), hF q hq]
        refine pm_inc K dX2_addUpForth_108 (q := 111) rfl rfl (by decide) rfl ?_
        refine pm_goto K dX2_addUpForth_111 (q := 14) rfl ?_
        have := ih (p + 1) h9 _ (some (.ref (18 + ix p))) (by omega) (by rw [tr_sc_s, Nat.zero_add]; exact H3) (by rw [so_map_succ0, ga_F_new hnw, ← eM]; exact hcl _) hF9
        rw [ga_new hnw, ← eM] at this
        exact this
      · refine pm_iload K dX2_addUpForth_31 (q := 33) rfl rfl ?_
        refine pm_if_eq K dX2_addUpForth_33 (tgt := 46) (q := 36) rfl rfl (fun z => absurd z (nI_ne0 (by omega) (by omega))) (fun _ => ?_)
        refine pm_aload K dX2_addUpForth_36 (q := 38) rfl rfl ?_
        refine pm_get K inX3 rfl (k := 3) (by decide) wlX2_79 rfl (by omega) (H1.row gx) rfl dX2_addUpForth_38 (q := 41) rfl ?_
        refine pm_iload K dX2_addUpForth_41 (q := 43) rfl rfl ?_
        refine pm_icmp_eq K dX2_addUpForth_43 (tgt := 62) (q := 46) rfl rfl (fun hky => ?_) (fun hky => ?_)
        · have hnw : ¬ (p = 0 ∨ ¬ M p 3 = (ga_a M sc p).2.1) := fun z => z.elim hp0 (fun z => z (by rw [← eM]; exact hky))
          refine pm_iload K dX2_addUpForth_62 (q := 64) rfl rfl ?_
          refine pm_aload K dX2_addUpForth_64 (q := 66) rfl rfl ?_
          refine pm_iload_n K dX2_addUpForth_66 (q := 67) rfl rfl rfl ?_
          refine pm_callV0 K gw_ok wcX2_33 (c_column l (by omega) (H1.row gx) sc) rfl (by omega) (H1.row gx) rfl rfl (Nat.le_of_ble_eq_true rfl) (by decide) dX2_addUpForth_67 (q := 70) rfl (fun r5 h5 hp => ?_)
          obtain ⟨rfl, e1⟩ := hp
          rw [e1]
          refine pm_iadd K dX2_addUpForth_70 (q := 71) rfl ?_
          refine pm_istore K dX2_addUpForth_71 (q := 73) rfl (by decide) rfl ?_
          refine pm_inc K dX2_addUpForth_73 (q := 76) rfl rfl (by decide) rfl ?_
          refine pm_aload K dX2_addUpForth_76 (q := 78) rfl rfl ?_
          refine pm_iload K dX2_addUpForth_78 (q := 80) rfl rfl ?_
          refine pm_iload K dX2_addUpForth_80 (q := 82) rfl rfl ?_
          refine pm_iload K dX2_addUpForth_82 (q := 84) rfl rfl ?_
          refine pm_callV0 K gw_ok wcX2_56 (c_setColumns l (by omega) (H1.row gx) (ga_a M sc p).2.1 ((ga_a M sc p).2.2.1 + rw_col sc (R (ix p))) (nI ((ga_a M sc p).2.2.2 + 1))) rfl (by omega) (H1.row gx) rfl rfl (Nat.le_of_ble_eq_true rfl) (by decide) dX2_addUpForth_84 (q := 87) rfl (fun r6 h6 hp => ?_)
          obtain ⟨rfl, rfl⟩ := hp
          refine pm_aload K dX2_addUpForth_87 (q := 89) rfl rfl ?_
          refine pm_iload K dX2_addUpForth_89 (q := 91) rfl rfl ?_
          refine pm_iload_n K dX2_addUpForth_91 (q := 92) rfl rfl rfl ?_
          refine pm_ic1 K dX2_addUpForth_92 (q := 93) rfl ?_
          refine pm_isub K dX2_addUpForth_93 (q := 94) rfl ?_
          rw [show nI (ga_a M sc p).1 - 1 = nI ((ga_a M sc p).1 - 1) from pk_sub (b := 1) (ga_pos M sc hp0)]
          refine pm_callV0 K gw_ok wcX2_43 (c_keep l (by omega) (pm_same _ _ _) (nI p) (nI ((ga_a M sc p).1 - 1))) rfl (by omega) (pm_same _ _ _) rfl rfl (Nat.le_of_ble_eq_true rfl) (by decide) dX2_addUpForth_94 (q := 97) rfl (fun r7 h7 hp => ?_)
          obtain ⟨rfl, rfl⟩ := hp
          rw [pm_up2]
          have H2 := H1.mod gx (f := rw_keep (nI p) (nI ((ga_a M sc p).1 - 1)) (rw_cols (ga_a M sc p).2.1 ((ga_a M sc p).2.2.1 + rw_col sc (R (ix p))) (nI ((ga_a M sc p).2.2.2 + 1)) (R (ix p)))) (Or.inr rfl)
          refine pm_aload_n K dX2_addUpForth_97 (q := 98) rfl rfl rfl ?_
          refine pm_get K inX2 rfl (k := 0) (by decide) wlX2_9 rfl (by omega) (pm_ne (by omega) ((F1 94 (by omega) (by omega)).trans ((hF 94 (by omega)).trans O))) rfl dX2_addUpForth_98 (q := 101) rfl ?_
          refine pm_iload K dX2_addUpForth_101 (q := 103) rfl rfl ?_
          refine pm_aload K dX2_addUpForth_103 (q := 105) rfl rfl ?_
          refine pm_callV0 K gw_ok wcX2_49 (c_write l H2 (p := p) (by omega) gx) rfl (by omega) (pm_ne (by omega) H1.2.1) rfl rfl (Nat.le_of_ble_eq_true rfl) (by decide) dX2_addUpForth_105 (q := 108) rfl (fun r9 h9 hp => ?_)
          obtain ⟨rfl, H3, F3⟩ := hp
          rw [so_id] at H3
          simp only [tk_app, List.append_assoc, List.cons_append, List.nil_append] at H3
          have hF9 : so_fr h h9 := fun q hq => by rw [F3 q (by omega), pm_ne (by omega) rfl, F1 q (by omega) (by omega), hF q hq]
          refine pm_inc K dX2_addUpForth_108 (q := 111) rfl rfl (by decide) rfl ?_
          refine pm_goto K dX2_addUpForth_111 (q := 14) rfl ?_
          have := ih (p + 1) h9 _ (some (.ref (18 + ix p))) (by omega) (by rw [tr_sc_s, Nat.zero_add]; exact H3) (by rw [so_map_succ0, ga_F_old hnw, ← eM]; exact hcl _) hF9
          rw [ga_old hnw, ← eM] at this
          exact this
        · have hnw : p = 0 ∨ ¬ M p 3 = (ga_a M sc p).2.1 := Or.inr (by rw [← eM]; exact hky)
          refine pm_inc K dX2_addUpForth_46 (q := 49) rfl rfl (by decide) rfl ?_
          refine pm_aload K dX2_addUpForth_49 (q := 51) rfl rfl ?_
          refine pm_get K inX3 rfl (k := 3) (by decide) wlX2_79 rfl (by omega) (H1.row gx) rfl dX2_addUpForth_51 (q := 54) rfl ?_
          refine pm_istore K dX2_addUpForth_54 (q := 56) rfl (by decide) rfl ?_
          refine pm_ic0 K dX2_addUpForth_56 (q := 57) rfl ?_
          refine pm_istore K dX2_addUpForth_57 (q := 59) rfl (by decide) rfl ?_
          refine pm_ic0 K dX2_addUpForth_59 (q := 60) rfl ?_
          refine pm_istore K dX2_addUpForth_60 (q := 62) rfl (by decide) rfl ?_
          refine pm_iload K dX2_addUpForth_62 (q := 64) rfl rfl ?_
          refine pm_aload K dX2_addUpForth_64 (q := 66) rfl rfl ?_
          refine pm_iload_n K dX2_addUpForth_66 (q := 67) rfl rfl rfl ?_
          refine pm_callV0 K gw_ok wcX2_33 (c_column l (by omega) (H1.row gx) sc) rfl (by omega) (H1.row gx) rfl rfl (Nat.le_of_ble_eq_true rfl) (by decide) dX2_addUpForth_67 (q := 70) rfl (fun r5 h5 hp => ?_)
          obtain ⟨rfl, e1⟩ := hp
          rw [e1]
          refine pm_iadd K dX2_addUpForth_70 (q := 71) rfl ?_
          refine pm_istore K dX2_addUpForth_71 (q := 73) rfl (by decide) rfl ?_
          refine pm_inc K dX2_addUpForth_73 (q := 76) rfl rfl (by decide) rfl ?_
          refine pm_aload K dX2_addUpForth_76 (q := 78) rfl rfl ?_
          refine pm_iload K dX2_addUpForth_78 (q := 80) rfl rfl ?_
          refine pm_iload K dX2_addUpForth_80 (q := 82) rfl rfl ?_
          refine pm_iload K dX2_addUpForth_82 (q := 84) rfl rfl ?_
          refine pm_callV0 K gw_ok wcX2_56 (c_setColumns l (by omega) (H1.row gx) (R (ix p) 3) (0 + rw_col sc (R (ix p))) (nI 1)) rfl (by omega) (H1.row gx) rfl rfl (Nat.le_of_ble_eq_true rfl) (by decide) dX2_addUpForth_84 (q := 87) rfl (fun r6 h6 hp => ?_)
          obtain ⟨rfl, rfl⟩ := hp
          refine pm_aload K dX2_addUpForth_87 (q := 89) rfl rfl ?_
          refine pm_iload K dX2_addUpForth_89 (q := 91) rfl rfl ?_
          refine pm_iload_n K dX2_addUpForth_91 (q := 92) rfl rfl rfl ?_
          refine pm_ic1 K dX2_addUpForth_92 (q := 93) rfl ?_
          refine pm_isub K dX2_addUpForth_93 (q := 94) rfl ?_
          rw [nI_pred]
          refine pm_callV0 K gw_ok wcX2_43 (c_keep l (by omega) (pm_same _ _ _) (nI p) (nI (ga_a M sc p).1)) rfl (by omega) (pm_same _ _ _) rfl rfl (Nat.le_of_ble_eq_true rfl) (by decide) dX2_addUpForth_94 (q := 97) rfl (fun r7 h7 hp => ?_)
          obtain ⟨rfl, rfl⟩ := hp
          rw [pm_up2]
          have H2 := H1.mod gx (f := rw_keep (nI p) (nI (ga_a M sc p).1) (rw_cols (R (ix p) 3) (0 + rw_col sc (R (ix p))) (nI 1) (R (ix p)))) (Or.inr rfl)
          refine pm_aload_n K dX2_addUpForth_97 (q := 98) rfl rfl rfl ?_
          refine pm_get K inX2 rfl (k := 0) (by decide) wlX2_9 rfl (by omega) (pm_ne (by omega) ((F1 94 (by omega) (by omega)).trans ((hF 94 (by omega)).trans O))) rfl dX2_addUpForth_98 (q := 101) rfl ?_
          refine pm_iload K dX2_addUpForth_101 (q := 103) rfl rfl ?_
          refine pm_aload K dX2_addUpForth_103 (q := 105) rfl rfl ?_
          refine pm_callV0 K gw_ok wcX2_49 (c_write l H2 (p := p) (by omega) gx) rfl (by omega) (pm_ne (by omega) H1.2.1) rfl rfl (Nat.le_of_ble_eq_true rfl) (by decide) dX2_addUpForth_105 (q := 108) rfl (fun r9 h9 hp => ?_)
          obtain ⟨rfl, H3, F3⟩ := hp
          rw [so_id] at H3
          simp only [tk_app, List.append_assoc, List.cons_append, List.nil_append] at H3
          have hF9 : so_fr h h9 := fun q hq => by rw [F3 q (by omega), pm_ne (by omega) rfl, F1 q (by omega) (by omega), hF q hq]
          refine pm_inc K dX2_addUpForth_108 (q := 111) rfl rfl (by decide) rfl ?_
          refine pm_goto K dX2_addUpForth_111 (q := 14) rfl ?_
          have := ih (p + 1) h9 _ (some (.ref (18 + ix p))) (by omega) (by rw [tr_sc_s, Nat.zero_add]; exact H3) (by rw [so_map_succ0, ga_F_new hnw, ← eM]; exact hcl _) hF9
          rw [ga_new hnw, ← eM] at this
          exact this
  have := loop m 0 h R0 none (by omega) (by rw [tr_sc, List.append_nil, so_at.tke HA0]; exact HA0) (by rw [so_map_0]; exact hL0) so_fr.rf
  exact this
set_option maxRecDepth 100000 in
theorem c_keepLast (l : Launch) {n : Nat} {h : pm_H} {M : Nat → rw_T} {ts : List Int32} (H : so_L n h M ts) (hn : 111 < n) (O : h 94 = pm_O cOps [.ref 15]) {m : Nat} (hm : m ≤ 76) : bM0 l yX2_keepLastOfEach cX2_keepLastOfEach 5 none 2 [.ref 94, .int (nI m)] n h (fun r h' => r = none ∧ so_L n h' (so_bk 0 m (kl_F M m) M) (tk (ts ++ tr_bk m m)) ∧ so_fr h h') := by
  refine pm_enter rfl (Nat.le_of_ble_eq_true rfl) (fun G K Z => ?_)
  obtain ⟨ix, R0, HA0, hi, hL0⟩ := id H
  refine pm_ic0 K dX2_keepLastOfEach_0 (q := 1) rfl ?_
  refine pm_istore_n K dX2_keepLastOfEach_1 (q := 2) rfl rfl (by decide) rfl ?_
  refine pm_iload_n K dX2_keepLastOfEach_2 (q := 3) rfl rfl rfl ?_
  refine pm_ic1 K dX2_keepLastOfEach_3 (q := 4) rfl ?_
  refine pm_isub K dX2_keepLastOfEach_4 (q := 5) rfl ?_
  refine pm_istore_n K dX2_keepLastOfEach_5 (q := 6) rfl rfl (by decide) rfl ?_
  have loop : ∀ (k : Nat) (h2 : pm_H) (R : Nat → rw_T) (ky : Int32) (x4 : Option Value), k ≤ m → so_at n h2 ix R (tk (ts ++ tr_bk m (m - k))) → (∀ i, i < 76 → so_bk k m (kl_F M m) M i = R (ix i)) → so_fr h h2 → (k < m → ky = M k 3) → G 0 0 6 [some (.ref 94), some (.int (nI m)), some (.int ky), some (.int (nI k - 1)), x4] [] n h2 := by
    intro k
    induction k with
    | zero =>
      intro h2 R ky x4 hk HA hL hF hky
      refine pm_iload_n K dX2_keepLastOfEach_6 (q := 7) rfl rfl rfl ?_
      refine pm_if_lt K dX2_keepLastOfEach_7 (tgt := 63) (q := 10) rfl rfl (fun _ => ?_) (fun z => absurd z (fun z => z (by decide)))
      exact pm_vret Z dX2_keepLastOfEach_63 rfl (Nat.le_of_ble_eq_true rfl) (Nat.le_of_ble_eq_true rfl) ⟨rfl, ⟨rfl, ⟨ix, R, HA, hi, hL⟩, hF⟩⟩
    | succ k ih =>
      intro h2 R ky x4 hk HA hL hF hky
      rw [nI_pred]
      refine pm_iload_n K dX2_keepLastOfEach_6 (q := 7) rfl rfl rfl ?_
      refine pm_if_lt K dX2_keepLastOfEach_7 (tgt := 63) (q := 10) rfl rfl (fun z => absurd z (nI_pos (by omega))) (fun _ => ?_)
      have gx := HA.2.2.2.2.1 (k) (by omega)
      refine pm_aload_n K dX2_keepLastOfEach_10 (q := 11) rfl rfl rfl ?_
      refine pm_get K inX2 rfl (k := 0) (by decide) wlX2_9 rfl (by omega) ((hF 94 (by omega)).trans O) rfl dX2_keepLastOfEach_11 (q := 14) rfl ?_
      refine pm_iload_n K dX2_keepLastOfEach_14 (q := 15) rfl rfl rfl ?_
      refine pm_callV0 K gw_ok wcX2_29 (c_read l HA (p := k) (by omega)) rfl (by omega) HA.2.1 rfl rfl (Nat.le_of_ble_eq_true rfl) (by decide) dX2_keepLastOfEach_15 (q := 18) rfl (fun r1 h1 hp => ?_)
      obtain ⟨rfl, H1, F1⟩ := hp
      have eM : R (ix k) = M k := by rw [← hL k (by omega), so_bk_out (by omega)]
      refine pm_astore K dX2_keepLastOfEach_18 (q := 20) rfl (by decide) rfl ?_
      refine pm_iload_n K dX2_keepLastOfEach_20 (q := 21) rfl rfl rfl ?_
      refine pm_iload_n K dX2_keepLastOfEach_21 (q := 22) rfl rfl rfl ?_
      refine pm_ic1 K dX2_keepLastOfEach_22 (q := 23) rfl ?_
      refine pm_isub K dX2_keepLastOfEach_23 (q := 24) rfl ?_
      rw [show nI m - 1 = nI (m - 1) from pk_sub (b := 1) (by omega)]
      have hcl := fun f => so_cl2 (f := f) hi hL (show k < 76 by omega)
      have etr : tr_bk m (m - k) = tr_bk m (m - (k + 1)) ++ [so_rd k, so_wr k] := tr_bk_s (by omega)
      refine pm_icmp_ge K dX2_keepLastOfEach_24 (tgt := 41) (q := 27) rfl rfl (fun hx => ?_) (fun hx => ?_)
      · have hk1 : k + 1 = m := by have := (nI_leI (by omega) (by omega)).mp hx; omega
        refine pm_aload K dX2_keepLastOfEach_41 (q := 43) rfl rfl ?_
        refine pm_get K inX3 rfl (k := 3) (by decide) wlX2_79 rfl (by omega) (H1.row gx) rfl dX2_keepLastOfEach_43 (q := 46) rfl ?_
        refine pm_istore_n K dX2_keepLastOfEach_46 (q := 47) rfl rfl (by decide) rfl ?_
        have H2 := H1
        refine pm_aload_n K dX2_keepLastOfEach_47 (q := 48) rfl rfl rfl ?_
        refine pm_get K inX2 rfl (k := 0) (by decide) wlX2_9 rfl (by omega) ((F1 94 (by omega) (by omega)).trans ((hF 94 (by omega)).trans O)) rfl dX2_keepLastOfEach_48 (q := 51) rfl ?_
        refine pm_iload_n K dX2_keepLastOfEach_51 (q := 52) rfl rfl rfl ?_
        refine pm_aload K dX2_keepLastOfEach_52 (q := 54) rfl rfl ?_
        refine pm_callV0 K gw_ok wcX2_49 (c_write l H2 (p := k) (by omega) gx) rfl (by omega) H1.2.1 rfl rfl (Nat.le_of_ble_eq_true rfl) (by decide) dX2_keepLastOfEach_54 (q := 57) rfl (fun r9 h9 hp => ?_)
        obtain ⟨rfl, H3, F3⟩ := hp
        rw [so_id] at H3
        simp only [tk_app, List.append_assoc, List.cons_append, List.nil_append] at H3
        have hF9 : so_fr h h9 := fun q hq => by rw [F3 q (by omega), F1 q (by omega) (by omega), hF q hq]
        refine pm_iinc (v := nI k - 1) K dX2_keepLastOfEach_57 (q := 60) rfl rfl (by rw [Int32.sub_eq_add_neg]; rfl) (by decide) rfl ?_
        refine pm_goto K dX2_keepLastOfEach_60 (q := 6) rfl ?_
        exact ih h9 R _ _ (by omega) (by rw [etr]; exact H3) (by rw [so_bk_s (by omega), kl_F_t (Or.inl hk1), so_bk_same (by omega)]; exact hL) hF9 (fun _ => by rw [← eM])
      · have hk1 : k + 1 < m := by have : ¬ m - 1 ≤ k := fun z => hx ((nI_leI (by omega) (by omega)).mpr z); omega
        have ek := hky hk1
        refine pm_aload K dX2_keepLastOfEach_27 (q := 29) rfl rfl ?_
        refine pm_get K inX3 rfl (k := 3) (by decide) wlX2_79 rfl (by omega) (H1.row gx) rfl dX2_keepLastOfEach_29 (q := 32) rfl ?_
        refine pm_iload_n K dX2_keepLastOfEach_32 (q := 33) rfl rfl rfl ?_
        refine pm_icmp_ne K dX2_keepLastOfEach_33 (tgt := 41) (q := 36) rfl rfl (fun hy => ?_) (fun hy => ?_)
        · rw [eM, ek] at hy
          refine pm_aload K dX2_keepLastOfEach_41 (q := 43) rfl rfl ?_
          refine pm_get K inX3 rfl (k := 3) (by decide) wlX2_79 rfl (by omega) (H1.row gx) rfl dX2_keepLastOfEach_43 (q := 46) rfl ?_
          refine pm_istore_n K dX2_keepLastOfEach_46 (q := 47) rfl rfl (by decide) rfl ?_
          have H2 := H1
          refine pm_aload_n K dX2_keepLastOfEach_47 (q := 48) rfl rfl rfl ?_
          refine pm_get K inX2 rfl (k := 0) (by decide) wlX2_9 rfl (by omega) ((F1 94 (by omega) (by omega)).trans ((hF 94 (by omega)).trans O)) rfl dX2_keepLastOfEach_48 (q := 51) rfl ?_
          refine pm_iload_n K dX2_keepLastOfEach_51 (q := 52) rfl rfl rfl ?_
          refine pm_aload K dX2_keepLastOfEach_52 (q := 54) rfl rfl ?_
          refine pm_callV0 K gw_ok wcX2_49 (c_write l H2 (p := k) (by omega) gx) rfl (by omega) H1.2.1 rfl rfl (Nat.le_of_ble_eq_true rfl) (by decide) dX2_keepLastOfEach_54 (q := 57) rfl (fun r9 h9 hp => ?_)
          obtain ⟨rfl, H3, F3⟩ := hp
          rw [so_id] at H3
          simp only [tk_app, List.append_assoc, List.cons_append, List.nil_append] at H3
          have hF9 : so_fr h h9 := fun q hq => by rw [F3 q (by omega), F1 q (by omega) (by omega), hF q hq]
          refine pm_iinc (v := nI k - 1) K dX2_keepLastOfEach_57 (q := 60) rfl rfl (by rw [Int32.sub_eq_add_neg]; rfl) (by decide) rfl ?_
          refine pm_goto K dX2_keepLastOfEach_60 (q := 6) rfl ?_
          exact ih h9 R _ _ (by omega) (by rw [etr]; exact H3) (by rw [so_bk_s (by omega), kl_F_t (Or.inr hy), so_bk_same (by omega)]; exact hL) hF9 (fun _ => by rw [← eM])
        · rw [eM, ek] at hy
          refine pm_aload K dX2_keepLastOfEach_36 (q := 38) rfl rfl ?_
          refine pm_callV0 K gw_ok wcX2_46 (c_discard l (by omega) (H1.row gx)) rfl (by omega) (H1.row gx) rfl rfl (Nat.le_of_ble_eq_true rfl) (by decide) dX2_keepLastOfEach_38 (q := 41) rfl (fun r7 h7 hp => ?_)
          obtain ⟨rfl, rfl⟩ := hp
          refine pm_aload K dX2_keepLastOfEach_41 (q := 43) rfl rfl ?_
          refine pm_get K inX3 rfl (k := 3) (by decide) wlX2_79 rfl (by omega) (pm_same _ _ _) rfl dX2_keepLastOfEach_43 (q := 46) rfl ?_
          refine pm_istore_n K dX2_keepLastOfEach_46 (q := 47) rfl rfl (by decide) rfl ?_
          have H2 := H1.mod gx (f := rw_disc (R (ix k))) (Or.inl rfl)
          refine pm_aload_n K dX2_keepLastOfEach_47 (q := 48) rfl rfl rfl ?_
          refine pm_get K inX2 rfl (k := 0) (by decide) wlX2_9 rfl (by omega) (pm_ne (by omega) ((F1 94 (by omega) (by omega)).trans ((hF 94 (by omega)).trans O))) rfl dX2_keepLastOfEach_48 (q := 51) rfl ?_
          refine pm_iload_n K dX2_keepLastOfEach_51 (q := 52) rfl rfl rfl ?_
          refine pm_aload K dX2_keepLastOfEach_52 (q := 54) rfl rfl ?_
          refine pm_callV0 K gw_ok wcX2_49 (c_write l H2 (p := k) (by omega) gx) rfl (by omega) (pm_ne (by omega) H1.2.1) rfl rfl (Nat.le_of_ble_eq_true rfl) (by decide) dX2_keepLastOfEach_54 (q := 57) rfl (fun r9 h9 hp => ?_)
          obtain ⟨rfl, H3, F3⟩ := hp
          rw [so_id] at H3
          simp only [tk_app, List.append_assoc, List.cons_append, List.nil_append] at H3
          have hF9 : so_fr h h9 := fun q hq => by rw [F3 q (by omega), pm_ne (by omega) rfl, F1 q (by omega) (by omega), hF q hq]
          refine pm_iinc (v := nI k - 1) K dX2_keepLastOfEach_57 (q := 60) rfl rfl (by rw [Int32.sub_eq_add_neg]; rfl) (by decide) rfl ?_
          refine pm_goto K dX2_keepLastOfEach_60 (q := 6) rfl ?_
          exact ih h9 _ _ _ (by omega) (by rw [etr]; exact H3) (by rw [so_bk_s (by omega), kl_F_f (fun z => z.elim (by omega) (fun z => z hy)), ← eM]; exact hcl _) hF9 (fun _ => by rw [← eM]; rfl)
  have := loop m h R0 0 none (Nat.le_refl _) (by rw [Nat.sub_self, tr_bk, List.append_nil, so_at.tke HA0]; exact HA0) (by rw [so_bk_0]; exact hL0) so_fr.rf (fun z => absurd z (Nat.lt_irrefl _))
  exact this
end
section
/-! Groups and batches of rows in order: what the scans bring. -/
def gs (ky v : Nat → Int32) : Nat → Int32 → Int32 × Nat
  | 0, _ => (0, 0)
  | p + 1, k => if ky p = k then ((gs ky v p k).1 + v p, (gs ky v p k).2 + 1) else gs ky v p k
theorem gs_yes {ky v : Nat → Int32} {k : Int32} {p : Nat} (h : ky p = k) : gs ky v (p + 1) k = ((gs ky v p k).1 + v p, (gs ky v p k).2 + 1) := if_pos h
theorem gs_no {ky v : Nat → Int32} {k : Int32} : ∀ {p : Nat}, (∀ q, q < p → ¬ ky q = k) → gs ky v p k = (0, 0)
  | 0, _ => rfl
  | p + 1, h => by
    rw [gs, if_neg (h p (by omega))]
    exact gs_no (fun q hq => h q (by omega))
theorem gs_stay {ky v : Nat → Int32} {k : Int32} {p : Nat} : ∀ {m : Nat}, p ≤ m → (∀ q, p ≤ q → q < m → ¬ ky q = k) → gs ky v m k = gs ky v p k
  | 0, h, _ => by rw [show p = 0 by omega]
  | m + 1, h, hq => by
    by_cases e : p = m + 1
    · rw [e]
    · rw [gs, if_neg (hq m (by omega) (by omega))]
      exact gs_stay (by omega) (fun q h1 h2 => hq q h1 (by omega))
theorem ga_gs {M : Nat → rw_T} {sc : Int32} {m : Nat} (hs : ∀ i j, i ≤ j → j < m → (M i 3).toInt ≤ (M j 3).toInt) : ∀ p, p < m → (ga_a M sc (p + 1)).2 = (M p 3, gs (fun q => M q 3) (fun q => rw_col sc (M q)) (p + 1) (M p 3))
  | 0, h => by
    rw [ga_new (Or.inl rfl), gs, if_pos rfl, gs]
  | p + 1, h => by
    have ih := ga_gs (sc := sc) hs p (by omega)
    by_cases e : M (p + 1) 3 = M p 3
    · have hno : ¬ (p + 1 = 0 ∨ ¬ M (p + 1) 3 = (ga_a M sc (p + 1)).2.1) := by
        rw [ih]
        rintro (z | z)
        · omega
        · exact z e
      rw [ga_old hno, gs_yes (p := p + 1) rfl]
      show ((ga_a M sc (p + 1)).2.1, (ga_a M sc (p + 1)).2.2.1 + _, (ga_a M sc (p + 1)).2.2.2 + 1) = _
      rw [ih, e]
    · have hno : p + 1 = 0 ∨ ¬ M (p + 1) 3 = (ga_a M sc (p + 1)).2.1 := by
        rw [ih]
        exact Or.inr e
      have hz : ∀ q, q < p + 1 → ¬ M q 3 = M (p + 1) 3 := fun q hq z => by
        have h1 := hs q p (by omega) (by omega)
        have h2 := hs p (p + 1) (by omega) h
        rw [z] at h1
        exact e (Int32.toInt_inj.mp (by omega))
      rw [ga_new hno, gs, if_pos rfl, gs_no hz]
/-- groups are counted as the last ones of each are -/
theorem ga_rank {M : Nat → rw_T} {sc : Int32} {m : Nat} (hs : ∀ i j, i ≤ j → j < m → (M i 3).toInt ≤ (M j 3).toInt) : ∀ p, p < m → (ga_a M sc (p + 1)).1 = (nw_mk (kl_last M m) p).length + 1
  | 0, h => by
    rw [ga_new (Or.inl rfl)]
    rfl
  | p + 1, h => by
    have ih := ga_rank (sc := sc) hs p (by omega)
    have ig := ga_gs (sc := sc) hs p (by omega)
    by_cases e : M (p + 1) 3 = M p 3
    · have hno : ¬ (p + 1 = 0 ∨ ¬ M (p + 1) 3 = (ga_a M sc (p + 1)).2.1) := by
        rw [ig]
        rintro (z | z)
        · omega
        · exact z e
      rw [ga_old hno, ih, nw_mk_f]
      exact decide_eq_false (by rintro (z | z); omega; exact z e.symm)
    · have hno : p + 1 = 0 ∨ ¬ M (p + 1) 3 = (ga_a M sc (p + 1)).2.1 := by
        rw [ig]
        exact Or.inr e
      rw [ga_new hno, nw_mk_t]
      · show (ga_a M sc (p + 1)).1 + 1 = _
        rw [ih]
      · exact decide_eq_true (Or.inr (fun z => e z.symm))
theorem ga_all {M : Nat → rw_T} {sc : Int32} {m : Nat} (hs : ∀ i j, i ≤ j → j < m → (M i 3).toInt ≤ (M j 3).toInt) : (ga_a M sc m).1 = (nw_mk (kl_last M m) m).length := by
  cases m with
  | zero => rfl
  | succ m =>
    rw [ga_rank hs m (by omega), nw_mk_t]
    exact decide_eq_true (Or.inl rfl)
def gsl (g a : Int32) (l : List bg_T) (k : Int32) : Int32 × Nat := l.foldl (fun s t => if bg_col g t = k then (s.1 + bg_col a t, s.2 + 1) else s) (0, 0)
theorem gsl_perm {g a : Int32} {l l' : List bg_T} (h : l.Perm l') (k : Int32) : gsl g a l k = gsl g a l' k := by
  unfold gsl
  refine h.foldl_eq' (fun x _ y _ z => ?_) _
  by_cases h1 : bg_col g x = k <;> by_cases h2 : bg_col g y = k <;> simp [h1, h2]
  rw [Int32.add_assoc, Int32.add_comm (bg_col a x), ← Int32.add_assoc]
theorem gsl_gs (g a : Int32) (c : Nat → bg_T) (k : Int32) : ∀ m, gsl g a ((List.range m).map c) k = gs (fun q => bg_col g (c q)) (fun q => bg_col a (c q)) m k
  | 0 => rfl
  | m + 1 => by
    have ih := gsl_gs g a c k m
    unfold gsl at ih ⊢
    rw [List.range_succ, List.map_append, List.foldl_append, ih]
    show (if bg_col g (c m) = k then _ else _) = gs _ _ (m + 1) k
    rw [gs]
def gp_ok (g a : Int32) (l l1 : List bg_T) : Prop := (l1.map (fun t => t.1)).Nodup ∧ ∀ t, t ∈ l1 ↔ ∃ u ∈ l, t = (bg_col g u, (gsl g a l (bg_col g u)).1, nI (gsl g a l (bg_col g u)).2)
theorem gp_rows {M : Nat → rw_T} {g a : Int32} {m : Nat} {l : List bg_T} (hs : ∀ i j, i ≤ j → j < m → (M i 3).toInt ≤ (M j 3).toInt) (hk : ∀ p, p < m → M p 3 = bg_col g (rw_c3 (M p))) (hp : ((List.range m).map (fun p => rw_c3 (M p))).Perm l) :
    gp_ok g a l ((nw_mk (kl_last M m) m).map (fun p => ((ga_a M a (p + 1)).2.1, (ga_a M a (p + 1)).2.2.1, nI (ga_a M a (p + 1)).2.2.2))) := by
  have hgs : ∀ p, gs (fun q => bg_col g (rw_c3 (M q))) (fun q => bg_col a (rw_c3 (M q))) m p = gsl g a l p := fun p => by
    rw [← gsl_perm hp, gsl_gs]
  have hg2 : ∀ k p, p ≤ m → gs (fun q => M q 3) (fun q => rw_col a (M q)) p k = gs (fun q => bg_col g (rw_c3 (M q))) (fun q => bg_col a (rw_c3 (M q))) p k := by
    intro k p
    induction p with
    | zero => intro _; rfl
    | succ p ih =>
      intro h
      rw [gs, gs, ih (by omega), hk p (by omega)]
      rfl
  have hval : ∀ p, p < m → kl_last M m p = true → ((ga_a M a (p + 1)).2.1, (ga_a M a (p + 1)).2.2.1, nI (ga_a M a (p + 1)).2.2.2) = (M p 3, (gsl g a l (M p 3)).1, nI (gsl g a l (M p 3)).2) := fun p h hl => by
    rw [ga_gs hs p h, ← hgs, ← hg2 _ m (Nat.le_refl _), gs_stay (p := p + 1) (m := m) (by omega)]
    intro q h1 h2 z
    rcases of_decide_eq_true hl with hz | hz
    · omega
    · have a1 := hs p (p + 1) (by omega) (by omega)
      have a2 := hs (p + 1) q h1 h2
      rw [z] at a2
      exact hz (Int32.toInt_inj.mp (by omega))
  have hmap : (nw_mk (kl_last M m) m).map (fun p => ((ga_a M a (p + 1)).2.1, (ga_a M a (p + 1)).2.2.1, nI (ga_a M a (p + 1)).2.2.2)) = (nw_mk (kl_last M m) m).map (fun p => (M p 3, (gsl g a l (M p 3)).1, nI (gsl g a l (M p 3)).2)) := by
    apply List.map_congr_left
    intro p hp
    obtain ⟨h1, h2⟩ := nw_mk_mem.mp hp
    exact hval p h1 h2
  rw [hmap]
  constructor
  · rw [List.map_map, List.Nodup, List.pairwise_map]
    have hlt : (nw_mk (kl_last M m) m).Pairwise (· < ·) := List.Pairwise.filter _ List.pairwise_lt_range
    refine hlt.imp_of_mem (fun {x y} hx hy hxy he => ?_)
    have hx' := nw_mk_mem.mp hx
    have hy' := nw_mk_mem.mp hy
    have he : M x 3 = M y 3 := he
    rcases of_decide_eq_true hx'.2 with hz | hz
    · omega
    · have a1 := hs x (x + 1) (by omega) (by omega)
      have a2 := hs (x + 1) y (by omega) (by omega)
      rw [← he] at a2
      exact hz (Int32.toInt_inj.mp (by omega))
  · intro t
    constructor
    · intro h
      obtain ⟨p, hp2, rfl⟩ := List.mem_map.mp h
      obtain ⟨h1, h2⟩ := nw_mk_mem.mp hp2
      refine ⟨rw_c3 (M p), hp.mem_iff.mp (List.mem_map.mpr ⟨p, List.mem_range.mpr h1, rfl⟩), ?_⟩
      rw [hk p h1]
    · rintro ⟨u, hu, rfl⟩
      obtain ⟨p, hp2, rfl⟩ := List.mem_map.mp (hp.mem_iff.mpr hu)
      have h1 := List.mem_range.mp hp2
      rw [← hk p h1]
      clear hu hp2
      obtain ⟨d, hd⟩ : ∃ d, p + d + 1 = m := ⟨m - p - 1, by omega⟩
      induction d generalizing p with
      | zero => exact List.mem_map.mpr ⟨p, nw_mk_mem.mpr ⟨h1, decide_eq_true (Or.inl (by omega))⟩, rfl⟩
      | succ d ih =>
        by_cases e : M p 3 = M (p + 1) 3
        · rw [e]
          exact ih (p + 1) (by omega) (by omega)
        · exact List.mem_map.mpr ⟨p, nw_mk_mem.mpr ⟨h1, decide_eq_true (Or.inr e)⟩, rfl⟩
/-- has a row been dropped, and which number last -/
def ud_a (M : Nat → rw_T) : Nat → Bool × Int32
  | 0 => (false, 0)
  | p + 1 => if M p 4 = 0 then (true, M p 3) else ud_a M p
def ud_live (M : Nat → rw_T) (p : Nat) : Bool := decide (M p 4 = 2) || !((ud_a M (p + 1)).1 && decide (M p 3 = (ud_a M (p + 1)).2))
theorem ud_sp (M : Nat → rw_T) : ∀ p, ((ud_a M p).1 = true → ∃ q, q < p ∧ M q 4 = 0 ∧ M q 3 = (ud_a M p).2 ∧ ∀ q', q' < p → M q' 4 = 0 → q' ≤ q) ∧ ((ud_a M p).1 = false → ∀ q, q < p → ¬ M q 4 = 0)
  | 0 => ⟨fun h => (by cases h), fun _ q hq => absurd hq (Nat.not_lt_zero _)⟩
  | p + 1 => by
    obtain ⟨h1, h2⟩ := ud_sp M p
    rw [ud_a]
    by_cases e : M p 4 = 0
    · rw [if_pos e]
      exact ⟨fun _ => ⟨p, by omega, e, rfl, fun q' hq' _ => by omega⟩, fun z => by cases z⟩
    · rw [if_neg e]
      refine ⟨fun z => ?_, fun z q hq => ?_⟩
      · obtain ⟨q, a1, a2, a3, a4⟩ := h1 z
        refine ⟨q, by omega, a2, a3, fun q' hq' hz => ?_⟩
        by_cases eq : q' = p
        · exact absurd (eq ▸ hz) e
        · exact a4 q' (by omega) hz
      · by_cases eq : q = p
        · rw [eq]; exact e
        · exact h2 z q (by omega)
def ud_P (X : List rw_T) (f : rw_T) : Bool := decide (f 4 = 2) || (decide (f 4 = 1) && !(X.any (fun g => decide (g 4 = 0 ∧ g 3 = f 3))))
theorem ud_ok {M : Nat → rw_T} {m : Nat} (hs : ∀ i j, i ≤ j → j < m → (M i 3).toInt < (M j 3).toInt ∨ (M i 3).toInt = (M j 3).toInt ∧ (M i 4).toInt ≤ (M j 4).toInt) (hd : ∀ p, p < m → M p 4 = 0 ∨ M p 4 = 1 ∨ M p 4 = 2) (p : Nat) (hp : p < m) : ud_live M p = ud_P (nw_ls 0 m M) (M p) := by
  unfold ud_live ud_P
  have hany : (nw_ls 0 m M).any (fun g => decide (g 4 = 0 ∧ g 3 = M p 3)) = true ↔ ∃ q, q < m ∧ M q 4 = 0 ∧ M q 3 = M p 3 := by
    rw [List.any_eq_true]
    constructor
    · rintro ⟨f, hf, h⟩
      obtain ⟨q, hq, rfl⟩ := nw_ls_mem.mp hf
      rw [Nat.zero_add] at h
      exact ⟨q, hq, of_decide_eq_true h⟩
    · rintro ⟨q, hq, h⟩
      exact ⟨M q, nw_ls_mem.mpr ⟨q, hq, by rw [Nat.zero_add]⟩, decide_eq_true h⟩
  rcases hd p hp with e | e | e
  · rw [ud_a, if_pos e, e]
    simp
  · have e0 : ¬ M p 4 = 0 := by rw [e]; decide
    rw [ud_a, if_neg e0, e]
    have hkey : ((ud_a M p).1 && decide (M p 3 = (ud_a M p).2)) = (nw_ls 0 m M).any (fun g => decide (g 4 = 0 ∧ g 3 = M p 3)) := by
      rw [Bool.eq_iff_iff, hany, Bool.and_eq_true, decide_eq_true_iff]
      constructor
      · rintro ⟨h1, h2⟩
        obtain ⟨q, a1, a2, a3, -⟩ := (ud_sp M p).1 h1
        exact ⟨q, by omega, a2, by rw [a3, h2]⟩
      · rintro ⟨q, h1, h2, h3⟩
        have hqp : q < p := by
          rcases Nat.lt_or_ge q p with h | h
          · exact h
          · exfalso
            have := hs p q h h1
            rw [h3, h2, e] at this
            have z0 : (0 : Int32).toInt = 0 := rfl
            have z1 : (1 : Int32).toInt = 1 := rfl
            omega
        cases hb : (ud_a M p).1 with
        | false => exact absurd h2 ((ud_sp M p).2 hb q hqp)
        | true =>
          obtain ⟨q', a1, a2, a3, a4⟩ := (ud_sp M p).1 hb
          have b1 := a4 q hqp h2
          have c1 := hs q q' b1 (by omega)
          have c2 := hs q' p (by omega) hp
          rw [h3] at c1
          refine ⟨rfl, ?_⟩
          rw [← a3]
          exact Int32.toInt_inj.mp (by omega)
    rw [hkey]
    simp
  · rw [e]
    simp
end
section
/-! The operators: groups, rows not dropped. -/
def ky_ok (f : rw_T) : Prop := f 7 = f 3 ∧ f 8 = f 4 ∧ f 9 = 0
theorem so_sort_mem {X : Nat → rw_T} {m p : Nat} (h : p < m) : ∃ q, q < m ∧ so_sort 0 m X p = X q := by
  have h1 : so_sort 0 m X p ∈ nw_ls 0 m (so_sort 0 m X) := nw_ls_mem.mpr ⟨p, h, by rw [Nat.zero_add]⟩
  obtain ⟨q, hq, e⟩ := nw_ls_mem.mp ((so_sort_sp 0 m X).1.1.mem_iff.mp h1)
  exact ⟨q, hq, by rw [← e, Nat.zero_add]⟩
theorem ky_sorted {X : Nat → rw_T} {m : Nat} (h : ∀ p, p < m → ky_ok (X p)) : ∀ i j, i ≤ j → j < m → (so_sort 0 m X i 3).toInt < (so_sort 0 m X j 3).toInt ∨ (so_sort 0 m X i 3).toInt = (so_sort 0 m X j 3).toInt ∧ (so_sort 0 m X i 4).toInt ≤ (so_sort 0 m X j 4).toInt := by
  have hk : ∀ p, p < m → ky_ok (so_sort 0 m X p) := fun p hp => by
    obtain ⟨q, hq, e⟩ := so_sort_mem (X := X) hp
    rw [e]
    exact h q hq
  intro i j hij hj
  have hl := so_sort_le 0 m X (j - i) i (by omega)
  rw [show i + (j - i) = j by omega, Nat.zero_add, Nat.zero_add, rw_lt_no] at hl
  obtain ⟨a1, a2, a3⟩ := hk i (by omega)
  obtain ⟨b1, b2, b3⟩ := hk j hj
  rw [a1, a2, a3, b1, b2, b3] at hl
  omega
theorem ky_c3 (c sd : Int32) (l : List bg_T) (L : Nat → rw_T) : (nw_ls 0 l.length (so_map 0 l.length (fun r f => so_key c sd (l.getD r (0, 0, 0)) f) L)).map rw_c3 = l := by
  apply List.ext_getElem?
  intro i
  rw [List.getElem?_map]
  by_cases h : i < l.length
  · rw [nw_ls_get _ h, Nat.zero_add, so_map_in h, Option.map_some, List.getD_eq_getElem?_getD, List.getElem?_eq_getElem h]
    rfl
  · rw [List.getElem?_eq_none (by rw [nw_ls_len]; omega), List.getElem?_eq_none (by omega)]
    rfl
theorem nw_ls0 {α β : Type} (m : Nat) (M : Nat → α) (g : α → β) : (nw_ls 0 m M).map g = (List.range m).map (fun p => g (M p)) := by
  unfold nw_ls
  rw [List.map_map]
  apply List.map_congr_left
  intro p _
  show g (M (0 + p)) = g (M p)
  rw [Nat.zero_add]
/-- one lot of rows, laid by a column and sorted -/
theorem ky_one (g : Int32) (l0 : List bg_T) (L : Nat → rw_T) : (∀ p, p < l0.length → so_sort 0 l0.length (so_map 0 l0.length (fun r f => so_key g 1 (l0.getD r (0, 0, 0)) f) L) p 3 = bg_col g (rw_c3 (so_sort 0 l0.length (so_map 0 l0.length (fun r f => so_key g 1 (l0.getD r (0, 0, 0)) f) L) p))) ∧ (∀ i j, i ≤ j → j < l0.length → (so_sort 0 l0.length (so_map 0 l0.length (fun r f => so_key g 1 (l0.getD r (0, 0, 0)) f) L) i 3).toInt < (so_sort 0 l0.length (so_map 0 l0.length (fun r f => so_key g 1 (l0.getD r (0, 0, 0)) f) L) j 3).toInt ∨ (so_sort 0 l0.length (so_map 0 l0.length (fun r f => so_key g 1 (l0.getD r (0, 0, 0)) f) L) i 3).toInt = (so_sort 0 l0.length (so_map 0 l0.length (fun r f => so_key g 1 (l0.getD r (0, 0, 0)) f) L) j 3).toInt ∧ (so_sort 0 l0.length (so_map 0 l0.length (fun r f => so_key g 1 (l0.getD r (0, 0, 0)) f) L) i 4).toInt ≤ (so_sort 0 l0.length (so_map 0 l0.length (fun r f => so_key g 1 (l0.getD r (0, 0, 0)) f) L) j 4).toInt) ∧ ((List.range l0.length).map (fun p => rw_c3 (so_sort 0 l0.length (so_map 0 l0.length (fun r f => so_key g 1 (l0.getD r (0, 0, 0)) f) L) p))).Perm l0 := by
  refine ⟨fun p hp => ?_, ky_sorted (fun p hp => ?_), ?_⟩
  · obtain ⟨q, hq, e⟩ := so_sort_mem (X := so_map 0 l0.length (fun r f => so_key g 1 (l0.getD r (0, 0, 0)) f) L) hp
    rw [e, so_map_in hq]
    rfl
  · rw [so_map_in hp]
    exact ⟨rfl, rfl, rfl⟩
  · have := (so_sort_sp 0 l0.length (so_map 0 l0.length (fun r f => so_key g 1 (l0.getD r (0, 0, 0)) f) L)).1.1.map rw_c3
    rw [ky_c3, nw_ls0] at this
    exact this
theorem kl_congr {M N : Nat → rw_T} {m : Nat} (h : ∀ p, p < m → N p 3 = M p 3) {p : Nat} (hp : p < m) : kl_last N m p = kl_last M m p := by
  unfold kl_last
  by_cases e : p + 1 = m
  · rw [decide_eq_true (Or.inl e), decide_eq_true (Or.inl e)]
  · rw [h p hp, h (p + 1) (by omega)]
theorem ga_rows {M : Nat → rw_T} {a : Int32} {m : Nat} (hm : m ≤ 76) (hs : ∀ i j, i ≤ j → j < m → (M i 3).toInt ≤ (M j 3).toInt) : (nw_ls 0 (nw_mk (kl_last M m) m).length (nw_sqs rw_wb 0 m (so_k m) (so_bk 0 m (kl_F (so_map 0 m (ga_F M a) M) m) (so_map 0 m (ga_F M a) M)))).map rw_c3 = (nw_mk (kl_last M m) m).map (fun p => ((ga_a M a (p + 1)).2.1, (ga_a M a (p + 1)).2.2.1, nI (ga_a M a (p + 1)).2.2.2)) := by
  have hN : ∀ p, p < m → so_map 0 m (ga_F M a) M p 3 = M p 3 := fun p hp => by
    rw [so_map_in hp]
    rfl
  have hin : ∀ p, p < m → kl_last M m p = true → so_bk 0 m (kl_F (so_map 0 m (ga_F M a) M) m) (so_map 0 m (ga_F M a) M) p = ga_F M a p (M p) := fun p hp hl => by
    rw [so_bk_in (Nat.zero_le _) hp, kl_F, if_pos (by rw [kl_congr hN hp]; exact hl), so_map_in hp]
  rw [so_squeezed (live := kl_last M m) (fun p hp hl => ?_) (fun p hp hl => ?_), List.map_map]
  · apply List.map_congr_left
    intro p hp
    obtain ⟨h1, h2⟩ := nw_mk_mem.mp hp
    show rw_c3 (so_bk 0 m _ _ p) = _
    rw [hin p h1 h2]
    rfl
  · rw [hin p hp hl, ga_F, ga_rank hs p hp]
    exact rw_keep_wb (nw_mk_le _ p) (by omega) _
  · rw [so_bk_in (Nat.zero_le _) hp, kl_F, if_neg (by rw [kl_congr hN hp, hl]; decide)]
    exact rw_dead_disc _
set_option maxRecDepth 100000 in
theorem c_totalUp (l : Launch) {n : Nat} {h : pm_H} {L : Nat → rw_T} {ts : List Int32} (H : so_L n h L ts) (hn : 111 < n) (O : h 94 = pm_O cOps [.ref 15]) {b len : Nat} {l0 : List bg_T} (B : bg_at n h b len l0) (hb : b + 3 < 15 ∨ 96 < b) (g a : Int32) : bM0 l yX2_totalUp cX2_totalUp 6 none 4 [.ref 94, .ref b, .int g, .int a] n h (fun r h' => r = none ∧ ∃ l1, gp_ok g a l0 l1 ∧ l1.length ≤ l0.length ∧ op_P n h b len ts h' l1 (tr_sort 0 l0.length ++ (tr_sc 0 l0.length ++ (tr_bk l0.length l0.length ++ tr_sqs 0 l0.length (so_k l0.length))))) := by
  refine pm_enter rfl (Nat.le_of_ble_eq_true rfl) (fun G K Z => ?_)
  have hlen : l0.length ≤ 24 := Nat.le_trans B.2.1 B.2.2.1
  obtain ⟨ix0, R0, HA0, hi0, hL0⟩ := id H
  refine pm_aload_n K dX2_totalUp_0 (q := 1) rfl rfl rfl ?_
  refine pm_get K inX2 rfl (k := 0) (by decide) wlX2_9 rfl (by omega) O rfl dX2_totalUp_1 (q := 4) rfl ?_
  refine pm_aload_n K dX2_totalUp_4 (q := 5) rfl rfl rfl ?_
  refine pm_ic0 K dX2_totalUp_5 (q := 6) rfl ?_
  refine pm_iload_n K dX2_totalUp_6 (q := 7) rfl rfl rfl ?_
  refine pm_ic1 K dX2_totalUp_7 (q := 8) rfl ?_
  refine pm_callV0 K gw_ok wcX2_67 (c_layByKey l H B (by omega) (p0 := 0) (by omega) g 1) rfl (by omega) HA0.2.1 rfl rfl (Nat.le_of_ble_eq_true rfl) (by decide) dX2_totalUp_8 (q := 11) rfl (fun r1 h1 hp => ?_)
  obtain ⟨rfl, HL1, F1⟩ := hp
  rw [Nat.zero_add]
  obtain ⟨ix1, R1, HA1, hi1, hL1⟩ := id HL1
  refine pm_istore K dX2_totalUp_11 (q := 13) rfl (by decide) rfl ?_
  refine pm_aload_n K dX2_totalUp_13 (q := 14) rfl rfl rfl ?_
  refine pm_get K inX2 rfl (k := 0) (by decide) wlX2_9 rfl (by omega) ((F1 94 (by omega)).trans O) rfl dX2_totalUp_14 (q := 17) rfl ?_
  refine pm_ic0 K dX2_totalUp_17 (q := 18) rfl ?_
  refine pm_iload K dX2_totalUp_18 (q := 20) rfl rfl ?_
  refine pm_callV0 K gw_ok wcX2_21 (c_sort l HL1 (b0 := 0) (m0 := l0.length) (by omega)) rfl (by omega) HA1.2.1 rfl rfl (Nat.le_of_ble_eq_true rfl) (by decide) dX2_totalUp_20 (q := 23) rfl (fun r2 h2 hp => ?_)
  obtain ⟨rfl, HL2, F2⟩ := hp
  have F12 := F1.tr F2
  obtain ⟨hk, hs, hpm⟩ := ky_one g l0 L
  have hs3 := fun i j a1 a2 => (hs i j a1 a2).elim Int.le_of_lt (fun z => Int.le_of_eq z.1)
  generalize so_sort 0 l0.length (so_map 0 l0.length (fun r f => so_key g 1 (l0.getD r (0, 0, 0)) f) L) = M at HL2 hk hs hs3 hpm
  refine pm_aload_n K dX2_totalUp_23 (q := 24) rfl rfl rfl ?_
  refine pm_iload K dX2_totalUp_24 (q := 26) rfl rfl ?_
  refine pm_iload_n K dX2_totalUp_26 (q := 27) rfl rfl rfl ?_
  refine pm_callV0 K gw_ok wcX2_71 (c_addUp l HL2 hn ((F12 94 (by omega)).trans O) (m := l0.length) (by omega) a) rfl (by omega) ((F12 94 (by omega)).trans O) rfl rfl (Nat.le_of_ble_eq_true rfl) (by decide) dX2_totalUp_27 (q := 30) rfl (fun r3 h3 hp => ?_)
  obtain ⟨rfl, HL3, F3⟩ := hp
  have F13 := F12.tr F3
  refine pm_istore K dX2_totalUp_30 (q := 32) rfl (by decide) rfl ?_
  refine pm_aload_n K dX2_totalUp_32 (q := 33) rfl rfl rfl ?_
  refine pm_iload K dX2_totalUp_33 (q := 35) rfl rfl ?_
  refine pm_callV0 K gw_ok wcX2_75 (c_keepLast l HL3 hn ((F13 94 (by omega)).trans O) (m := l0.length) (by omega)) rfl (by omega) ((F13 94 (by omega)).trans O) rfl rfl (Nat.le_of_ble_eq_true rfl) (by decide) dX2_totalUp_35 (q := 38) rfl (fun r4 h4 hp => ?_)
  obtain ⟨rfl, HL4, F4⟩ := hp
  have F14 := F13.tr F4
  obtain ⟨ix4, R4, HA4, hi4, hL4⟩ := id HL4
  refine pm_aload_n K dX2_totalUp_38 (q := 39) rfl rfl rfl ?_
  refine pm_get K inX2 rfl (k := 0) (by decide) wlX2_9 rfl (by omega) ((F14 94 (by omega)).trans O) rfl dX2_totalUp_39 (q := 42) rfl ?_
  refine pm_ic0 K dX2_totalUp_42 (q := 43) rfl ?_
  refine pm_iload K dX2_totalUp_43 (q := 45) rfl rfl ?_
  refine pm_callV0 K gw_ok wcX2_53 (c_squeeze l HL4 (b0 := 0) (m0 := l0.length) (by omega)) rfl (by omega) HA4.2.1 rfl rfl (Nat.le_of_ble_eq_true rfl) (by decide) dX2_totalUp_45 (q := 48) rfl (fun r5 h5 hp => ?_)
  obtain ⟨rfl, HL5, F5⟩ := hp
  have F15 := F14.tr F5
  have hml := nw_mk_le (kl_last M l0.length) l0.length
  rw [ga_all hs3]
  obtain ⟨ix5, R5, HA5, hi5, hL5⟩ := id HL5
  have B5 : bg_at n h5 b len l0 := B.fr (Nat.le_refl _) (fun q a c => F15 q (by omega))
  refine pm_aload_n K dX2_totalUp_48 (q := 49) rfl rfl rfl ?_
  refine pm_get K inX2 rfl (k := 0) (by decide) wlX2_9 rfl (by omega) ((F15 94 (by omega)).trans O) rfl dX2_totalUp_49 (q := 52) rfl ?_
  refine pm_aload_n K dX2_totalUp_52 (q := 53) rfl rfl rfl ?_
  refine pm_iload K dX2_totalUp_53 (q := 55) rfl rfl ?_
  refine pm_callV0 K gw_ok wcX2_25 (c_takeAway l HL5 B5 (by omega) (m := (nw_mk (kl_last M l0.length) l0.length).length) (by omega)) rfl (by omega) HA5.2.1 rfl rfl (Nat.le_of_ble_eq_true rfl) (by decide) dX2_totalUp_55 (q := 58) rfl (fun r6 h6 hp => ?_)
  obtain ⟨rfl, B6, F6⟩ := hp
  rw [ga_rows (by omega) hs3, List.take_of_length_le (by rw [List.length_map]; exact Nat.le_trans hml B.2.1)] at B6
  simp only [tk_app, List.append_assoc] at HL5
  exact pm_vret Z dX2_totalUp_58 rfl (Nat.le_of_ble_eq_true rfl) (Nat.le_of_ble_eq_true rfl) ⟨rfl, ⟨rfl, _, gp_rows hs3 hk hpm, by rw [List.length_map]; exact hml, ⟨_, HL5.mv (fun q hq => F6 q (by omega))⟩, B6, fun q a c => by rw [F6 q c, F15 q a]⟩⟩
set_option maxRecDepth 100000 in
theorem c_undropped (l : Launch) {n : Nat} {h : pm_H} {M : Nat → rw_T} {ts : List Int32} (H : so_L n h M ts) (hn : 111 < n) (O : h 94 = pm_O cOps [.ref 15]) {m : Nat} (hm : m ≤ 76) : bM0 l yX2_keepUndropped cX2_keepUndropped 8 (some (.int)) 2 [.ref 94, .int (nI m)] n h (fun r h' => r = some (.int (nI (nw_mk (ud_live M) m).length)) ∧ so_L n h' (so_map 0 m (op_mark (ud_live M)) M) (tk (ts ++ tr_sc 0 m)) ∧ so_fr h h') := by
  refine pm_enter rfl (Nat.le_of_ble_eq_true rfl) (fun G K Z => ?_)
  obtain ⟨ix, R0, HA0, hi, hL0⟩ := id H
  refine pm_ic0 K dX2_keepUndropped_0 (q := 1) rfl ?_
  refine pm_istore_n K dX2_keepUndropped_1 (q := 2) rfl rfl (by decide) rfl ?_
  refine pm_ic0 K dX2_keepUndropped_2 (q := 3) rfl ?_
  refine pm_istore_n K dX2_keepUndropped_3 (q := 4) rfl rfl (by decide) rfl ?_
  refine pm_ic0 K dX2_keepUndropped_4 (q := 5) rfl ?_
  refine pm_istore K dX2_keepUndropped_5 (q := 7) rfl (by decide) rfl ?_
  refine pm_ic0 K dX2_keepUndropped_7 (q := 8) rfl ?_
  refine pm_istore K dX2_keepUndropped_8 (q := 10) rfl (by decide) rfl ?_
  have loop : ∀ (k p : Nat) (h2 : pm_H) (R : Nat → rw_T) (x6 x7 : Option Value), p + k = m → so_at n h2 ix R (tk (ts ++ tr_sc 0 p)) → (∀ i, i < 76 → so_map 0 p (op_mark (ud_live M)) M i = R (ix i)) → so_fr h h2 → G 0 0 10 [some (.ref 94), some (.int (nI m)), some (.int (nI (nw_mk (ud_live M) p).length)), some (.int (b2i (ud_a M p).1)), some (.int (ud_a M p).2), some (.int (nI p)), x6, x7] [] n h2 := by
    intro k
    induction k with
    | zero =>
      intro p h2 R x6 x7 hk HA hL hF
      refine pm_iload K dX2_keepUndropped_10 (q := 12) rfl rfl ?_
      refine pm_iload_n K dX2_keepUndropped_12 (q := 13) rfl rfl rfl ?_
      refine pm_icmp_ge K dX2_keepUndropped_13 (tgt := 115) (q := 16) rfl rfl (fun _ => ?_) (fun z => absurd z (fun z => z (nI_le (by omega) (by omega))))
      have ep : p = m := by omega
      subst ep
      refine pm_iload_n K dX2_keepUndropped_115 (q := 116) rfl rfl rfl ?_
      exact pm_iret Z dX2_keepUndropped_116 rfl rfl (Nat.le_of_ble_eq_true rfl) (Nat.le_of_ble_eq_true rfl) ⟨rfl, ⟨rfl, ⟨ix, R, HA, hi, hL⟩, hF⟩⟩
    | succ k ih =>
      intro p h2 R x6 x7 hk HA hL hF
      refine pm_iload K dX2_keepUndropped_10 (q := 12) rfl rfl ?_
      refine pm_iload_n K dX2_keepUndropped_12 (q := 13) rfl rfl rfl ?_
      refine pm_icmp_ge K dX2_keepUndropped_13 (tgt := 115) (q := 16) rfl rfl (fun z => absurd z (nI_ge (by omega) (by omega))) (fun _ => ?_)
      have gx := HA.2.2.2.2.1 (p) (by omega)
      refine pm_aload_n K dX2_keepUndropped_16 (q := 17) rfl rfl rfl ?_
      refine pm_get K inX2 rfl (k := 0) (by decide) wlX2_9 rfl (by omega) ((hF 94 (by omega)).trans O) rfl dX2_keepUndropped_17 (q := 20) rfl ?_
      refine pm_iload K dX2_keepUndropped_20 (q := 22) rfl rfl ?_
      refine pm_callV0 K gw_ok wcX2_29 (c_read l HA (p := p) (by omega)) rfl (by omega) HA.2.1 rfl rfl (Nat.le_of_ble_eq_true rfl) (by decide) dX2_keepUndropped_22 (q := 25) rfl (fun r1 h1 hp => ?_)
      obtain ⟨rfl, H1, F1⟩ := hp
      have eM : R (ix p) = M p := by rw [← hL p (by omega), so_map_at0]
      refine pm_astore K dX2_keepUndropped_25 (q := 27) rfl (by decide) rfl ?_
      have hcl := fun f => so_cl2 (f := f) hi hL (show p < 76 by omega)
      refine pm_aload K dX2_keepUndropped_27 (q := 29) rfl rfl ?_
      refine pm_get K inX3 rfl (k := 4) (by decide) wlX2_86 rfl (by omega) (H1.row gx) rfl dX2_keepUndropped_29 (q := 32) rfl ?_
      refine pm_if_ne K dX2_keepUndropped_32 (tgt := 44) (q := 35) rfl rfl (fun hsd => ?_) (fun hsd => ?_)
      · have hsd2 : ¬ M p 4 = 0 := by rw [← eM]; exact hsd
        have ea : ud_a M (p + 1) = ud_a M p := by rw [ud_a, if_neg hsd2]
        cases hb : (ud_a M p).1
        · refine pm_iload_n K dX2_keepUndropped_44 (q := 45) rfl rfl rfl ?_
          refine pm_if_eq K dX2_keepUndropped_45 (tgt := 62) (q := 48) rfl rfl (fun _ => ?_) (fun z => absurd z (fun z => z rfl))
          refine pm_ic0 K dX2_keepUndropped_62 (q := 63) rfl ?_
          refine pm_istore K dX2_keepUndropped_63 (q := 65) rfl (by decide) rfl ?_
          refine pm_aload K dX2_keepUndropped_65 (q := 67) rfl rfl ?_
          refine pm_get K inX3 rfl (k := 4) (by decide) wlX2_86 rfl (by omega) (H1.row gx) rfl dX2_keepUndropped_67 (q := 70) rfl ?_
          refine pm_ic2 K dX2_keepUndropped_70 (q := 71) rfl ?_
          refine pm_icmp_eq K dX2_keepUndropped_71 (tgt := 79) (q := 74) rfl rfl (fun h2 => ?_) (fun h2 => ?_)
          · have hv : ud_live M p = true := by unfold ud_live; rw [← eM, h2]; simp
            refine pm_aload K dX2_keepUndropped_79 (q := 81) rfl rfl ?_
            refine pm_iload K dX2_keepUndropped_81 (q := 83) rfl rfl ?_
            refine pm_iload_n K dX2_keepUndropped_83 (q := 84) rfl rfl rfl ?_
            refine pm_callV0 K gw_ok wcX2_43 (c_keep l (by omega) (H1.row gx) (nI p) (nI (nw_mk (ud_live M) p).length)) rfl (by omega) (H1.row gx) rfl rfl (Nat.le_of_ble_eq_true rfl) (by decide) dX2_keepUndropped_84 (q := 87) rfl (fun r7 h7 hp => ?_)
            obtain ⟨rfl, rfl⟩ := hp
            refine pm_inc K dX2_keepUndropped_87 (q := 90) rfl rfl (by decide) rfl ?_
            refine pm_goto K dX2_keepUndropped_90 (q := 98) rfl ?_
            have H2 := H1.mod gx (f := rw_keep (nI p) (nI (nw_mk (ud_live M) p).length) (R (ix p))) (Or.inr rfl)
            refine pm_aload_n K dX2_keepUndropped_98 (q := 99) rfl rfl rfl ?_
            refine pm_get K inX2 rfl (k := 0) (by decide) wlX2_9 rfl (by omega) (pm_ne (by omega) ((F1 94 (by omega) (by omega)).trans ((hF 94 (by omega)).trans O))) rfl dX2_keepUndropped_99 (q := 102) rfl ?_
            refine pm_iload K dX2_keepUndropped_102 (q := 104) rfl rfl ?_
            refine pm_aload K dX2_keepUndropped_104 (q := 106) rfl rfl ?_
            refine pm_callV0 K gw_ok wcX2_49 (c_write l H2 (p := p) (by omega) gx) rfl (by omega) (pm_ne (by omega) H1.2.1) rfl rfl (Nat.le_of_ble_eq_true rfl) (by decide) dX2_keepUndropped_106 (q := 109) rfl (fun r9 h9 hp => ?_)
            obtain ⟨rfl, H3, F3⟩ := hp
            rw [so_id] at H3
            simp only [tk_app, List.append_assoc, List.cons_append, List.nil_append] at H3
            have hF9 : so_fr h h9 := fun q hq => by rw [F3 q (by omega), pm_ne (by omega) rfl, F1 q (by omega) (by omega), hF q hq]
            refine pm_inc K dX2_keepUndropped_109 (q := 112) rfl rfl (by decide) rfl ?_
            refine pm_goto K dX2_keepUndropped_112 (q := 10) rfl ?_
            have := ih (p + 1) h9 _ (some (.ref (18 + ix p))) (some (.int 0)) (by omega) (by rw [tr_sc_s, Nat.zero_add]; exact H3) (by rw [so_map_succ0, op_mark_t hv, ← eM]; exact hcl _) hF9
            rw [nw_mk_t hv, ea, hb] at this
            exact this
          · have h22 : ¬ M p 4 = 2 := by rw [← eM]; exact h2
            have hv : ud_live M p = true := by unfold ud_live; rw [ea, hb]; simp [h22]
            refine pm_iload K dX2_keepUndropped_74 (q := 76) rfl rfl ?_
            refine pm_if_ne K dX2_keepUndropped_76 (tgt := 93) (q := 79) rfl rfl (fun z => absurd z (fun z => z rfl)) (fun _ => ?_)
            refine pm_aload K dX2_keepUndropped_79 (q := 81) rfl rfl ?_
            refine pm_iload K dX2_keepUndropped_81 (q := 83) rfl rfl ?_
            refine pm_iload_n K dX2_keepUndropped_83 (q := 84) rfl rfl rfl ?_
            refine pm_callV0 K gw_ok wcX2_43 (c_keep l (by omega) (H1.row gx) (nI p) (nI (nw_mk (ud_live M) p).length)) rfl (by omega) (H1.row gx) rfl rfl (Nat.le_of_ble_eq_true rfl) (by decide) dX2_keepUndropped_84 (q := 87) rfl (fun r7 h7 hp => ?_)
            obtain ⟨rfl, rfl⟩ := hp
            refine pm_inc K dX2_keepUndropped_87 (q := 90) rfl rfl (by decide) rfl ?_
            refine pm_goto K dX2_keepUndropped_90 (q := 98) rfl ?_
            have H2 := H1.mod gx (f := rw_keep (nI p) (nI (nw_mk (ud_live M) p).length) (R (ix p))) (Or.inr rfl)
            refine pm_aload_n K dX2_keepUndropped_98 (q := 99) rfl rfl rfl ?_
            refine pm_get K inX2 rfl (k := 0) (by decide) wlX2_9 rfl (by omega) (pm_ne (by omega) ((F1 94 (by omega) (by omega)).trans ((hF 94 (by omega)).trans O))) rfl dX2_keepUndropped_99 (q := 102) rfl ?_
            refine pm_iload K dX2_keepUndropped_102 (q := 104) rfl rfl ?_
            refine pm_aload K dX2_keepUndropped_104 (q := 106) rfl rfl ?_
            refine pm_callV0 K gw_ok wcX2_49 (c_write l H2 (p := p) (by omega) gx) rfl (by omega) (pm_ne (by omega) H1.2.1) rfl rfl (Nat.le_of_ble_eq_true rfl) (by decide) dX2_keepUndropped_106 (q := 109) rfl (fun r9 h9 hp => ?_)
            obtain ⟨rfl, H3, F3⟩ := hp
            rw [so_id] at H3
            simp only [tk_app, List.append_assoc, List.cons_append, List.nil_append] at H3
            have hF9 : so_fr h h9 := fun q hq => by rw [F3 q (by omega), pm_ne (by omega) rfl, F1 q (by omega) (by omega), hF q hq]
            refine pm_inc K dX2_keepUndropped_109 (q := 112) rfl rfl (by decide) rfl ?_
            refine pm_goto K dX2_keepUndropped_112 (q := 10) rfl ?_
            have := ih (p + 1) h9 _ (some (.ref (18 + ix p))) (some (.int 0)) (by omega) (by rw [tr_sc_s, Nat.zero_add]; exact H3) (by rw [so_map_succ0, op_mark_t hv, ← eM]; exact hcl _) hF9
            rw [nw_mk_t hv, ea, hb] at this
            exact this
        · refine pm_iload_n K dX2_keepUndropped_44 (q := 45) rfl rfl rfl ?_
          refine pm_if_eq K dX2_keepUndropped_45 (tgt := 62) (q := 48) rfl rfl (fun z => absurd z (by decide)) (fun _ => ?_)
          refine pm_aload K dX2_keepUndropped_48 (q := 50) rfl rfl ?_
          refine pm_get K inX3 rfl (k := 3) (by decide) wlX2_79 rfl (by omega) (H1.row gx) rfl dX2_keepUndropped_50 (q := 53) rfl ?_
          refine pm_iload K dX2_keepUndropped_53 (q := 55) rfl rfl ?_
          refine pm_icmp_ne K dX2_keepUndropped_55 (tgt := 62) (q := 58) rfl rfl (fun hky => ?_) (fun hky => ?_)
          · refine pm_ic0 K dX2_keepUndropped_62 (q := 63) rfl ?_
            refine pm_istore K dX2_keepUndropped_63 (q := 65) rfl (by decide) rfl ?_
            have hky2 : ¬ M p 3 = (ud_a M p).2 := by rw [← eM]; exact hky
            refine pm_aload K dX2_keepUndropped_65 (q := 67) rfl rfl ?_
            refine pm_get K inX3 rfl (k := 4) (by decide) wlX2_86 rfl (by omega) (H1.row gx) rfl dX2_keepUndropped_67 (q := 70) rfl ?_
            refine pm_ic2 K dX2_keepUndropped_70 (q := 71) rfl ?_
            refine pm_icmp_eq K dX2_keepUndropped_71 (tgt := 79) (q := 74) rfl rfl (fun h2 => ?_) (fun h2 => ?_)
            · have hv : ud_live M p = true := by unfold ud_live; rw [← eM, h2]; simp
              refine pm_aload K dX2_keepUndropped_79 (q := 81) rfl rfl ?_
              refine pm_iload K dX2_keepUndropped_81 (q := 83) rfl rfl ?_
              refine pm_iload_n K dX2_keepUndropped_83 (q := 84) rfl rfl rfl ?_
              refine pm_callV0 K gw_ok wcX2_43 (c_keep l (by omega) (H1.row gx) (nI p) (nI (nw_mk (ud_live M) p).length)) rfl (by omega) (H1.row gx) rfl rfl (Nat.le_of_ble_eq_true rfl) (by decide) dX2_keepUndropped_84 (q := 87) rfl (fun r7 h7 hp => ?_)
              obtain ⟨rfl, rfl⟩ := hp
              refine pm_inc K dX2_keepUndropped_87 (q := 90) rfl rfl (by decide) rfl ?_
              refine pm_goto K dX2_keepUndropped_90 (q := 98) rfl ?_
              have H2 := H1.mod gx (f := rw_keep (nI p) (nI (nw_mk (ud_live M) p).length) (R (ix p))) (Or.inr rfl)
              refine pm_aload_n K dX2_keepUndropped_98 (q := 99) rfl rfl rfl ?_
              refine pm_get K inX2 rfl (k := 0) (by decide) wlX2_9 rfl (by omega) (pm_ne (by omega) ((F1 94 (by omega) (by omega)).trans ((hF 94 (by omega)).trans O))) rfl dX2_keepUndropped_99 (q := 102) rfl ?_
              refine pm_iload K dX2_keepUndropped_102 (q := 104) rfl rfl ?_
              refine pm_aload K dX2_keepUndropped_104 (q := 106) rfl rfl ?_
              refine pm_callV0 K gw_ok wcX2_49 (c_write l H2 (p := p) (by omega) gx) rfl (by omega) (pm_ne (by omega) H1.2.1) rfl rfl (Nat.le_of_ble_eq_true rfl) (by decide) dX2_keepUndropped_106 (q := 109) rfl (fun r9 h9 hp => ?_)
              obtain ⟨rfl, H3, F3⟩ := hp
              rw [so_id] at H3
              simp only [tk_app, List.append_assoc, List.cons_append, List.nil_append] at H3
              have hF9 : so_fr h h9 := fun q hq => by rw [F3 q (by omega), pm_ne (by omega) rfl, F1 q (by omega) (by omega), hF q hq]
              refine pm_inc K dX2_keepUndropped_109 (q := 112) rfl rfl (by decide) rfl ?_
              refine pm_goto K dX2_keepUndropped_112 (q := 10) rfl ?_
              have := ih (p + 1) h9 _ (some (.ref (18 + ix p))) (some (.int 0)) (by omega) (by rw [tr_sc_s, Nat.zero_add]; exact H3) (by rw [so_map_succ0, op_mark_t hv, ← eM]; exact hcl _) hF9
              rw [nw_mk_t hv, ea, hb] at this
              exact this
            · have h22 : ¬ M p 4 = 2 := by rw [← eM]; exact h2
              have hv : ud_live M p = true := by unfold ud_live; rw [ea, hb]; simp [h22, hky2]
              refine pm_iload K dX2_keepUndropped_74 (q := 76) rfl rfl ?_
              refine pm_if_ne K dX2_keepUndropped_76 (tgt := 93) (q := 79) rfl rfl (fun z => absurd z (fun z => z rfl)) (fun _ => ?_)
              refine pm_aload K dX2_keepUndropped_79 (q := 81) rfl rfl ?_
              refine pm_iload K dX2_keepUndropped_81 (q := 83) rfl rfl ?_
              refine pm_iload_n K dX2_keepUndropped_83 (q := 84) rfl rfl rfl ?_
              refine pm_callV0 K gw_ok wcX2_43 (c_keep l (by omega) (H1.row gx) (nI p) (nI (nw_mk (ud_live M) p).length)) rfl (by omega) (H1.row gx) rfl rfl (Nat.le_of_ble_eq_true rfl) (by decide) dX2_keepUndropped_84 (q := 87) rfl (fun r7 h7 hp => ?_)
              obtain ⟨rfl, rfl⟩ := hp
              refine pm_inc K dX2_keepUndropped_87 (q := 90) rfl rfl (by decide) rfl ?_
              refine pm_goto K dX2_keepUndropped_90 (q := 98) rfl ?_
              have H2 := H1.mod gx (f := rw_keep (nI p) (nI (nw_mk (ud_live M) p).length) (R (ix p))) (Or.inr rfl)
              refine pm_aload_n K dX2_keepUndropped_98 (q := 99) rfl rfl rfl ?_
              refine pm_get K inX2 rfl (k := 0) (by decide) wlX2_9 rfl (by omega) (pm_ne (by omega) ((F1 94 (by omega) (by omega)).trans ((hF 94 (by omega)).trans O))) rfl dX2_keepUndropped_99 (q := 102) rfl ?_
              refine pm_iload K dX2_keepUndropped_102 (q := 104) rfl rfl ?_
              refine pm_aload K dX2_keepUndropped_104 (q := 106) rfl rfl ?_
              refine pm_callV0 K gw_ok wcX2_49 (c_write l H2 (p := p) (by omega) gx) rfl (by omega) (pm_ne (by omega) H1.2.1) rfl rfl (Nat.le_of_ble_eq_true rfl) (by decide) dX2_keepUndropped_106 (q := 109) rfl (fun r9 h9 hp => ?_)
              obtain ⟨rfl, H3, F3⟩ := hp
              rw [so_id] at H3
              simp only [tk_app, List.append_assoc, List.cons_append, List.nil_append] at H3
              have hF9 : so_fr h h9 := fun q hq => by rw [F3 q (by omega), pm_ne (by omega) rfl, F1 q (by omega) (by omega), hF q hq]
              refine pm_inc K dX2_keepUndropped_109 (q := 112) rfl rfl (by decide) rfl ?_
              refine pm_goto K dX2_keepUndropped_112 (q := 10) rfl ?_
              have := ih (p + 1) h9 _ (some (.ref (18 + ix p))) (some (.int 0)) (by omega) (by rw [tr_sc_s, Nat.zero_add]; exact H3) (by rw [so_map_succ0, op_mark_t hv, ← eM]; exact hcl _) hF9
              rw [nw_mk_t hv, ea, hb] at this
              exact this
          · refine pm_ic1 K dX2_keepUndropped_58 (q := 59) rfl ?_
            refine pm_goto K dX2_keepUndropped_59 (q := 63) rfl ?_
            refine pm_istore K dX2_keepUndropped_63 (q := 65) rfl (by decide) rfl ?_
            have hky2 : M p 3 = (ud_a M p).2 := by rw [← eM]; exact hky
            refine pm_aload K dX2_keepUndropped_65 (q := 67) rfl rfl ?_
            refine pm_get K inX3 rfl (k := 4) (by decide) wlX2_86 rfl (by omega) (H1.row gx) rfl dX2_keepUndropped_67 (q := 70) rfl ?_
            refine pm_ic2 K dX2_keepUndropped_70 (q := 71) rfl ?_
            refine pm_icmp_eq K dX2_keepUndropped_71 (tgt := 79) (q := 74) rfl rfl (fun h2 => ?_) (fun h2 => ?_)
            · have hv : ud_live M p = true := by unfold ud_live; rw [← eM, h2]; simp
              refine pm_aload K dX2_keepUndropped_79 (q := 81) rfl rfl ?_
              refine pm_iload K dX2_keepUndropped_81 (q := 83) rfl rfl ?_
              refine pm_iload_n K dX2_keepUndropped_83 (q := 84) rfl rfl rfl ?_
              refine pm_callV0 K gw_ok wcX2_43 (c_keep l (by omega) (H1.row gx) (nI p) (nI (nw_mk (ud_live M) p).length)) rfl (by omega) (H1.row gx) rfl rfl (Nat.le_of_ble_eq_true rfl) (by decide) dX2_keepUndropped_84 (q := 87) rfl (fun r7 h7 hp => ?_)
              obtain ⟨rfl, rfl⟩ := hp
              refine pm_inc K dX2_keepUndropped_87 (q := 90) rfl rfl (by decide) rfl ?_
              refine pm_goto K dX2_keepUndropped_90 (q := 98) rfl ?_
              have H2 := H1.mod gx (f := rw_keep (nI p) (nI (nw_mk (ud_live M) p).length) (R (ix p))) (Or.inr rfl)
              refine pm_aload_n K dX2_keepUndropped_98 (q := 99) rfl rfl rfl ?_
              refine pm_get K inX2 rfl (k := 0) (by decide) wlX2_9 rfl (by omega) (pm_ne (by omega) ((F1 94 (by omega) (by omega)).trans ((hF 94 (by omega)).trans O))) rfl dX2_keepUndropped_99 (q := 102) rfl ?_
              refine pm_iload K dX2_keepUndropped_102 (q := 104) rfl rfl ?_
              refine pm_aload K dX2_keepUndropped_104 (q := 106) rfl rfl ?_
              refine pm_callV0 K gw_ok wcX2_49 (c_write l H2 (p := p) (by omega) gx) rfl (by omega) (pm_ne (by omega) H1.2.1) rfl rfl (Nat.le_of_ble_eq_true rfl) (by decide) dX2_keepUndropped_106 (q := 109) rfl (fun r9 h9 hp => ?_)
              obtain ⟨rfl, H3, F3⟩ := hp
              rw [so_id] at H3
              simp only [tk_app, List.append_assoc, List.cons_append, List.nil_append] at H3
              have hF9 : so_fr h h9 := fun q hq => by rw [F3 q (by omega), pm_ne (by omega) rfl, F1 q (by omega) (by omega), hF q hq]
              refine pm_inc K dX2_keepUndropped_109 (q := 112) rfl rfl (by decide) rfl ?_
              refine pm_goto K dX2_keepUndropped_112 (q := 10) rfl ?_
              have := ih (p + 1) h9 _ (some (.ref (18 + ix p))) (some (.int 1)) (by omega) (by rw [tr_sc_s, Nat.zero_add]; exact H3) (by rw [so_map_succ0, op_mark_t hv, ← eM]; exact hcl _) hF9
              rw [nw_mk_t hv, ea, hb] at this
              exact this
            · have h22 : ¬ M p 4 = 2 := by rw [← eM]; exact h2
              have hv : ud_live M p = false := by unfold ud_live; rw [ea, hb]; simp [h22, hky2]
              refine pm_iload K dX2_keepUndropped_74 (q := 76) rfl rfl ?_
              refine pm_if_ne K dX2_keepUndropped_76 (tgt := 93) (q := 79) rfl rfl (fun _ => ?_) (fun z => absurd z (fun z => absurd z (by decide)))
              refine pm_aload K dX2_keepUndropped_93 (q := 95) rfl rfl ?_
              refine pm_callV0 K gw_ok wcX2_46 (c_discard l (by omega) (H1.row gx)) rfl (by omega) (H1.row gx) rfl rfl (Nat.le_of_ble_eq_true rfl) (by decide) dX2_keepUndropped_95 (q := 98) rfl (fun r7 h7 hp => ?_)
              obtain ⟨rfl, rfl⟩ := hp
              have H2 := H1.mod gx (f := rw_disc (R (ix p))) (Or.inl rfl)
              refine pm_aload_n K dX2_keepUndropped_98 (q := 99) rfl rfl rfl ?_
              refine pm_get K inX2 rfl (k := 0) (by decide) wlX2_9 rfl (by omega) (pm_ne (by omega) ((F1 94 (by omega) (by omega)).trans ((hF 94 (by omega)).trans O))) rfl dX2_keepUndropped_99 (q := 102) rfl ?_
              refine pm_iload K dX2_keepUndropped_102 (q := 104) rfl rfl ?_
              refine pm_aload K dX2_keepUndropped_104 (q := 106) rfl rfl ?_
              refine pm_callV0 K gw_ok wcX2_49 (c_write l H2 (p := p) (by omega) gx) rfl (by omega) (pm_ne (by omega) H1.2.1) rfl rfl (Nat.le_of_ble_eq_true rfl) (by decide) dX2_keepUndropped_106 (q := 109) rfl (fun r9 h9 hp => ?_)
              obtain ⟨rfl, H3, F3⟩ := hp
              rw [so_id] at H3
              simp only [tk_app, List.append_assoc, List.cons_append, List.nil_append] at H3
              have hF9 : so_fr h h9 := fun q hq => by rw [F3 q (by omega), pm_ne (by omega) rfl, F1 q (by omega) (by omega), hF q hq]
              refine pm_inc K dX2_keepUndropped_109 (q := 112) rfl rfl (by decide) rfl ?_
              refine pm_goto K dX2_keepUndropped_112 (q := 10) rfl ?_
              have := ih (p + 1) h9 _ (some (.ref (18 + ix p))) (some (.int 1)) (by omega) (by rw [tr_sc_s, Nat.zero_add]; exact H3) (by rw [so_map_succ0, op_mark_f hv, ← eM]; exact hcl _) hF9
              rw [nw_mk_f hv, ea, hb] at this
              exact this
      · have hsd2 : M p 4 = 0 := by rw [← eM]; exact hsd
        have ea : ud_a M (p + 1) = (true, R (ix p) 3) := by rw [ud_a, if_pos hsd2, eM]
        have hv : ud_live M p = false := by unfold ud_live; rw [ea, hsd2, ← eM]; simp
        refine pm_ic1 K dX2_keepUndropped_35 (q := 36) rfl ?_
        refine pm_istore_n K dX2_keepUndropped_36 (q := 37) rfl rfl (by decide) rfl ?_
        refine pm_aload K dX2_keepUndropped_37 (q := 39) rfl rfl ?_
        refine pm_get K inX3 rfl (k := 3) (by decide) wlX2_79 rfl (by omega) (H1.row gx) rfl dX2_keepUndropped_39 (q := 42) rfl ?_
        refine pm_istore K dX2_keepUndropped_42 (q := 44) rfl (by decide) rfl ?_
        refine pm_iload_n K dX2_keepUndropped_44 (q := 45) rfl rfl rfl ?_
        refine pm_if_eq K dX2_keepUndropped_45 (tgt := 62) (q := 48) rfl rfl (fun z => absurd z (by decide)) (fun _ => ?_)
        refine pm_aload K dX2_keepUndropped_48 (q := 50) rfl rfl ?_
        refine pm_get K inX3 rfl (k := 3) (by decide) wlX2_79 rfl (by omega) (H1.row gx) rfl dX2_keepUndropped_50 (q := 53) rfl ?_
        refine pm_iload K dX2_keepUndropped_53 (q := 55) rfl rfl ?_
        refine pm_icmp_ne K dX2_keepUndropped_55 (tgt := 62) (q := 58) rfl rfl (fun z => absurd z (fun z => z rfl)) (fun _ => ?_)
        refine pm_ic1 K dX2_keepUndropped_58 (q := 59) rfl ?_
        refine pm_goto K dX2_keepUndropped_59 (q := 63) rfl ?_
        refine pm_istore K dX2_keepUndropped_63 (q := 65) rfl (by decide) rfl ?_
        refine pm_aload K dX2_keepUndropped_65 (q := 67) rfl rfl ?_
        refine pm_get K inX3 rfl (k := 4) (by decide) wlX2_86 rfl (by omega) (H1.row gx) rfl dX2_keepUndropped_67 (q := 70) rfl ?_
        refine pm_ic2 K dX2_keepUndropped_70 (q := 71) rfl ?_
        refine pm_icmp_eq K dX2_keepUndropped_71 (tgt := 79) (q := 74) rfl rfl (fun z => absurd z (by rw [hsd]; decide)) (fun _ => ?_)
        refine pm_iload K dX2_keepUndropped_74 (q := 76) rfl rfl ?_
        refine pm_if_ne K dX2_keepUndropped_76 (tgt := 93) (q := 79) rfl rfl (fun _ => ?_) (fun z => absurd z (fun z => absurd z (by decide)))
        refine pm_aload K dX2_keepUndropped_93 (q := 95) rfl rfl ?_
        refine pm_callV0 K gw_ok wcX2_46 (c_discard l (by omega) (H1.row gx)) rfl (by omega) (H1.row gx) rfl rfl (Nat.le_of_ble_eq_true rfl) (by decide) dX2_keepUndropped_95 (q := 98) rfl (fun r7 h7 hp => ?_)
        obtain ⟨rfl, rfl⟩ := hp
        have H2 := H1.mod gx (f := rw_disc (R (ix p))) (Or.inl rfl)
        refine pm_aload_n K dX2_keepUndropped_98 (q := 99) rfl rfl rfl ?_
        refine pm_get K inX2 rfl (k := 0) (by decide) wlX2_9 rfl (by omega) (pm_ne (by omega) ((F1 94 (by omega) (by omega)).trans ((hF 94 (by omega)).trans O))) rfl dX2_keepUndropped_99 (q := 102) rfl ?_
        refine pm_iload K dX2_keepUndropped_102 (q := 104) rfl rfl ?_
        refine pm_aload K dX2_keepUndropped_104 (q := 106) rfl rfl ?_
        refine pm_callV0 K gw_ok wcX2_49 (c_write l H2 (p := p) (by omega) gx) rfl (by omega) (pm_ne (by omega) H1.2.1) rfl rfl (Nat.le_of_ble_eq_true rfl) (by decide) dX2_keepUndropped_106 (q := 109) rfl (fun r9 h9 hp => ?_)
        obtain ⟨rfl, H3, F3⟩ := hp
        rw [so_id] at H3
        simp only [tk_app, List.append_assoc, List.cons_append, List.nil_append] at H3
        have hF9 : so_fr h h9 := fun q hq => by rw [F3 q (by omega), pm_ne (by omega) rfl, F1 q (by omega) (by omega), hF q hq]
        refine pm_inc K dX2_keepUndropped_109 (q := 112) rfl rfl (by decide) rfl ?_
        refine pm_goto K dX2_keepUndropped_112 (q := 10) rfl ?_
        have := ih (p + 1) h9 _ (some (.ref (18 + ix p))) (some (.int 1)) (by omega) (by rw [tr_sc_s, Nat.zero_add]; exact H3) (by rw [so_map_succ0, op_mark_f hv, ← eM]; exact hcl _) hF9
        rw [nw_mk_f hv, ea] at this
        exact this
  have := loop m 0 h R0 none none (by omega) (by rw [tr_sc, List.append_nil, so_at.tke HA0]; exact HA0) (by rw [so_map_0]; exact hL0) so_fr.rf
  exact this
end
section
/-! The operators: a batch. -/
def bt_batch (lt lp ld : List bg_T) : List bg_T := lt.filter (fun t => !(ld.any (fun d => decide (d.1 = t.1)))) ++ lp
def bt_PP (C : List (bg_T × Int32)) (u : bg_T × Int32) : Bool := decide (u.2 = 2) || (decide (u.2 = 1) && !(C.any (fun v => decide (v.2 = 0 ∧ v.1.1 = u.1.1))))
theorem bt_pairs {M : Nat → rw_T} {n : Nat} {C : List (bg_T × Int32)} (hC : ((nw_ls 0 n M).map (fun f => (rw_c3 f, f 4))).Perm C) (h3 : ∀ p, p < n → M p 3 = (rw_c3 (M p)).1) (hl : ∀ p, p < n → ud_live M p = ud_P (nw_ls 0 n M) (M p)) : ((nw_mk (ud_live M) n).map (fun p => rw_c3 (M p))).Perm ((C.filter (bt_PP C)).map (fun u => u.1)) := by
  have hany : ∀ p, p < n → (nw_ls 0 n M).any (fun g => decide (g 4 = 0 ∧ g 3 = M p 3)) = C.any (fun v => decide (v.2 = 0 ∧ v.1.1 = (rw_c3 (M p)).1)) := fun p hp => by
    rw [Bool.eq_iff_iff, List.any_eq_true, List.any_eq_true]
    constructor
    · rintro ⟨f, hf, h⟩
      obtain ⟨q, hq, rfl⟩ := nw_ls_mem.mp hf
      have h := of_decide_eq_true h
      rw [Nat.zero_add] at h hf
      refine ⟨(rw_c3 (M q), M q 4), hC.mem_iff.mp (List.mem_map.mpr ⟨_, hf, rfl⟩), decide_eq_true ⟨h.1, ?_⟩⟩
      rw [← h3 q hq, ← h3 p hp]
      exact h.2
    · rintro ⟨u, hu, h⟩
      obtain ⟨f, hf, rfl⟩ := List.mem_map.mp (hC.mem_iff.mpr hu)
      refine ⟨f, hf, decide_eq_true ?_⟩
      obtain ⟨q, hq, rfl⟩ := nw_ls_mem.mp hf
      have h := of_decide_eq_true h
      rw [Nat.zero_add] at h ⊢
      rw [h3 q hq, h3 p hp]
      exact h
  have e1 : (nw_mk (ud_live M) n).map (fun p => rw_c3 (M p)) = ((((List.range n).map (fun p => (rw_c3 (M p), M p 4))).filter (bt_PP C)).map (fun u => u.1)) := by
    have e2 : nw_mk (ud_live M) n = nw_mk (fun p => bt_PP C (rw_c3 (M p), M p 4)) n := List.filter_congr (fun p hp => by
      have hp := List.mem_range.mp hp
      rw [hl p hp]
      unfold ud_P bt_PP
      rw [hany p hp])
    rw [e2, ← mk_filter (bt_PP C) (fun p => (rw_c3 (M p), M p 4)) n, List.map_map]
    rfl
  rw [e1]
  rw [nw_ls0] at hC
  exact (hC.filter _).map _
theorem bt_af (l : List bg_T) : (l.any fun _ => false) = false := by
  induction l with
  | nil => rfl
  | cons a l ih => rw [List.any_cons, ih]; rfl
theorem bt_filter (lt lp ld : List bg_T) : ((((lt.map (fun t => (t, (1 : Int32)))) ++ (lp.map (fun t => (t, (2 : Int32))) ++ ld.map (fun t => (t, (0 : Int32))))).filter (bt_PP ((lt.map (fun t => (t, (1 : Int32)))) ++ (lp.map (fun t => (t, (2 : Int32))) ++ ld.map (fun t => (t, (0 : Int32))))))).map (fun u => u.1)) = bt_batch lt lp ld := by
  have hany : ∀ t : bg_T, ((lt.map (fun t => (t, (1 : Int32)))) ++ (lp.map (fun t => (t, (2 : Int32))) ++ ld.map (fun t => (t, (0 : Int32))))).any (fun v => decide (v.2 = 0 ∧ v.1.1 = t.1)) = ld.any (fun d => decide (d.1 = t.1)) := fun t => by
    simp [List.any_append, List.any_map, Function.comp_def, bt_af]
  generalize hD : ((lt.map (fun t => (t, (1 : Int32)))) ++ (lp.map (fun t => (t, (2 : Int32))) ++ ld.map (fun t => (t, (0 : Int32))))) = D at hany
  have p1 : ∀ t : bg_T, bt_PP D (t, 1) = !(ld.any (fun d => decide (d.1 = t.1))) := fun t => by
    unfold bt_PP
    rw [hany]
    simp
  have p2 : ∀ t : bg_T, bt_PP D (t, 2) = true := fun t => by
    unfold bt_PP
    simp
  have p0 : ∀ t : bg_T, bt_PP D (t, 0) = false := fun t => by
    unfold bt_PP
    simp
  rw [← hD, List.filter_append, List.filter_append, hD, List.filter_map, List.filter_map, List.filter_map, List.map_append, List.map_append, List.map_map, List.map_map, List.map_map]
  unfold bt_batch
  have q1 : (bt_PP D ∘ fun t : bg_T => (t, (1 : Int32))) = fun t => !(ld.any (fun d => decide (d.1 = t.1))) := funext p1
  have q2 : (bt_PP D ∘ fun t : bg_T => (t, (2 : Int32))) = fun _ => true := funext p2
  have q0 : (bt_PP D ∘ fun t : bg_T => (t, (0 : Int32))) = fun _ => false := funext p0
  have f1 : lp.filter (fun _ => true) = lp := List.filter_eq_self.mpr (fun _ _ => rfl)
  have f0 : ld.filter (fun _ => false) = [] := List.filter_eq_nil_iff.mpr (fun _ _ => by decide)
  rw [q1, q2, q0, f1, f0]
  simp [Function.comp_def]
theorem bt_lay (lt lp ld : List bg_T) (L : Nat → rw_T) (p : Nat) (hp : p < lt.length + lp.length + ld.length) : ∃ (t : bg_T) (sd : Int32) (f : rw_T), so_map (lt.length + lp.length) ld.length (fun r f => so_key 0 0 (ld.getD r (0, 0, 0)) f) (so_map lt.length lp.length (fun r f => so_key 0 2 (lp.getD r (0, 0, 0)) f) (so_map 0 lt.length (fun r f => so_key 0 1 (lt.getD r (0, 0, 0)) f) L)) p = so_key 0 sd t f ∧ ((lt.map (fun t => (t, (1 : Int32)))) ++ (lp.map (fun t => (t, (2 : Int32))) ++ ld.map (fun t => (t, (0 : Int32)))))[p]? = some (t, sd) ∧ (sd = 0 ∨ sd = 1 ∨ sd = 2) := by
  have hg : ∀ (l : List bg_T) (i : Nat), i < l.length → l[i]? = some (l.getD i (0, 0, 0)) := fun l i h => by
    rw [List.getD_eq_getElem?_getD, List.getElem?_eq_getElem h]
    rfl
  by_cases h1 : p < lt.length
  · refine ⟨lt.getD p (0, 0, 0), 1, L p, ?_, ?_, Or.inr (Or.inl rfl)⟩
    · unfold so_map
      rw [if_neg (by omega), if_neg (by omega), if_pos (by omega), Nat.sub_zero]
    · rw [List.getElem?_append_left (by rw [List.length_map]; exact h1), List.getElem?_map, hg lt p h1]
      rfl
  · by_cases h2 : p < lt.length + lp.length
    · refine ⟨lp.getD (p - lt.length) (0, 0, 0), 2, L p, ?_, ?_, Or.inr (Or.inr rfl)⟩
      · unfold so_map
        rw [if_neg (by omega), if_pos (by omega), if_neg (by omega)]
      · rw [List.getElem?_append_right (by rw [List.length_map]; omega), List.length_map, List.getElem?_append_left (by rw [List.length_map]; omega), List.getElem?_map, hg lp _ (by omega)]
        rfl
    · refine ⟨ld.getD (p - (lt.length + lp.length)) (0, 0, 0), 0, L p, ?_, ?_, Or.inl rfl⟩
      · unfold so_map
        rw [if_pos (by omega), if_neg (by omega), if_neg (by omega)]
      · rw [List.getElem?_append_right (by rw [List.length_map]; omega), List.length_map, List.getElem?_append_right (by rw [List.length_map]; omega), List.length_map, List.getElem?_map, show p - lt.length - lp.length = p - (lt.length + lp.length) by omega, hg ld _ (by omega)]
        rfl
theorem bt_perm (lt lp ld : List bg_T) (L : Nat → rw_T) : ((nw_mk (ud_live (so_sort 0 (lt.length + lp.length + ld.length) (so_map (lt.length + lp.length) ld.length (fun r f => so_key 0 0 (ld.getD r (0, 0, 0)) f) (so_map lt.length lp.length (fun r f => so_key 0 2 (lp.getD r (0, 0, 0)) f) (so_map 0 lt.length (fun r f => so_key 0 1 (lt.getD r (0, 0, 0)) f) L))))) (lt.length + lp.length + ld.length)).map (fun p => rw_c3 (so_sort 0 (lt.length + lp.length + ld.length) (so_map (lt.length + lp.length) ld.length (fun r f => so_key 0 0 (ld.getD r (0, 0, 0)) f) (so_map lt.length lp.length (fun r f => so_key 0 2 (lp.getD r (0, 0, 0)) f) (so_map 0 lt.length (fun r f => so_key 0 1 (lt.getD r (0, 0, 0)) f) L))) p))).Perm (bt_batch lt lp ld) := by
  have hlay := bt_lay lt lp ld L
  generalize so_map (lt.length + lp.length) ld.length (fun r f => so_key 0 0 (ld.getD r (0, 0, 0)) f) (so_map lt.length lp.length (fun r f => so_key 0 2 (lp.getD r (0, 0, 0)) f) (so_map 0 lt.length (fun r f => so_key 0 1 (lt.getD r (0, 0, 0)) f) L)) = X at hlay
  rw [← bt_filter]
  have hX : (nw_ls 0 (lt.length + lp.length + ld.length) X).map (fun f => (rw_c3 f, f 4)) = (lt.map (fun t => (t, (1 : Int32)))) ++ (lp.map (fun t => (t, (2 : Int32))) ++ ld.map (fun t => (t, (0 : Int32)))) := by
    apply List.ext_getElem?
    intro i
    rw [List.getElem?_map]
    by_cases h : i < lt.length + lp.length + ld.length
    · obtain ⟨t, sd, f, e1, e2, -⟩ := hlay i h
      rw [nw_ls_get _ h, Nat.zero_add, e1, e2]
      rfl
    · rw [List.getElem?_eq_none (by rw [nw_ls_len]; omega), List.getElem?_eq_none (by simp; omega)]
      rfl
  have hM : ∀ p, p < lt.length + lp.length + ld.length → ∃ (t : bg_T) (sd : Int32) (f : rw_T), so_sort 0 (lt.length + lp.length + ld.length) X p = so_key 0 sd t f ∧ (sd = 0 ∨ sd = 1 ∨ sd = 2) := fun p hp => by
    obtain ⟨q, hq, e⟩ := so_sort_mem (X := X) hp
    obtain ⟨t, sd, f, e1, -, e3⟩ := hlay q hq
    exact ⟨t, sd, f, by rw [e, e1], e3⟩
  refine bt_pairs ?_ (fun p hp => ?_) (ud_ok (ky_sorted (fun p hp => ?_)) (fun p hp => ?_))
  · rw [← hX]
    exact (so_sort_sp 0 _ X).1.1.map _
  · obtain ⟨t, sd, f, e1, -⟩ := hM p hp
    rw [e1]
    rfl
  · obtain ⟨t, sd, f, e1, -⟩ := hlay p hp
    rw [e1]
    exact ⟨rfl, rfl, rfl⟩
  · obtain ⟨t, sd, f, e1, e3⟩ := hM p hp
    rw [e1]
    exact e3
set_option maxRecDepth 100000 in
theorem c_change (l : Launch) {n : Nat} {h : pm_H} {L : Nat → rw_T} {ts : List Int32} (H : so_L n h L ts) (hn : 111 < n) (O : h 94 = pm_O cOps [.ref 15]) {b b2 b3 : Nat} {lt lp ld : List bg_T} (B : bg_at n h b 12 lt) (B2 : bg_at n h b2 6 lp) (B3 : bg_at n h b3 6 ld) (hb : b + 3 < 15 ∨ 96 < b) (hb2 : b2 + 3 < 15 ∨ 96 < b2) (hb3 : b3 + 3 < 15 ∨ 96 < b3) : bM0 l yX2_change cX2_change 8 (some (.boolean)) 4 [.ref 94, .ref b, .ref b2, .ref b3] n h (fun r h' => ∃ l1, l1.Perm (bt_batch lt lp ld) ∧ r = some (.int (b2i (decide (l1.length ≤ 12)))) ∧ op_P n h b 12 ts h' (if l1.length ≤ 12 then l1 else lt) (tr_sort 0 (lt.length + lp.length + ld.length) ++ (tr_sc 0 (lt.length + lp.length + ld.length) ++ tr_sqs 0 (lt.length + lp.length + ld.length) (so_k (lt.length + lp.length + ld.length))))) := by
  refine pm_enter rfl (Nat.le_of_ble_eq_true rfl) (fun G K Z => ?_)
  have hl1 := B.2.1
  have hl2 := B2.2.1
  have hl3 := B3.2.1
  obtain ⟨ix0, R0, HA0, hi0, hL0⟩ := id H
  refine pm_aload_n K dX2_change_0 (q := 1) rfl rfl rfl ?_
  refine pm_get K inX2 rfl (k := 0) (by decide) wlX2_9 rfl (by omega) O rfl dX2_change_1 (q := 4) rfl ?_
  refine pm_aload_n K dX2_change_4 (q := 5) rfl rfl rfl ?_
  refine pm_ic0 K dX2_change_5 (q := 6) rfl ?_
  refine pm_ic0 K dX2_change_6 (q := 7) rfl ?_
  refine pm_ic1 K dX2_change_7 (q := 8) rfl ?_
  refine pm_callV0 K gw_ok wcX2_67 (c_layByKey l H B (by omega) (p0 := 0) (by omega) 0 1) rfl (by omega) HA0.2.1 rfl rfl (Nat.le_of_ble_eq_true rfl) (by decide) dX2_change_8 (q := 11) rfl (fun r1 h1 hp => ?_)
  obtain ⟨rfl, HL1, F1⟩ := hp
  rw [Nat.zero_add]
  obtain ⟨ix1, R1, HA1, hi1, hL1⟩ := id HL1
  have B21 : bg_at n h1 b2 6 lp := B2.fr (Nat.le_refl _) (fun q a c => F1 q (by omega))
  refine pm_istore K dX2_change_11 (q := 13) rfl (by decide) rfl ?_
  refine pm_aload_n K dX2_change_13 (q := 14) rfl rfl rfl ?_
  refine pm_get K inX2 rfl (k := 0) (by decide) wlX2_9 rfl (by omega) ((F1 94 (by omega)).trans O) rfl dX2_change_14 (q := 17) rfl ?_
  refine pm_aload_n K dX2_change_17 (q := 18) rfl rfl rfl ?_
  refine pm_iload K dX2_change_18 (q := 20) rfl rfl ?_
  refine pm_ic0 K dX2_change_20 (q := 21) rfl ?_
  refine pm_ic2 K dX2_change_21 (q := 22) rfl ?_
  refine pm_callV0 K gw_ok wcX2_67 (c_layByKey l HL1 B21 (by omega) (p0 := lt.length) (by omega) 0 2) rfl (by omega) HA1.2.1 rfl rfl (Nat.le_of_ble_eq_true rfl) (by decide) dX2_change_22 (q := 25) rfl (fun r2 h2 hp => ?_)
  obtain ⟨rfl, HL2, F2⟩ := hp
  have F12 := F1.tr F2
  obtain ⟨ix2, R2, HA2, hi2, hL2⟩ := id HL2
  have B32 : bg_at n h2 b3 6 ld := B3.fr (Nat.le_refl _) (fun q a c => F12 q (by omega))
  refine pm_istore K dX2_change_25 (q := 27) rfl (by decide) rfl ?_
  refine pm_aload_n K dX2_change_27 (q := 28) rfl rfl rfl ?_
  refine pm_get K inX2 rfl (k := 0) (by decide) wlX2_9 rfl (by omega) ((F12 94 (by omega)).trans O) rfl dX2_change_28 (q := 31) rfl ?_
  refine pm_aload_n K dX2_change_31 (q := 32) rfl rfl rfl ?_
  refine pm_iload K dX2_change_32 (q := 34) rfl rfl ?_
  refine pm_ic0 K dX2_change_34 (q := 35) rfl ?_
  refine pm_ic0 K dX2_change_35 (q := 36) rfl ?_
  refine pm_callV0 K gw_ok wcX2_67 (c_layByKey l HL2 B32 (by omega) (p0 := lt.length + lp.length) (by omega) 0 0) rfl (by omega) HA2.2.1 rfl rfl (Nat.le_of_ble_eq_true rfl) (by decide) dX2_change_36 (q := 39) rfl (fun r3 h3 hp => ?_)
  obtain ⟨rfl, HL3, F3⟩ := hp
  have F13 := F12.tr F3
  obtain ⟨ix3, R3, HA3, hi3, hL3⟩ := id HL3
  refine pm_istore K dX2_change_39 (q := 41) rfl (by decide) rfl ?_
  refine pm_aload_n K dX2_change_41 (q := 42) rfl rfl rfl ?_
  refine pm_get K inX2 rfl (k := 0) (by decide) wlX2_9 rfl (by omega) ((F13 94 (by omega)).trans O) rfl dX2_change_42 (q := 45) rfl ?_
  refine pm_ic0 K dX2_change_45 (q := 46) rfl ?_
  refine pm_iload K dX2_change_46 (q := 48) rfl rfl ?_
  refine pm_callV0 K gw_ok wcX2_21 (c_sort l HL3 (b0 := 0) (m0 := lt.length + lp.length + ld.length) (by omega)) rfl (by omega) HA3.2.1 rfl rfl (Nat.le_of_ble_eq_true rfl) (by decide) dX2_change_48 (q := 51) rfl (fun r4 h4 hp => ?_)
  obtain ⟨rfl, HL4, F4⟩ := hp
  have F14 := F13.tr F4
  have hpm := bt_perm lt lp ld L
  generalize so_sort 0 (lt.length + lp.length + ld.length) _ = M at HL4 hpm
  refine pm_aload_n K dX2_change_51 (q := 52) rfl rfl rfl ?_
  refine pm_iload K dX2_change_52 (q := 54) rfl rfl ?_
  refine pm_callV0 K gw_ok wcX2_83 (c_undropped l HL4 hn ((F14 94 (by omega)).trans O) (m := lt.length + lp.length + ld.length) (by omega)) rfl (by omega) ((F14 94 (by omega)).trans O) rfl rfl (Nat.le_of_ble_eq_true rfl) (by decide) dX2_change_54 (q := 57) rfl (fun r5 h5 hp => ?_)
  obtain ⟨rfl, HL5, F5⟩ := hp
  have F15 := F14.tr F5
  have hml := nw_mk_le (ud_live M) (lt.length + lp.length + ld.length)
  obtain ⟨ix5, R5, HA5, hi5, hL5⟩ := id HL5
  refine pm_istore K dX2_change_57 (q := 59) rfl (by decide) rfl ?_
  refine pm_aload_n K dX2_change_59 (q := 60) rfl rfl rfl ?_
  refine pm_get K inX2 rfl (k := 0) (by decide) wlX2_9 rfl (by omega) ((F15 94 (by omega)).trans O) rfl dX2_change_60 (q := 63) rfl ?_
  refine pm_ic0 K dX2_change_63 (q := 64) rfl ?_
  refine pm_iload K dX2_change_64 (q := 66) rfl rfl ?_
  refine pm_callV0 K gw_ok wcX2_53 (c_squeeze l HL5 (b0 := 0) (m0 := lt.length + lp.length + ld.length) (by omega)) rfl (by omega) HA5.2.1 rfl rfl (Nat.le_of_ble_eq_true rfl) (by decide) dX2_change_66 (q := 69) rfl (fun r6 h6 hp => ?_)
  obtain ⟨rfl, HL6, F6⟩ := hp
  have F16 := F15.tr F6
  simp only [tk_app, List.append_assoc] at HL6
  have B6 : bg_at n h6 b 12 lt := B.fr (Nat.le_refl _) (fun q a c => F16 q (by omega))
  have hle : ((nw_mk (ud_live M) (lt.length + lp.length + ld.length)).map (fun p => rw_c3 (M p))).length = (nw_mk (ud_live M) (lt.length + lp.length + ld.length)).length := List.length_map _
  refine pm_iload K dX2_change_69 (q := 71) rfl rfl ?_
  refine pm_bipush (v := nI 12) K dX2_change_71 (q := 73) rfl (by decide) ?_
  refine pm_icmp_le K dX2_change_73 (tgt := 78) (q := 76) rfl rfl (fun hx => ?_) (fun hx => ?_)
  · have hgt : (nw_mk (ud_live M) (lt.length + lp.length + ld.length)).length ≤ 12 := (nI_leI (by omega) (by decide)).mp hx
    obtain ⟨ix6, R6, HA6, hi6, hL6⟩ := id HL6
    refine pm_aload_n K dX2_change_78 (q := 79) rfl rfl rfl ?_
    refine pm_get K inX2 rfl (k := 0) (by decide) wlX2_9 rfl (by omega) ((F16 94 (by omega)).trans O) rfl dX2_change_79 (q := 82) rfl ?_
    refine pm_aload_n K dX2_change_82 (q := 83) rfl rfl rfl ?_
    refine pm_iload K dX2_change_83 (q := 85) rfl rfl ?_
    refine pm_callV0 K gw_ok wcX2_25 (c_takeAway l HL6 B6 (by omega) (m := (nw_mk (ud_live M) (lt.length + lp.length + ld.length)).length) (by omega)) rfl (by omega) HA6.2.1 rfl rfl (Nat.le_of_ble_eq_true rfl) (by decide) dX2_change_85 (q := 88) rfl (fun r7 h7 hp => ?_)
    obtain ⟨rfl, B7, F7⟩ := hp
    rw [op_marked (by omega), List.take_of_length_le (by rw [hle]; exact hgt)] at B7
    refine pm_ic1 K dX2_change_88 (q := 89) rfl ?_
    exact pm_iret Z dX2_change_89 rfl rfl (Nat.le_of_ble_eq_true rfl) (Nat.le_of_ble_eq_true rfl) ⟨rfl, ⟨_, hpm, by rw [hle, decide_eq_true hgt]; rfl, ⟨_, HL6.mv (fun q hq => F7 q (by omega))⟩, by rw [hle, if_pos hgt]; exact B7, fun q a c => by rw [F7 q c, F16 q a]⟩⟩
  · have hgt : ¬ (nw_mk (ud_live M) (lt.length + lp.length + ld.length)).length ≤ 12 := fun z => hx (nI_le z (by decide))
    refine pm_ic0 K dX2_change_76 (q := 77) rfl ?_
    exact pm_iret Z dX2_change_77 rfl rfl (Nat.le_of_ble_eq_true rfl) (Nat.le_of_ble_eq_true rfl) ⟨rfl, ⟨_, hpm, by rw [hle, decide_eq_false hgt]; rfl, ⟨_, HL6⟩, by rw [hle, if_neg hgt]; exact B6, fun q a c => F16 q a⟩⟩
end
section
/-! The join: its scans. -/
def cf_s (x : Int32 × Nat × Nat) (p : Nat) (f : rw_T) : Int32 × Nat × Nat := if p = 0 ∨ ¬ f 3 = x.1 then (f 3, 0, 0) else x
def cf_t (x : Int32 × Nat × Nat) (f : rw_T) : Int32 × Nat × Nat := if f 4 = 0 then (x.1, x.2.1 + 1, x.2.2) else (x.1, x.2.1, x.2.2 + 1)
/-- key, lefts, rights of it behind p rows -/
def cf_a (M : Nat → rw_T) : Nat → Int32 × Nat × Nat
  | 0 => (0, 0, 0)
  | p + 1 => cf_t (cf_s (cf_a M p) p (M p)) (M p)
theorem cf_a_s (M : Nat → rw_T) (p : Nat) : cf_a M (p + 1) = cf_t (cf_s (cf_a M p) p (M p)) (M p) := rfl
def cf_F (M : Nat → rw_T) (p : Nat) (f : rw_T) : rw_T := upd (upd f 5 (nI (cf_a M (p + 1)).2.1)) 6 (nI (cf_a M (p + 1)).2.2)
/-- key, lefts, rights, pairs behind the last j of m rows -/
def cb_a (N : Nat → rw_T) (m : Nat) : Nat → Int32 × Int32 × Int32 × Int32
  | 0 => (0, 0, 0, 0)
  | j + 1 => if j = 0 ∨ ¬ N (m - 1 - j) 3 = (cb_a N m j).1 then (N (m - 1 - j) 3, N (m - 1 - j) 5, N (m - 1 - j) 6, (cb_a N m j).2.2.2 + N (m - 1 - j) 5 * N (m - 1 - j) 6) else cb_a N m j
theorem cb_new {N : Nat → rw_T} {m k : Nat} (hk : k < m) (h : k + 1 = m ∨ ¬ N k 3 = (cb_a N m (m - (k + 1))).1) : cb_a N m (m - k) = (N k 3, N k 5, N k 6, (cb_a N m (m - (k + 1))).2.2.2 + N k 5 * N k 6) := by
  have e : m - k = m - (k + 1) + 1 := by omega
  have e2 : m - 1 - (m - (k + 1)) = k := by omega
  rw [e, cb_a, e2, if_pos]
  exact h.elim (fun z => Or.inl (by omega)) Or.inr
theorem cb_old {N : Nat → rw_T} {m k : Nat} (hk : k < m) (h : ¬ (k + 1 = m ∨ ¬ N k 3 = (cb_a N m (m - (k + 1))).1)) : cb_a N m (m - k) = cb_a N m (m - (k + 1)) := by
  have e : m - k = m - (k + 1) + 1 := by omega
  have e2 : m - 1 - (m - (k + 1)) = k := by omega
  rw [e, cb_a, e2, if_neg]
  exact fun z => h (z.elim (fun z => Or.inl (by omega)) Or.inr)
def cb_F (N : Nat → rw_T) (m p : Nat) (f : rw_T) : rw_T := rw_sort (f 4) (f 3) 0 (upd (upd f 5 (cb_a N m (m - p)).2.1) 6 (cb_a N m (m - p)).2.2.1)
def tr_cp : Nat → List Int32
  | 0 => []
  | m + 1 => tr_cp m ++ [so_rd m, so_wr (m + 40)]
theorem tr_cp_s (m : Nat) : tr_cp (m + 1) = tr_cp m ++ [so_rd m, so_wr (m + 40)] := rfl
def tr_ap : Nat → List Int32
  | 0 => []
  | m + 1 => tr_ap m ++ [so_rd m, so_rd (m + 40), so_wr m]
theorem tr_ap_s (m : Nat) : tr_ap (m + 1) = tr_ap m ++ [so_rd m, so_rd (m + 40), so_wr m] := rfl
def ms_c (sd : Int32) (f : rw_T) : Int32 := if f 4 = sd then rw_partners f else 0
def ms_v (c : Nat → Nat) (p : Nat) : Bool := decide (0 < c p)
def ms_st (c : Nat → Nat) : Nat → Nat
  | 0 => 0
  | p + 1 => ms_st c p + c p
def ms_F (c : Nat → Nat) (p : Nat) (f : rw_T) : rw_T := if ms_v c p = true then upd (rw_keep (nI p) (nI (nw_mk (ms_v c) p).length) f) 12 (nI (ms_st c p) - nI (nw_mk (ms_v c) p).length) else rw_disc f
set_option maxRecDepth 100000 in
theorem c_countForth (l : Launch) {n : Nat} {h : pm_H} {M : Nat → rw_T} {ts : List Int32} (H : so_L n h M ts) (hn : 111 < n) (J : h 95 = pm_O cJoin [.ref 15, .ref 96]) {m : Nat} (hm : m ≤ 76) : bM0 l yX1_countForth cX1_countForth 7 none 2 [.ref 95, .int (nI m)] n h (fun r h' => r = none ∧ so_L n h' (so_map 0 m (cf_F M) M) (tk (ts ++ tr_sc 0 m)) ∧ so_fr h h') := by
  refine pm_enter rfl (Nat.le_of_ble_eq_true rfl) (fun G K Z => ?_)
  obtain ⟨ix, R0, HA0, hi, hL0⟩ := id H
  refine pm_ic0 K dX1_countForth_0 (q := 1) rfl ?_
  refine pm_istore_n K dX1_countForth_1 (q := 2) rfl rfl (by decide) rfl ?_
  refine pm_ic0 K dX1_countForth_2 (q := 3) rfl ?_
  refine pm_istore_n K dX1_countForth_3 (q := 4) rfl rfl (by decide) rfl ?_
  refine pm_ic0 K dX1_countForth_4 (q := 5) rfl ?_
  refine pm_istore K dX1_countForth_5 (q := 7) rfl (by decide) rfl ?_
  refine pm_ic0 K dX1_countForth_7 (q := 8) rfl ?_
  refine pm_istore K dX1_countForth_8 (q := 10) rfl (by decide) rfl ?_
  have loop : ∀ (k p : Nat) (h2 : pm_H) (R : Nat → rw_T) (x6 : Option Value), p + k = m → so_at n h2 ix R (tk (ts ++ tr_sc 0 p)) → (∀ i, i < 76 → so_map 0 p (cf_F M) M i = R (ix i)) → so_fr h h2 → G 0 0 10 [some (.ref 95), some (.int (nI m)), some (.int (cf_a M p).1), some (.int (nI (cf_a M p).2.1)), some (.int (nI (cf_a M p).2.2)), some (.int (nI p)), x6] [] n h2 := by
    intro k
    induction k with
    | zero =>
      intro p h2 R x6 hk HA hL hF
      refine pm_iload K dX1_countForth_10 (q := 12) rfl rfl ?_
      refine pm_iload_n K dX1_countForth_12 (q := 13) rfl rfl rfl ?_
      refine pm_icmp_ge K dX1_countForth_13 (tgt := 99) (q := 16) rfl rfl (fun _ => ?_) (fun z => absurd z (fun z => z (nI_le (by omega) (by omega))))
      have ep : p = m := by omega
      subst ep
      exact pm_vret Z dX1_countForth_99 rfl (Nat.le_of_ble_eq_true rfl) (Nat.le_of_ble_eq_true rfl) ⟨rfl, ⟨rfl, ⟨ix, R, HA, hi, hL⟩, hF⟩⟩
    | succ k ih =>
      intro p h2 R x6 hk HA hL hF
      refine pm_iload K dX1_countForth_10 (q := 12) rfl rfl ?_
      refine pm_iload_n K dX1_countForth_12 (q := 13) rfl rfl rfl ?_
      refine pm_icmp_ge K dX1_countForth_13 (tgt := 99) (q := 16) rfl rfl (fun z => absurd z (nI_ge (by omega) (by omega))) (fun _ => ?_)
      have gx := HA.2.2.2.2.1 (p) (by omega)
      refine pm_aload_n K dX1_countForth_16 (q := 17) rfl rfl rfl ?_
      refine pm_get K inX1 rfl (k := 0) (by decide) wlX1_18 rfl (by omega) ((hF 95 (by omega)).trans J) rfl dX1_countForth_17 (q := 20) rfl ?_
      refine pm_iload K dX1_countForth_20 (q := 22) rfl rfl ?_
      refine pm_callV0 K gw_ok wcX1_57 (c_read l HA (p := p) (by omega)) rfl (by omega) HA.2.1 rfl rfl (Nat.le_of_ble_eq_true rfl) (by decide) dX1_countForth_22 (q := 25) rfl (fun r1 h1 hp => ?_)
      obtain ⟨rfl, H1, F1⟩ := hp
      have eM : R (ix p) = M p := by rw [← hL p (by omega), so_map_at0]
      refine pm_astore K dX1_countForth_25 (q := 27) rfl (by decide) rfl ?_
      have hcl := fun f => so_cl2 (f := f) hi hL (show p < 76 by omega)
      have j52 : ∀ b : Int32 × Nat × Nat, b = cf_s (cf_a M p) p (R (ix p)) → G 0 0 52 [some (.ref 95), some (.int (nI m)), some (.int b.1), some (.int (nI b.2.1)), some (.int (nI b.2.2)), some (.int (nI p)), some (.ref (18 + ix p))] [] n h1 := by
        intro b eb
        refine pm_aload K dX1_countForth_52 (q := 54) rfl rfl ?_
        refine pm_get K inX3 rfl (k := 4) (by decide) wlX1_65 rfl (by omega) (H1.row gx) rfl dX1_countForth_54 (q := 57) rfl ?_
        refine pm_if_ne K dX1_countForth_57 (tgt := 66) (q := 60) rfl rfl (fun hsd => ?_) (fun hsd => ?_)
        · refine pm_inc K dX1_countForth_66 (q := 69) rfl rfl (by decide) rfl ?_
          refine pm_aload K dX1_countForth_69 (q := 71) rfl rfl ?_
          refine pm_iload_n K dX1_countForth_71 (q := 72) rfl rfl rfl ?_
          refine rw_put K (k := 5) (by decide) (by decide) wlX1_68 (by omega) (H1.row gx) dX1_countForth_72 (q := 75) rfl ?_
          refine pm_aload K dX1_countForth_75 (q := 77) rfl rfl ?_
          refine pm_iload K dX1_countForth_77 (q := 79) rfl rfl ?_
          refine rw_putU K (k := 6) (by decide) (by decide) wlX1_71 (by omega) dX1_countForth_79 (q := 82) rfl ?_
          have H2 := H1.mod gx (f := upd (upd (R (ix p)) 5 (nI (b.2.1))) 6 (nI (b.2.2 + 1))) ((H1.2.2.2.2.2.1 _ gx).2)
          refine pm_aload_n K dX1_countForth_82 (q := 83) rfl rfl rfl ?_
          refine pm_get K inX1 rfl (k := 0) (by decide) wlX1_18 rfl (by omega) (pm_ne (by omega) ((F1 95 (by omega) (by omega)).trans ((hF 95 (by omega)).trans J))) rfl dX1_countForth_83 (q := 86) rfl ?_
          refine pm_iload K dX1_countForth_86 (q := 88) rfl rfl ?_
          refine pm_aload K dX1_countForth_88 (q := 90) rfl rfl ?_
          refine pm_callV0 K gw_ok wcX1_74 (c_write l H2 (p := p) (by omega) gx) rfl (by omega) (pm_ne (by omega) H1.2.1) rfl rfl (Nat.le_of_ble_eq_true rfl) (by decide) dX1_countForth_90 (q := 93) rfl (fun r9 h9 hp => ?_)
          obtain ⟨rfl, H3, F3⟩ := hp
          rw [so_id] at H3
          simp only [tk_app, List.append_assoc, List.cons_append, List.nil_append] at H3
          have hF9 : so_fr h h9 := fun q hq => by rw [F3 q (by omega), pm_ne (by omega) rfl, F1 q (by omega) (by omega), hF q hq]
          refine pm_inc K dX1_countForth_93 (q := 96) rfl rfl (by decide) rfl ?_
          refine pm_goto K dX1_countForth_96 (q := 10) rfl ?_
          have ea : cf_a M (p + 1) = (b.1, b.2.1, b.2.2 + 1) := by rw [cf_a_s, ← eM, ← eb, cf_t, if_neg hsd]
          have := ih (p + 1) h9 _ (some (.ref (18 + ix p))) (by omega) (by rw [tr_sc_s, Nat.zero_add]; exact H3) (by rw [so_map_succ0, cf_F, ea, ← eM]; exact hcl _) hF9
          rw [ea] at this
          exact this
        · refine pm_inc K dX1_countForth_60 (q := 63) rfl rfl (by decide) rfl ?_
          refine pm_goto K dX1_countForth_63 (q := 69) rfl ?_
          refine pm_aload K dX1_countForth_69 (q := 71) rfl rfl ?_
          refine pm_iload_n K dX1_countForth_71 (q := 72) rfl rfl rfl ?_
          refine rw_put K (k := 5) (by decide) (by decide) wlX1_68 (by omega) (H1.row gx) dX1_countForth_72 (q := 75) rfl ?_
          refine pm_aload K dX1_countForth_75 (q := 77) rfl rfl ?_
          refine pm_iload K dX1_countForth_77 (q := 79) rfl rfl ?_
          refine rw_putU K (k := 6) (by decide) (by decide) wlX1_71 (by omega) dX1_countForth_79 (q := 82) rfl ?_
          have H2 := H1.mod gx (f := upd (upd (R (ix p)) 5 (nI (b.2.1 + 1))) 6 (nI (b.2.2))) ((H1.2.2.2.2.2.1 _ gx).2)
          refine pm_aload_n K dX1_countForth_82 (q := 83) rfl rfl rfl ?_
          refine pm_get K inX1 rfl (k := 0) (by decide) wlX1_18 rfl (by omega) (pm_ne (by omega) ((F1 95 (by omega) (by omega)).trans ((hF 95 (by omega)).trans J))) rfl dX1_countForth_83 (q := 86) rfl ?_
          refine pm_iload K dX1_countForth_86 (q := 88) rfl rfl ?_
          refine pm_aload K dX1_countForth_88 (q := 90) rfl rfl ?_
          refine pm_callV0 K gw_ok wcX1_74 (c_write l H2 (p := p) (by omega) gx) rfl (by omega) (pm_ne (by omega) H1.2.1) rfl rfl (Nat.le_of_ble_eq_true rfl) (by decide) dX1_countForth_90 (q := 93) rfl (fun r9 h9 hp => ?_)
          obtain ⟨rfl, H3, F3⟩ := hp
          rw [so_id] at H3
          simp only [tk_app, List.append_assoc, List.cons_append, List.nil_append] at H3
          have hF9 : so_fr h h9 := fun q hq => by rw [F3 q (by omega), pm_ne (by omega) rfl, F1 q (by omega) (by omega), hF q hq]
          refine pm_inc K dX1_countForth_93 (q := 96) rfl rfl (by decide) rfl ?_
          refine pm_goto K dX1_countForth_96 (q := 10) rfl ?_
          have ea : cf_a M (p + 1) = (b.1, b.2.1 + 1, b.2.2) := by rw [cf_a_s, ← eM, ← eb, cf_t, if_pos hsd]
          have := ih (p + 1) h9 _ (some (.ref (18 + ix p))) (by omega) (by rw [tr_sc_s, Nat.zero_add]; exact H3) (by rw [so_map_succ0, cf_F, ea, ← eM]; exact hcl _) hF9
          rw [ea] at this
          exact this
      by_cases hp0 : p = 0
      · refine pm_iload K dX1_countForth_27 (q := 29) rfl rfl ?_
        refine pm_if_eq K dX1_countForth_29 (tgt := 41) (q := 32) rfl rfl (fun _ => ?_) (fun z => absurd z (fun z => z (by rw [hp0]; rfl)))
        refine pm_aload K dX1_countForth_41 (q := 43) rfl rfl ?_
        refine pm_get K inX3 rfl (k := 3) (by decide) wlX1_61 rfl (by omega) (H1.row gx) rfl dX1_countForth_43 (q := 46) rfl ?_
        refine pm_istore_n K dX1_countForth_46 (q := 47) rfl rfl (by decide) rfl ?_
        refine pm_ic0 K dX1_countForth_47 (q := 48) rfl ?_
        refine pm_istore_n K dX1_countForth_48 (q := 49) rfl rfl (by decide) rfl ?_
        refine pm_ic0 K dX1_countForth_49 (q := 50) rfl ?_
        refine pm_istore K dX1_countForth_50 (q := 52) rfl (by decide) rfl ?_
        exact j52 (R (ix p) 3, 0, 0) (by rw [cf_s, if_pos (Or.inl hp0)])
      · refine pm_iload K dX1_countForth_27 (q := 29) rfl rfl ?_
        refine pm_if_eq K dX1_countForth_29 (tgt := 41) (q := 32) rfl rfl (fun z => absurd z (nI_ne0 (by omega) (by omega))) (fun _ => ?_)
        refine pm_aload K dX1_countForth_32 (q := 34) rfl rfl ?_
        refine pm_get K inX3 rfl (k := 3) (by decide) wlX1_61 rfl (by omega) (H1.row gx) rfl dX1_countForth_34 (q := 37) rfl ?_
        refine pm_iload_n K dX1_countForth_37 (q := 38) rfl rfl rfl ?_
        refine pm_icmp_eq K dX1_countForth_38 (tgt := 52) (q := 41) rfl rfl (fun hky => ?_) (fun hky => ?_)
        · exact j52 (cf_a M p) (by rw [cf_s, if_neg (fun z => z.elim hp0 (fun z => z hky))])
        · refine pm_aload K dX1_countForth_41 (q := 43) rfl rfl ?_
          refine pm_get K inX3 rfl (k := 3) (by decide) wlX1_61 rfl (by omega) (H1.row gx) rfl dX1_countForth_43 (q := 46) rfl ?_
          refine pm_istore_n K dX1_countForth_46 (q := 47) rfl rfl (by decide) rfl ?_
          refine pm_ic0 K dX1_countForth_47 (q := 48) rfl ?_
          refine pm_istore_n K dX1_countForth_48 (q := 49) rfl rfl (by decide) rfl ?_
          refine pm_ic0 K dX1_countForth_49 (q := 50) rfl ?_
          refine pm_istore K dX1_countForth_50 (q := 52) rfl (by decide) rfl ?_
          exact j52 (R (ix p) 3, 0, 0) (by rw [cf_s, if_pos (Or.inr hky)])
  have := loop m 0 h R0 none (by omega) (by rw [tr_sc, List.append_nil, so_at.tke HA0]; exact HA0) (by rw [so_map_0]; exact hL0) so_fr.rf
  exact this
set_option maxRecDepth 100000 in
theorem c_countBack (l : Launch) {n : Nat} {h : pm_H} {M : Nat → rw_T} {ts : List Int32} (H : so_L n h M ts) (hn : 111 < n) (J : h 95 = pm_O cJoin [.ref 15, .ref 96]) {m : Nat} (hm : m ≤ 76) : bM0 l yX1_countBack cX1_countBack 8 (some (.int)) 2 [.ref 95, .int (nI m)] n h (fun r h' => r = some (.int (cb_a M m m).2.2.2) ∧ so_L n h' (so_bk 0 m (cb_F M m) M) (tk (ts ++ tr_bk m m)) ∧ so_fr h h') := by
  refine pm_enter rfl (Nat.le_of_ble_eq_true rfl) (fun G K Z => ?_)
  obtain ⟨ix, R0, HA0, hi, hL0⟩ := id H
  refine pm_ic0 K dX1_countBack_0 (q := 1) rfl ?_
  refine pm_istore_n K dX1_countBack_1 (q := 2) rfl rfl (by decide) rfl ?_
  refine pm_ic0 K dX1_countBack_2 (q := 3) rfl ?_
  refine pm_istore_n K dX1_countBack_3 (q := 4) rfl rfl (by decide) rfl ?_
  refine pm_ic0 K dX1_countBack_4 (q := 5) rfl ?_
  refine pm_istore K dX1_countBack_5 (q := 7) rfl (by decide) rfl ?_
  refine pm_ic0 K dX1_countBack_7 (q := 8) rfl ?_
  refine pm_istore K dX1_countBack_8 (q := 10) rfl (by decide) rfl ?_
  refine pm_iload_n K dX1_countBack_10 (q := 11) rfl rfl rfl ?_
  refine pm_ic1 K dX1_countBack_11 (q := 12) rfl ?_
  refine pm_isub K dX1_countBack_12 (q := 13) rfl ?_
  refine pm_istore K dX1_countBack_13 (q := 15) rfl (by decide) rfl ?_
  have loop : ∀ (k : Nat) (h2 : pm_H) (R : Nat → rw_T) (x7 : Option Value), k ≤ m → so_at n h2 ix R (tk (ts ++ tr_bk m (m - k))) → (∀ i, i < 76 → so_bk k m (cb_F M m) M i = R (ix i)) → so_fr h h2 → G 0 0 15 [some (.ref 95), some (.int (nI m)), some (.int (cb_a M m (m - k)).1), some (.int (cb_a M m (m - k)).2.1), some (.int (cb_a M m (m - k)).2.2.1), some (.int (cb_a M m (m - k)).2.2.2), some (.int (nI k - 1)), x7] [] n h2 := by
    intro k
    induction k with
    | zero =>
      intro h2 R x7 hk HA hL hF
      refine pm_iload K dX1_countBack_15 (q := 17) rfl rfl ?_
      refine pm_if_lt K dX1_countBack_17 (tgt := 122) (q := 20) rfl rfl (fun _ => ?_) (fun z => absurd z (fun z => z (by decide)))
      refine pm_iload K dX1_countBack_122 (q := 124) rfl rfl ?_
      exact pm_iret Z dX1_countBack_124 rfl rfl (Nat.le_of_ble_eq_true rfl) (Nat.le_of_ble_eq_true rfl) ⟨rfl, ⟨rfl, ⟨ix, R, HA, hi, hL⟩, hF⟩⟩
    | succ k ih =>
      intro h2 R x7 hk HA hL hF
      rw [nI_pred]
      refine pm_iload K dX1_countBack_15 (q := 17) rfl rfl ?_
      refine pm_if_lt K dX1_countBack_17 (tgt := 122) (q := 20) rfl rfl (fun z => absurd z (nI_pos (by omega))) (fun _ => ?_)
      have gx := HA.2.2.2.2.1 (k) (by omega)
      refine pm_aload_n K dX1_countBack_20 (q := 21) rfl rfl rfl ?_
      refine pm_get K inX1 rfl (k := 0) (by decide) wlX1_18 rfl (by omega) ((hF 95 (by omega)).trans J) rfl dX1_countBack_21 (q := 24) rfl ?_
      refine pm_iload K dX1_countBack_24 (q := 26) rfl rfl ?_
      refine pm_callV0 K gw_ok wcX1_57 (c_read l HA (p := k) (by omega)) rfl (by omega) HA.2.1 rfl rfl (Nat.le_of_ble_eq_true rfl) (by decide) dX1_countBack_26 (q := 29) rfl (fun r1 h1 hp => ?_)
      obtain ⟨rfl, H1, F1⟩ := hp
      have eM : R (ix k) = M k := by rw [← hL k (by omega), so_bk_out (by omega)]
      refine pm_astore K dX1_countBack_29 (q := 31) rfl (by decide) rfl ?_
      have hcl := fun f => so_cl2 (f := f) hi hL (show k < 76 by omega)
      have etr : tr_bk m (m - k) = tr_bk m (m - (k + 1)) ++ [so_rd k, so_wr k] := tr_bk_s (by omega)
      have j76 : ∀ b : Int32 × Int32 × Int32 × Int32, b = cb_a M m (m - k) → G 0 0 76 [some (.ref 95), some (.int (nI m)), some (.int b.1), some (.int b.2.1), some (.int b.2.2.1), some (.int b.2.2.2), some (.int (nI k)), some (.ref (18 + ix k))] [] n h1 := by
        intro b eb
        refine pm_aload K dX1_countBack_76 (q := 78) rfl rfl ?_
        refine pm_iload_n K dX1_countBack_78 (q := 79) rfl rfl rfl ?_
        refine rw_put K (k := 5) (by decide) (by decide) wlX1_68 (by omega) (H1.row gx) dX1_countBack_79 (q := 82) rfl ?_
        refine pm_aload K dX1_countBack_82 (q := 84) rfl rfl ?_
        refine pm_iload K dX1_countBack_84 (q := 86) rfl rfl ?_
        refine rw_putU K (k := 6) (by decide) (by decide) wlX1_71 (by omega) dX1_countBack_86 (q := 89) rfl ?_
        refine pm_aload K dX1_countBack_89 (q := 91) rfl rfl ?_
        refine pm_aload K dX1_countBack_91 (q := 93) rfl rfl ?_
        refine pm_get K inX3 rfl (k := 4) (by decide) wlX1_65 rfl (by omega) (pm_same _ _ _) rfl dX1_countBack_93 (q := 96) rfl ?_
        refine pm_aload K dX1_countBack_96 (q := 98) rfl rfl ?_
        refine pm_get K inX3 rfl (k := 3) (by decide) wlX1_61 rfl (by omega) (pm_same _ _ _) rfl dX1_countBack_98 (q := 101) rfl ?_
        refine pm_ic0 K dX1_countBack_101 (q := 102) rfl ?_
        refine pm_callV0 K gw_ok wcX1_78 (c_sortBy l (by omega) (pm_same _ _ _) (R (ix k) 4) (R (ix k) 3) 0) rfl (by omega) (pm_same _ _ _) rfl rfl (Nat.le_of_ble_eq_true rfl) (by decide) dX1_countBack_102 (q := 105) rfl (fun r7 h7 hp => ?_)
        obtain ⟨rfl, rfl⟩ := hp
        rw [pm_up2]
        have H2 := H1.mod gx (f := rw_sort (R (ix k) 4) (R (ix k) 3) 0 (upd (upd (R (ix k)) 5 b.2.1) 6 b.2.2.1)) ((H1.2.2.2.2.2.1 _ gx).2)
        refine pm_aload_n K dX1_countBack_105 (q := 106) rfl rfl rfl ?_
        refine pm_get K inX1 rfl (k := 0) (by decide) wlX1_18 rfl (by omega) (pm_ne (by omega) ((F1 95 (by omega) (by omega)).trans ((hF 95 (by omega)).trans J))) rfl dX1_countBack_106 (q := 109) rfl ?_
        refine pm_iload K dX1_countBack_109 (q := 111) rfl rfl ?_
        refine pm_aload K dX1_countBack_111 (q := 113) rfl rfl ?_
        refine pm_callV0 K gw_ok wcX1_74 (c_write l H2 (p := k) (by omega) gx) rfl (by omega) (pm_ne (by omega) H1.2.1) rfl rfl (Nat.le_of_ble_eq_true rfl) (by decide) dX1_countBack_113 (q := 116) rfl (fun r9 h9 hp => ?_)
        obtain ⟨rfl, H3, F3⟩ := hp
        rw [so_id] at H3
        simp only [tk_app, List.append_assoc, List.cons_append, List.nil_append] at H3
        have hF9 : so_fr h h9 := fun q hq => by rw [F3 q (by omega), pm_ne (by omega) rfl, F1 q (by omega) (by omega), hF q hq]
        refine pm_iinc (v := nI k - 1) K dX1_countBack_116 (q := 119) rfl rfl (by rw [Int32.sub_eq_add_neg]; rfl) (by decide) rfl ?_
        refine pm_goto K dX1_countBack_119 (q := 15) rfl ?_
        have := ih h9 _ (some (.ref (18 + ix k))) (by omega) (by rw [etr]; exact H3) (by rw [so_bk_s (by omega), cb_F, ← eb, ← eM]; exact hcl _) hF9
        rw [← eb] at this
        exact this
      refine pm_iload K dX1_countBack_31 (q := 33) rfl rfl ?_
      refine pm_iload_n K dX1_countBack_33 (q := 34) rfl rfl rfl ?_
      refine pm_ic1 K dX1_countBack_34 (q := 35) rfl ?_
      refine pm_isub K dX1_countBack_35 (q := 36) rfl ?_
      rw [show nI m - 1 = nI (m - 1) from pk_sub (b := 1) (by omega)]
      refine pm_icmp_eq K dX1_countBack_36 (tgt := 48) (q := 39) rfl rfl (fun hx => ?_) (fun hx => ?_)
      · have hk1 : k + 1 = m := by have := (nI_eq (by omega) (by omega)).mp hx; omega
        refine pm_aload K dX1_countBack_48 (q := 50) rfl rfl ?_
        refine pm_get K inX3 rfl (k := 3) (by decide) wlX1_61 rfl (by omega) (H1.row gx) rfl dX1_countBack_50 (q := 53) rfl ?_
        refine pm_istore_n K dX1_countBack_53 (q := 54) rfl rfl (by decide) rfl ?_
        refine pm_aload K dX1_countBack_54 (q := 56) rfl rfl ?_
        refine pm_get K inX3 rfl (k := 5) (by decide) wlX1_68 rfl (by omega) (H1.row gx) rfl dX1_countBack_56 (q := 59) rfl ?_
        refine pm_istore_n K dX1_countBack_59 (q := 60) rfl rfl (by decide) rfl ?_
        refine pm_aload K dX1_countBack_60 (q := 62) rfl rfl ?_
        refine pm_get K inX3 rfl (k := 6) (by decide) wlX1_71 rfl (by omega) (H1.row gx) rfl dX1_countBack_62 (q := 65) rfl ?_
        refine pm_istore K dX1_countBack_65 (q := 67) rfl (by decide) rfl ?_
        refine pm_iload K dX1_countBack_67 (q := 69) rfl rfl ?_
        refine pm_iload_n K dX1_countBack_69 (q := 70) rfl rfl rfl ?_
        refine pm_iload K dX1_countBack_70 (q := 72) rfl rfl ?_
        refine pm_imul K dX1_countBack_72 (q := 73) rfl ?_
        refine pm_iadd K dX1_countBack_73 (q := 74) rfl ?_
        refine pm_istore K dX1_countBack_74 (q := 76) rfl (by decide) rfl ?_
        exact j76 _ (by rw [cb_new (by omega) (Or.inl hk1), ← eM])
      · have hk1 : k + 1 < m := by have : ¬ k = m - 1 := fun z => hx (by rw [z]); omega
        refine pm_aload K dX1_countBack_39 (q := 41) rfl rfl ?_
        refine pm_get K inX3 rfl (k := 3) (by decide) wlX1_61 rfl (by omega) (H1.row gx) rfl dX1_countBack_41 (q := 44) rfl ?_
        refine pm_iload_n K dX1_countBack_44 (q := 45) rfl rfl rfl ?_
        refine pm_icmp_eq K dX1_countBack_45 (tgt := 76) (q := 48) rfl rfl (fun hy => ?_) (fun hy => ?_)
        · exact j76 (cb_a M m (m - (k + 1))) (cb_old (k := k) (by omega) (fun z => z.elim (by omega) (fun z => z (by rw [← eM]; exact hy)))).symm
        · refine pm_aload K dX1_countBack_48 (q := 50) rfl rfl ?_
          refine pm_get K inX3 rfl (k := 3) (by decide) wlX1_61 rfl (by omega) (H1.row gx) rfl dX1_countBack_50 (q := 53) rfl ?_
          refine pm_istore_n K dX1_countBack_53 (q := 54) rfl rfl (by decide) rfl ?_
          refine pm_aload K dX1_countBack_54 (q := 56) rfl rfl ?_
          refine pm_get K inX3 rfl (k := 5) (by decide) wlX1_68 rfl (by omega) (H1.row gx) rfl dX1_countBack_56 (q := 59) rfl ?_
          refine pm_istore_n K dX1_countBack_59 (q := 60) rfl rfl (by decide) rfl ?_
          refine pm_aload K dX1_countBack_60 (q := 62) rfl rfl ?_
          refine pm_get K inX3 rfl (k := 6) (by decide) wlX1_71 rfl (by omega) (H1.row gx) rfl dX1_countBack_62 (q := 65) rfl ?_
          refine pm_istore K dX1_countBack_65 (q := 67) rfl (by decide) rfl ?_
          refine pm_iload K dX1_countBack_67 (q := 69) rfl rfl ?_
          refine pm_iload_n K dX1_countBack_69 (q := 70) rfl rfl rfl ?_
          refine pm_iload K dX1_countBack_70 (q := 72) rfl rfl ?_
          refine pm_imul K dX1_countBack_72 (q := 73) rfl ?_
          refine pm_iadd K dX1_countBack_73 (q := 74) rfl ?_
          refine pm_istore K dX1_countBack_74 (q := 76) rfl (by decide) rfl ?_
          exact j76 _ (by rw [cb_new (by omega) (Or.inr (by rw [← eM]; exact hy)), ← eM])
  have := loop m h R0 none (Nat.le_refl _) (by rw [Nat.sub_self, tr_bk, List.append_nil, so_at.tke HA0]; exact HA0) (by rw [so_bk_0]; exact hL0) so_fr.rf
  rw [Nat.sub_self] at this
  exact this
set_option maxRecDepth 100000 in
theorem c_copyAll (l : Launch) {n : Nat} {h : pm_H} {M : Nat → rw_T} {ts : List Int32} (H : so_L n h M ts) (hn : 111 < n) (J : h 95 = pm_O cJoin [.ref 15, .ref 96]) {m : Nat} (hm : m ≤ 36) : bM0 l yX1_copyAll cX1_copyAll 3 none 3 [.ref 95, .int (nI m)] n h (fun r h' => r = none ∧ so_L n h' (so_map 40 m (fun p _ => M p) M) (tk (ts ++ tr_cp m)) ∧ so_fr h h') := by
  refine pm_enter rfl (Nat.le_of_ble_eq_true rfl) (fun G K Z => ?_)
  refine pm_ic0 K dX1_copyAll_0 (q := 1) rfl ?_
  refine pm_istore_n K dX1_copyAll_1 (q := 2) rfl rfl (by decide) rfl ?_
  have loop : ∀ (k p : Nat) (h2 : pm_H), p + k = m → so_L n h2 (so_map 40 p (fun p _ => M p) M) (tk (ts ++ tr_cp p)) → so_fr h h2 → G 0 0 2 [some (.ref 95), some (.int (nI m)), some (.int (nI p))] [] n h2 := by
    intro k
    induction k with
    | zero =>
      intro p h2 hk HL hF
      refine pm_iload_n K dX1_copyAll_2 (q := 3) rfl rfl rfl ?_
      refine pm_iload_n K dX1_copyAll_3 (q := 4) rfl rfl rfl ?_
      refine pm_icmp_ge K dX1_copyAll_4 (tgt := 25) (q := 7) rfl rfl (fun _ => ?_) (fun z => absurd z (fun z => z (nI_le (by omega) (by omega))))
      have ep : p = m := by omega
      subst ep
      exact pm_vret Z dX1_copyAll_25 rfl (Nat.le_of_ble_eq_true rfl) (Nat.le_of_ble_eq_true rfl) ⟨rfl, ⟨rfl, HL, hF⟩⟩
    | succ k ih =>
      intro p h2 hk HL hF
      refine pm_iload_n K dX1_copyAll_2 (q := 3) rfl rfl rfl ?_
      refine pm_iload_n K dX1_copyAll_3 (q := 4) rfl rfl rfl ?_
      refine pm_icmp_ge K dX1_copyAll_4 (tgt := 25) (q := 7) rfl rfl (fun z => absurd z (nI_ge (by omega) (by omega))) (fun _ => ?_)
      obtain ⟨ix, R, HA, hi, hL⟩ := HL
      refine pm_aload_n K dX1_copyAll_7 (q := 8) rfl rfl rfl ?_
      refine pm_get K inX1 rfl (k := 0) (by decide) wlX1_18 rfl (by omega) ((hF 95 (by omega)).trans J) rfl dX1_copyAll_8 (q := 11) rfl ?_
      refine pm_iload_n K dX1_copyAll_11 (q := 12) rfl rfl rfl ?_
      refine pm_iload_n K dX1_copyAll_12 (q := 13) rfl rfl rfl ?_
      refine pm_bipush (v := nI 40) K dX1_copyAll_13 (q := 15) rfl (by decide) ?_
      refine pm_iadd K dX1_copyAll_15 (q := 16) rfl ?_
      rw [nI_add]
      refine pm_callV0 K gw_ok wcX1_82 (c_copy l HA (p := p) (q0 := p + 40) (by omega) (by omega) (fun z => by have := hi _ _ (by omega) (by omega) z; omega)) rfl (by omega) HA.2.1 rfl rfl (Nat.le_of_ble_eq_true rfl) (by decide) dX1_copyAll_16 (q := 19) rfl (fun r1 h1 hp => ?_)
      obtain ⟨rfl, H3, F3⟩ := hp
      simp only [tk_app, List.append_assoc] at H3
      refine pm_inc K dX1_copyAll_19 (q := 22) rfl rfl (by decide) rfl ?_
      refine pm_goto K dX1_copyAll_22 (q := 2) rfl ?_
      have HC := so_L.cl H3 hi hL (by omega)
      refine ih (p + 1) _ (by omega) ?_ (hF.tr F3)
      rw [so_map_succ, Nat.add_comm 40 p, tr_cp_s]
      have eM : R (ix p) = M p := by rw [← hL p (by omega)]; unfold so_map; rw [if_neg (by omega)]
      rw [eM] at HC
      exact HC
  have := loop m 0 h (by omega) (by rw [so_map_0, tr_cp, List.append_nil]; exact H.tke) so_fr.rf
  exact this
set_option maxRecDepth 100000 in
theorem c_addPairs (l : Launch) {n : Nat} {h : pm_H} {M : Nat → rw_T} {ts : List Int32} (H : so_L n h M ts) (hn : 111 < n) (J : h 95 = pm_O cJoin [.ref 15, .ref 96]) {m : Nat} (hm : m ≤ 36) : bM0 l yX1_addPairs cX1_addPairs 5 none 3 [.ref 95, .int (nI m)] n h (fun r h' => r = none ∧ so_L n h' (so_map 0 m (fun p f => rw_cols (f 3) (f 1 + M (p + 40) 1) (f 2 + M (p + 40) 2) f) M) (tk (ts ++ tr_ap m)) ∧ so_fr h h') := by
  refine pm_enter rfl (Nat.le_of_ble_eq_true rfl) (fun G K Z => ?_)
  obtain ⟨ix, R0, HA0, hi, hL0⟩ := id H
  refine pm_ic0 K dX1_addPairs_0 (q := 1) rfl ?_
  refine pm_istore_n K dX1_addPairs_1 (q := 2) rfl rfl (by decide) rfl ?_
  have loop : ∀ (k p : Nat) (h2 : pm_H) (R : Nat → rw_T) (x3 x4 : Option Value), p + k = m → so_at n h2 ix R (tk (ts ++ tr_ap p)) → (∀ i, i < 76 → so_map 0 p (fun p f => rw_cols (f 3) (f 1 + M (p + 40) 1) (f 2 + M (p + 40) 2) f) M i = R (ix i)) → so_fr h h2 → G 0 0 2 [some (.ref 95), some (.int (nI m)), some (.int (nI p)), x3, x4] [] n h2 := by
    intro k
    induction k with
    | zero =>
      intro p h2 R x3 x4 hk HA hL hF
      refine pm_iload_n K dX1_addPairs_2 (q := 3) rfl rfl rfl ?_
      refine pm_iload_n K dX1_addPairs_3 (q := 4) rfl rfl rfl ?_
      refine pm_icmp_ge K dX1_addPairs_4 (tgt := 72) (q := 7) rfl rfl (fun _ => ?_) (fun z => absurd z (fun z => z (nI_le (by omega) (by omega))))
      have ep : p = m := by omega
      subst ep
      exact pm_vret Z dX1_addPairs_72 rfl (Nat.le_of_ble_eq_true rfl) (Nat.le_of_ble_eq_true rfl) ⟨rfl, ⟨rfl, ⟨ix, R, HA, hi, hL⟩, hF⟩⟩
    | succ k ih =>
      intro p h2 R x3 x4 hk HA hL hF
      refine pm_iload_n K dX1_addPairs_2 (q := 3) rfl rfl rfl ?_
      refine pm_iload_n K dX1_addPairs_3 (q := 4) rfl rfl rfl ?_
      refine pm_icmp_ge K dX1_addPairs_4 (tgt := 72) (q := 7) rfl rfl (fun z => absurd z (nI_ge (by omega) (by omega))) (fun _ => ?_)
      have eM : R (ix p) = M p := by rw [← hL p (by omega), so_map_at0]
      have eN : R (ix (p + 40)) = M (p + 40) := by rw [← hL (p + 40) (by omega)]; unfold so_map; rw [if_neg (by omega)]
      have gy := HA.2.2.2.2.1 (p + 40) (by omega)
      have hcl := fun f => so_cl2 (f := f) hi hL (show p < 76 by omega)
      have hxy : ix (p + 40) ≠ ix p := fun z => by have := hi _ _ (by omega) (by omega) z; omega
      have gx := HA.2.2.2.2.1 p (by omega)
      refine pm_aload_n K dX1_addPairs_7 (q := 8) rfl rfl rfl ?_
      refine pm_get K inX1 rfl (k := 0) (by decide) wlX1_18 rfl (by omega) ((hF 95 (by omega)).trans J) rfl dX1_addPairs_8 (q := 11) rfl ?_
      refine pm_iload_n K dX1_addPairs_11 (q := 12) rfl rfl rfl ?_
      refine pm_callV0 K gw_ok wcX1_57 (c_read l HA (p := p) (by omega)) rfl (by omega) HA.2.1 rfl rfl (Nat.le_of_ble_eq_true rfl) (by decide) dX1_addPairs_12 (q := 15) rfl (fun r1 h0 hp => ?_)
      obtain ⟨rfl, H0, F0⟩ := hp
      refine pm_astore_n K dX1_addPairs_15 (q := 16) rfl rfl (by decide) rfl ?_
      refine pm_aload_n K dX1_addPairs_16 (q := 17) rfl rfl rfl ?_
      refine pm_get K inX1 rfl (k := 0) (by decide) wlX1_18 rfl (by omega) ((F0 95 (by omega) (by omega)).trans ((hF 95 (by omega)).trans J)) rfl dX1_addPairs_17 (q := 20) rfl ?_
      refine pm_iload_n K dX1_addPairs_20 (q := 21) rfl rfl rfl ?_
      refine pm_bipush (v := nI 40) K dX1_addPairs_21 (q := 23) rfl (by decide) ?_
      refine pm_iadd K dX1_addPairs_23 (q := 24) rfl ?_
      rw [nI_add]
      refine pm_callV0 K gw_ok wcX1_57 (c_read l H0 (p := p + 40) (by omega)) rfl (by omega) H0.2.1 rfl rfl (Nat.le_of_ble_eq_true rfl) (by decide) dX1_addPairs_24 (q := 27) rfl (fun r1 h1 hp => ?_)
      obtain ⟨rfl, H1, F1⟩ := hp
      refine pm_astore K dX1_addPairs_27 (q := 29) rfl (by decide) rfl ?_
      refine pm_aload_n K dX1_addPairs_29 (q := 30) rfl rfl rfl ?_
      refine pm_aload_n K dX1_addPairs_30 (q := 31) rfl rfl rfl ?_
      refine pm_get K inX3 rfl (k := 3) (by decide) wlX1_61 rfl (by omega) (H1.row gx) rfl dX1_addPairs_31 (q := 34) rfl ?_
      refine pm_aload_n K dX1_addPairs_34 (q := 35) rfl rfl rfl ?_
      refine pm_get K inX3 rfl (k := 1) (by decide) wlX1_85 rfl (by omega) (H1.row gx) rfl dX1_addPairs_35 (q := 38) rfl ?_
      refine pm_aload K dX1_addPairs_38 (q := 40) rfl rfl ?_
      refine pm_get K inX3 rfl (k := 1) (by decide) wlX1_85 rfl (by omega) (H1.row gy) rfl dX1_addPairs_40 (q := 43) rfl ?_
      refine pm_iadd K dX1_addPairs_43 (q := 44) rfl ?_
      refine pm_aload_n K dX1_addPairs_44 (q := 45) rfl rfl rfl ?_
      refine pm_get K inX3 rfl (k := 2) (by decide) wlX1_88 rfl (by omega) (H1.row gx) rfl dX1_addPairs_45 (q := 48) rfl ?_
      refine pm_aload K dX1_addPairs_48 (q := 50) rfl rfl ?_
      refine pm_get K inX3 rfl (k := 2) (by decide) wlX1_88 rfl (by omega) (H1.row gy) rfl dX1_addPairs_50 (q := 53) rfl ?_
      refine pm_iadd K dX1_addPairs_53 (q := 54) rfl ?_
      refine pm_callV0 K gw_ok wcX1_91 (c_setColumns l (by omega) (H1.row gx) (R (ix p) 3) (R (ix p) 1 + R (ix (p + 40)) 1) (R (ix p) 2 + R (ix (p + 40)) 2)) rfl (by omega) (H1.row gx) rfl rfl (Nat.le_of_ble_eq_true rfl) (by decide) dX1_addPairs_54 (q := 57) rfl (fun r7 h7 hp => ?_)
      obtain ⟨rfl, rfl⟩ := hp
      have hF2 : so_fr h h0 := fun q hq => by rw [F0 q (by omega) (by omega), hF q hq]
      have H2 := H1.mod gx (f := rw_cols (R (ix p) 3) (R (ix p) 1 + R (ix (p + 40)) 1) (R (ix p) 2 + R (ix (p + 40)) 2) (R (ix p))) ((H1.2.2.2.2.2.1 _ gx).2)
      refine pm_aload_n K dX1_addPairs_57 (q := 58) rfl rfl rfl ?_
      refine pm_get K inX1 rfl (k := 0) (by decide) wlX1_18 rfl (by omega) (pm_ne (by omega) ((F1 95 (by omega) (by omega)).trans ((F0 95 (by omega) (by omega)).trans ((hF 95 (by omega)).trans J)))) rfl dX1_addPairs_58 (q := 61) rfl ?_
      refine pm_iload_n K dX1_addPairs_61 (q := 62) rfl rfl rfl ?_
      refine pm_aload_n K dX1_addPairs_62 (q := 63) rfl rfl rfl ?_
      refine pm_callV0 K gw_ok wcX1_74 (c_write l H2 (p := p) (by omega) gx) rfl (by omega) (pm_ne (by omega) H1.2.1) rfl rfl (Nat.le_of_ble_eq_true rfl) (by decide) dX1_addPairs_63 (q := 66) rfl (fun r9 h9 hp => ?_)
      obtain ⟨rfl, H3, F3⟩ := hp
      rw [so_id] at H3
      simp only [tk_app, List.append_assoc, List.cons_append, List.nil_append] at H3
      have hF9 : so_fr h h9 := fun q hq => by rw [F3 q (by omega), pm_ne (by omega) rfl, F1 q (by omega) (by omega), hF2 q hq]
      refine pm_inc K dX1_addPairs_66 (q := 69) rfl rfl (by decide) rfl ?_
      refine pm_goto K dX1_addPairs_69 (q := 2) rfl ?_
      exact ih (p + 1) h9 _ _ _ (by omega) (by rw [tr_ap_s]; exact H3) (by rw [so_map_succ0, ← eM, ← eN]; exact hcl _) hF9
  have := loop m 0 h R0 none none (by omega) (by rw [tr_ap, List.append_nil, so_at.tke HA0]; exact HA0) (by rw [so_map_0]; exact hL0) so_fr.rf
  exact this
set_option maxRecDepth 100000 in
theorem c_markStarts (l : Launch) {n : Nat} {h : pm_H} {M : Nat → rw_T} {ts : List Int32} (H : so_L n h M ts) (hn : 111 < n) (J : h 95 = pm_O cJoin [.ref 15, .ref 96]) {b0 m : Nat} {sd : Int32} {c : Nat → Nat} (hm : b0 + m ≤ 76) (hc : ∀ p, p < m → ms_c sd (M (b0 + p)) = nI (c p) ∧ c p < 1000) : bM0 l yX1_markStarts cX1_markStarts 9 none 2 [.ref 95, .int (nI b0), .int (nI m), .int sd] n h (fun r h' => r = none ∧ so_L n h' (so_map b0 m (ms_F c) M) (tk (ts ++ tr_sc b0 m)) ∧ so_fr h h') := by
  refine pm_enter rfl (Nat.le_of_ble_eq_true rfl) (fun G K Z => ?_)
  obtain ⟨ix, R0, HA0, hi, hL0⟩ := id H
  refine pm_ic0 K dX1_markStarts_0 (q := 1) rfl ?_
  refine pm_istore K dX1_markStarts_1 (q := 3) rfl (by decide) rfl ?_
  refine pm_ic0 K dX1_markStarts_3 (q := 4) rfl ?_
  refine pm_istore K dX1_markStarts_4 (q := 6) rfl (by decide) rfl ?_
  refine pm_ic0 K dX1_markStarts_6 (q := 7) rfl ?_
  refine pm_istore K dX1_markStarts_7 (q := 9) rfl (by decide) rfl ?_
  have loop : ∀ (k p : Nat) (h2 : pm_H) (R : Nat → rw_T) (x7 x8 : Option Value), p + k = m → so_at n h2 ix R (tk (ts ++ tr_sc b0 p)) → (∀ i, i < 76 → so_map b0 p (ms_F c) M i = R (ix i)) → so_fr h h2 → G 0 0 9 [some (.ref 95), some (.int (nI b0)), some (.int (nI m)), some (.int sd), some (.int (nI (nw_mk (ms_v c) p).length)), some (.int (nI (ms_st c p))), some (.int (nI p)), x7, x8] [] n h2 := by
    intro k
    induction k with
    | zero =>
      intro p h2 R x7 x8 hk HA hL hF
      refine pm_iload K dX1_markStarts_9 (q := 11) rfl rfl ?_
      refine pm_iload_n K dX1_markStarts_11 (q := 12) rfl rfl rfl ?_
      refine pm_icmp_ge K dX1_markStarts_12 (tgt := 109) (q := 15) rfl rfl (fun _ => ?_) (fun z => absurd z (fun z => z (nI_le (by omega) (by omega))))
      have ep : p = m := by omega
      subst ep
      exact pm_vret Z dX1_markStarts_109 rfl (Nat.le_of_ble_eq_true rfl) (Nat.le_of_ble_eq_true rfl) ⟨rfl, ⟨rfl, ⟨ix, R, HA, hi, hL⟩, hF⟩⟩
    | succ k ih =>
      intro p h2 R x7 x8 hk HA hL hF
      refine pm_iload K dX1_markStarts_9 (q := 11) rfl rfl ?_
      refine pm_iload_n K dX1_markStarts_11 (q := 12) rfl rfl rfl ?_
      refine pm_icmp_ge K dX1_markStarts_12 (tgt := 109) (q := 15) rfl rfl (fun z => absurd z (nI_ge (by omega) (by omega))) (fun _ => ?_)
      have gx := HA.2.2.2.2.1 (b0 + p) (by omega)
      refine pm_aload_n K dX1_markStarts_15 (q := 16) rfl rfl rfl ?_
      refine pm_get K inX1 rfl (k := 0) (by decide) wlX1_18 rfl (by omega) ((hF 95 (by omega)).trans J) rfl dX1_markStarts_16 (q := 19) rfl ?_
      refine pm_iload_n K dX1_markStarts_19 (q := 20) rfl rfl rfl ?_
      refine pm_iload K dX1_markStarts_20 (q := 22) rfl rfl ?_
      refine pm_iadd K dX1_markStarts_22 (q := 23) rfl ?_
      rw [nI_add]
      refine pm_callV0 K gw_ok wcX1_57 (c_read l HA (p := b0 + p) (by omega)) rfl (by omega) HA.2.1 rfl rfl (Nat.le_of_ble_eq_true rfl) (by decide) dX1_markStarts_23 (q := 26) rfl (fun r1 h1 hp => ?_)
      obtain ⟨rfl, H1, F1⟩ := hp
      have eM : R (ix (b0 + p)) = M (b0 + p) := by rw [← hL (b0 + p) (by omega), so_map_at]
      refine pm_astore K dX1_markStarts_26 (q := 28) rfl (by decide) rfl ?_
      have hcl := fun f => so_cl2 (f := f) hi hL (show b0 + p < 76 by omega)
      obtain ⟨hc1, hc2⟩ := hc p (by omega)
      rw [← eM] at hc1
      have hml := nw_mk_le (ms_v c) p
      have j48 : G 0 0 48 [some (.ref 95), some (.int (nI b0)), some (.int (nI m)), some (.int sd), some (.int (nI (nw_mk (ms_v c) p).length)), some (.int (nI (ms_st c p))), some (.int (nI p)), some (.ref (18 + ix (b0 + p))), some (.int (nI (c p)))] [] n h1 := by
        refine pm_iload K dX1_markStarts_48 (q := 50) rfl rfl ?_
        refine pm_if_le K dX1_markStarts_50 (tgt := 85) (q := 53) rfl rfl (fun hx => ?_) (fun hx => ?_)
        · have hz : c p = 0 := by rcases Nat.eq_zero_or_pos (c p) with z | z; exact z; exact absurd hx (nI_nle z (by omega))
          have hv : ms_v c p = false := decide_eq_false (by omega)
          refine pm_aload K dX1_markStarts_85 (q := 87) rfl rfl ?_
          refine pm_callV0 K gw_ok wcX1_122 (c_discard l (by omega) (H1.row gx)) rfl (by omega) (H1.row gx) rfl rfl (Nat.le_of_ble_eq_true rfl) (by decide) dX1_markStarts_87 (q := 90) rfl (fun r7 h7 hp => ?_)
          obtain ⟨rfl, rfl⟩ := hp
          have H2 := H1.mod gx (f := rw_disc (R (ix (b0 + p)))) (Or.inl rfl)
          refine pm_aload_n K dX1_markStarts_90 (q := 91) rfl rfl rfl ?_
          refine pm_get K inX1 rfl (k := 0) (by decide) wlX1_18 rfl (by omega) (pm_ne (by omega) ((F1 95 (by omega) (by omega)).trans ((hF 95 (by omega)).trans J))) rfl dX1_markStarts_91 (q := 94) rfl ?_
          refine pm_iload_n K dX1_markStarts_94 (q := 95) rfl rfl rfl ?_
          refine pm_iload K dX1_markStarts_95 (q := 97) rfl rfl ?_
          refine pm_iadd K dX1_markStarts_97 (q := 98) rfl ?_
          refine pm_aload K dX1_markStarts_98 (q := 100) rfl rfl ?_
          rw [nI_add]
          refine pm_callV0 K gw_ok wcX1_74 (c_write l H2 (p := b0 + p) (by omega) gx) rfl (by omega) (pm_ne (by omega) H1.2.1) rfl rfl (Nat.le_of_ble_eq_true rfl) (by decide) dX1_markStarts_100 (q := 103) rfl (fun r9 h9 hp => ?_)
          obtain ⟨rfl, H3, F3⟩ := hp
          rw [so_id] at H3
          simp only [tk_app, List.append_assoc, List.cons_append, List.nil_append] at H3
          have hF9 : so_fr h h9 := fun q hq => by rw [F3 q (by omega), pm_ne (by omega) rfl, F1 q (by omega) (by omega), hF q hq]
          refine pm_inc K dX1_markStarts_103 (q := 106) rfl rfl (by decide) rfl ?_
          refine pm_goto K dX1_markStarts_106 (q := 9) rfl ?_
          have := ih (p + 1) h9 _ (some (.ref (18 + ix (b0 + p)))) (some (.int (nI (c p)))) (by omega) (by rw [tr_sc_s]; exact H3) (by rw [so_map_succ, ms_F, if_neg (by rw [hv]; decide), ← eM]; exact hcl _) hF9
          rw [nw_mk_f hv, ms_st, hz, Nat.add_zero] at this
          rw [hz]
          exact this
        · have hz : 0 < c p := by rcases Nat.eq_zero_or_pos (c p) with z | z; exact absurd (by rw [z]; decide) hx; exact z
          have hv : ms_v c p = true := decide_eq_true hz
          refine pm_aload K dX1_markStarts_53 (q := 55) rfl rfl ?_
          refine pm_iload K dX1_markStarts_55 (q := 57) rfl rfl ?_
          refine pm_iload K dX1_markStarts_57 (q := 59) rfl rfl ?_
          refine pm_callV0 K gw_ok wcX1_116 (c_keep l (by omega) (H1.row gx) (nI p) (nI (nw_mk (ms_v c) p).length)) rfl (by omega) (H1.row gx) rfl rfl (Nat.le_of_ble_eq_true rfl) (by decide) dX1_markStarts_59 (q := 62) rfl (fun r7 h7 hp => ?_)
          obtain ⟨rfl, rfl⟩ := hp
          refine pm_aload K dX1_markStarts_62 (q := 64) rfl rfl ?_
          refine pm_iload K dX1_markStarts_64 (q := 66) rfl rfl ?_
          refine pm_iload K dX1_markStarts_66 (q := 68) rfl rfl ?_
          refine pm_isub K dX1_markStarts_68 (q := 69) rfl ?_
          refine rw_putU K (k := 12) (by decide) (by decide) wlX1_119 (by omega) dX1_markStarts_69 (q := 72) rfl ?_
          refine pm_inc K dX1_markStarts_72 (q := 75) rfl rfl (by decide) rfl ?_
          refine pm_iload K dX1_markStarts_75 (q := 77) rfl rfl ?_
          refine pm_iload K dX1_markStarts_77 (q := 79) rfl rfl ?_
          refine pm_iadd K dX1_markStarts_79 (q := 80) rfl ?_
          rw [nI_add]
          refine pm_istore K dX1_markStarts_80 (q := 82) rfl (by decide) rfl ?_
          refine pm_goto K dX1_markStarts_82 (q := 90) rfl ?_
          have H2 := H1.mod gx (f := upd (rw_keep (nI p) (nI (nw_mk (ms_v c) p).length) (R (ix (b0 + p)))) 12 (nI (ms_st c p) - nI (nw_mk (ms_v c) p).length)) (Or.inr rfl)
          refine pm_aload_n K dX1_markStarts_90 (q := 91) rfl rfl rfl ?_
          refine pm_get K inX1 rfl (k := 0) (by decide) wlX1_18 rfl (by omega) (pm_ne (by omega) ((F1 95 (by omega) (by omega)).trans ((hF 95 (by omega)).trans J))) rfl dX1_markStarts_91 (q := 94) rfl ?_
          refine pm_iload_n K dX1_markStarts_94 (q := 95) rfl rfl rfl ?_
          refine pm_iload K dX1_markStarts_95 (q := 97) rfl rfl ?_
          refine pm_iadd K dX1_markStarts_97 (q := 98) rfl ?_
          refine pm_aload K dX1_markStarts_98 (q := 100) rfl rfl ?_
          rw [nI_add]
          refine pm_callV0 K gw_ok wcX1_74 (c_write l H2 (p := b0 + p) (by omega) gx) rfl (by omega) (pm_ne (by omega) H1.2.1) rfl rfl (Nat.le_of_ble_eq_true rfl) (by decide) dX1_markStarts_100 (q := 103) rfl (fun r9 h9 hp => ?_)
          obtain ⟨rfl, H3, F3⟩ := hp
          rw [so_id] at H3
          simp only [tk_app, List.append_assoc, List.cons_append, List.nil_append] at H3
          have hF9 : so_fr h h9 := fun q hq => by rw [F3 q (by omega), pm_ne (by omega) rfl, F1 q (by omega) (by omega), hF q hq]
          refine pm_inc K dX1_markStarts_103 (q := 106) rfl rfl (by decide) rfl ?_
          refine pm_goto K dX1_markStarts_106 (q := 9) rfl ?_
          have := ih (p + 1) h9 _ (some (.ref (18 + ix (b0 + p)))) (some (.int (nI (c p)))) (by omega) (by rw [tr_sc_s]; exact H3) (by rw [so_map_succ, ms_F, if_pos hv, ← eM]; exact hcl _) hF9
          rw [nw_mk_t hv, ms_st] at this
          exact this
      refine pm_aload K dX1_markStarts_28 (q := 30) rfl rfl ?_
      refine pm_get K inX3 rfl (k := 4) (by decide) wlX1_65 rfl (by omega) (H1.row gx) rfl dX1_markStarts_30 (q := 33) rfl ?_
      refine pm_iload_n K dX1_markStarts_33 (q := 34) rfl rfl rfl ?_
      refine pm_icmp_ne K dX1_markStarts_34 (tgt := 45) (q := 37) rfl rfl (fun hs => ?_) (fun hs => ?_)
      · refine pm_ic0 K dX1_markStarts_45 (q := 46) rfl ?_
        refine pm_istore K dX1_markStarts_46 (q := 48) rfl (by decide) rfl ?_
        rw [ms_c, if_neg hs] at hc1
        rw [hc1]
        exact j48
      · refine pm_aload K dX1_markStarts_37 (q := 39) rfl rfl ?_
        refine pm_callV0 K gw_ok wcX1_112 (c_partners l (by omega) (H1.row gx)) rfl (by omega) (H1.row gx) rfl rfl (Nat.le_of_ble_eq_true rfl) (by decide) dX1_markStarts_39 (q := 42) rfl (fun r5 h5 hp => ?_)
        obtain ⟨rfl, e1⟩ := hp
        rw [e1]
        rw [ms_c, if_pos hs] at hc1
        rw [hc1]
        refine pm_goto K dX1_markStarts_42 (q := 46) rfl ?_
        refine pm_istore K dX1_markStarts_46 (q := 48) rfl (by decide) rfl ?_
        exact j48
  have := loop m 0 h R0 none none (by omega) (by rw [tr_sc, List.append_nil, so_at.tke HA0]; exact HA0) (by rw [so_map_0]; exact hL0) so_fr.rf
  exact this
end
section
/-! The join: copies. -/
def jf_fr (h h' : pm_H) : Prop := ∀ q, (q < 15 ∨ 93 < q) → q ≠ 96 → h' q = h q
/-- the row that is copied, and the number of the copy, behind p places -/
def fc_a (M : Nat → rw_T) (b0 : Nat) (sr : rw_T) : Nat → rw_T × Nat
  | 0 => (sr, 0)
  | p + 1 => if M (b0 + p) 10 = 0 then ((fc_a M b0 sr p).1, (fc_a M b0 sr p).2 + 1) else (M (b0 + p), 0)
def fc_F (M : Nat → rw_T) (b0 : Nat) (sr : rw_T) (p : Nat) (_ : rw_T) : rw_T := rw_sort ((fc_a M b0 sr (p + 1)).1 3) (nI (fc_a M b0 sr (p + 1)).2) 0 (fc_a M b0 sr (p + 1)).1
def tr_side (b m P : Nat) : List Int32 := tr_sc b m ++ (tr_sqs b m (so_k m) ++ (tr_sds b (max m P) (so_t (max m P) + 1) ++ tr_sc b P))
theorem jn_max {m P : Nat} (h1 : m < 2 ^ 31) (h2 : P < 2 ^ 31) : (if nI m < nI P then nI P else nI m) = nI (max m P) := by
  by_cases h : m < P
  · rw [if_pos (nI_lt h h2), Nat.max_eq_right (Nat.le_of_lt h)]
  · rw [if_neg (nI_nlt (by omega) h1), Nat.max_eq_left (by omega)]
set_option maxRecDepth 100000 in
theorem c_fillCopies (l : Launch) {n : Nat} {h : pm_H} {M : Nat → rw_T} {ts : List Int32} (H : so_L n h M ts) (hn : 111 < n) (J : h 95 = pm_O cJoin [.ref 15, .ref 96]) {sr : rw_T} (hS : h 96 = pm_O cRow (rw_fs sr)) (hsr : sr 10 = 0 ∨ sr 10 = 1) {b0 m : Nat} (hm : b0 + m ≤ 76) : bM0 l yX1_fillCopies cX1_fillCopies 6 none 2 [.ref 95, .int (nI b0), .int (nI m)] n h (fun r h' => r = none ∧ so_L n h' (so_map b0 m (fc_F M b0 sr) M) (tk (ts ++ tr_sc b0 m)) ∧ (∃ sr', h' 96 = pm_O cRow (rw_fs sr') ∧ (sr' 10 = 0 ∨ sr' 10 = 1)) ∧ jf_fr h h') := by
  refine pm_enter rfl (Nat.le_of_ble_eq_true rfl) (fun G K Z => ?_)
  obtain ⟨ix, R0, HA0, hi, hL0⟩ := id H
  refine pm_ic0 K dX1_fillCopies_0 (q := 1) rfl ?_
  refine pm_istore_n K dX1_fillCopies_1 (q := 2) rfl rfl (by decide) rfl ?_
  refine pm_ic0 K dX1_fillCopies_2 (q := 3) rfl ?_
  refine pm_istore K dX1_fillCopies_3 (q := 5) rfl (by decide) rfl ?_
  have loop : ∀ (k p : Nat) (h2 : pm_H) (R : Nat → rw_T) (x5 : Option Value), p + k = m → so_at n h2 ix R (tk (ts ++ tr_sc b0 p)) → (∀ i, i < 76 → so_map b0 p (fc_F M b0 sr) M i = R (ix i)) → jf_fr h h2 → h2 96 = pm_O cRow (rw_fs (fc_a M b0 sr p).1) → ((fc_a M b0 sr p).1 10 = 0 ∨ (fc_a M b0 sr p).1 10 = 1) → G 0 0 5 [some (.ref 95), some (.int (nI b0)), some (.int (nI m)), some (.int (nI (fc_a M b0 sr p).2)), some (.int (nI p)), x5] [] n h2 := by
    intro k
    induction k with
    | zero =>
      intro p h2 R x5 hk HA hL hF hs hb
      refine pm_iload K dX1_fillCopies_5 (q := 7) rfl rfl ?_
      refine pm_iload_n K dX1_fillCopies_7 (q := 8) rfl rfl rfl ?_
      refine pm_icmp_ge K dX1_fillCopies_8 (tgt := 89) (q := 11) rfl rfl (fun _ => ?_) (fun z => absurd z (fun z => z (nI_le (by omega) (by omega))))
      have ep : p = m := by omega
      subst ep
      exact pm_vret Z dX1_fillCopies_89 rfl (Nat.le_of_ble_eq_true rfl) (Nat.le_of_ble_eq_true rfl) ⟨rfl, ⟨rfl, ⟨ix, R, HA, hi, hL⟩, ⟨_, hs, hb⟩, hF⟩⟩
    | succ k ih =>
      intro p h2 R x5 hk HA hL hF hs hb
      refine pm_iload K dX1_fillCopies_5 (q := 7) rfl rfl ?_
      refine pm_iload_n K dX1_fillCopies_7 (q := 8) rfl rfl rfl ?_
      refine pm_icmp_ge K dX1_fillCopies_8 (tgt := 89) (q := 11) rfl rfl (fun z => absurd z (nI_ge (by omega) (by omega))) (fun _ => ?_)
      have gx := HA.2.2.2.2.1 (b0 + p) (by omega)
      refine pm_aload_n K dX1_fillCopies_11 (q := 12) rfl rfl rfl ?_
      refine pm_get K inX1 rfl (k := 0) (by decide) wlX1_18 rfl (by omega) ((hF 95 (by omega) (by omega)).trans J) rfl dX1_fillCopies_12 (q := 15) rfl ?_
      refine pm_iload_n K dX1_fillCopies_15 (q := 16) rfl rfl rfl ?_
      refine pm_iload K dX1_fillCopies_16 (q := 18) rfl rfl ?_
      refine pm_iadd K dX1_fillCopies_18 (q := 19) rfl ?_
      rw [nI_add]
      refine pm_callV0 K gw_ok wcX1_57 (c_read l HA (p := b0 + p) (by omega)) rfl (by omega) HA.2.1 rfl rfl (Nat.le_of_ble_eq_true rfl) (by decide) dX1_fillCopies_19 (q := 22) rfl (fun r1 h1 hp => ?_)
      obtain ⟨rfl, H1, F1⟩ := hp
      have j1 : h1 95 = pm_O cJoin [.ref 15, .ref 96] := (F1 95 (by omega) (by omega)).trans ((hF 95 (by omega) (by omega)).trans J)
      have s1 : h1 96 = pm_O cRow (rw_fs (fc_a M b0 sr p).1) := (F1 96 (by omega) (by omega)).trans hs
      have eM : R (ix (b0 + p)) = M (b0 + p) := by rw [← hL (b0 + p) (by omega), so_map_at]
      have hcl := fun f => so_cl2 (f := f) hi hL (show b0 + p < 76 by omega)
      have hbt := (H1.2.2.2.2.2.1 _ gx).2
      refine pm_astore K dX1_fillCopies_22 (q := 24) rfl (by decide) rfl ?_
      refine pm_aload K dX1_fillCopies_24 (q := 26) rfl rfl ?_
      refine pm_get K inX3 rfl (k := 10) (by decide) wlX1_125 rfl (by omega) (H1.row gx) rfl dX1_fillCopies_26 (q := 29) rfl ?_
      refine pm_if_eq K dX1_fillCopies_29 (tgt := 46) (q := 32) rfl rfl (fun hx => ?_) (fun hx => ?_)
      · have ea : fc_a M b0 sr (p + 1) = ((fc_a M b0 sr p).1, (fc_a M b0 sr p).2 + 1) := by rw [fc_a, if_pos (by rw [← eM]; exact hx)]
        refine pm_aload K dX1_fillCopies_46 (q := 48) rfl rfl ?_
        refine pm_aload_n K dX1_fillCopies_48 (q := 49) rfl rfl rfl ?_
        refine pm_get K inX1 rfl (k := 1) (by decide) wlX1_12 rfl (by omega) j1 rfl dX1_fillCopies_49 (q := 52) rfl ?_
        refine pm_callV0 K gw_ok wcX1_129 (c_become l (by omega) (H1.row gx) (by omega) s1 (by omega) hb) rfl (by omega) (H1.row gx) rfl rfl (Nat.le_of_ble_eq_true rfl) (by decide) dX1_fillCopies_52 (q := 55) rfl (fun r7 h7 hp => ?_)
        obtain ⟨rfl, rfl⟩ := hp
        refine pm_inc K dX1_fillCopies_55 (q := 58) rfl rfl (by decide) rfl ?_
        refine pm_aload K dX1_fillCopies_58 (q := 60) rfl rfl ?_
        refine pm_aload K dX1_fillCopies_60 (q := 62) rfl rfl ?_
        refine pm_get K inX3 rfl (k := 3) (by decide) wlX1_61 rfl (by omega) (pm_same _ _ _) rfl dX1_fillCopies_62 (q := 65) rfl ?_
        refine pm_iload_n K dX1_fillCopies_65 (q := 66) rfl rfl rfl ?_
        refine pm_ic0 K dX1_fillCopies_66 (q := 67) rfl ?_
        refine pm_callV0 K gw_ok wcX1_78 (c_sortBy l (by omega) (pm_same _ _ _) ((fc_a M b0 sr p).1 3) (nI ((fc_a M b0 sr p).2 + 1)) 0) rfl (by omega) (pm_same _ _ _) rfl rfl (Nat.le_of_ble_eq_true rfl) (by decide) dX1_fillCopies_67 (q := 70) rfl (fun r8 h8 hp => ?_)
        obtain ⟨rfl, rfl⟩ := hp
        rw [pm_up2]
        have H2 := H1.mod gx (f := rw_sort ((fc_a M b0 sr p).1 3) (nI ((fc_a M b0 sr p).2 + 1)) 0 (fc_a M b0 sr p).1) hb
        refine pm_aload_n K dX1_fillCopies_70 (q := 71) rfl rfl rfl ?_
        refine pm_get K inX1 rfl (k := 0) (by decide) wlX1_18 rfl (by omega) (pm_ne (by omega) j1) rfl dX1_fillCopies_71 (q := 74) rfl ?_
        refine pm_iload_n K dX1_fillCopies_74 (q := 75) rfl rfl rfl ?_
        refine pm_iload K dX1_fillCopies_75 (q := 77) rfl rfl ?_
        refine pm_iadd K dX1_fillCopies_77 (q := 78) rfl ?_
        refine pm_aload K dX1_fillCopies_78 (q := 80) rfl rfl ?_
        rw [nI_add]
        refine pm_callV0 K gw_ok wcX1_74 (c_write l H2 (p := b0 + p) (by omega) gx) rfl (by omega) (pm_ne (by omega) H1.2.1) rfl rfl (Nat.le_of_ble_eq_true rfl) (by decide) dX1_fillCopies_80 (q := 83) rfl (fun r9 h9 hp => ?_)
        obtain ⟨rfl, H3, F3⟩ := hp
        rw [so_id] at H3
        simp only [tk_app, List.append_assoc, List.cons_append, List.nil_append] at H3
        refine pm_inc K dX1_fillCopies_83 (q := 86) rfl rfl (by decide) rfl ?_
        refine pm_goto K dX1_fillCopies_86 (q := 5) rfl ?_
        have := ih (p + 1) h9 _ (some (.ref (18 + ix (b0 + p)))) (by omega) (by rw [tr_sc_s]; exact H3) (by rw [so_map_succ, fc_F, ea]; exact hcl _) (fun q a c => by rw [F3 q (by omega), pm_ne (by omega) rfl, F1 q (by omega) (by omega), hF q a c]) (by rw [F3 96 (by omega), pm_ne (by omega) rfl, s1, ea]) (by rw [ea]; exact hb)
        rw [ea] at this
        exact this
      · have ea : fc_a M b0 sr (p + 1) = (R (ix (b0 + p)), 0) := by rw [fc_a, if_neg (by rw [← eM]; exact hx), eM]
        refine pm_aload_n K dX1_fillCopies_32 (q := 33) rfl rfl rfl ?_
        refine pm_get K inX1 rfl (k := 1) (by decide) wlX1_12 rfl (by omega) j1 rfl dX1_fillCopies_33 (q := 36) rfl ?_
        refine pm_aload K dX1_fillCopies_36 (q := 38) rfl rfl ?_
        refine pm_callV0 K gw_ok wcX1_129 (c_become l (by omega) s1 (by omega) (H1.row gx) (by omega) hbt) rfl (by omega) s1 rfl rfl (Nat.le_of_ble_eq_true rfl) (by decide) dX1_fillCopies_38 (q := 41) rfl (fun r7 h7 hp => ?_)
        obtain ⟨rfl, rfl⟩ := hp
        have G1 := H1.mv (h' := va_up h1 96 (pm_O cRow (rw_fs (R (ix (b0 + p)))))) (fun q hq => pm_ne (by omega) rfl)
        refine pm_ic0 K dX1_fillCopies_41 (q := 42) rfl ?_
        refine pm_istore_n K dX1_fillCopies_42 (q := 43) rfl rfl (by decide) rfl ?_
        refine pm_goto K dX1_fillCopies_43 (q := 58) rfl ?_
        refine pm_aload K dX1_fillCopies_58 (q := 60) rfl rfl ?_
        refine pm_aload K dX1_fillCopies_60 (q := 62) rfl rfl ?_
        refine pm_get K inX3 rfl (k := 3) (by decide) wlX1_61 rfl (by omega) (G1.row gx) rfl dX1_fillCopies_62 (q := 65) rfl ?_
        refine pm_iload_n K dX1_fillCopies_65 (q := 66) rfl rfl rfl ?_
        refine pm_ic0 K dX1_fillCopies_66 (q := 67) rfl ?_
        refine pm_callV0 K gw_ok wcX1_78 (c_sortBy l (by omega) (G1.row gx) (R (ix (b0 + p)) 3) 0 0) rfl (by omega) (G1.row gx) rfl rfl (Nat.le_of_ble_eq_true rfl) (by decide) dX1_fillCopies_67 (q := 70) rfl (fun r8 h8 hp => ?_)
        obtain ⟨rfl, rfl⟩ := hp
        have H2 := G1.mod gx (f := rw_sort (R (ix (b0 + p)) 3) 0 0 (R (ix (b0 + p)))) hbt
        refine pm_aload_n K dX1_fillCopies_70 (q := 71) rfl rfl rfl ?_
        refine pm_get K inX1 rfl (k := 0) (by decide) wlX1_18 rfl (by omega) (pm_ne (by omega) (pm_ne (by decide) j1)) rfl dX1_fillCopies_71 (q := 74) rfl ?_
        refine pm_iload_n K dX1_fillCopies_74 (q := 75) rfl rfl rfl ?_
        refine pm_iload K dX1_fillCopies_75 (q := 77) rfl rfl ?_
        refine pm_iadd K dX1_fillCopies_77 (q := 78) rfl ?_
        refine pm_aload K dX1_fillCopies_78 (q := 80) rfl rfl ?_
        rw [nI_add]
        refine pm_callV0 K gw_ok wcX1_74 (c_write l H2 (p := b0 + p) (by omega) gx) rfl (by omega) (pm_ne (by omega) G1.2.1) rfl rfl (Nat.le_of_ble_eq_true rfl) (by decide) dX1_fillCopies_80 (q := 83) rfl (fun r9 h9 hp => ?_)
        obtain ⟨rfl, H3, F3⟩ := hp
        rw [so_id] at H3
        simp only [tk_app, List.append_assoc, List.cons_append, List.nil_append] at H3
        refine pm_inc K dX1_fillCopies_83 (q := 86) rfl rfl (by decide) rfl ?_
        refine pm_goto K dX1_fillCopies_86 (q := 5) rfl ?_
        have := ih (p + 1) h9 _ (some (.ref (18 + ix (b0 + p)))) (by omega) (by rw [tr_sc_s]; exact H3) (by rw [so_map_succ, fc_F, ea]; exact hcl _) (fun q a c => by rw [F3 q (by omega), pm_ne (by omega) rfl, pm_ne c rfl, F1 q (by omega) (by omega), hF q a c]) (by rw [F3 96 (by omega), pm_ne (by omega) rfl, pm_same, ea]) (by rw [ea]; exact hbt)
        rw [ea] at this
        exact this
  have := loop m 0 h R0 none (by omega) (by rw [tr_sc, List.append_nil, so_at.tke HA0]; exact HA0) (by rw [so_map_0]; exact hL0) (fun _ _ _ => rfl) hS hsr
  exact this
set_option maxRecDepth 100000 in
theorem c_expand (l : Launch) {n : Nat} {h : pm_H} {M : Nat → rw_T} {ts : List Int32} (H : so_L n h M ts) (hn : 111 < n) (J : h 95 = pm_O cJoin [.ref 15, .ref 96]) {sr : rw_T} (hS : h 96 = pm_O cRow (rw_fs sr)) (hsr : sr 10 = 0 ∨ sr 10 = 1) {b0 m P : Nat} {sd : Int32} {c : Nat → Nat} (hm : b0 + max m P ≤ 76) (hP : 1 ≤ P) (hc : ∀ p, p < m → ms_c sd (M (b0 + p)) = nI (c p) ∧ c p < 1000) : bM0 l yX1_expand cX1_expand 5 none 3 [.ref 95, .int (nI b0), .int (nI m), .int (nI P), .int sd] n h (fun r h' => r = none ∧ so_L n h' (so_map b0 P (fc_F (nw_sds rw_wf b0 (max m P) (so_t (max m P) + 1) (nw_sqs rw_wb b0 m (so_k m) (so_map b0 m (ms_F c) M))) b0 sr) (nw_sds rw_wf b0 (max m P) (so_t (max m P) + 1) (nw_sqs rw_wb b0 m (so_k m) (so_map b0 m (ms_F c) M)))) (tk (ts ++ tr_side b0 m P)) ∧ (∃ sr', h' 96 = pm_O cRow (rw_fs sr') ∧ (sr' 10 = 0 ∨ sr' 10 = 1)) ∧ jf_fr h h') := by
  refine pm_enter rfl (Nat.le_of_ble_eq_true rfl) (fun G K Z => ?_)
  have hm1 : m ≤ max m P := Nat.le_max_left _ _
  have hm2 : P ≤ max m P := Nat.le_max_right _ _
  refine pm_aload_n K dX1_expand_0 (q := 1) rfl rfl rfl ?_
  refine pm_iload_n K dX1_expand_1 (q := 2) rfl rfl rfl ?_
  refine pm_iload_n K dX1_expand_2 (q := 3) rfl rfl rfl ?_
  refine pm_iload K dX1_expand_3 (q := 5) rfl rfl ?_
  refine pm_callV0 K gw_ok wcX1_94 (c_markStarts l H hn J (c := c) (by omega) hc) rfl (by omega) J rfl rfl (Nat.le_of_ble_eq_true rfl) (by decide) dX1_expand_5 (q := 8) rfl (fun r1 h1 hp => ?_)
  obtain ⟨rfl, HL1, F1⟩ := hp
  obtain ⟨ix1, R1, HA1, hi1, hL1⟩ := id HL1
  refine pm_aload_n K dX1_expand_8 (q := 9) rfl rfl rfl ?_
  refine pm_get K inX1 rfl (k := 0) (by decide) wlX1_18 rfl (by omega) ((F1 95 (by omega)).trans J) rfl dX1_expand_9 (q := 12) rfl ?_
  refine pm_iload_n K dX1_expand_12 (q := 13) rfl rfl rfl ?_
  refine pm_iload_n K dX1_expand_13 (q := 14) rfl rfl rfl ?_
  refine pm_callV0 K gw_ok wcX1_97 (c_squeeze l HL1 (b0 := b0) (m0 := m) (by omega)) rfl (by omega) HA1.2.1 rfl rfl (Nat.le_of_ble_eq_true rfl) (by decide) dX1_expand_14 (q := 17) rfl (fun r2 h2 hp => ?_)
  obtain ⟨rfl, HL2, F2⟩ := hp
  have F12 := F1.tr F2
  obtain ⟨ix2, R2, HA2, hi2, hL2⟩ := id HL2
  refine pm_aload_n K dX1_expand_17 (q := 18) rfl rfl rfl ?_
  refine pm_get K inX1 rfl (k := 0) (by decide) wlX1_18 rfl (by omega) ((F12 95 (by omega)).trans J) rfl dX1_expand_18 (q := 21) rfl ?_
  refine pm_iload_n K dX1_expand_21 (q := 22) rfl rfl rfl ?_
  refine pm_iload_n K dX1_expand_22 (q := 23) rfl rfl rfl ?_
  refine pm_iload_n K dX1_expand_23 (q := 24) rfl rfl rfl ?_
  refine pm_mmax K (gw_2 (j := 195) rfl rfl) (gw_2 (j := 196) rfl rfl) (gw_1 (j := 9) rfl rfl) (gw_2 (j := 197) rfl rfl) (Nat.le_of_ble_eq_true rfl) (by decide) (by decide) (by decide) dX1_expand_24 (q := 27) rfl ?_
  rw [jn_max (by omega) (by omega)]
  refine pm_callV0 K gw_ok wcX1_106 (c_spread l HL2 (b0 := b0) (m0 := max m P) hm (by omega)) rfl (by omega) HA2.2.1 rfl rfl (Nat.le_of_ble_eq_true rfl) (by decide) dX1_expand_27 (q := 30) rfl (fun r3 h3 hp => ?_)
  obtain ⟨rfl, HL3, F3⟩ := hp
  have F13 := F12.tr F3
  refine pm_aload_n K dX1_expand_30 (q := 31) rfl rfl rfl ?_
  refine pm_iload_n K dX1_expand_31 (q := 32) rfl rfl rfl ?_
  refine pm_iload_n K dX1_expand_32 (q := 33) rfl rfl rfl ?_
  refine pm_callV0 K gw_ok wcX1_109 (c_fillCopies l HL3 hn ((F13 95 (by omega)).trans J) ((F13 96 (by omega)).trans hS) hsr (b0 := b0) (m := P) (by omega)) rfl (by omega) ((F13 95 (by omega)).trans J) rfl rfl (Nat.le_of_ble_eq_true rfl) (by decide) dX1_expand_33 (q := 36) rfl (fun r4 h4 hp => ?_)
  obtain ⟨rfl, HL4, S4, F4⟩ := hp
  simp only [tk_app, List.append_assoc] at HL4
  exact pm_vret Z dX1_expand_36 rfl (Nat.le_of_ble_eq_true rfl) (Nat.le_of_ble_eq_true rfl) ⟨rfl, ⟨rfl, HL4, S4, fun q a c => by rw [F4 q a c, F13 q a]⟩⟩
end
section
/-! The join's copies: where they come to lie. -/
theorem ms_mono (c : Nat → Nat) {p q : Nat} (h : p ≤ q) : ms_st c p ≤ ms_st c q := by
  induction q with
  | zero => rw [show p = 0 by omega]; exact Nat.le_refl _
  | succ q ih =>
    by_cases e : p = q + 1
    · rw [e]; exact Nat.le_refl _
    · rw [ms_st]
      exact Nat.le_trans (ih (by omega)) (Nat.le_add_right _ _)
theorem ms_ge (c : Nat → Nat) : ∀ p, (nw_mk (ms_v c) p).length ≤ ms_st c p
  | 0 => Nat.le_refl _
  | p + 1 => by
    have ih := ms_ge c p
    rw [ms_st]
    cases hv : ms_v c p with
    | false => rw [nw_mk_f hv]; omega
    | true =>
      have := of_decide_eq_true hv
      rw [nw_mk_t hv]; omega
theorem ms_gap (c : Nat → Nat) {p q : Nat} (h : p ≤ q) : ms_st c p - (nw_mk (ms_v c) p).length ≤ ms_st c q - (nw_mk (ms_v c) q).length := by
  induction q with
  | zero => rw [show p = 0 by omega]; exact Nat.le_refl _
  | succ q ih =>
    by_cases e : p = q + 1
    · rw [e]; exact Nat.le_refl _
    · have := ih (by omega)
      have hg := ms_ge c q
      rw [ms_st]
      cases hv : ms_v c q with
      | false => rw [nw_mk_f hv]; omega
      | true =>
        have := of_decide_eq_true hv
        rw [nw_mk_t hv]; omega
theorem so_k_lt {m j : Nat} (h : j < so_k m) : 2 ^ j ≤ m := by
  unfold so_k at h
  by_cases e : m ≤ 1
  · rw [if_pos e] at h; omega
  · rw [if_neg e] at h
    have h1 : 2 ^ j ≤ 2 ^ so_t m := Nat.pow_le_pow_right (by omega) (by omega)
    have := (so_t_sp (n := m) (by omega)).1
    omega
theorem so_t_up {m : Nat} (h : 1 ≤ m) : m ≤ 2 ^ (so_t m + 1) := by
  by_cases e : 2 ≤ m
  · exact (so_t_sp e).2
  · have : m = 1 := by omega
    subst this
    exact Nat.one_le_two_pow
theorem nw_Pm.sd {α : Type} {b n : Nat} {L : Nat → α} {w : α → Nat} {d : Nat} : ∀ m, m + d ≤ n → nw_Pm b n L (nw_sd w b n d m L)
  | 0, _ => nw_Pm.rf
  | m + 1, h => by
    unfold nw_sd
    split
    · exact nw_Pm.sd m (by omega)
    · exact (nw_Pm.sd m (by omega)).tr (nw_Pm.sw (by omega) (by omega))
theorem nw_Pm.sds {α : Type} {b n : Nat} {w : α → Nat} : ∀ (k : Nat) (L : Nat → α), (∀ j, j < k → 2 ^ j ≤ n) → nw_Pm b n L (nw_sds w b n k L)
  | 0, _, _ => nw_Pm.rf
  | k + 1, L, h => by
    unfold nw_sds
    have := h k (by omega)
    exact (nw_Pm.sd _ (by omega)).tr (nw_Pm.sds k _ (fun j hj => h j (by omega)))
theorem so_map_off {b m : Nat} {F : Nat → rw_T → rw_T} {M : Nat → rw_T} {p : Nat} (h : p < m) : so_map b m F M (b + p) = F p (M (b + p)) := by
  unfold so_map
  rw [if_pos (by omega), show b + p - b = p by omega]
theorem so_map_no {b m : Nat} {F : Nat → rw_T → rw_T} {M : Nat → rw_T} {i : Nat} (h : i < b ∨ b + m ≤ i) : so_map b m F M i = M i := by
  unfold so_map
  rw [if_neg (by omega)]
def ex_1 (b m : Nat) (c : Nat → Nat) (M : Nat → rw_T) : Nat → rw_T := so_map b m (ms_F c) M
def ex_3 (b m P : Nat) (c : Nat → Nat) (M : Nat → rw_T) : Nat → rw_T := nw_sds rw_wf b (max m P) (so_t (max m P) + 1) (nw_sqs rw_wb b m (so_k m) (ex_1 b m c M))
def ex_4 (b m P : Nat) (c : Nat → Nat) (sr : rw_T) (M : Nat → rw_T) : Nat → rw_T := so_map b P (fc_F (ex_3 b m P c M) b sr) (ex_3 b m P c M)
section EXR
variable {b m P : Nat} {c : Nat → Nat} {sr : rw_T} {M : Nat → rw_T}
theorem ex_out (hP : 1 ≤ P) {k : Nat} (h : k < b ∨ b + max m P ≤ k) : ex_4 b m P c sr M k = M k := by
  have h1 : m ≤ max m P := Nat.le_max_left _ _
  have h2 : P ≤ max m P := Nat.le_max_right _ _
  unfold ex_4
  rw [so_map_no (by omega)]
  unfold ex_3
  rw [(nw_Pm.sds (b := b) (n := max m P) (w := rw_wf) (so_t (max m P) + 1) (nw_sqs rw_wb b m (so_k m) (ex_1 b m c M)) (fun j hj => ?_)).2 k h, (nw_Pm.sqs (b := b) (n := m) (L := ex_1 b m c M) (w := rw_wb) (so_k m) (fun j hj => so_k_lt hj)).2 k (by omega)]
  · unfold ex_1
    exact so_map_no (by omega)
  · have h3 : 2 ^ j ≤ 2 ^ so_t (max m P) := Nat.pow_le_pow_right (by omega) (by omega)
    have h4 := so_t_le (n := max m P) (by omega)
    omega
theorem ex_rows (hm : m ≤ 76) (hP : 1 ≤ P) (hP2 : P ≤ 76) (hst : ms_st c m = P) (hdead : ∀ i, m ≤ i → i < max m P → rw_dead (M (b + i))) : (∀ p, p < m → 0 < c p → ex_3 b m P c M (b + ms_st c p) = ex_1 b m c M (b + p)) ∧ ∀ q, q < max m P → (∀ p, p < m → 0 < c p → ms_st c p ≠ q) → rw_dead (ex_3 b m P c M (b + q)) := by
  have hx1 : m ≤ max m P := Nat.le_max_left _ _
  have hx2 : P ≤ max m P := Nat.le_max_right _ _
  have hE1 : ∀ p, p < m → ex_1 b m c M (b + p) = ms_F c p (M (b + p)) := fun p hp => so_map_off hp
  obtain ⟨hs1, hs2⟩ := nw_sq_rows (w := rw_wb) (dead := rw_dead) (b := b) (n := m) (k := so_k m) (L := ex_1 b m c M) (live := ms_v c) (so_k_le m) (fun x hx => rw_dead_wb hx) (fun p hp hl => by
    rw [hE1 p hp, ms_F, if_pos hl]
    exact rw_keep_wb (f := M (b + p)) (nw_mk_le (ms_v c) p) (by omega)) (fun p hp hl => by
    rw [hE1 p hp, ms_F, if_neg (by rw [hl]; decide)]
    exact rw_dead_disc _)
  have hout : ∀ k, b + m ≤ k → nw_sqs rw_wb b m (so_k m) (ex_1 b m c M) k = M k := fun k hk => by
    rw [(nw_Pm.sqs (b := b) (n := m) (L := ex_1 b m c M) (w := rw_wb) (so_k m) (fun j hj => so_k_lt hj)).2 k (by omega)]
    exact so_map_no (by omega)
  obtain ⟨pos, hpos⟩ : ∃ f : Nat → Nat, ∀ j, f j = (nw_mk (ms_v c) m).getD j 0 := ⟨_, fun _ => rfl⟩
  have hget : ∀ j, j < (nw_mk (ms_v c) m).length → (nw_mk (ms_v c) m)[j]? = some (pos j) := fun j hj => by
    rw [hpos, List.getD_eq_getElem?_getD, List.getElem?_eq_getElem hj]
    rfl
  have hfa : ∀ j, j < (nw_mk (ms_v c) m).length → pos j < m ∧ 0 < c (pos j) ∧ (nw_mk (ms_v c) (pos j)).length = j := fun j hj => by
    obtain ⟨a1, a2, a3⟩ := nw_mk_get (ms_v c) m j _ (hget j hj)
    exact ⟨a1, of_decide_eq_true a2, a3⟩
  have hlt : ∀ j, j < (nw_mk (ms_v c) m).length → j ≤ ms_st c (pos j) ∧ ms_st c (pos j) < P := fun j hj => by
    obtain ⟨a1, a2, a3⟩ := hfa j hj
    have g1 := ms_ge c (pos j)
    have g2 := ms_mono c (p := pos j + 1) (q := m) (by omega)
    rw [ms_st] at g2
    omega
  have hH : nw_H b (max m P) (nw_mk (ms_v c) m).length (fun j => ex_1 b m c M (b + pos j)) rw_dead (fun j => j) (nw_sqs rw_wb b m (so_k m) (ex_1 b m c M)) := by
    constructor
    · intro j hj
      exact hs1 j _ (hget j hj)
    · intro i hi hno
      have hge : (nw_mk (ms_v c) m).length ≤ i := by
        rcases Nat.lt_or_ge i (nw_mk (ms_v c) m).length with h | h
        · exact absurd rfl (hno i h)
        · exact h
      by_cases h : i < m
      · exact hs2 i h hge
      · rw [hout (b + i) (by omega)]
        exact hdead i (by omega) hi
  have hr := nw_spread (w := rw_wf) (W := fun j => ms_st c (pos j) - j) (n := max m P) (k := so_t (max m P) + 1) (fun j hj => ?_) (fun x hx => ?_) (fun i j hij hj => ?_) (fun j hj => ?_) (so_t_up (by omega)) hH
  · constructor
    · intro p hp hc
      obtain ⟨j, hj⟩ := List.mem_iff_getElem?.mp (nw_mk_mem.mpr ⟨hp, decide_eq_true hc⟩ : p ∈ nw_mk (ms_v c) m)
      have hjl := (List.getElem?_eq_some_iff.mp hj).1
      have e := Option.some.inj ((hget j hjl).symm.trans hj)
      have h1 : ex_3 b m P c M (b + (j + (ms_st c (pos j) - j))) = ex_1 b m c M (b + pos j) := hr.1 j hjl
      have h2 := (hlt j hjl).1
      rw [show j + (ms_st c (pos j) - j) = ms_st c (pos j) by omega, e] at h1
      exact h1
    · intro q hq hno
      refine hr.2 q hq (fun j hj => ?_)
      obtain ⟨a1, a2, a3⟩ := hfa j hj
      have h2 := (hlt j hj).1
      show j + (ms_st c (pos j) - j) ≠ q
      rw [show j + (ms_st c (pos j) - j) = ms_st c (pos j) by omega]
      exact hno (pos j) a1 a2
  · obtain ⟨a1, a2, a3⟩ := hfa j hj
    have h2 := hlt j hj
    show rw_wf (ex_1 b m c M (b + pos j)) = ms_st c (pos j) - j
    rw [hE1 _ a1, ms_F, if_pos (show ms_v c (pos j) = true from decide_eq_true a2)]
    show (nI (ms_st c (pos j)) - nI (nw_mk (ms_v c) (pos j)).length).toBitVec.toNat = _
    rw [a3, pk_sub h2.1, pk_tn (by omega)]
  · unfold rw_wf
    rw [hx.2.2]
    rfl
  · obtain ⟨a1, a2, a3⟩ := hfa j hj
    obtain ⟨b1, b2, b3⟩ := hfa i (by omega)
    show ms_st c (pos i) - i ≤ ms_st c (pos j) - j
    have hpp : pos i ≤ pos j := by
      by_cases e : i = j
      · rw [e]; exact Nat.le_refl _
      · exact Nat.le_of_lt (nw_mk_lt (ms_v c) (n := m) (by omega) (hget i (by omega)) (hget j hj))
    have := ms_gap c hpp
    rw [a3, b3] at this
    exact this
  · have h2 := hlt j hj
    show j + (ms_st c (pos j) - j) < max m P
    omega
/-- place st p + i holds the i-th copy of row p -/
theorem ex_copy (hm : m ≤ 76) (hP : 1 ≤ P) (hP2 : P ≤ 76) (hst : ms_st c m = P) (hdead : ∀ i, m ≤ i → i < max m P → rw_dead (M (b + i))) {p : Nat} (hp : p < m) : ∀ i, i < c p → ex_4 b m P c sr M (b + (ms_st c p + i)) = rw_sort (M (b + p) 3) (nI i) 0 (ms_F c p (M (b + p))) := by
  obtain ⟨h1, h2⟩ := ex_rows hm hP hP2 hst hdead
  have hx2 : P ≤ max m P := Nat.le_max_right _ _
  have hE1 : ex_1 b m c M (b + p) = ms_F c p (M (b + p)) := so_map_off hp
  have hle : ms_st c p + c p ≤ P := by
    have := ms_mono c (p := p + 1) (q := m) (by omega)
    rw [ms_st] at this
    omega
  have hfc : ∀ i, i < c p → fc_a (ex_3 b m P c M) b sr (ms_st c p + i + 1) = (ms_F c p (M (b + p)), i) := by
    intro i
    induction i with
    | zero =>
      intro hi
      rw [Nat.add_zero, fc_a, h1 p hp hi, hE1, if_neg]
      rw [ms_F, if_pos (show ms_v c p = true from decide_eq_true hi)]
      show ¬ (1 : Int32) = 0
      decide
    | succ i ih =>
      intro hi
      have hd := h2 (ms_st c p + (i + 1)) (by omega) (fun p' hp' hc' => by
        rcases Nat.lt_or_ge p p' with h | h
        · have := ms_mono c (p := p + 1) (q := p') (by omega)
          rw [ms_st] at this
          omega
        · have := ms_mono c (p := p') (q := p) h
          omega)
      rw [fc_a, if_pos hd.1, show ms_st c p + (i + 1) = ms_st c p + i + 1 by omega, ih (by omega)]
  intro i hi
  unfold ex_4
  rw [so_map_off (by omega), fc_F, hfc i hi]
  show rw_sort (ms_F c p (M (b + p)) 3) (nI i) 0 _ = _
  have e3 : ms_F c p (M (b + p)) 3 = M (b + p) 3 := by
    unfold ms_F
    split <;> rfl
  rw [e3]
end EXR
theorem ex_list {β : Type} (c : Nat → Nat) (Y : Nat → β) (Z : Nat → Nat → β) : ∀ m, (∀ p, p < m → ∀ i, i < c p → Y (ms_st c p + i) = Z p i) → (List.range (ms_st c m)).map Y = (List.range m).flatMap (fun p => (List.range (c p)).map (Z p))
  | 0, _ => rfl
  | m + 1, h => by
    have ih := ex_list c Y Z m (fun p hp => h p (by omega))
    rw [ms_st, List.range_add, List.map_append, ih, List.range_succ, List.flatMap_append]
    congr 1
    rw [List.map_map, List.flatMap_singleton]
    apply List.map_congr_left
    intro i hi
    exact h m (by omega) i (List.mem_range.mp hi)
end
section
/-! The join's counts: what the two scans bring to each row, and the number of pairs. -/
def ct2 (M : Nat → rw_T) : Nat → Int32 → Nat × Nat
  | 0, _ => (0, 0)
  | p + 1, k => if M p 3 = k then (if M p 4 = 0 then ((ct2 M p k).1 + 1, (ct2 M p k).2) else ((ct2 M p k).1, (ct2 M p k).2 + 1)) else ct2 M p k
theorem ct2_yes {M : Nat → rw_T} {p : Nat} {k : Int32} (h : M p 3 = k) : ct2 M (p + 1) k = if M p 4 = 0 then ((ct2 M p k).1 + 1, (ct2 M p k).2) else ((ct2 M p k).1, (ct2 M p k).2 + 1) := if_pos h
theorem ct2_no {M : Nat → rw_T} {p : Nat} {k : Int32} (h : ¬ M p 3 = k) : ct2 M (p + 1) k = ct2 M p k := if_neg h
theorem ct2_none {M : Nat → rw_T} {k : Int32} : ∀ {p : Nat}, (∀ q, q < p → ¬ M q 3 = k) → ct2 M p k = (0, 0)
  | 0, _ => rfl
  | p + 1, h => by
    rw [ct2_no (h p (by omega))]
    exact ct2_none (fun q hq => h q (by omega))
theorem ct2_stay {M : Nat → rw_T} {k : Int32} {p : Nat} : ∀ {m : Nat}, p ≤ m → (∀ q, p ≤ q → q < m → ¬ M q 3 = k) → ct2 M m k = ct2 M p k
  | 0, h, _ => by rw [show p = 0 by omega]
  | m + 1, h, hq => by
    by_cases e : p = m + 1
    · rw [e]
    · rw [ct2_no (hq m (by omega) (by omega))]
      exact ct2_stay (by omega) (fun q h1 h2 => hq q h1 (by omega))
section CNT
variable {M : Nat → rw_T} {m : Nat}
theorem cf_ct (hs : ∀ i j, i ≤ j → j < m → (M i 3).toInt ≤ (M j 3).toInt) : ∀ p, p < m → cf_a M (p + 1) = (M p 3, ct2 M (p + 1) (M p 3))
  | 0, h => by
    rw [cf_a_s, cf_s, if_pos (Or.inl rfl), cf_t, ct2_yes rfl]
    split <;> rfl
  | p + 1, h => by
    have ih := cf_ct hs p (by omega)
    rw [cf_a_s, ct2_yes rfl]
    by_cases e : M (p + 1) 3 = M p 3
    · rw [cf_s, if_neg (by rw [ih]; rintro (z | z); omega; exact z e), cf_t, ih, e]
      split <;> rfl
    · have hz : ∀ q, q < p + 1 → ¬ M q 3 = M (p + 1) 3 := fun q hq z => by
        have h1 := hs q p (by omega) (by omega)
        have h2 := hs p (p + 1) (by omega) h
        rw [z] at h1
        exact e (Int32.toInt_inj.mp (by omega))
      rw [cf_s, if_pos (by rw [ih]; exact Or.inr e), cf_t, ct2_none hz]
      split <;> rfl
theorem kl_stay (hs : ∀ i j, i ≤ j → j < m → (M i 3).toInt ≤ (M j 3).toInt) {p : Nat} (hp : p < m) (hl : kl_last M m p = true) : ct2 M m (M p 3) = ct2 M (p + 1) (M p 3) := by
  refine ct2_stay (by omega) (fun q h1 h2 z => ?_)
  rcases of_decide_eq_true hl with hz | hz
  · omega
  · have a1 := hs p (p + 1) (by omega) (by omega)
    have a2 := hs (p + 1) q h1 h2
    rw [z] at a2
    exact hz (Int32.toInt_inj.mp (by omega))
def cn_g (M : Nat → rw_T) (m q : Nat) : Nat := if kl_last M m q = true then (ct2 M m (M q 3)).1 * (ct2 M m (M q 3)).2 else 0
def sg (g : Nat → Nat) : Nat → Nat
  | 0 => 0
  | p + 1 => sg g p + g p
theorem cb_ct {N : Nat → rw_T} (hs : ∀ i j, i ≤ j → j < m → (M i 3).toInt ≤ (M j 3).toInt) (hN : ∀ p, p < m → N p 3 = M p 3 ∧ N p 5 = nI (ct2 M (p + 1) (M p 3)).1 ∧ N p 6 = nI (ct2 M (p + 1) (M p 3)).2) : ∀ j k, k + j + 1 = m → (cb_a N m (m - k)).1 = M k 3 ∧ (cb_a N m (m - k)).2.1 = nI (ct2 M m (M k 3)).1 ∧ (cb_a N m (m - k)).2.2.1 = nI (ct2 M m (M k 3)).2 ∧ ∃ s, (cb_a N m (m - k)).2.2.2 = nI s ∧ s + sg (cn_g M m) k = sg (cn_g M m) m
  | 0, k, h => by
    obtain ⟨a1, a2, a3⟩ := hN k (by omega)
    have hl : kl_last M m k = true := decide_eq_true (Or.inl (by omega))
    rw [cb_new (by omega) (Or.inl (by omega)), show m - (k + 1) = 0 by omega]
    have e := kl_stay hs (by omega) hl
    refine ⟨a1, by rw [e]; exact a2, by rw [e]; exact a3, (ct2 M m (M k 3)).1 * (ct2 M m (M k 3)).2, ?_, ?_⟩
    · show (0 : Int32) + N k 5 * N k 6 = _
      rw [a2, a3, pk_mul, e]
      exact Int32.zero_add _
    · have : sg (cn_g M m) m = sg (cn_g M m) (k + 1) := by rw [show m = k + 1 by omega]
      rw [this, sg, cn_g, if_pos hl]
      omega
  | j + 1, k, h => by
    obtain ⟨i1, i2, i3, s, i4, i5⟩ := cb_ct hs hN j (k + 1) (by omega)
    obtain ⟨a1, a2, a3⟩ := hN k (by omega)
    rw [sg] at i5
    by_cases e : M k 3 = M (k + 1) 3
    · have hl : kl_last M m k = false := decide_eq_false (by rintro (z | z); omega; exact z e)
      rw [cb_old (by omega) (by rw [i1, a1]; rintro (z | z); omega; exact z e)]
      refine ⟨by rw [i1, e], by rw [i2, e], by rw [i3, e], s, i4, ?_⟩
      rw [cn_g, if_neg (by rw [hl]; decide)] at i5
      omega
    · have hl : kl_last M m k = true := decide_eq_true (Or.inr e)
      have e2 := kl_stay hs (by omega) hl
      rw [cb_new (by omega) (Or.inr (by rw [i1, a1]; exact e))]
      refine ⟨a1, by rw [e2]; exact a2, by rw [e2]; exact a3, s + (ct2 M m (M k 3)).1 * (ct2 M m (M k 3)).2, ?_, ?_⟩
      · show (cb_a N m (m - (k + 1))).2.2.2 + N k 5 * N k 6 = _
        rw [i4, a2, a3, pk_mul, e2, nI_add]
      · rw [cn_g, if_pos hl] at i5
        omega
/-- pairs by groups, pairs by left rows -/
def cn_v (M : Nat → rw_T) (m q : Nat) : Nat := if M q 4 = 0 then (ct2 M m (M q 3)).2 else 0
theorem cn_uv (hs : ∀ i j, i ≤ j → j < m → (M i 3).toInt ≤ (M j 3).toInt) : ∀ p, p < m → sg (cn_v M m) (p + 1) = sg (cn_g M m) (p + 1) + (if kl_last M m p = true then 0 else (ct2 M (p + 1) (M p 3)).1 * (ct2 M m (M p 3)).2) := by
  have step : ∀ p, p < m → ∀ a, (ct2 M (p + 1) (M p 3)).1 = a + (if M p 4 = 0 then 1 else 0) → ∀ u, u + cn_v M m p + a * (ct2 M m (M p 3)).2 = u + cn_g M m p + (if kl_last M m p = true then 0 else (ct2 M (p + 1) (M p 3)).1 * (ct2 M m (M p 3)).2) := by
    intro p hp a ha u
    have e1 : cn_v M m p + a * (ct2 M m (M p 3)).2 = (ct2 M (p + 1) (M p 3)).1 * (ct2 M m (M p 3)).2 := by
      rw [ha, cn_v]
      by_cases h : M p 4 = 0
      · rw [if_pos h, if_pos h, Nat.add_mul, Nat.one_mul]; omega
      · rw [if_neg h, if_neg h, Nat.add_zero]; omega
    rw [Nat.add_assoc, e1, cn_g]
    by_cases hl : kl_last M m p = true
    · rw [if_pos hl, if_pos hl, kl_stay hs hp hl]
      omega
    · rw [if_neg hl, if_neg hl]
      omega
  intro p
  induction p with
  | zero =>
    intro hp
    have := step 0 hp 0 (by rw [ct2_yes rfl]; split <;> rfl) 0
    rw [sg, sg, sg, sg]
    simpa using this
  | succ p ih =>
    intro hp
    have ih := ih (by omega)
    have s1 : sg (cn_v M m) (p + 1 + 1) = sg (cn_v M m) (p + 1) + cn_v M m (p + 1) := rfl
    have s2 : sg (cn_g M m) (p + 1 + 1) = sg (cn_g M m) (p + 1) + cn_g M m (p + 1) := rfl
    rw [s1, s2, ih]
    by_cases e : M (p + 1) 3 = M p 3
    · have hl : ¬ kl_last M m p = true := fun z => by rcases of_decide_eq_true z with z | z; omega; exact z e.symm
      rw [if_neg hl]
      have := step (p + 1) hp (ct2 M (p + 1) (M p 3)).1 (by rw [ct2_yes rfl, e]; split <;> rfl) (sg (cn_g M m) (p + 1))
      rw [e] at this ⊢
      omega
    · have hl : kl_last M m p = true := decide_eq_true (Or.inr (fun z => e z.symm))
      rw [if_pos hl]
      have hz : ∀ q, q < p + 1 → ¬ M q 3 = M (p + 1) 3 := fun q hq z => by
        have h1 := hs q p (by omega) (by omega)
        have h2 := hs p (p + 1) (by omega) hp
        rw [z] at h1
        exact e (Int32.toInt_inj.mp (by omega))
      have := step (p + 1) hp 0 (by rw [ct2_yes rfl, ct2_none hz]; split <;> rfl) (sg (cn_g M m) (p + 1))
      simpa using this
theorem cn_pairs (hs : ∀ i j, i ≤ j → j < m → (M i 3).toInt ≤ (M j 3).toInt) : sg (cn_v M m) m = sg (cn_g M m) m := by
  cases m with
  | zero => rfl
  | succ k =>
    have := cn_uv hs k (by omega)
    have hl : kl_last M (k + 1) k = true := decide_eq_true (Or.inl rfl)
    rw [if_pos hl, Nat.add_zero] at this
    exact this
end CNT
end
section
/-! The join: its pairs are those of the two lots of rows. -/
abbrev jn_T : Type := Int32 × Int32 × Int32
def pj (f : rw_T) : jn_T := (f 3, f 1, f 2)
def jQ (f : rw_T) : jn_T × Int32 := (pj f, f 4)
def jn_f (a r : jn_T) : bg_T := (a.1, a.2.1 + r.2.1, a.2.2 + r.2.2)
theorem ms_split (c : Nat → Nat) : ∀ {m q : Nat}, q < ms_st c m → ∃ p, p < m ∧ ∃ i, i < c p ∧ q = ms_st c p + i
  | 0, q, h => absurd h (Nat.not_lt_zero _)
  | m + 1, q, h => by
    rw [ms_st] at h
    by_cases e : q < ms_st c m
    · obtain ⟨p, hp, i, hi, hq⟩ := ms_split c e
      exact ⟨p, by omega, i, hi, hq⟩
    · exact ⟨m, by omega, q - ms_st c m, by omega, by omega⟩
theorem jn_ct_app {α : Type} (k : α → Int32) (l l' : List α) (q : Int32) : jn_ct k (l ++ l') q = jn_ct k l q + jn_ct k l' q := by
  unfold jn_ct
  rw [List.filter_append, List.length_append]
theorem jn_ct_perm {α : Type} (k : α → Int32) {l l' : List α} (h : l.Perm l') (q : Int32) : jn_ct k l q = jn_ct k l' q := (h.filter _).length_eq
theorem jn_flif {α β : Type} (P : α → Bool) (g : α → List β) : ∀ l : List α, l.flatMap (fun a => if P a = true then g a else []) = (l.filter P).flatMap g
  | [] => rfl
  | a :: l => by
    rw [List.flatMap_cons, jn_flif P g l, List.filter_cons]
    by_cases h : P a = true
    · rw [if_pos h, if_pos h, List.flatMap_cons]
    · rw [if_neg h, if_neg h]
      rfl
theorem jn_fl1 {α β : Type} (g : α → β) : ∀ l : List α, l.flatMap (fun r => [g r]) = l.map g
  | [] => rfl
  | a :: l => by
    rw [List.flatMap_cons, jn_fl1 g l]
    rfl
theorem jn_psum {l l' : List Nat} (h : l.Perm l') : l.sum = l'.sum := by
  induction h with
  | nil => rfl
  | cons x _ ih => rw [List.sum_cons, List.sum_cons, ih]
  | swap x y l => rw [List.sum_cons, List.sum_cons, List.sum_cons, List.sum_cons]; omega
  | trans _ _ ih1 ih2 => exact ih1.trans ih2
theorem jn_flapp {α β : Type} (g h : α → List β) : ∀ l : List α, (l.flatMap (fun a => g a ++ h a)).Perm (l.flatMap g ++ l.flatMap h)
  | [] => List.Perm.refl _
  | a :: l => by
    rw [List.flatMap_cons, List.flatMap_cons, List.flatMap_cons]
    have ih := jn_flapp g h l
    refine (List.Perm.append_left _ ih).trans ?_
    rw [List.append_assoc, List.append_assoc]
    refine List.Perm.append_left _ ?_
    rw [← List.append_assoc, ← List.append_assoc]
    exact List.Perm.append_right _ List.perm_append_comm
theorem jn_swap {α β γ : Type} (P : α → β → Bool) (f : α → β → γ) (B : List β) : ∀ A : List α, (A.flatMap (fun a => (B.filter (fun r => P a r)).map (f a))).Perm (B.flatMap (fun r => (A.filter (fun a => P a r)).map (fun a => f a r)))
  | [] => by
    have : B.flatMap (fun r => (([] : List α).filter (fun a => P a r)).map (fun a => f a r)) = [] := by
      induction B with
      | nil => rfl
      | cons b B ih => rw [List.flatMap_cons, ih]; rfl
    rw [this]
    exact List.Perm.refl _
  | a :: A => by
    rw [List.flatMap_cons]
    have e : (fun r => ((a :: A).filter (fun a => P a r)).map (fun a => f a r)) = fun r => (if P a r = true then [f a r] else []) ++ (A.filter (fun a => P a r)).map (fun a => f a r) := by
      funext r
      rw [List.filter_cons]
      split <;> rfl
    rw [e]
    refine List.Perm.trans ?_ (jn_flapp _ _ B).symm
    have e2 : B.flatMap (fun r => if P a r = true then [f a r] else []) = (B.filter (fun r => P a r)).map (f a) := by
      rw [jn_flif (fun r => P a r) (fun r => [f a r])]
      exact jn_fl1 _ _
    rw [e2]
    exact List.Perm.append_left _ (jn_swap P f B A)
def jn_naive (A B : List jn_T) : List bg_T := A.flatMap (fun a => (B.filter (fun r => a.1 == r.1)).map (jn_f a))
theorem jn_naive_perm {A A' B B' : List jn_T} (hA : A.Perm A') (hB : B.Perm B') : (jn_naive A B).Perm (jn_naive A' B') := by
  unfold jn_naive
  refine (hA.flatMap_right _).trans ?_
  clear hA
  induction A' with
  | nil => exact List.Perm.refl _
  | cons a A ih =>
    rw [List.flatMap_cons, List.flatMap_cons]
    exact List.Perm.append ((hB.filter _).map _) ih
theorem jn_naive_len (A B : List jn_T) : (jn_naive A B).length = (A.map (fun a => jn_ct (fun r : jn_T => r.1) B a.1)).sum := by
  unfold jn_naive
  rw [List.length_flatMap]
  congr 1
  apply List.map_congr_left
  intro a _
  rw [List.length_map]
  unfold jn_ct
  congr 1
  apply List.filter_congr
  intro r _
  exact Bool.beq_comm
theorem jn_naive_len2 (A B : List jn_T) : (jn_naive A B).length = (B.map (fun r => jn_ct (fun a : jn_T => a.1) A r.1)).sum := by
  unfold jn_naive
  rw [(jn_swap (fun (a r : jn_T) => a.1 == r.1) jn_f B A).length_eq, List.length_flatMap]
  congr 1
  apply List.map_congr_left
  intro r _
  rw [List.length_map]
  rfl
theorem ms_sum (c : Nat → Nat) : ∀ m, ms_st c m = ((List.range m).map c).sum
  | 0 => rfl
  | m + 1 => by
    rw [ms_st, ms_sum c m, List.range_succ, List.map_append, List.sum_append]
    simp
theorem sg_sum (c : Nat → Nat) : ∀ m, sg c m = ((List.range m).map c).sum
  | 0 => rfl
  | m + 1 => by
    rw [sg, sg_sum c m, List.range_succ, List.map_append, List.sum_append]
    simp
/-- the left, the right ones among rows with their side -/
def jn_l (D : List (jn_T × Int32)) : List jn_T := (D.filter (fun u => decide (u.2 = 0))).map (fun u => u.1)
def jn_r (D : List (jn_T × Int32)) : List jn_T := (D.filter (fun u => !(decide (u.2 = 0)))).map (fun u => u.1)
theorem jn_l_app (D E : List (jn_T × Int32)) : jn_l (D ++ E) = jn_l D ++ jn_l E := by
  unfold jn_l
  rw [List.filter_append, List.map_append]
theorem jn_r_app (D E : List (jn_T × Int32)) : jn_r (D ++ E) = jn_r D ++ jn_r E := by
  unfold jn_r
  rw [List.filter_append, List.map_append]
theorem jn_lC (A B : List jn_T) : jn_l (A.map (fun t => (t, (0 : Int32))) ++ B.map (fun t => (t, (1 : Int32)))) = A := by
  rw [jn_l_app]
  unfold jn_l
  rw [List.filter_map, List.filter_map, List.map_map, List.map_map]
  have f1 : A.filter ((fun u : jn_T × Int32 => decide (u.2 = 0)) ∘ fun t => (t, (0 : Int32))) = A := List.filter_eq_self.mpr (fun _ _ => rfl)
  have f0 : B.filter ((fun u : jn_T × Int32 => decide (u.2 = 0)) ∘ fun t => (t, (1 : Int32))) = [] := List.filter_eq_nil_iff.mpr (fun _ _ => by show ¬ decide ((1 : Int32) = 0) = true; decide)
  rw [f1, f0, List.map_nil, List.append_nil]
  exact List.map_id' A
theorem jn_rC (A B : List jn_T) : jn_r (A.map (fun t => (t, (0 : Int32))) ++ B.map (fun t => (t, (1 : Int32)))) = B := by
  rw [jn_r_app]
  unfold jn_r
  rw [List.filter_map, List.filter_map, List.map_map, List.map_map]
  have f1 : B.filter ((fun u : jn_T × Int32 => !(decide (u.2 = 0))) ∘ fun t => (t, (1 : Int32))) = B := List.filter_eq_self.mpr (fun _ _ => rfl)
  have f0 : A.filter ((fun u : jn_T × Int32 => !(decide (u.2 = 0))) ∘ fun t => (t, (0 : Int32))) = [] := List.filter_eq_nil_iff.mpr (fun _ _ => by show ¬ (!(decide ((0 : Int32) = 0))) = true; decide)
  rw [f1, f0, List.map_nil, List.nil_append]
  exact List.map_id' B
theorem ct2_list (M : Nat → rw_T) (k : Int32) : ∀ m, ct2 M m k = (jn_ct (fun a : jn_T => a.1) (jn_l ((List.range m).map (fun p => jQ (M p)))) k, jn_ct (fun a : jn_T => a.1) (jn_r ((List.range m).map (fun p => jQ (M p)))) k)
  | 0 => rfl
  | m + 1 => by
    have ih := ct2_list M k m
    rw [List.range_succ, List.map_append, jn_l_app, jn_r_app, jn_ct_app, jn_ct_app]
    have e : ct2 M (m + 1) k = ((ct2 M m k).1 + jn_ct (fun a : jn_T => a.1) (jn_l [jQ (M m)]) k, (ct2 M m k).2 + jn_ct (fun a : jn_T => a.1) (jn_r [jQ (M m)]) k) := by
      by_cases h : M m 3 = k
      · rw [ct2_yes h]
        by_cases h4 : M m 4 = 0
        · rw [if_pos h4]
          simp [jn_l, jn_r, jQ, pj, jn_ct, h, h4]
        · rw [if_neg h4]
          simp [jn_l, jn_r, jQ, pj, jn_ct, h, h4]
      · rw [ct2_no h]
        have hb : (M m 3 == k) = false := by simpa using h
        by_cases h4 : M m 4 = 0
        · simp [jn_l, jn_r, jQ, pj, jn_ct, hb, h4]
        · simp [jn_l, jn_r, jQ, pj, jn_ct, hb, h4]
    rw [e, ih]
    rfl
end
section
/-! The join: the pairs that lie side by side in the end. -/
section JFIN
variable {M EL ER : Nat → rw_T} {k P : Nat} {A0 B0 : List jn_T}
def jn_cL (M : Nat → rw_T) (B0 : List jn_T) (p : Nat) : Nat := if M p 4 = 0 then jn_ct (fun a : jn_T => a.1) B0 (M p 3) else 0
def jn_cR (M : Nat → rw_T) (A0 : List jn_T) (p : Nat) : Nat := if M p 4 = 0 then 0 else jn_ct (fun a : jn_T => a.1) A0 (M p 3)
def jn_C (A0 B0 : List jn_T) : List (jn_T × Int32) := A0.map (fun t => (t, (0 : Int32))) ++ B0.map (fun t => (t, (1 : Int32)))
theorem jn_lP (hQ : ((List.range k).map (fun p => jQ (M p))).Perm (jn_C A0 B0)) : (jn_l ((List.range k).map (fun p => jQ (M p)))).Perm A0 := by
  have h : (jn_l ((List.range k).map (fun p => jQ (M p)))).Perm (jn_l (jn_C A0 B0)) := (hQ.filter _).map _
  unfold jn_C at h
  rw [jn_lC] at h
  exact h
theorem jn_rP (hQ : ((List.range k).map (fun p => jQ (M p))).Perm (jn_C A0 B0)) : (jn_r ((List.range k).map (fun p => jQ (M p)))).Perm B0 := by
  have h : (jn_r ((List.range k).map (fun p => jQ (M p)))).Perm (jn_r (jn_C A0 B0)) := (hQ.filter _).map _
  unfold jn_C at h
  rw [jn_rC] at h
  exact h
theorem jn_lM (M : Nat → rw_T) (k : Nat) : jn_l ((List.range k).map (fun p => jQ (M p))) = ((List.range k).filter (fun p => decide (M p 4 = 0))).map (fun p => pj (M p)) := by
  unfold jn_l
  rw [List.filter_map, List.map_map]
  rfl
theorem jn_rM (M : Nat → rw_T) (k : Nat) : jn_r ((List.range k).map (fun p => jQ (M p))) = ((List.range k).filter (fun p => !(decide (M p 4 = 0)))).map (fun p => pj (M p)) := by
  unfold jn_r
  rw [List.filter_map, List.map_map]
  rfl
theorem jn_stL (hQ : ((List.range k).map (fun p => jQ (M p))).Perm (jn_C A0 B0)) : ms_st (jn_cL M B0) k = (jn_naive A0 B0).length := by
  rw [ms_sum, jn_naive_len]
  have h := jn_psum (hQ.map (fun u => if u.2 = 0 then jn_ct (fun a : jn_T => a.1) B0 u.1.1 else 0))
  rw [List.map_map] at h
  refine Eq.trans ?_ (h.trans ?_)
  · rfl
  · unfold jn_C
    rw [List.map_append, List.sum_append, List.map_map, List.map_map]
    have e0 : (B0.map ((fun u : jn_T × Int32 => if u.2 = 0 then jn_ct (fun a : jn_T => a.1) B0 u.1.1 else 0) ∘ fun t => (t, (1 : Int32)))).sum = 0 := by
      have : ((fun u : jn_T × Int32 => if u.2 = 0 then jn_ct (fun a : jn_T => a.1) B0 u.1.1 else 0) ∘ fun t => (t, (1 : Int32))) = fun _ => 0 := by
        funext t
        show (if (1 : Int32) = 0 then jn_ct (fun a : jn_T => a.1) B0 t.1 else 0) = 0
        rw [if_neg (by decide)]
      rw [this, List.map_const', List.sum_replicate_nat]
      omega
    rw [e0, Nat.add_zero]
    rfl
theorem jn_stR (hQ : ((List.range k).map (fun p => jQ (M p))).Perm (jn_C A0 B0)) : ms_st (jn_cR M A0) k = (jn_naive A0 B0).length := by
  rw [ms_sum, jn_naive_len2]
  have h := jn_psum (hQ.map (fun u => if u.2 = 0 then 0 else jn_ct (fun a : jn_T => a.1) A0 u.1.1))
  rw [List.map_map] at h
  refine Eq.trans ?_ (h.trans ?_)
  · rfl
  · unfold jn_C
    rw [List.map_append, List.sum_append, List.map_map, List.map_map]
    have e0 : (A0.map ((fun u : jn_T × Int32 => if u.2 = 0 then 0 else jn_ct (fun a : jn_T => a.1) A0 u.1.1) ∘ fun t => (t, (0 : Int32)))).sum = 0 := by
      have : ((fun u : jn_T × Int32 => if u.2 = 0 then 0 else jn_ct (fun a : jn_T => a.1) A0 u.1.1) ∘ fun t => (t, (0 : Int32))) = fun _ => 0 := by
        funext t
        show (if (0 : Int32) = 0 then 0 else jn_ct (fun a : jn_T => a.1) A0 t.1) = 0
        rw [if_pos rfl]
      rw [this, List.map_const', List.sum_replicate_nat]
      omega
    rw [e0, Nat.zero_add]
    rfl
theorem jn_fin (hQ : ((List.range k).map (fun p => jQ (M p))).Perm (jn_C A0 B0)) (hP : P = (jn_naive A0 B0).length) (hA1 : A0.length < 1000)
    (hs : ∀ i j, i ≤ j → j < k → (M i 4).toInt < (M j 4).toInt ∨ (M i 4).toInt = (M j 4).toInt ∧ (M i 3).toInt ≤ (M j 3).toInt)
    (hl : ∀ p, p < k → ∀ i, i < jn_cL M B0 p → pj (EL (ms_st (jn_cL M B0) p + i)) = pj (M p))
    (hr : ∀ p, p < k → ∀ i, i < jn_cR M A0 p → pj (ER (40 + (ms_st (jn_cR M A0) p + i))) = pj (M p) ∧ ER (40 + (ms_st (jn_cR M A0) p + i)) 7 = M p 3 ∧ ER (40 + (ms_st (jn_cR M A0) p + i)) 8 = nI i ∧ ER (40 + (ms_st (jn_cR M A0) p + i)) 9 = 0) :
    ((List.range P).map (fun p => jn_f (pj (EL p)) (pj (so_sort 40 P ER (40 + p))))).Perm (jn_naive A0 B0) := by
  have hstL : ms_st (jn_cL M B0) k = P := by rw [hP]; exact jn_stL hQ
  have hstR : ms_st (jn_cR M A0) k = P := by rw [hP]; exact jn_stR hQ
  have hAP := jn_lP hQ
  have hBP := jn_rP hQ
  have hcA : ∀ q, jn_ct (fun a : jn_T => a.1) (jn_l ((List.range k).map (fun p => jQ (M p)))) q = jn_ct (fun a : jn_T => a.1) A0 q := fun q => jn_ct_perm _ hAP q
  have hcB : ∀ q, jn_ct (fun a : jn_T => a.1) (jn_r ((List.range k).map (fun p => jQ (M p)))) q = jn_ct (fun a : jn_T => a.1) B0 q := fun q => jn_ct_perm _ hBP q
  have hcle : ∀ q, jn_ct (fun a : jn_T => a.1) A0 q < 1000 := fun q => Nat.lt_of_le_of_lt (List.length_filter_le _ _) hA1
  have hG : (List.range P).map (fun p => pj (EL p)) = (jn_l ((List.range k).map (fun p => jQ (M p)))).flatMap (fun a => List.replicate (jn_ct (fun a : jn_T => a.1) (jn_r ((List.range k).map (fun p => jQ (M p)))) a.1) a) := by
    rw [← hstL, ex_list (jn_cL M B0) (fun p => pj (EL p)) (fun p _ => pj (M p)) k hl, jn_lM, List.flatMap_map, ← jn_flif]
    congr 1
    funext p
    rw [hcB, List.map_const', List.length_range]
    unfold jn_cL
    by_cases h : M p 4 = 0
    · rw [if_pos h, if_pos (decide_eq_true h)]
      rfl
    · rw [if_neg h, if_neg (by rw [decide_eq_false h]; decide)]
      rfl
  have hS0 : (nw_ls 40 P ER).map (fun f => (pj f, (f 8).toBitVec.toNat)) = (jn_r ((List.range k).map (fun p => jQ (M p)))).flatMap (fun r => (List.range (jn_ct (fun a : jn_T => a.1) (jn_l ((List.range k).map (fun p => jQ (M p)))) r.1)).map (fun c => (r, c))) := by
    unfold nw_ls
    rw [List.map_map, ← hstR]
    refine (ex_list (jn_cR M A0) ((fun f : rw_T => (pj f, (f 8).toBitVec.toNat)) ∘ fun i => ER (40 + i)) (fun p i => (pj (M p), i)) k (fun p hp i hi => ?_)).trans ?_
    · obtain ⟨a1, -, a3, -⟩ := hr p hp i hi
      show (pj (ER (40 + _)), (ER (40 + _) 8).toBitVec.toNat) = _
      have : i < 1000 := by
        unfold jn_cR at hi
        split at hi
        · omega
        · exact Nat.lt_trans hi (hcle _)
      rw [a1, a3, pk_tn (by omega)]
    · rw [jn_rM, List.flatMap_map, ← jn_flif]
      congr 1
      funext p
      rw [hcA]
      unfold jn_cR
      by_cases h : M p 4 = 0
      · rw [if_pos h, if_neg (by rw [decide_eq_true h]; decide)]
        rfl
      · rw [if_neg h, if_pos (by rw [decide_eq_false h]; rfl)]
        rfl
  have hsp := (so_sort_sp 40 P ER).1.1
  have hS1 := hsp.map (fun f : rw_T => (pj f, (f 8).toBitVec.toNat))
  rw [hS0] at hS1
  have hrow : ∀ f ∈ nw_ls 40 P (so_sort 40 P ER), f 7 = f 3 ∧ (f 8).toInt = ((f 8).toBitVec.toNat : Int) ∧ f 9 = 0 := by
    intro f hf
    obtain ⟨q, hq, rfl⟩ := nw_ls_mem.mp (hsp.mem_iff.mp hf)
    rw [← hstR] at hq
    obtain ⟨p, hp, i, hi, rfl⟩ := ms_split (jn_cR M A0) hq
    obtain ⟨a1, a2, a3, a4⟩ := hr p hp i hi
    have hi2 : i < 1000 := by
      unfold jn_cR at hi
      split at hi
      · omega
      · exact Nat.lt_trans hi (hcle _)
    refine ⟨?_, ?_, a4⟩
    · rw [a2]
      exact (congrArg Prod.fst a1).symm
    · rw [a3, nI_toInt (by omega), pk_tn (by omega)]
  have hs2 : (((nw_ls 40 P (so_sort 40 P ER)).map (fun f : rw_T => (pj f, (f 8).toBitVec.toNat))).map (fun s => (s.1.1, s.2))).Pairwise jn_le := by
    rw [List.map_map, List.pairwise_map]
    refine (so_sort_pw 40 P ER).imp_of_mem (fun {x y} hx hy h => ?_)
    obtain ⟨a1, a2, a3⟩ := hrow x hx
    obtain ⟨b1, b2, b3⟩ := hrow y hy
    rw [rw_lt_no, a1, a2, a3, b1, b2, b3] at h
    show x 3 < y 3 ∨ (x 3 = y 3 ∧ (x 8).toBitVec.toNat ≤ (y 8).toBitVec.toNat)
    rw [Int32.lt_iff_toInt_lt]
    by_cases e : (x 3).toInt < (y 3).toInt
    · exact Or.inl e
    · exact Or.inr ⟨Int32.toInt_inj.mp (by omega), by omega⟩
  have hA : (jn_l ((List.range k).map (fun p => jQ (M p)))).Pairwise (fun a b => a.1 ≤ b.1) := by
    rw [jn_lM, List.pairwise_map]
    have hlt : ((List.range k).filter (fun p => decide (M p 4 = 0))).Pairwise (· < ·) := List.Pairwise.filter _ List.pairwise_lt_range
    refine hlt.imp_of_mem (fun {x y} hx hy hxy => ?_)
    have h1 := List.mem_filter.mp hx
    have h2 := List.mem_filter.mp hy
    have e1 := of_decide_eq_true h1.2
    have e2 := of_decide_eq_true h2.2
    have := hs x y (by omega) (List.mem_range.mp h2.1)
    rw [e1, e2] at this
    show M x 3 ≤ M y 3
    rw [Int32.le_iff_toInt_le]
    omega
  have hj := jn_pairs (k := fun a : jn_T => a.1) (kB := fun a : jn_T => a.1) jn_f hA hS1 hs2
  rw [← hG] at hj
  have ez : List.zipWith (fun a s => jn_f a s.1) ((List.range P).map (fun p => pj (EL p))) ((nw_ls 40 P (so_sort 40 P ER)).map (fun f : rw_T => (pj f, (f 8).toBitVec.toNat))) = (List.range P).map (fun p => jn_f (pj (EL p)) (pj (so_sort 40 P ER (40 + p)))) := by
    unfold nw_ls
    rw [List.map_map, List.zipWith_map, List.zipWith_self]
    rfl
  rw [ez] at hj
  refine hj.trans ?_
  have h3 := jn_swap (fun (a r : jn_T) => a.1 == r.1) jn_f (jn_r ((List.range k).map (fun p => jQ (M p)))) (jn_l ((List.range k).map (fun p => jQ (M p))))
  exact h3.symm.trans (jn_naive_perm hAP hBP)
end JFIN
end
section
/-! The join: its rows behind the counts and the second sort. -/
def kx (c : Int32) (t : bg_T) : jn_T := (bg_col c t, t.2.1, t.2.2)
def jn_X (x y : Int32) (l lt : List bg_T) (L : Nat → rw_T) : Nat → rw_T := so_map l.length lt.length (fun r f => so_key y 1 (lt.getD r (0, 0, 0)) f) (so_map 0 l.length (fun r f => so_key x 0 (l.getD r (0, 0, 0)) f) (so_map 0 76 (fun _ f => rw_disc f) L))
def jn_1 (x y : Int32) (l lt : List bg_T) (L : Nat → rw_T) : Nat → rw_T := so_sort 0 (l.length + lt.length) (jn_X x y l lt L)
def jn_N (x y : Int32) (l lt : List bg_T) (L : Nat → rw_T) : Nat → rw_T := so_map 0 (l.length + lt.length) (cf_F (jn_1 x y l lt L)) (jn_1 x y l lt L)
def jn_N2 (x y : Int32) (l lt : List bg_T) (L : Nat → rw_T) : Nat → rw_T := so_bk 0 (l.length + lt.length) (cb_F (jn_N x y l lt L) (l.length + lt.length)) (jn_N x y l lt L)
def jn_2 (x y : Int32) (l lt : List bg_T) (L : Nat → rw_T) : Nat → rw_T := so_sort 0 (l.length + lt.length) (jn_N2 x y l lt L)
section JPR
variable {x y : Int32} {l lt : List bg_T} {L : Nat → rw_T}
theorem jn_lay {p : Nat} (hp : p < l.length + lt.length) : ∃ (c : Int32) (t : bg_T) (sd : Int32) (f : rw_T), jn_X x y l lt L p = so_key c sd t f ∧ (jn_C (l.map (kx x)) (lt.map (kx y)))[p]? = some (kx c t, sd) ∧ (sd = 0 ∨ sd = 1) := by
  have hg : ∀ (l : List bg_T) (i : Nat), i < l.length → l[i]? = some (l.getD i (0, 0, 0)) := fun l i h => by
    rw [List.getD_eq_getElem?_getD, List.getElem?_eq_getElem h]
    rfl
  unfold jn_C
  rw [List.map_map, List.map_map]
  by_cases h1 : p < l.length
  · refine ⟨x, l.getD p (0, 0, 0), 0, so_map 0 76 (fun _ f => rw_disc f) L p, ?_, ?_, Or.inl rfl⟩
    · unfold jn_X
      rw [so_map_no (by omega), so_map_in h1]
    · rw [List.getElem?_append_left (by rw [List.length_map]; exact h1), List.getElem?_map, hg l p h1]
      rfl
  · refine ⟨y, lt.getD (p - l.length) (0, 0, 0), 1, so_map 0 l.length (fun r f => so_key x 0 (l.getD r (0, 0, 0)) f) (so_map 0 76 (fun _ f => rw_disc f) L) p, ?_, ?_, Or.inr rfl⟩
    · unfold jn_X
      have := so_map_off (b := l.length) (m := lt.length) (F := fun r f => so_key y 1 (lt.getD r (0, 0, 0)) f) (M := so_map 0 l.length (fun r f => so_key x 0 (l.getD r (0, 0, 0)) f) (so_map 0 76 (fun _ f => rw_disc f) L)) (p := p - l.length) (by omega)
      rw [show l.length + (p - l.length) = p by omega] at this
      exact this
    · rw [List.getElem?_append_right (by rw [List.length_map]; omega), List.length_map, List.getElem?_map, hg lt _ (by omega)]
      rfl
theorem jn_XQ : (List.range (l.length + lt.length)).map (fun p => jQ (jn_X x y l lt L p)) = jn_C (l.map (kx x)) (lt.map (kx y)) := by
  apply List.ext_getElem?
  intro i
  rw [List.getElem?_map]
  by_cases h : i < l.length + lt.length
  · obtain ⟨c, t, sd, f, e1, e2, -⟩ := jn_lay (x := x) (y := y) (L := L) h
    rw [List.getElem?_range h, e2, Option.map_some, e1]
    rfl
  · rw [List.getElem?_eq_none (by rw [List.length_range]; omega), List.getElem?_eq_none (by simp [jn_C]; omega)]
    rfl
theorem jn_1Q : ((List.range (l.length + lt.length)).map (fun p => jQ (jn_1 x y l lt L p))).Perm (jn_C (l.map (kx x)) (lt.map (kx y))) := by
  have := (so_sort_sp 0 (l.length + lt.length) (jn_X x y l lt L)).1.1.map jQ
  rw [nw_ls0, nw_ls0, jn_XQ] at this
  exact this
theorem jn_1s : ∀ i j, i ≤ j → j < l.length + lt.length → (jn_1 x y l lt L i 3).toInt ≤ (jn_1 x y l lt L j 3).toInt := fun i j h1 h2 => by
  have := ky_sorted (X := jn_X x y l lt L) (m := l.length + lt.length) (fun p hp => by
    obtain ⟨c, t, sd, f, e1, -⟩ := jn_lay (x := x) (y := y) (L := L) hp
    rw [e1]
    exact ⟨rfl, rfl, rfl⟩) i j h1 h2
  unfold jn_1
  omega
theorem jn_1d {p : Nat} (hp : p < l.length + lt.length) : jn_1 x y l lt L p 4 = 0 ∨ jn_1 x y l lt L p 4 = 1 := by
  obtain ⟨q, hq, e⟩ := so_sort_mem (X := jn_X x y l lt L) hp
  obtain ⟨c, t, sd, f, e1, -, e3⟩ := jn_lay (x := x) (y := y) (L := L) hq
  unfold jn_1
  rw [e, e1]
  exact e3
theorem jn_Nf {p : Nat} (hp : p < l.length + lt.length) : jn_N x y l lt L p 3 = jn_1 x y l lt L p 3 ∧ jn_N x y l lt L p 5 = nI (ct2 (jn_1 x y l lt L) (p + 1) (jn_1 x y l lt L p 3)).1 ∧ jn_N x y l lt L p 6 = nI (ct2 (jn_1 x y l lt L) (p + 1) (jn_1 x y l lt L p 3)).2 := by
  have hc := cf_ct (M := jn_1 x y l lt L) jn_1s p hp
  unfold jn_N
  rw [so_map_in hp]
  refine ⟨rfl, ?_, ?_⟩
  · show nI (cf_a _ (p + 1)).2.1 = _
    rw [hc]
  · show nI (cf_a _ (p + 1)).2.2 = _
    rw [hc]
theorem jn_cntA (q : Int32) : ct2 (jn_1 x y l lt L) (l.length + lt.length) q = (jn_ct (fun a : jn_T => a.1) (l.map (kx x)) q, jn_ct (fun a : jn_T => a.1) (lt.map (kx y)) q) := by
  rw [ct2_list, jn_ct_perm _ (jn_lP jn_1Q) q, jn_ct_perm _ (jn_rP jn_1Q) q]
theorem jn_num : (cb_a (jn_N x y l lt L) (l.length + lt.length) (l.length + lt.length)).2.2.2 = nI (jn_naive (l.map (kx x)) (lt.map (kx y))).length := by
  have hlen : (jn_naive (l.map (kx x)) (lt.map (kx y))).length = sg (cn_g (jn_1 x y l lt L) (l.length + lt.length)) (l.length + lt.length) := by
    rw [← cn_pairs jn_1s, sg_sum, ← jn_stL jn_1Q, ms_sum]
    congr 1
    apply List.map_congr_left
    intro p _
    unfold jn_cL cn_v
    rw [jn_cntA]
  by_cases h : l.length + lt.length = 0
  · rw [hlen, h]
    rfl
  · obtain ⟨-, -, -, s, h1, h2⟩ := cb_ct (M := jn_1 x y l lt L) (N := jn_N x y l lt L) (m := l.length + lt.length) jn_1s (fun p hp => jn_Nf hp) (l.length + lt.length - 1) 0 (by omega)
    rw [Nat.sub_zero] at h1
    rw [h1, hlen, ← h2]
    rfl
theorem jn_N2f {p : Nat} (hp : p < l.length + lt.length) : jQ (jn_N2 x y l lt L p) = jQ (jn_1 x y l lt L p) ∧ jn_N2 x y l lt L p 5 = nI (jn_ct (fun a : jn_T => a.1) (l.map (kx x)) (jn_N2 x y l lt L p 3)) ∧ jn_N2 x y l lt L p 6 = nI (jn_ct (fun a : jn_T => a.1) (lt.map (kx y)) (jn_N2 x y l lt L p 3)) ∧ jn_N2 x y l lt L p 7 = jn_N2 x y l lt L p 4 ∧ jn_N2 x y l lt L p 8 = jn_N2 x y l lt L p 3 ∧ jn_N2 x y l lt L p 9 = 0 := by
  obtain ⟨c1, c2, c3, -⟩ := cb_ct (M := jn_1 x y l lt L) (N := jn_N x y l lt L) (m := l.length + lt.length) jn_1s (fun p hp => jn_Nf hp) (l.length + lt.length - p - 1) p (by omega)
  have e : jn_N2 x y l lt L p = cb_F (jn_N x y l lt L) (l.length + lt.length) p (jn_N x y l lt L p) := so_bk_in (Nat.zero_le _) hp
  have e2 : jn_N x y l lt L p = cf_F (jn_1 x y l lt L) p (jn_1 x y l lt L p) := so_map_in hp
  have e3 : jn_N2 x y l lt L p 3 = jn_1 x y l lt L p 3 := by rw [e, e2]; rfl
  rw [e3]
  refine ⟨by rw [e, e2]; rfl, ?_, ?_, by rw [e]; rfl, by rw [e, e2]; rfl, by rw [e]; rfl⟩
  · rw [e]
    show (cb_a _ _ _).2.1 = _
    rw [c2, jn_cntA]
  · rw [e]
    show (cb_a _ _ _).2.2.1 = _
    rw [c3, jn_cntA]
theorem jn_2m {p : Nat} (hp : p < l.length + lt.length) : ∃ q, q < l.length + lt.length ∧ jn_2 x y l lt L p = jn_N2 x y l lt L q := so_sort_mem (X := jn_N2 x y l lt L) hp
theorem jn_2Q : ((List.range (l.length + lt.length)).map (fun p => jQ (jn_2 x y l lt L p))).Perm (jn_C (l.map (kx x)) (lt.map (kx y))) := by
  have := (so_sort_sp 0 (l.length + lt.length) (jn_N2 x y l lt L)).1.1.map jQ
  rw [nw_ls0, nw_ls0] at this
  refine List.Perm.trans this ?_
  have e : (List.range (l.length + lt.length)).map (fun p => jQ (jn_N2 x y l lt L p)) = (List.range (l.length + lt.length)).map (fun p => jQ (jn_1 x y l lt L p)) := by
    apply List.map_congr_left
    intro p hp
    exact (jn_N2f (List.mem_range.mp hp)).1
  rw [e]
  exact jn_1Q
theorem jn_2s : ∀ i j, i ≤ j → j < l.length + lt.length → (jn_2 x y l lt L i 4).toInt < (jn_2 x y l lt L j 4).toInt ∨ (jn_2 x y l lt L i 4).toInt = (jn_2 x y l lt L j 4).toInt ∧ (jn_2 x y l lt L i 3).toInt ≤ (jn_2 x y l lt L j 3).toInt := by
  intro i j hij hj
  have hl := so_sort_le 0 (l.length + lt.length) (jn_N2 x y l lt L) (j - i) i (by omega)
  rw [show i + (j - i) = j by omega, Nat.zero_add, Nat.zero_add, rw_lt_no] at hl
  have hk : ∀ p, p < l.length + lt.length → jn_2 x y l lt L p 7 = jn_2 x y l lt L p 4 ∧ jn_2 x y l lt L p 8 = jn_2 x y l lt L p 3 ∧ jn_2 x y l lt L p 9 = 0 := fun p hp => by
    obtain ⟨q, hq, e⟩ := jn_2m (x := x) (y := y) (L := L) hp
    rw [e]
    exact (jn_N2f hq).2.2.2
  obtain ⟨a1, a2, a3⟩ := hk i (by omega)
  obtain ⟨b1, b2, b3⟩ := hk j hj
  unfold jn_2 at a1 a2 a3 b1 b2 b3 ⊢
  rw [a1, a2, a3, b1, b2, b3] at hl
  omega
theorem jn_2c (h24 : l.length ≤ 24) (h12 : lt.length ≤ 12) {p : Nat} (hp : p < l.length + lt.length) : (ms_c 0 (jn_2 x y l lt L p) = nI (jn_cL (jn_2 x y l lt L) (lt.map (kx y)) p) ∧ jn_cL (jn_2 x y l lt L) (lt.map (kx y)) p < 1000) ∧ ms_c 1 (jn_2 x y l lt L p) = nI (jn_cR (jn_2 x y l lt L) (l.map (kx x)) p) ∧ jn_cR (jn_2 x y l lt L) (l.map (kx x)) p < 1000 := by
  obtain ⟨q, hq, e⟩ := jn_2m (x := x) (y := y) (L := L) hp
  obtain ⟨a1, a2, a3, -⟩ := jn_N2f (x := x) (y := y) (L := L) hq
  have a4 : jn_N2 x y l lt L q 4 = jn_1 x y l lt L q 4 := congrArg Prod.snd a1
  have hd := jn_1d (x := x) (y := y) (L := L) hq
  rw [← a4] at hd
  have b1 : ∀ z, jn_ct (fun a : jn_T => a.1) (lt.map (kx y)) z < 1000 := fun z => Nat.lt_of_le_of_lt (List.length_filter_le _ _) (by rw [List.length_map]; omega)
  have b2 : ∀ z, jn_ct (fun a : jn_T => a.1) (l.map (kx x)) z < 1000 := fun z => Nat.lt_of_le_of_lt (List.length_filter_le _ _) (by rw [List.length_map]; omega)
  unfold jn_cL jn_cR ms_c rw_partners
  rw [e]
  rcases hd with h | h
  · have h1 : ¬ jn_N2 x y l lt L q 4 = 1 := by rw [h]; decide
    rw [if_pos h, if_pos h, if_neg h1, if_pos h, if_pos h]
    exact ⟨⟨a3, b1 _⟩, rfl, by decide⟩
  · have h0 : ¬ jn_N2 x y l lt L q 4 = 0 := by rw [h]; decide
    rw [if_neg h0, if_pos h, if_neg h0, if_neg h0, if_neg h0]
    exact ⟨⟨rfl, by decide⟩, a2, b2 _⟩
theorem jn_2o {i : Nat} (h : l.length + lt.length ≤ i) (h2 : i < 76) : rw_dead (jn_2 x y l lt L i) := by
  have e : jn_2 x y l lt L i = rw_disc (L i) := by
    unfold jn_2
    rw [(so_sort_sp 0 _ _).1.2 i (by omega)]
    unfold jn_N2
    rw [so_bk_out (by omega)]
    unfold jn_N
    rw [so_map_no (by omega)]
    unfold jn_1
    rw [(so_sort_sp 0 _ _).1.2 i (by omega)]
    unfold jn_X
    rw [so_map_no (by omega), so_map_no (by omega), so_map_in h2]
  rw [e]
  exact rw_dead_disc _
end JPR
end
section
/-! The join. -/
def tr_join (k P : Nat) : List Int32 := tr_sort 0 k ++ (tr_sc 0 k ++ (tr_bk k k ++ (tr_sort 0 k ++ (if 1 ≤ P ∧ P ≤ 24 then tr_cp k ++ (tr_side 0 k P ++ (tr_side 40 k P ++ (tr_sort 40 P ++ tr_ap P))) else []))))
theorem jn_sumle (g : jn_T → Nat) (c : Nat) : ∀ l : List jn_T, (∀ a ∈ l, g a ≤ c) → (l.map g).sum ≤ l.length * c
  | [], _ => by simp
  | a :: l, h => by
    rw [List.map_cons, List.sum_cons, List.length_cons, Nat.succ_mul]
    have h1 := h a List.mem_cons_self
    have h2 := jn_sumle g c l (fun b hb => h b (List.mem_cons_of_mem _ hb))
    omega
theorem jn_few {x y : Int32} {l lt : List bg_T} (h1 : l.length ≤ 24) (h2 : lt.length ≤ 12) : (jn_naive (l.map (kx x)) (lt.map (kx y))).length ≤ 288 := by
  rw [jn_naive_len]
  refine Nat.le_trans (jn_sumle _ 12 _ (fun a _ => Nat.le_trans (List.length_filter_le _ _) (by rw [List.length_map]; exact h2))) ?_
  rw [List.length_map]
  omega
theorem jn_last {x y : Int32} {l lt : List bg_T} {L : Nat → rw_T} {sr sr2 : rw_T} {P : Nat} (h24 : l.length ≤ 24) (h12 : lt.length ≤ 12) (hP : P = (jn_naive (l.map (kx x)) (lt.map (kx y))).length) (h1 : 1 ≤ P) (h2 : P ≤ 24) : ((nw_ls 0 P (so_map 0 P (fun p f => rw_cols (f 3) (f 1 + so_sort 40 P (ex_4 40 (l.length + lt.length) P (jn_cR (jn_2 x y l lt L) (l.map (kx x))) sr2 (ex_4 0 (l.length + lt.length) P (jn_cL (jn_2 x y l lt L) (lt.map (kx y))) sr (so_map 40 (l.length + lt.length) (fun p _ => jn_2 x y l lt L p) (jn_2 x y l lt L)))) (p + 40) 1) (f 2 + so_sort 40 P (ex_4 40 (l.length + lt.length) P (jn_cR (jn_2 x y l lt L) (l.map (kx x))) sr2 (ex_4 0 (l.length + lt.length) P (jn_cL (jn_2 x y l lt L) (lt.map (kx y))) sr (so_map 40 (l.length + lt.length) (fun p _ => jn_2 x y l lt L p) (jn_2 x y l lt L)))) (p + 40) 2) f) (so_sort 40 P (ex_4 40 (l.length + lt.length) P (jn_cR (jn_2 x y l lt L) (l.map (kx x))) sr2 (ex_4 0 (l.length + lt.length) P (jn_cL (jn_2 x y l lt L) (lt.map (kx y))) sr (so_map 40 (l.length + lt.length) (fun p _ => jn_2 x y l lt L p) (jn_2 x y l lt L))))))).map rw_c3).Perm (jn_naive (l.map (kx x)) (lt.map (kx y))) := by
  have hmx : max (l.length + lt.length) P ≤ 36 := by omega
  have hstL : ms_st (jn_cL (jn_2 x y l lt L) (lt.map (kx y))) (l.length + lt.length) = P := by rw [hP]; exact jn_stL jn_2Q
  have hstR : ms_st (jn_cR (jn_2 x y l lt L) (l.map (kx x))) (l.length + lt.length) = P := by rw [hP]; exact jn_stR jn_2Q
  have hM3 : ∀ p, p < 40 → so_map 40 (l.length + lt.length) (fun p _ => jn_2 x y l lt L p) (jn_2 x y l lt L) p = jn_2 x y l lt L p := fun p hp => so_map_no (by omega)
  have hpj : ∀ (c : Nat → Nat) (p i : Nat) (z : Int32) (f : rw_T), pj (rw_sort z (nI i) 0 (ms_F c p f)) = pj f := fun c p i z f => by
    unfold ms_F
    split <;> rfl
  generalize hEL : ex_4 0 (l.length + lt.length) P (jn_cL (jn_2 x y l lt L) (lt.map (kx y))) sr (so_map 40 (l.length + lt.length) (fun p _ => jn_2 x y l lt L p) (jn_2 x y l lt L)) = EL
  have hL1 : ∀ p, p < l.length + lt.length → ∀ i, i < jn_cL (jn_2 x y l lt L) (lt.map (kx y)) p → pj (EL (ms_st (jn_cL (jn_2 x y l lt L) (lt.map (kx y))) p + i)) = pj (jn_2 x y l lt L p) := fun p hp i hi => by
    have := ex_copy (b := 0) (m := l.length + lt.length) (P := P) (c := jn_cL (jn_2 x y l lt L) (lt.map (kx y))) (sr := sr) (M := so_map 40 (l.length + lt.length) (fun p _ => jn_2 x y l lt L p) (jn_2 x y l lt L)) (by omega) h1 (by omega) hstL (fun i a c => by rw [Nat.zero_add, hM3 i (by omega)]; exact jn_2o a (by omega)) hp i hi
    rw [Nat.zero_add, hEL, Nat.zero_add, hM3 p (by omega)] at this
    rw [this, hpj]
  have hE40 : ∀ p, p < l.length + lt.length → EL (40 + p) = jn_2 x y l lt L p := fun p hp => by
    rw [← hEL, ex_out h1 (by omega), so_map_off hp]
  generalize hER : ex_4 40 (l.length + lt.length) P (jn_cR (jn_2 x y l lt L) (l.map (kx x))) sr2 EL = ER
  have hR1 : ∀ p, p < l.length + lt.length → ∀ i, i < jn_cR (jn_2 x y l lt L) (l.map (kx x)) p → pj (ER (40 + (ms_st (jn_cR (jn_2 x y l lt L) (l.map (kx x))) p + i))) = pj (jn_2 x y l lt L p) ∧ ER (40 + (ms_st (jn_cR (jn_2 x y l lt L) (l.map (kx x))) p + i)) 7 = jn_2 x y l lt L p 3 ∧ ER (40 + (ms_st (jn_cR (jn_2 x y l lt L) (l.map (kx x))) p + i)) 8 = nI i ∧ ER (40 + (ms_st (jn_cR (jn_2 x y l lt L) (l.map (kx x))) p + i)) 9 = 0 := fun p hp i hi => by
    have := ex_copy (b := 40) (m := l.length + lt.length) (P := P) (c := jn_cR (jn_2 x y l lt L) (l.map (kx x))) (sr := sr2) (M := EL) (by omega) h1 (by omega) hstR (fun i a c => by rw [← hEL, ex_out h1 (by omega), so_map_no (by omega)]; exact jn_2o (by omega) (by omega)) hp i hi
    rw [hER, hE40 p hp] at this
    rw [this]
    exact ⟨hpj _ _ _ _ _, rfl, rfl, rfl⟩
  have hf := jn_fin (M := jn_2 x y l lt L) (EL := EL) (ER := ER) jn_2Q hP (by rw [List.length_map]; omega) jn_2s hL1 hR1
  have hS : ∀ p, p < P → so_sort 40 P ER p = EL p := fun p hp => by
    rw [(so_sort_sp 40 P ER).1.2 p (by omega), ← hER, ex_out h1 (by omega)]
  rw [nw_ls0]
  have e : (List.range P).map (fun p => rw_c3 (so_map 0 P (fun p f => rw_cols (f 3) (f 1 + so_sort 40 P ER (p + 40) 1) (f 2 + so_sort 40 P ER (p + 40) 2) f) (so_sort 40 P ER) p)) = (List.range P).map (fun p => jn_f (pj (EL p)) (pj (so_sort 40 P ER (40 + p)))) := by
    apply List.map_congr_left
    intro p hp
    have hp := List.mem_range.mp hp
    rw [so_map_in hp, hS p hp, Nat.add_comm 40 p]
    rfl
  rw [e]
  exact hf
set_option maxRecDepth 100000 in
theorem c_match (l : Launch) {n : Nat} {h : pm_H} {L : Nat → rw_T} {ts : List Int32} (H : so_L n h L ts) (hn : 111 < n) (J : h 95 = pm_O cJoin [.ref 15, .ref 96]) {sr : rw_T} (hS : h 96 = pm_O cRow (rw_fs sr)) (hsr : sr 10 = 0 ∨ sr 10 = 1) {b b2 : Nat} {l0 lt : List bg_T} (B : bg_at n h b 24 l0) (B2 : bg_at n h b2 12 lt) (hb : b + 3 < 15 ∨ 96 < b) (hb2 : b2 + 3 < 15 ∨ 96 < b2) (x y : Int32) : bM0 l yX1_match cX1_match 8 (some (.boolean)) 4 [.ref 95, .ref b, .ref b2, .int x, .int y] n h (fun r h' => ∃ l1, l1.Perm (jn_naive (l0.map (kx x)) (lt.map (kx y))) ∧ r = some (.int (b2i (decide (l1.length ≤ 24)))) ∧ (∃ L', so_L n h' L' (tk (ts ++ tr_join (l0.length + lt.length) l1.length))) ∧ bg_at n h' b 24 (if l1.length ≤ 24 then l1 else l0) ∧ (∃ sr', h' 96 = pm_O cRow (rw_fs sr') ∧ (sr' 10 = 0 ∨ sr' 10 = 1)) ∧ ∀ q, (q < 15 ∨ 93 < q) → q ≠ 96 → (q < b ∨ b + 3 < q) → h' q = h q) := by
  refine pm_enter rfl (Nat.le_of_ble_eq_true rfl) (fun G K Z => ?_)
  have hl1 := B.2.1
  have hl2 := B2.2.1
  obtain ⟨ix0, R0, HA0, hi0, hL0⟩ := id H
  refine pm_aload_n K dX1_match_0 (q := 1) rfl rfl rfl ?_
  refine pm_get K inX1 rfl (k := 0) (by decide) wlX1_18 rfl (by omega) J rfl dX1_match_1 (q := 4) rfl ?_
  refine pm_callV0 K gw_ok wcX1_22 (c_sclear l H) rfl (by omega) HA0.2.1 rfl rfl (Nat.le_of_ble_eq_true rfl) (by decide) dX1_match_4 (q := 7) rfl (fun r1 h1 hp => ?_)
  obtain ⟨rfl, HL1, F1⟩ := hp
  obtain ⟨ix1, R1, HA1, hi1, hL1⟩ := id HL1
  have B1 : bg_at n h1 b 24 l0 := B.fr (Nat.le_refl _) (fun q a c => F1 q (by omega))
  refine pm_aload_n K dX1_match_7 (q := 8) rfl rfl rfl ?_
  refine pm_get K inX1 rfl (k := 0) (by decide) wlX1_18 rfl (by omega) ((F1 95 (by omega)).trans J) rfl dX1_match_8 (q := 11) rfl ?_
  refine pm_aload_n K dX1_match_11 (q := 12) rfl rfl rfl ?_
  refine pm_ic0 K dX1_match_12 (q := 13) rfl ?_
  refine pm_iload_n K dX1_match_13 (q := 14) rfl rfl rfl ?_
  refine pm_ic0 K dX1_match_14 (q := 15) rfl ?_
  refine pm_callV0 K gw_ok wcX1_27 (c_layByKey l HL1 B1 (by omega) (p0 := 0) (by omega) x 0) rfl (by omega) HA1.2.1 rfl rfl (Nat.le_of_ble_eq_true rfl) (by decide) dX1_match_15 (q := 18) rfl (fun r2 h2 hp => ?_)
  obtain ⟨rfl, HL2, F2⟩ := hp
  rw [Nat.zero_add]
  have F12 := F1.tr F2
  obtain ⟨ix2, R2, HA2, hi2, hL2⟩ := id HL2
  have B22 : bg_at n h2 b2 12 lt := B2.fr (Nat.le_refl _) (fun q a c => F12 q (by omega))
  refine pm_istore K dX1_match_18 (q := 20) rfl (by decide) rfl ?_
  refine pm_aload_n K dX1_match_20 (q := 21) rfl rfl rfl ?_
  refine pm_get K inX1 rfl (k := 0) (by decide) wlX1_18 rfl (by omega) ((F12 95 (by omega)).trans J) rfl dX1_match_21 (q := 24) rfl ?_
  refine pm_aload_n K dX1_match_24 (q := 25) rfl rfl rfl ?_
  refine pm_iload K dX1_match_25 (q := 27) rfl rfl ?_
  refine pm_iload K dX1_match_27 (q := 29) rfl rfl ?_
  refine pm_ic1 K dX1_match_29 (q := 30) rfl ?_
  refine pm_callV0 K gw_ok wcX1_27 (c_layByKey l HL2 B22 (by omega) (p0 := l0.length) (by omega) y 1) rfl (by omega) HA2.2.1 rfl rfl (Nat.le_of_ble_eq_true rfl) (by decide) dX1_match_30 (q := 33) rfl (fun r3 h3 hp => ?_)
  obtain ⟨rfl, HL3, F3⟩ := hp
  have F13 := F12.tr F3
  obtain ⟨ix3, R3, HA3, hi3, hL3⟩ := id HL3
  refine pm_istore K dX1_match_33 (q := 35) rfl (by decide) rfl ?_
  refine pm_aload_n K dX1_match_35 (q := 36) rfl rfl rfl ?_
  refine pm_get K inX1 rfl (k := 0) (by decide) wlX1_18 rfl (by omega) ((F13 95 (by omega)).trans J) rfl dX1_match_36 (q := 39) rfl ?_
  refine pm_ic0 K dX1_match_39 (q := 40) rfl ?_
  refine pm_iload K dX1_match_40 (q := 42) rfl rfl ?_
  refine pm_callV0 K gw_ok wcX1_31 (c_sort l HL3 (b0 := 0) (m0 := l0.length + lt.length) (by omega)) rfl (by omega) HA3.2.1 rfl rfl (Nat.le_of_ble_eq_true rfl) (by decide) dX1_match_42 (q := 45) rfl (fun r4 h4 hp => ?_)
  obtain ⟨rfl, HL4, F4⟩ := hp
  have F14 := F13.tr F4
  have HL4 : so_L n h4 (jn_1 x y l0 lt L) (tk (ts ++ tr_sort 0 (l0.length + lt.length))) := HL4
  refine pm_aload_n K dX1_match_45 (q := 46) rfl rfl rfl ?_
  refine pm_iload K dX1_match_46 (q := 48) rfl rfl ?_
  refine pm_callV0 K gw_ok wcX1_35 (c_countForth l HL4 hn ((F14 95 (by omega)).trans J) (m := l0.length + lt.length) (by omega)) rfl (by omega) ((F14 95 (by omega)).trans J) rfl rfl (Nat.le_of_ble_eq_true rfl) (by decide) dX1_match_48 (q := 51) rfl (fun r5 h5 hp => ?_)
  obtain ⟨rfl, HL5, F5⟩ := hp
  have F15 := F14.tr F5
  refine pm_aload_n K dX1_match_51 (q := 52) rfl rfl rfl ?_
  refine pm_iload K dX1_match_52 (q := 54) rfl rfl ?_
  refine pm_callV0 K gw_ok wcX1_39 (c_countBack l HL5 hn ((F15 95 (by omega)).trans J) (m := l0.length + lt.length) (by omega)) rfl (by omega) ((F15 95 (by omega)).trans J) rfl rfl (Nat.le_of_ble_eq_true rfl) (by decide) dX1_match_54 (q := 57) rfl (fun r6 h6 hp => ?_)
  obtain ⟨rfl, HL6, F6⟩ := hp
  have F16 := F15.tr F6
  obtain ⟨ix6, R6, HA6, hi6, hL6⟩ := id HL6
  rw [show (cb_a (so_map 0 (l0.length + lt.length) (cf_F (jn_1 x y l0 lt L)) (jn_1 x y l0 lt L)) (l0.length + lt.length) (l0.length + lt.length)).2.2.2 = nI (jn_naive (l0.map (kx x)) (lt.map (kx y))).length from jn_num]
  refine pm_istore K dX1_match_57 (q := 59) rfl (by decide) rfl ?_
  refine pm_aload_n K dX1_match_59 (q := 60) rfl rfl rfl ?_
  refine pm_get K inX1 rfl (k := 0) (by decide) wlX1_18 rfl (by omega) ((F16 95 (by omega)).trans J) rfl dX1_match_60 (q := 63) rfl ?_
  refine pm_ic0 K dX1_match_63 (q := 64) rfl ?_
  refine pm_iload K dX1_match_64 (q := 66) rfl rfl ?_
  refine pm_callV0 K gw_ok wcX1_31 (c_sort l HL6 (b0 := 0) (m0 := l0.length + lt.length) (by omega)) rfl (by omega) HA6.2.1 rfl rfl (Nat.le_of_ble_eq_true rfl) (by decide) dX1_match_66 (q := 69) rfl (fun r7 h7 hp => ?_)
  obtain ⟨rfl, HL7, F7⟩ := hp
  have F17 := F16.tr F7
  simp only [tk_app, List.append_assoc] at HL7
  have HL7 : so_L n h7 (jn_2 x y l0 lt L) (tk (ts ++ (tr_sort 0 (l0.length + lt.length) ++ (tr_sc 0 (l0.length + lt.length) ++ (tr_bk (l0.length + lt.length) (l0.length + lt.length) ++ tr_sort 0 (l0.length + lt.length)))))) := HL7
  obtain ⟨P, hP⟩ : ∃ z, z = (jn_naive (l0.map (kx x)) (lt.map (kx y))).length := ⟨_, rfl⟩
  rw [← hP]
  have hPle : P ≤ 288 := by rw [hP]; exact jn_few hl1 hl2
  have B7 : bg_at n h7 b 24 l0 := B.fr (Nat.le_refl _) (fun q a c => F17 q (by omega))
  refine pm_iload K dX1_match_69 (q := 71) rfl rfl ?_
  refine pm_bipush (v := nI 24) K dX1_match_71 (q := 73) rfl (by decide) ?_
  refine pm_icmp_le K dX1_match_73 (tgt := 78) (q := 76) rfl rfl (fun hx => ?_) (fun hx => ?_)
  · have hle : P ≤ 24 := (nI_leI (by omega) (by decide)).mp hx
    refine pm_iload K dX1_match_78 (q := 80) rfl rfl ?_
    refine pm_if_le K dX1_match_80 (tgt := 127) (q := 83) rfl rfl (fun hz => ?_) (fun hz => ?_)
    · have h0 : P = 0 := by rcases Nat.eq_zero_or_pos P with z | z; exact z; exact absurd hz (nI_nle z (by omega))
      obtain ⟨ix7, R7, HA7, hi7, hL7⟩ := id HL7
      subst h0
      refine pm_aload_n K dX1_match_127 (q := 128) rfl rfl rfl ?_
      refine pm_get K inX1 rfl (k := 0) (by decide) wlX1_18 rfl (by omega) ((F17 95 (by omega)).trans J) rfl dX1_match_128 (q := 131) rfl ?_
      refine pm_aload_n K dX1_match_131 (q := 132) rfl rfl rfl ?_
      refine pm_iload K dX1_match_132 (q := 134) rfl rfl ?_
      refine pm_callV0 K gw_ok wcX1_53 (c_takeAway l HL7 B7 (by omega) (m := 0) (by omega)) rfl (by omega) HA7.2.1 rfl rfl (Nat.le_of_ble_eq_true rfl) (by decide) dX1_match_134 (q := 137) rfl (fun r8 h8 hp => ?_)
      obtain ⟨rfl, B8, F8⟩ := hp
      have en : jn_naive (l0.map (kx x)) (lt.map (kx y)) = [] := List.length_eq_zero_iff.mp hP.symm
      refine pm_ic1 K dX1_match_137 (q := 138) rfl ?_
      exact pm_iret Z dX1_match_138 rfl rfl (Nat.le_of_ble_eq_true rfl) (Nat.le_of_ble_eq_true rfl) ⟨rfl, ⟨[], by rw [en], rfl, ⟨_, by rw [tr_join, if_neg (by decide), List.append_nil]; exact HL7.mv (fun q hq => F8 q (by omega))⟩, by simpa [nw_ls] using B8, ⟨sr, ((F8 96 (by omega)).trans (F17 96 (by omega))).trans hS, hsr⟩, fun q a c d => by rw [F8 q d, F17 q a]⟩⟩
    · have h1P : 1 ≤ P := by rcases Nat.eq_zero_or_pos P with z | z; exact absurd (by rw [z]; decide) hz; exact z
      have hmx : max (l0.length + lt.length) P ≤ 36 := by omega
      refine pm_aload_n K dX1_match_83 (q := 84) rfl rfl rfl ?_
      refine pm_iload K dX1_match_84 (q := 86) rfl rfl ?_
      refine pm_callV0 K gw_ok wcX1_43 (c_copyAll l HL7 hn ((F17 95 (by omega)).trans J) (m := l0.length + lt.length) (by omega)) rfl (by omega) ((F17 95 (by omega)).trans J) rfl rfl (Nat.le_of_ble_eq_true rfl) (by decide) dX1_match_86 (q := 89) rfl (fun r8 h8 hp => ?_)
      obtain ⟨rfl, HL8, F8⟩ := hp
      have F18 := F17.tr F8
      refine pm_aload_n K dX1_match_89 (q := 90) rfl rfl rfl ?_
      refine pm_ic0 K dX1_match_90 (q := 91) rfl ?_
      refine pm_iload K dX1_match_91 (q := 93) rfl rfl ?_
      refine pm_iload K dX1_match_93 (q := 95) rfl rfl ?_
      refine pm_ic0 K dX1_match_95 (q := 96) rfl ?_
      refine pm_callV0 K gw_ok wcX1_46 (c_expand l HL8 hn ((F18 95 (by omega)).trans J) ((F18 96 (by omega)).trans hS) hsr (b0 := 0) (m := l0.length + lt.length) (P := P) (sd := 0) (c := jn_cL (jn_2 x y l0 lt L) (lt.map (kx y))) (by omega) h1P (fun p hp => by rw [Nat.zero_add, so_map_no (by omega)]; exact (jn_2c hl1 hl2 hp).1)) rfl (by omega) ((F18 95 (by omega)).trans J) rfl rfl (Nat.le_of_ble_eq_true rfl) (by decide) dX1_match_96 (q := 99) rfl (fun r9 h9 hp => ?_)
      obtain ⟨rfl, HL9, ⟨s9, S9, b9⟩, F9⟩ := hp
      have HL9 : so_L n h9 (ex_4 0 (l0.length + lt.length) P (jn_cL (jn_2 x y l0 lt L) (lt.map (kx y))) sr (so_map 40 (l0.length + lt.length) (fun p _ => jn_2 x y l0 lt L p) (jn_2 x y l0 lt L))) _ := HL9
      have F19 : jf_fr h h9 := fun q a c => by rw [F9 q a c, F18 q a]
      refine pm_aload_n K dX1_match_99 (q := 100) rfl rfl rfl ?_
      refine pm_bipush (v := nI 40) K dX1_match_100 (q := 102) rfl (by decide) ?_
      refine pm_iload K dX1_match_102 (q := 104) rfl rfl ?_
      refine pm_iload K dX1_match_104 (q := 106) rfl rfl ?_
      refine pm_ic1 K dX1_match_106 (q := 107) rfl ?_
      refine pm_callV0 K gw_ok wcX1_46 (c_expand l HL9 hn ((F19 95 (by omega) (by omega)).trans J) S9 b9 (b0 := 40) (m := l0.length + lt.length) (P := P) (sd := 1) (c := jn_cR (jn_2 x y l0 lt L) (l0.map (kx x))) (by omega) h1P (fun p hp => by rw [ex_out h1P (by omega), so_map_off hp]; exact (jn_2c hl1 hl2 hp).2)) rfl (by omega) ((F19 95 (by omega) (by omega)).trans J) rfl rfl (Nat.le_of_ble_eq_true rfl) (by decide) dX1_match_107 (q := 110) rfl (fun ra ha hp => ?_)
      obtain ⟨rfl, HLa, ⟨sa, Sa, ba⟩, Fa⟩ := hp
      have HLa : so_L n ha (ex_4 40 (l0.length + lt.length) P (jn_cR (jn_2 x y l0 lt L) (l0.map (kx x))) s9 (ex_4 0 (l0.length + lt.length) P (jn_cL (jn_2 x y l0 lt L) (lt.map (kx y))) sr (so_map 40 (l0.length + lt.length) (fun p _ => jn_2 x y l0 lt L p) (jn_2 x y l0 lt L)))) _ := HLa
      have F1a : jf_fr h ha := fun q a c => by rw [Fa q a c, F19 q a c]
      obtain ⟨ixa, Ra, HAa, hia, hLa⟩ := id HLa
      refine pm_aload_n K dX1_match_110 (q := 111) rfl rfl rfl ?_
      refine pm_get K inX1 rfl (k := 0) (by decide) wlX1_18 rfl (by omega) ((F1a 95 (by omega) (by omega)).trans J) rfl dX1_match_111 (q := 114) rfl ?_
      refine pm_bipush (v := nI 40) K dX1_match_114 (q := 116) rfl (by decide) ?_
      refine pm_iload K dX1_match_116 (q := 118) rfl rfl ?_
      refine pm_callV0 K gw_ok wcX1_31 (c_sort l HLa (b0 := 40) (m0 := P) (by omega)) rfl (by omega) HAa.2.1 rfl rfl (Nat.le_of_ble_eq_true rfl) (by decide) dX1_match_118 (q := 121) rfl (fun rb hb9 hp => ?_)
      obtain ⟨rfl, HLb, Fb⟩ := hp
      have F1b : jf_fr h hb9 := fun q a c => by rw [Fb q a, F1a q a c]
      refine pm_aload_n K dX1_match_121 (q := 122) rfl rfl rfl ?_
      refine pm_iload K dX1_match_122 (q := 124) rfl rfl ?_
      refine pm_callV0 K gw_ok wcX1_50 (c_addPairs l HLb hn ((F1b 95 (by omega) (by omega)).trans J) (m := P) (by omega)) rfl (by omega) ((F1b 95 (by omega) (by omega)).trans J) rfl rfl (Nat.le_of_ble_eq_true rfl) (by decide) dX1_match_124 (q := 127) rfl (fun rc hc9 hp => ?_)
      obtain ⟨rfl, HLc, Fc⟩ := hp
      have F1c : jf_fr h hc9 := fun q a c => by rw [Fc q a, F1b q a c]
      obtain ⟨ixc, Rc, HAc, hic, hLc⟩ := id HLc
      have Bc : bg_at n hc9 b 24 l0 := B.fr (Nat.le_refl _) (fun q a c => F1c q (by omega) (by omega))
      refine pm_aload_n K dX1_match_127 (q := 128) rfl rfl rfl ?_
      refine pm_get K inX1 rfl (k := 0) (by decide) wlX1_18 rfl (by omega) ((F1c 95 (by omega) (by omega)).trans J) rfl dX1_match_128 (q := 131) rfl ?_
      refine pm_aload_n K dX1_match_131 (q := 132) rfl rfl rfl ?_
      refine pm_iload K dX1_match_132 (q := 134) rfl rfl ?_
      refine pm_callV0 K gw_ok wcX1_53 (c_takeAway l HLc Bc (by omega) (m := P) (by omega)) rfl (by omega) HAc.2.1 rfl rfl (Nat.le_of_ble_eq_true rfl) (by decide) dX1_match_134 (q := 137) rfl (fun rd hd9 hp => ?_)
      obtain ⟨rfl, Bd, Fd⟩ := hp
      simp only [tk_app, List.append_assoc] at HLc
      have hperm := jn_last (x := x) (y := y) (L := L) (sr := sr) (sr2 := s9) hl1 hl2 hP h1P hle
      have hlen := hperm.length_eq
      rw [← hP] at hlen
      rw [List.take_of_length_le (by rw [hlen]; exact hle)] at Bd
      refine pm_ic1 K dX1_match_137 (q := 138) rfl ?_
      exact pm_iret Z dX1_match_138 rfl rfl (Nat.le_of_ble_eq_true rfl) (Nat.le_of_ble_eq_true rfl) ⟨rfl, ⟨_, hperm, by rw [hlen, decide_eq_true hle]; rfl, ⟨_, by rw [tr_join, hlen, if_pos ⟨h1P, hle⟩]; exact HLc.mv (fun q hq => Fd q (by omega))⟩, by rw [hlen, if_pos hle]; exact Bd, ⟨sa, by rw [Fd 96 (by omega), Fc 96 (by omega), Fb 96 (by omega)]; exact Sa, ba⟩, fun q a c d => by rw [Fd q d, F1c q a c]⟩⟩
  · have hgt : ¬ P ≤ 24 := fun z => hx (nI_le z (by decide))
    refine pm_ic0 K dX1_match_76 (q := 77) rfl ?_
    exact pm_iret Z dX1_match_77 rfl rfl (Nat.le_of_ble_eq_true rfl) (Nat.le_of_ble_eq_true rfl) ⟨rfl, ⟨_, List.Perm.refl _, by rw [← hP, decide_eq_false hgt]; rfl, ⟨_, by rw [tr_join, ← hP, if_neg (by omega), List.append_nil]; exact HL7⟩, by rw [← hP, if_neg hgt]; exact B7, ⟨sr, (F17 96 (by omega)).trans hS, hsr⟩, fun q a c d => F17 q a⟩⟩
end
section
/-! The system: its small methods. -/
def tb (v : Int32) : Bool := decide (¬ v < 0 ∧ v < 3)
theorem tb_ok {v : Int32} (h : tb v = true) : ∃ j : Nat, j < 3 ∧ v = nI j := by
  have h := of_decide_eq_true h
  exact pk_j (L := 3) h.1 h.2 (by decide)
theorem tb_no {v : Int32} (h : tb v = false) : ¬ v < 0 → (3 : Int32) ≤ v := fun h0 => by
  have h := of_decide_eq_false h
  exact Int32.not_lt.mp (fun z => h ⟨h0, z⟩)
theorem tb_ye {v : Int32} (h : tb v = true) : ¬ v < 0 ∧ v < 3 := of_decide_eq_true h
theorem b2i_nar (b : Bool) : narrow .boolean (.int (b2i b)) = .int (b2i b) := by cases b <;> decide
def st4 (k x y z : Int32) : Nat → Int32 := fun i => if i = 0 then k else if i = 1 then x else if i = 2 then y else z
def x_fix (n : Nat) (h : pm_H) : Prop := 111 < n ∧ (∃ f, h 1 = pm_R tBag 3 f ∧ ∀ t, t < 3 → f t = some (97 + 4 * t)) ∧ (∃ g, h 2 = pm_R tStep 3 g ∧ ∀ s, s < 3 → g s = some (109 + s)) ∧ h 94 = pm_O cOps [.ref 15] ∧ h 95 = pm_O cJoin [.ref 15, .ref 96]
/-- the system: tables, puts, drops, result, plan, steps, trace -/
def x_at (n : Nat) (h : pm_H) (T : Nat → List bg_T) (lp ld lr : List bg_T) (pt : Int32) (sc : Nat) (S : Nat → Nat → Int32) (ts : List Int32) : Prop :=
  x_fix n h ∧ h 0 = pm_O cBT [.ref 1, .ref 2, .ref 3, .ref 7, .ref 11, .ref 15, .ref 94, .ref 95, .int pt, .int (nI sc)] ∧ bg_at n h 3 6 lp ∧ bg_at n h 7 6 ld ∧ bg_at n h 11 24 lr ∧ (∃ L, so_L n h L ts) ∧ (∃ sr, h 96 = pm_O cRow (rw_fs sr) ∧ (sr 10 = 0 ∨ sr 10 = 1)) ∧ (∀ t, t < 3 → bg_at n h (97 + 4 * t) 12 (T t)) ∧ ∀ s, s < 3 → h (109 + s) = pm_O cStep [.int (S s 0), .int (S s 1), .int (S s 2), .int (S s 3)]
def y_fr (h h' : pm_H) : Prop := ∀ q, 112 ≤ q → h' q = h q
theorem va_upid {α : Type} (f : Nat → α) (k : Nat) : va_up f k (f k) = f := by
  funext i
  by_cases h : i = k <;> simp [va_up, h]
theorem x_fix.fr {n : Nat} {h h' : pm_H} (X : x_fix n h) (h1 : h' 1 = h 1) (h2 : h' 2 = h 2) (h3 : h' 94 = h 94) (h4 : h' 95 = h 95) : x_fix n h' := by
  obtain ⟨a, ⟨f, b, b'⟩, ⟨g, c, c'⟩, d, e⟩ := X
  exact ⟨a, ⟨f, h1.trans b, b'⟩, ⟨g, h2.trans c, c'⟩, h3.trans d, h4.trans e⟩
section XAT
variable {n : Nat} {h h' : pm_H} {T : Nat → List bg_T} {lp ld lr l' : List bg_T} {pt : Int32} {sc : Nat} {S : Nat → Nat → Int32} {ts : List Int32}
theorem x_at.tbl (X : x_at n h T lp ld lr pt sc S ts) {j : Nat} (hj : j < 3) (F : ∀ q, q < 97 + 4 * j ∨ 97 + 4 * j + 3 < q → h' q = h q) (B : bg_at n h' (97 + 4 * j) 12 l') : x_at n h' (va_up T j l') lp ld lr pt sc S ts := by
  obtain ⟨a, b, c, d, e, ⟨L, f⟩, ⟨sr, g, g'⟩, i, k⟩ := X
  refine ⟨a.fr (F 1 (by omega)) (F 2 (by omega)) (F 94 (by omega)) (F 95 (by omega)), (F 0 (by omega)).trans b, c.fr (Nat.le_refl _) (fun q u v => F q (by omega)), d.fr (Nat.le_refl _) (fun q u v => F q (by omega)), e.fr (Nat.le_refl _) (fun q u v => F q (by omega)), ⟨L, f.mv (fun q hq => F q (by omega))⟩, ⟨sr, (F 96 (by omega)).trans g, g'⟩, fun t ht => ?_, fun s hs => (F _ (by omega)).trans (k s hs)⟩
  by_cases et : t = j
  · subst et
    simp only [va_up, if_true]
    exact B
  · simp only [va_up, et, if_false]
    exact (i t ht).fr (Nat.le_refl _) (fun q u v => F q (by omega))
theorem x_at.top (X : x_at n h T lp ld lr pt sc S ts) (pt' : Int32) (sc' : Nat) {v : Int32} (hv : v = nI sc') : x_at n (va_up h 0 (pm_O cBT [.ref 1, .ref 2, .ref 3, .ref 7, .ref 11, .ref 15, .ref 94, .ref 95, .int pt', .int v])) T lp ld lr pt' sc' S ts := by
  obtain ⟨a, b, c, d, e, ⟨L, f⟩, ⟨sr, g, g'⟩, i, k⟩ := X
  subst hv
  have F : ∀ q, q ≠ 0 → va_up h 0 (pm_O cBT [.ref 1, .ref 2, .ref 3, .ref 7, .ref 11, .ref 15, .ref 94, .ref 95, .int pt', .int (nI sc')]) q = h q := fun q hq => pm_ne hq rfl
  exact ⟨a.fr (F 1 (by omega)) (F 2 (by omega)) (F 94 (by omega)) (F 95 (by omega)), pm_same _ _ _, c.fr (Nat.le_refl _) (fun q u v => F q (by omega)), d.fr (Nat.le_refl _) (fun q u v => F q (by omega)), e.fr (Nat.le_refl _) (fun q u v => F q (by omega)), ⟨L, f.mv (fun q hq => F q (by omega))⟩, ⟨sr, (F 96 (by omega)).trans g, g'⟩, fun t ht => (i t ht).fr (Nat.le_refl _) (fun q u v => F q (by omega)), fun s hs => (F _ (by omega)).trans (k s hs)⟩
theorem x_at.stp (X : x_at n h T lp ld lr pt sc S ts) {j : Nat} (hj : j < 3) (x y z w : Int32) : x_at n (va_up h (109 + j) (pm_O cStep [.int x, .int y, .int z, .int w])) T lp ld lr pt sc (va_up S j (st4 x y z w)) ts := by
  obtain ⟨a, b, c, d, e, ⟨L, f⟩, ⟨sr, g, g'⟩, i, k⟩ := X
  have F : ∀ q, q ≠ 109 + j → va_up h (109 + j) (pm_O cStep [.int x, .int y, .int z, .int w]) q = h q := fun q hq => pm_ne hq rfl
  refine ⟨a.fr (F 1 (by omega)) (F 2 (by omega)) (F 94 (by omega)) (F 95 (by omega)), (F 0 (by omega)).trans b, c.fr (Nat.le_refl _) (fun q u v => F q (by omega)), d.fr (Nat.le_refl _) (fun q u v => F q (by omega)), e.fr (Nat.le_refl _) (fun q u v => F q (by omega)), ⟨L, f.mv (fun q hq => F q (by omega))⟩, ⟨sr, (F 96 (by omega)).trans g, g'⟩, fun t ht => (i t ht).fr (Nat.le_refl _) (fun q u v => F q (by omega)), fun s hs => ?_⟩
  by_cases es : s = j
  · subst es
    rw [pm_same]
    simp only [va_up, if_true]
    rfl
  · rw [F _ (by omega), k s hs]
    simp only [va_up, es, if_false]
theorem x_at.up_lp (X : x_at n h T lp ld lr pt sc S ts) (F : ∀ q, q < 3 ∨ 3 + 3 < q → h' q = h q) (B : bg_at n h' 3 6 l') : x_at n h' T l' ld lr pt sc S ts := by
  obtain ⟨a, b, c, d, e, ⟨L, f⟩, ⟨sr, g, g'⟩, i, k⟩ := X
  exact ⟨a.fr (F 1 (by omega)) (F 2 (by omega)) (F 94 (by omega)) (F 95 (by omega)), (F 0 (by omega)).trans b, B, d.fr (Nat.le_refl _) (fun q u v => F q (by omega)), e.fr (Nat.le_refl _) (fun q u v => F q (by omega)), ⟨L, f.mv (fun q hq => F q (by omega))⟩, ⟨sr, (F 96 (by omega)).trans g, g'⟩, fun t ht => (i t ht).fr (Nat.le_refl _) (fun q u v => F q (by omega)), fun s hs => (F _ (by omega)).trans (k s hs)⟩
theorem x_at.up_ld (X : x_at n h T lp ld lr pt sc S ts) (F : ∀ q, q < 7 ∨ 7 + 3 < q → h' q = h q) (B : bg_at n h' 7 6 l') : x_at n h' T lp l' lr pt sc S ts := by
  obtain ⟨a, b, c, d, e, ⟨L, f⟩, ⟨sr, g, g'⟩, i, k⟩ := X
  exact ⟨a.fr (F 1 (by omega)) (F 2 (by omega)) (F 94 (by omega)) (F 95 (by omega)), (F 0 (by omega)).trans b, c.fr (Nat.le_refl _) (fun q u v => F q (by omega)), B, e.fr (Nat.le_refl _) (fun q u v => F q (by omega)), ⟨L, f.mv (fun q hq => F q (by omega))⟩, ⟨sr, (F 96 (by omega)).trans g, g'⟩, fun t ht => (i t ht).fr (Nat.le_refl _) (fun q u v => F q (by omega)), fun s hs => (F _ (by omega)).trans (k s hs)⟩
/-- the store and the result have changed -/
theorem x_at.res (X : x_at n h T lp ld lr pt sc S ts) {ts' : List Int32} (F : ∀ q, (q < 15 ∨ 93 < q) → q ≠ 96 → (q < 11 ∨ 11 + 3 < q) → h' q = h q) (B : bg_at n h' 11 24 l') (hs : ∃ L, so_L n h' L ts') (hr : ∃ sr, h' 96 = pm_O cRow (rw_fs sr) ∧ (sr 10 = 0 ∨ sr 10 = 1)) : x_at n h' T lp ld l' pt sc S ts' := by
  obtain ⟨a, b, c, d, e, -, -, i, k⟩ := X
  exact ⟨a.fr (F 1 (by omega) (by omega) (by omega)) (F 2 (by omega) (by omega) (by omega)) (F 94 (by omega) (by omega) (by omega)) (F 95 (by omega) (by omega) (by omega)), (F 0 (by omega) (by omega) (by omega)).trans b, c.fr (Nat.le_refl _) (fun q u v => F q (by omega) (by omega) (by omega)), d.fr (Nat.le_refl _) (fun q u v => F q (by omega) (by omega) (by omega)), B, hs, hr, fun t ht => (i t ht).fr (Nat.le_refl _) (fun q u v => F q (by omega) (by omega) (by omega)), fun s hs => (F _ (by omega) (by omega) (by omega)).trans (k s hs)⟩
end XAT
set_option maxRecDepth 100000 in
theorem c_isTable (l : Launch) {n : Nat} {h : pm_H} (v : Int32) : bM0 l yX6_isTable cX6_isTable 1 (some (.boolean)) 0 [.int v] n h (fun r h' => r = some (.int (b2i (tb v))) ∧ h' = h) := by
  refine pm_enter rfl (Nat.le_of_ble_eq_true rfl) (fun G K Z => ?_)
  refine pm_iload_n K dX6_isTable_0 (q := 1) rfl rfl rfl ?_
  refine pm_if_lt K dX6_isTable_1 (tgt := 13) (q := 4) rfl rfl (fun h0 => ?_) (fun h0 => ?_)
  · refine pm_ic0 K dX6_isTable_13 (q := 14) rfl ?_
    exact pm_iret Z dX6_isTable_14 rfl rfl (Nat.le_of_ble_eq_true rfl) (Nat.le_of_ble_eq_true rfl) ⟨rfl, ⟨by rw [tb, decide_eq_false (fun z => z.1 h0)]; rfl, rfl⟩⟩
  · refine pm_iload_n K dX6_isTable_4 (q := 5) rfl rfl rfl ?_
    refine pm_ic3 K dX6_isTable_5 (q := 6) rfl ?_
    refine pm_icmp_ge K dX6_isTable_6 (tgt := 13) (q := 9) rfl rfl (fun h1 => ?_) (fun h1 => ?_)
    · refine pm_ic0 K dX6_isTable_13 (q := 14) rfl ?_
      exact pm_iret Z dX6_isTable_14 rfl rfl (Nat.le_of_ble_eq_true rfl) (Nat.le_of_ble_eq_true rfl) ⟨rfl, ⟨by rw [tb, decide_eq_false (fun z => Int32.not_le.mpr z.2 h1)]; rfl, rfl⟩⟩
    · refine pm_ic1 K dX6_isTable_9 (q := 10) rfl ?_
      refine pm_goto K dX6_isTable_10 (q := 14) rfl ?_
      exact pm_iret Z dX6_isTable_14 rfl rfl (Nat.le_of_ble_eq_true rfl) (Nat.le_of_ble_eq_true rfl) ⟨rfl, ⟨by rw [tb, decide_eq_true ⟨h0, Int32.not_le.mp h1⟩]; rfl, rfl⟩⟩
set_option maxRecDepth 100000 in
theorem c_isColumn (l : Launch) {n : Nat} {h : pm_H} (v : Int32) : bM0 l yX6_isColumn cX6_isColumn 1 (some (.boolean)) 0 [.int v] n h (fun r h' => r = some (.int (b2i (tb v))) ∧ h' = h) := by
  refine pm_enter rfl (Nat.le_of_ble_eq_true rfl) (fun G K Z => ?_)
  refine pm_iload_n K dX6_isColumn_0 (q := 1) rfl rfl rfl ?_
  refine pm_if_lt K dX6_isColumn_1 (tgt := 13) (q := 4) rfl rfl (fun h0 => ?_) (fun h0 => ?_)
  · refine pm_ic0 K dX6_isColumn_13 (q := 14) rfl ?_
    exact pm_iret Z dX6_isColumn_14 rfl rfl (Nat.le_of_ble_eq_true rfl) (Nat.le_of_ble_eq_true rfl) ⟨rfl, ⟨by rw [tb, decide_eq_false (fun z => z.1 h0)]; rfl, rfl⟩⟩
  · refine pm_iload_n K dX6_isColumn_4 (q := 5) rfl rfl rfl ?_
    refine pm_ic3 K dX6_isColumn_5 (q := 6) rfl ?_
    refine pm_icmp_ge K dX6_isColumn_6 (tgt := 13) (q := 9) rfl rfl (fun h1 => ?_) (fun h1 => ?_)
    · refine pm_ic0 K dX6_isColumn_13 (q := 14) rfl ?_
      exact pm_iret Z dX6_isColumn_14 rfl rfl (Nat.le_of_ble_eq_true rfl) (Nat.le_of_ble_eq_true rfl) ⟨rfl, ⟨by rw [tb, decide_eq_false (fun z => Int32.not_le.mpr z.2 h1)]; rfl, rfl⟩⟩
    · refine pm_ic1 K dX6_isColumn_9 (q := 10) rfl ?_
      refine pm_goto K dX6_isColumn_10 (q := 14) rfl ?_
      exact pm_iret Z dX6_isColumn_14 rfl rfl (Nat.le_of_ble_eq_true rfl) (Nat.le_of_ble_eq_true rfl) ⟨rfl, ⟨by rw [tb, decide_eq_true ⟨h0, Int32.not_le.mp h1⟩]; rfl, rfl⟩⟩
set_option maxRecDepth 100000 in
theorem c_stbecome (l : Launch) {n : Nat} {h : pm_H} {a : Nat} {s0 s1 s2 s3 : Int32} (ha : a < n) (hc : h a = pm_O cStep [.int s0, .int s1, .int s2, .int s3]) (k x y z : Int32) : bM0 l yX4_become cX4_become 5 none 0 [.ref a, .int k, .int x, .int y, .int z] n h (fun r h' => r = none ∧ h' = va_up h a (pm_O cStep [.int k, .int x, .int y, .int z])) := by
  refine pm_enter rfl (Nat.le_of_ble_eq_true rfl) (fun G K Z => ?_)
  refine pm_aload_n K dX4_become_0 (q := 1) rfl rfl rfl ?_
  refine pm_iload_n K dX4_become_1 (q := 2) rfl rfl rfl ?_
  refine pm_put (fs' := [.int k, .int s1, .int s2, .int s3]) K inX4 tyX4 tyX4_ok nmX4 rfl (k := 0) (by decide) wlX4_7 rfl rfl (fun _ => ⟨rfl, rfl⟩) ha hc (Nat.le_of_ble_eq_true rfl) rfl dX4_become_2 (q := 5) rfl ?_
  refine pm_aload_n K dX4_become_5 (q := 6) rfl rfl rfl ?_
  refine pm_iload_n K dX4_become_6 (q := 7) rfl rfl rfl ?_
  refine pm_put (fs' := [.int k, .int x, .int s2, .int s3]) K inX4 tyX4 tyX4_ok nmX4 rfl (k := 1) (by decide) wlX4_13 rfl rfl (fun _ => ⟨rfl, rfl⟩) ha (pm_same _ _ _) (Nat.le_of_ble_eq_true rfl) rfl dX4_become_7 (q := 10) rfl ?_
  refine pm_aload_n K dX4_become_10 (q := 11) rfl rfl rfl ?_
  refine pm_iload_n K dX4_become_11 (q := 12) rfl rfl rfl ?_
  refine pm_put (fs' := [.int k, .int x, .int y, .int s3]) K inX4 tyX4 tyX4_ok nmX4 rfl (k := 2) (by decide) wlX4_16 rfl rfl (fun _ => ⟨rfl, rfl⟩) ha (pm_same _ _ _) (Nat.le_of_ble_eq_true rfl) rfl dX4_become_12 (q := 15) rfl ?_
  refine pm_aload_n K dX4_become_15 (q := 16) rfl rfl rfl ?_
  refine pm_iload K dX4_become_16 (q := 18) rfl rfl ?_
  refine pm_put (fs' := [.int k, .int x, .int y, .int z]) K inX4 tyX4 tyX4_ok nmX4 rfl (k := 3) (by decide) wlX4_19 rfl rfl (fun _ => ⟨rfl, rfl⟩) ha (pm_same _ _ _) (Nat.le_of_ble_eq_true rfl) rfl dX4_become_18 (q := 21) rfl ?_
  exact pm_vret Z dX4_become_21 rfl (Nat.le_of_ble_eq_true rfl) (Nat.le_of_ble_eq_true rfl) ⟨rfl, ⟨rfl, by rw [pm_up2, pm_up2, pm_up2]⟩⟩
set_option maxRecDepth 100000 in
theorem c_add (l : Launch) {n : Nat} {h : pm_H} {T : Nat → List bg_T} {lp ld lr : List bg_T} {pt : Int32} {sc : Nat} {S : Nat → Nat → Int32} {ts : List Int32} (X : x_at n h T lp ld lr pt sc S ts) (t a b c : Int32) : bM0 l yX6_add cX6_add 5 (some (.boolean)) 1 [.ref 0, .int t, .int a, .int b, .int c] n h (fun r h' => r = some (.int (b2i (tb t && decide ((T t.toNatClampNeg).length < 12)))) ∧ x_at n h' (if (tb t && decide ((T t.toNatClampNeg).length < 12)) = true then va_up T t.toNatClampNeg (T t.toNatClampNeg ++ [(a, b, c)]) else T) lp ld lr pt sc S ts ∧ y_fr h h') := by
  refine pm_enter rfl (Nat.le_of_ble_eq_true rfl) (fun G K Z => ?_)
  have X0 := X
  obtain ⟨⟨hn, ⟨tf, x1, xtf⟩, ⟨sf, x2, xsf⟩, x94, x95⟩, x0, xlp, xld, xlr, xso, xsr, xt, xs⟩ := X
  refine pm_iload_n K dX6_add_0 (q := 1) rfl rfl rfl ?_
  refine pm_callS0 K gw_ok wcX6_65 (c_isTable l t) rfl rfl (Nat.le_of_ble_eq_true rfl) (by decide) dX6_add_1 (q := 4) rfl (fun rs hs hp => ?_)
  obtain ⟨rfl, e1⟩ := hp
  rw [e1]
  cases ht : tb t
  · rw [ht] at Z
    refine pm_if_eq K dX6_add_4 (tgt := 27) (q := 7) rfl rfl (fun _ => ?_) (fun z => absurd z (fun z => z rfl))
    refine pm_ic0 K dX6_add_27 (q := 28) rfl ?_
    exact pm_iret Z dX6_add_28 rfl rfl (Nat.le_of_ble_eq_true rfl) (Nat.le_of_ble_eq_true rfl) ⟨rfl, ⟨rfl, X0, fun _ _ => rfl⟩⟩
  · rw [ht] at Z
    refine pm_if_eq K dX6_add_4 (tgt := 27) (q := 7) rfl rfl (fun z => absurd z (by decide)) (fun _ => ?_)
    obtain ⟨j, hj, rfl⟩ := tb_ok ht
    rw [nI_clamp (by omega)] at Z
    refine pm_aload_n K dX6_add_7 (q := 8) rfl rfl rfl ?_
    refine pm_get K inX6 rfl (k := 0) (by decide) wlX6_11 rfl (by omega) x0 rfl dX6_add_8 (q := 11) rfl ?_
    refine pm_iload_n K dX6_add_11 (q := 12) rfl rfl rfl ?_
    refine pm_aaldN K (by omega) x1 rfl hj (by decide) (xtf j hj) dX6_add_12 (q := 13) rfl ?_
    refine pm_iload_n K dX6_add_13 (q := 14) rfl rfl rfl ?_
    refine pm_iload_n K dX6_add_14 (q := 15) rfl rfl rfl ?_
    refine pm_iload K dX6_add_15 (q := 17) rfl rfl ?_
    refine pm_callV0 K gw_ok wcX6_69 (c_hold l (xt j hj) a b c) rfl (by omega) (xt j hj).2.2.2.1 rfl rfl (Nat.le_of_ble_eq_true rfl) (by decide) dX6_add_17 (q := 20) rfl (fun r1 h1 hp => ?_)
    obtain ⟨rfl, HB, F1⟩ := hp
    have hx : y_fr h h1 := fun q hq => F1 q (by omega)
    by_cases hl : (T j).length < 12
    · rw [decide_eq_true hl]
      refine pm_if_eq K dX6_add_20 (tgt := 27) (q := 23) rfl rfl (fun z => absurd z (by decide)) (fun _ => ?_)
      refine pm_ic1 K dX6_add_23 (q := 24) rfl ?_
      refine pm_goto K dX6_add_24 (q := 28) rfl ?_
      rw [decide_eq_true hl] at Z
      rw [List.take_of_length_le (by rw [List.length_append]; exact hl)] at HB
      exact pm_iret Z dX6_add_28 rfl rfl (Nat.le_of_ble_eq_true rfl) (Nat.le_of_ble_eq_true rfl) ⟨rfl, ⟨rfl, X0.tbl hj F1 HB, hx⟩⟩
    · rw [decide_eq_false hl]
      refine pm_if_eq K dX6_add_20 (tgt := 27) (q := 23) rfl rfl (fun _ => ?_) (fun z => absurd z (fun z => z rfl))
      refine pm_ic0 K dX6_add_27 (q := 28) rfl ?_
      rw [decide_eq_false hl] at Z
      rw [List.take_append_of_le_length (by omega), List.take_of_length_le (xt j hj).2.1] at HB
      have X9 := X0.tbl hj F1 HB
      rw [va_upid] at X9
      exact pm_iret Z dX6_add_28 rfl rfl (Nat.le_of_ble_eq_true rfl) (Nat.le_of_ble_eq_true rfl) ⟨rfl, ⟨rfl, X9, hx⟩⟩
set_option maxRecDepth 100000 in
theorem c_rows (l : Launch) {n : Nat} {h : pm_H} {T : Nat → List bg_T} {lp ld lr : List bg_T} {pt : Int32} {sc : Nat} {S : Nat → Nat → Int32} {ts : List Int32} (X : x_at n h T lp ld lr pt sc S ts) (t : Int32) : bM0 l yX6_rows cX6_rows 2 (some (.int)) 1 [.ref 0, .int t] n h (fun r h' => r = some (.int (if tb t = true then nI (T t.toNatClampNeg).length else -1)) ∧ h' = h) := by
  refine pm_enter rfl (Nat.le_of_ble_eq_true rfl) (fun G K Z => ?_)
  obtain ⟨⟨hn, ⟨tf, x1, xtf⟩, ⟨sf, x2, xsf⟩, x94, x95⟩, x0, xlp, xld, xlr, xso, xsr, xt, xs⟩ := X
  refine pm_iload_n K dX6_rows_0 (q := 1) rfl rfl rfl ?_
  refine pm_callS0 K gw_ok wcX6_65 (c_isTable l t) rfl rfl (Nat.le_of_ble_eq_true rfl) (by decide) dX6_rows_1 (q := 4) rfl (fun rs hs hp => ?_)
  obtain ⟨rfl, e1⟩ := hp
  rw [e1]
  cases ht : tb t
  · rw [ht] at Z
    refine pm_if_eq K dX6_rows_4 (tgt := 19) (q := 7) rfl rfl (fun _ => ?_) (fun z => absurd z (fun z => z rfl))
    refine pm_icm1 K dX6_rows_19 (q := 20) rfl ?_
    exact pm_iret Z dX6_rows_20 rfl rfl (Nat.le_of_ble_eq_true rfl) (Nat.le_of_ble_eq_true rfl) ⟨rfl, ⟨rfl, rfl⟩⟩
  · rw [ht] at Z
    refine pm_if_eq K dX6_rows_4 (tgt := 19) (q := 7) rfl rfl (fun z => absurd z (by decide)) (fun _ => ?_)
    obtain ⟨j, hj, rfl⟩ := tb_ok ht
    rw [nI_clamp (by omega)] at Z
    refine pm_aload_n K dX6_rows_7 (q := 8) rfl rfl rfl ?_
    refine pm_get K inX6 rfl (k := 0) (by decide) wlX6_11 rfl (by omega) x0 rfl dX6_rows_8 (q := 11) rfl ?_
    refine pm_iload_n K dX6_rows_11 (q := 12) rfl rfl rfl ?_
    refine pm_aaldN K (by omega) x1 rfl hj (by decide) (xtf j hj) dX6_rows_12 (q := 13) rfl ?_
    refine pm_get K inX0 rfl (k := 3) (by decide) wlX6_73 rfl (by omega) (xt j hj).2.2.2.1 rfl dX6_rows_13 (q := 16) rfl ?_
    refine pm_goto K dX6_rows_16 (q := 20) rfl ?_
    exact pm_iret Z dX6_rows_20 rfl rfl (Nat.le_of_ble_eq_true rfl) (Nat.le_of_ble_eq_true rfl) ⟨rfl, ⟨rfl, rfl⟩⟩
set_option maxRecDepth 100000 in
theorem c_sum (l : Launch) {n : Nat} {h : pm_H} {T : Nat → List bg_T} {lp ld lr : List bg_T} {pt : Int32} {sc : Nat} {S : Nat → Nat → Int32} {ts : List Int32} (X : x_at n h T lp ld lr pt sc S ts) (t : Int32) : bM0 l yX6_sum cX6_sum 2 (some (.int)) 1 [.ref 0, .int t] n h (fun r h' => r = some (.int (if tb t = true then bg_sum (T t.toNatClampNeg) else 0)) ∧ h' = h) := by
  refine pm_enter rfl (Nat.le_of_ble_eq_true rfl) (fun G K Z => ?_)
  obtain ⟨⟨hn, ⟨tf, x1, xtf⟩, ⟨sf, x2, xsf⟩, x94, x95⟩, x0, xlp, xld, xlr, xso, xsr, xt, xs⟩ := X
  refine pm_iload_n K dX6_sum_0 (q := 1) rfl rfl rfl ?_
  refine pm_callS0 K gw_ok wcX6_65 (c_isTable l t) rfl rfl (Nat.le_of_ble_eq_true rfl) (by decide) dX6_sum_1 (q := 4) rfl (fun rs hs hp => ?_)
  obtain ⟨rfl, e1⟩ := hp
  rw [e1]
  cases ht : tb t
  · rw [ht] at Z
    refine pm_if_eq K dX6_sum_4 (tgt := 19) (q := 7) rfl rfl (fun _ => ?_) (fun z => absurd z (fun z => z rfl))
    refine pm_ic0 K dX6_sum_19 (q := 20) rfl ?_
    exact pm_iret Z dX6_sum_20 rfl rfl (Nat.le_of_ble_eq_true rfl) (Nat.le_of_ble_eq_true rfl) ⟨rfl, ⟨rfl, rfl⟩⟩
  · rw [ht] at Z
    refine pm_if_eq K dX6_sum_4 (tgt := 19) (q := 7) rfl rfl (fun z => absurd z (by decide)) (fun _ => ?_)
    obtain ⟨j, hj, rfl⟩ := tb_ok ht
    rw [nI_clamp (by omega)] at Z
    refine pm_aload_n K dX6_sum_7 (q := 8) rfl rfl rfl ?_
    refine pm_get K inX6 rfl (k := 0) (by decide) wlX6_11 rfl (by omega) x0 rfl dX6_sum_8 (q := 11) rfl ?_
    refine pm_iload_n K dX6_sum_11 (q := 12) rfl rfl rfl ?_
    refine pm_aaldN K (by omega) x1 rfl hj (by decide) (xtf j hj) dX6_sum_12 (q := 13) rfl ?_
    refine pm_callV0 K gw_ok wcX6_119 (c_btotal l (xt j hj)) rfl (by omega) (xt j hj).2.2.2.1 rfl rfl (Nat.le_of_ble_eq_true rfl) (by decide) dX6_sum_13 (q := 16) rfl (fun r1 h1 hp => ?_)
    obtain ⟨rfl, e2⟩ := hp
    rw [e2]
    refine pm_goto K dX6_sum_16 (q := 20) rfl ?_
    exact pm_iret Z dX6_sum_20 rfl rfl (Nat.le_of_ble_eq_true rfl) (Nat.le_of_ble_eq_true rfl) ⟨rfl, ⟨rfl, rfl⟩⟩
set_option maxRecDepth 100000 in
theorem c_plan (l : Launch) {n : Nat} {h : pm_H} {T : Nat → List bg_T} {lp ld lr : List bg_T} {pt : Int32} {sc : Nat} {S : Nat → Nat → Int32} {ts : List Int32} (X : x_at n h T lp ld lr pt sc S ts) (t : Int32) : bM0 l yX6_plan cX6_plan 2 (some (.boolean)) 1 [.ref 0, .int t] n h (fun r h' => r = some (.int (b2i (tb t))) ∧ x_at n h' T lp ld lr (if tb t = true then t else pt) (if tb t = true then 0 else sc) S ts ∧ y_fr h h') := by
  refine pm_enter rfl (Nat.le_of_ble_eq_true rfl) (fun G K Z => ?_)
  have X0 := X
  obtain ⟨⟨hn, ⟨tf, x1, xtf⟩, ⟨sf, x2, xsf⟩, x94, x95⟩, x0, xlp, xld, xlr, xso, xsr, xt, xs⟩ := X
  refine pm_iload_n K dX6_plan_0 (q := 1) rfl rfl rfl ?_
  refine pm_callS0 K gw_ok wcX6_65 (c_isTable l t) rfl rfl (Nat.le_of_ble_eq_true rfl) (by decide) dX6_plan_1 (q := 4) rfl (fun rs hs hp => ?_)
  obtain ⟨rfl, e1⟩ := hp
  rw [e1]
  cases ht : tb t
  · rw [ht] at Z
    refine pm_if_ne K dX6_plan_4 (tgt := 9) (q := 7) rfl rfl (fun z => absurd z (fun z => z rfl)) (fun _ => ?_)
    refine pm_ic0 K dX6_plan_7 (q := 8) rfl ?_
    exact pm_iret Z dX6_plan_8 rfl rfl (Nat.le_of_ble_eq_true rfl) (Nat.le_of_ble_eq_true rfl) ⟨rfl, ⟨rfl, X0, fun _ _ => rfl⟩⟩
  · rw [ht] at Z
    refine pm_if_ne K dX6_plan_4 (tgt := 9) (q := 7) rfl rfl (fun _ => ?_) (fun z => absurd z (fun z => absurd z (by decide)))
    refine pm_aload_n K dX6_plan_9 (q := 10) rfl rfl rfl ?_
    refine pm_iload_n K dX6_plan_10 (q := 11) rfl rfl rfl ?_
    refine pm_put (fs' := [.ref 1, .ref 2, .ref 3, .ref 7, .ref 11, .ref 15, .ref 94, .ref 95, .int t, .int (nI sc)]) K inX6 tyX6 tyX6_ok nmX6 rfl (k := 8) (by decide) wlX6_57 rfl rfl (fun _ => ⟨rfl, rfl⟩) (by omega) x0 (Nat.le_of_ble_eq_true rfl) rfl dX6_plan_11 (q := 14) rfl ?_
    refine pm_aload_n K dX6_plan_14 (q := 15) rfl rfl rfl ?_
    refine pm_ic0 K dX6_plan_15 (q := 16) rfl ?_
    refine pm_put (fs' := [.ref 1, .ref 2, .ref 3, .ref 7, .ref 11, .ref 15, .ref 94, .ref 95, .int t, .int 0]) K inX6 tyX6 tyX6_ok nmX6 rfl (k := 9) (by decide) wlX6_61 rfl rfl (fun _ => ⟨rfl, rfl⟩) (by omega) (pm_same _ _ _) (Nat.le_of_ble_eq_true rfl) rfl dX6_plan_16 (q := 19) rfl ?_
    refine pm_ic1 K dX6_plan_19 (q := 20) rfl ?_
    exact pm_iret Z dX6_plan_20 rfl rfl (Nat.le_of_ble_eq_true rfl) (Nat.le_of_ble_eq_true rfl) ⟨rfl, ⟨rfl, by rw [pm_up2]; exact X0.top t 0 rfl, fun q hq => by rw [pm_up2]; exact pm_ne (by omega) rfl⟩⟩
set_option maxRecDepth 100000 in
theorem c_append (l : Launch) {n : Nat} {h : pm_H} {T : Nat → List bg_T} {lp ld lr : List bg_T} {pt : Int32} {sc : Nat} {S : Nat → Nat → Int32} {ts : List Int32} (X : x_at n h T lp ld lr pt sc S ts) (hsc : sc ≤ 3) (k x y z : Int32) : bM0 l yX6_append cX6_append 5 (some (.boolean)) 1 [.ref 0, .int k, .int x, .int y, .int z] n h (fun r h' => r = some (.int (b2i (decide (¬ pt = -1 ∧ sc < 3)))) ∧ x_at n h' T lp ld lr pt (if (decide (¬ pt = -1 ∧ sc < 3)) = true then sc + 1 else sc) (if (decide (¬ pt = -1 ∧ sc < 3)) = true then va_up S sc (st4 k x y z) else S) ts ∧ y_fr h h') := by
  refine pm_enter rfl (Nat.le_of_ble_eq_true rfl) (fun G K Z => ?_)
  have X0 := X
  obtain ⟨⟨hn, ⟨tf, x1, xtf⟩, ⟨sf, x2, xsf⟩, x94, x95⟩, x0, xlp, xld, xlr, xso, xsr, xt, xs⟩ := X
  refine pm_aload_n K dX6_append_0 (q := 1) rfl rfl rfl ?_
  refine pm_get K inX6 rfl (k := 8) (by decide) wlX6_57 rfl (by omega) x0 rfl dX6_append_1 (q := 4) rfl ?_
  refine pm_icm1 K dX6_append_4 (q := 5) rfl ?_
  refine pm_icmp_eq K dX6_append_5 (tgt := 16) (q := 8) rfl rfl (fun h0 => ?_) (fun h0 => ?_)
  · rw [decide_eq_false (fun z => z.1 h0)] at Z
    refine pm_ic0 K dX6_append_16 (q := 17) rfl ?_
    exact pm_iret Z dX6_append_17 rfl rfl (Nat.le_of_ble_eq_true rfl) (Nat.le_of_ble_eq_true rfl) ⟨rfl, ⟨rfl, X0, fun _ _ => rfl⟩⟩
  · refine pm_aload_n K dX6_append_8 (q := 9) rfl rfl rfl ?_
    refine pm_get K inX6 rfl (k := 9) (by decide) wlX6_61 rfl (by omega) x0 rfl dX6_append_9 (q := 12) rfl ?_
    refine pm_ic3 K dX6_append_12 (q := 13) rfl ?_
    refine pm_icmp_lt K dX6_append_13 (tgt := 18) (q := 16) rfl rfl (fun h1 => ?_) (fun h1 => ?_)
    · have hg : sc < 3 := (nI_ltI (by omega) (by decide)).mp h1
      refine pm_aload_n K dX6_append_18 (q := 19) rfl rfl rfl ?_
      refine pm_get K inX6 rfl (k := 1) (by decide) wlX6_17 rfl (by omega) x0 rfl dX6_append_19 (q := 22) rfl ?_
      refine pm_aload_n K dX6_append_22 (q := 23) rfl rfl rfl ?_
      refine pm_get K inX6 rfl (k := 9) (by decide) wlX6_61 rfl (by omega) x0 rfl dX6_append_23 (q := 26) rfl ?_
      refine pm_aaldN K (by omega) x2 rfl hg (by decide) (xsf sc hg) dX6_append_26 (q := 27) rfl ?_
      refine pm_iload_n K dX6_append_27 (q := 28) rfl rfl rfl ?_
      refine pm_iload_n K dX6_append_28 (q := 29) rfl rfl rfl ?_
      refine pm_iload_n K dX6_append_29 (q := 30) rfl rfl rfl ?_
      refine pm_iload K dX6_append_30 (q := 32) rfl rfl ?_
      refine pm_callV0 K gw_ok wcX6_122 (c_stbecome l (by omega) (xs sc hg) k x y z) rfl (by omega) (xs sc hg) rfl rfl (Nat.le_of_ble_eq_true rfl) (by decide) dX6_append_32 (q := 35) rfl (fun r1 h1 hp => ?_)
      obtain ⟨rfl, rfl⟩ := hp
      refine pm_aload_n K dX6_append_35 (q := 36) rfl rfl rfl ?_
      refine pm_dup K dX6_append_36 (q := 37) rfl ?_
      refine pm_get K inX6 rfl (k := 9) (by decide) wlX6_61 rfl (by omega) (pm_ne (by omega) x0) rfl dX6_append_37 (q := 40) rfl ?_
      refine pm_ic1 K dX6_append_40 (q := 41) rfl ?_
      refine pm_iadd K dX6_append_41 (q := 42) rfl ?_
      refine pm_put (fs' := [.ref 1, .ref 2, .ref 3, .ref 7, .ref 11, .ref 15, .ref 94, .ref 95, .int pt, .int (nI sc + 1)]) K inX6 tyX6 tyX6_ok nmX6 rfl (k := 9) (by decide) wlX6_61 rfl rfl (fun _ => ⟨rfl, rfl⟩) (by omega) (pm_ne (by omega) x0) (Nat.le_of_ble_eq_true rfl) rfl dX6_append_42 (q := 45) rfl ?_
      refine pm_ic1 K dX6_append_45 (q := 46) rfl ?_
      rw [decide_eq_true ⟨h0, hg⟩] at Z
      exact pm_iret Z dX6_append_46 rfl rfl (Nat.le_of_ble_eq_true rfl) (Nat.le_of_ble_eq_true rfl) ⟨rfl, ⟨rfl, (X0.stp hg k x y z).top pt (sc + 1) (by rw [nI_succ]), fun q hq => by rw [pm_ne (by omega) rfl, pm_ne (by omega) rfl]⟩⟩
    · have hg : ¬ sc < 3 := fun z => h1 (nI_lt z (by decide))
      rw [decide_eq_false (fun z => hg z.2)] at Z
      refine pm_ic0 K dX6_append_16 (q := 17) rfl ?_
      exact pm_iret Z dX6_append_17 rfl rfl (Nat.le_of_ble_eq_true rfl) (Nat.le_of_ble_eq_true rfl) ⟨rfl, ⟨rfl, X0, fun _ _ => rfl⟩⟩
set_option maxRecDepth 100000 in
theorem c_distinct (l : Launch) {n : Nat} {h : pm_H} {T : Nat → List bg_T} {lp ld lr : List bg_T} {pt : Int32} {sc : Nat} {S : Nat → Nat → Int32} {ts : List Int32} (X : x_at n h T lp ld lr pt sc S ts) (hsc : sc ≤ 3) : bM0 l yX6_distinct cX6_distinct 1 (some (.boolean)) 2 [.ref 0] n h (fun r h' => r = some (.int (b2i ((decide (¬ pt = -1 ∧ sc < 3))))) ∧ x_at n h' T lp ld lr pt (if ((decide (¬ pt = -1 ∧ sc < 3))) = true then sc + 1 else sc) (if ((decide (¬ pt = -1 ∧ sc < 3))) = true then va_up S sc (st4 2 0 0 0) else S) ts ∧ y_fr h h') := by
  refine pm_enter rfl (Nat.le_of_ble_eq_true rfl) (fun G K Z => ?_)
  have X0 := X
  obtain ⟨⟨hn, ⟨tf, x1, xtf⟩, ⟨sf, x2, xsf⟩, x94, x95⟩, x0, xlp, xld, xlr, xso, xsr, xt, xs⟩ := X
  refine pm_aload_n K dX6_distinct_0 (q := 1) rfl rfl rfl ?_
  refine pm_ic2 K dX6_distinct_1 (q := 2) rfl ?_
  refine pm_ic0 K dX6_distinct_2 (q := 3) rfl ?_
  refine pm_ic0 K dX6_distinct_3 (q := 4) rfl ?_
  refine pm_ic0 K dX6_distinct_4 (q := 5) rfl ?_
  refine pm_callV0 K gw_ok wcX6_79 (c_append l X0 hsc 2 0 0 0) rfl (by omega) x0 rfl rfl (Nat.le_of_ble_eq_true rfl) (by decide) dX6_distinct_5 (q := 8) rfl (fun r1 h1 hp => ?_)
  obtain ⟨rfl, X1, F1⟩ := hp
  exact pm_iret Z dX6_distinct_8 rfl (b2i_nar _) (Nat.le_of_ble_eq_true rfl) (Nat.le_of_ble_eq_true rfl) ⟨rfl, ⟨rfl, X1, F1⟩⟩
set_option maxRecDepth 100000 in
theorem c_filter (l : Launch) {n : Nat} {h : pm_H} {T : Nat → List bg_T} {lp ld lr : List bg_T} {pt : Int32} {sc : Nat} {S : Nat → Nat → Int32} {ts : List Int32} (X : x_at n h T lp ld lr pt sc S ts) (hsc : sc ≤ 3) (c op x : Int32) : bM0 l yX6_filter cX6_filter 4 (some (.boolean)) 2 [.ref 0, .int c, .int op, .int x] n h (fun r h' => r = some (.int (b2i (tb c && tb op && (decide (¬ pt = -1 ∧ sc < 3))))) ∧ x_at n h' T lp ld lr pt (if (tb c && tb op && (decide (¬ pt = -1 ∧ sc < 3))) = true then sc + 1 else sc) (if (tb c && tb op && (decide (¬ pt = -1 ∧ sc < 3))) = true then va_up S sc (st4 0 c op x) else S) ts ∧ y_fr h h') := by
  refine pm_enter rfl (Nat.le_of_ble_eq_true rfl) (fun G K Z => ?_)
  have X0 := X
  obtain ⟨⟨hn, ⟨tf, x1, xtf⟩, ⟨sf, x2, xsf⟩, x94, x95⟩, x0, xlp, xld, xlr, xso, xsr, xt, xs⟩ := X
  refine pm_iload_n K dX6_filter_0 (q := 1) rfl rfl rfl ?_
  refine pm_callS0 K gw_ok wcX6_76 (c_isColumn l c) rfl rfl (Nat.le_of_ble_eq_true rfl) (by decide) dX6_filter_1 (q := 4) rfl (fun rs hs hp => ?_)
  obtain ⟨rfl, e1⟩ := hp
  rw [e1]
  cases hvc : tb c
  · rw [hvc] at Z
    refine pm_if_eq K dX6_filter_4 (tgt := 31) (q := 7) rfl rfl (fun _ => ?_) (fun z => absurd z (fun z => z rfl))
    refine pm_ic0 K dX6_filter_31 (q := 32) rfl ?_
    exact pm_iret Z dX6_filter_32 rfl rfl (Nat.le_of_ble_eq_true rfl) (Nat.le_of_ble_eq_true rfl) ⟨rfl, ⟨rfl, X0, fun _ _ => rfl⟩⟩
  · rw [hvc] at Z
    refine pm_if_eq K dX6_filter_4 (tgt := 31) (q := 7) rfl rfl (fun z => absurd z (by decide)) (fun _ => ?_)
    refine pm_iload_n K dX6_filter_7 (q := 8) rfl rfl rfl ?_
    cases hvop : tb op
    · rw [hvop] at Z
      have hq := tb_no hvop
      refine pm_if_lt K dX6_filter_8 (tgt := 31) (q := 11) rfl rfl (fun h0 => ?_) (fun h0 => ?_)
      · refine pm_ic0 K dX6_filter_31 (q := 32) rfl ?_
        exact pm_iret Z dX6_filter_32 rfl rfl (Nat.le_of_ble_eq_true rfl) (Nat.le_of_ble_eq_true rfl) ⟨rfl, ⟨rfl, X0, fun _ _ => rfl⟩⟩
      · refine pm_iload_n K dX6_filter_11 (q := 12) rfl rfl rfl ?_
        refine pm_ic3 K dX6_filter_12 (q := 13) rfl ?_
        refine pm_icmp_ge K dX6_filter_13 (tgt := 31) (q := 16) rfl rfl (fun _ => ?_) (fun z => absurd z (fun z => z (hq h0)))
        refine pm_ic0 K dX6_filter_31 (q := 32) rfl ?_
        exact pm_iret Z dX6_filter_32 rfl rfl (Nat.le_of_ble_eq_true rfl) (Nat.le_of_ble_eq_true rfl) ⟨rfl, ⟨rfl, X0, fun _ _ => rfl⟩⟩
    · rw [hvop] at Z
      have hq := tb_ye hvop
      refine pm_if_lt K dX6_filter_8 (tgt := 31) (q := 11) rfl rfl (fun z => absurd z (hq.1)) (fun _ => ?_)
      refine pm_iload_n K dX6_filter_11 (q := 12) rfl rfl rfl ?_
      refine pm_ic3 K dX6_filter_12 (q := 13) rfl ?_
      refine pm_icmp_ge K dX6_filter_13 (tgt := 31) (q := 16) rfl rfl (fun z => absurd z (Int32.not_le.mpr hq.2)) (fun _ => ?_)
      refine pm_aload_n K dX6_filter_16 (q := 17) rfl rfl rfl ?_
      refine pm_ic0 K dX6_filter_17 (q := 18) rfl ?_
      refine pm_iload_n K dX6_filter_18 (q := 19) rfl rfl rfl ?_
      refine pm_iload_n K dX6_filter_19 (q := 20) rfl rfl rfl ?_
      refine pm_iload_n K dX6_filter_20 (q := 21) rfl rfl rfl ?_
      refine pm_callV0 K gw_ok wcX6_79 (c_append l X0 hsc 0 c op x) rfl (by omega) x0 rfl rfl (Nat.le_of_ble_eq_true rfl) (by decide) dX6_filter_21 (q := 24) rfl (fun r1 h1 hp => ?_)
      obtain ⟨rfl, X1, F1⟩ := hp
      cases ha : (decide (¬ pt = -1 ∧ sc < 3))
      · rw [ha] at X1 Z
        refine pm_if_eq K dX6_filter_24 (tgt := 31) (q := 27) rfl rfl (fun _ => ?_) (fun z => absurd z (fun z => z rfl))
        refine pm_ic0 K dX6_filter_31 (q := 32) rfl ?_
        exact pm_iret Z dX6_filter_32 rfl rfl (Nat.le_of_ble_eq_true rfl) (Nat.le_of_ble_eq_true rfl) ⟨rfl, ⟨rfl, X1, F1⟩⟩
      · rw [ha] at X1 Z
        refine pm_if_eq K dX6_filter_24 (tgt := 31) (q := 27) rfl rfl (fun z => absurd z (by decide)) (fun _ => ?_)
        refine pm_ic1 K dX6_filter_27 (q := 28) rfl ?_
        refine pm_goto K dX6_filter_28 (q := 32) rfl ?_
        exact pm_iret Z dX6_filter_32 rfl rfl (Nat.le_of_ble_eq_true rfl) (Nat.le_of_ble_eq_true rfl) ⟨rfl, ⟨rfl, X1, F1⟩⟩
set_option maxRecDepth 100000 in
theorem c_pick (l : Launch) {n : Nat} {h : pm_H} {T : Nat → List bg_T} {lp ld lr : List bg_T} {pt : Int32} {sc : Nat} {S : Nat → Nat → Int32} {ts : List Int32} (X : x_at n h T lp ld lr pt sc S ts) (hsc : sc ≤ 3) (a b c : Int32) : bM0 l yX6_pick cX6_pick 4 (some (.boolean)) 2 [.ref 0, .int a, .int b, .int c] n h (fun r h' => r = some (.int (b2i (tb a && tb b && tb c && (decide (¬ pt = -1 ∧ sc < 3))))) ∧ x_at n h' T lp ld lr pt (if (tb a && tb b && tb c && (decide (¬ pt = -1 ∧ sc < 3))) = true then sc + 1 else sc) (if (tb a && tb b && tb c && (decide (¬ pt = -1 ∧ sc < 3))) = true then va_up S sc (st4 1 a b c) else S) ts ∧ y_fr h h') := by
  refine pm_enter rfl (Nat.le_of_ble_eq_true rfl) (fun G K Z => ?_)
  have X0 := X
  obtain ⟨⟨hn, ⟨tf, x1, xtf⟩, ⟨sf, x2, xsf⟩, x94, x95⟩, x0, xlp, xld, xlr, xso, xsr, xt, xs⟩ := X
  refine pm_iload_n K dX6_pick_0 (q := 1) rfl rfl rfl ?_
  refine pm_callS0 K gw_ok wcX6_76 (c_isColumn l a) rfl rfl (Nat.le_of_ble_eq_true rfl) (by decide) dX6_pick_1 (q := 4) rfl (fun rs hs hp => ?_)
  obtain ⟨rfl, e1⟩ := hp
  rw [e1]
  cases hva : tb a
  · rw [hva] at Z
    refine pm_if_eq K dX6_pick_4 (tgt := 36) (q := 7) rfl rfl (fun _ => ?_) (fun z => absurd z (fun z => z rfl))
    refine pm_ic0 K dX6_pick_36 (q := 37) rfl ?_
    exact pm_iret Z dX6_pick_37 rfl rfl (Nat.le_of_ble_eq_true rfl) (Nat.le_of_ble_eq_true rfl) ⟨rfl, ⟨rfl, X0, fun _ _ => rfl⟩⟩
  · rw [hva] at Z
    refine pm_if_eq K dX6_pick_4 (tgt := 36) (q := 7) rfl rfl (fun z => absurd z (by decide)) (fun _ => ?_)
    refine pm_iload_n K dX6_pick_7 (q := 8) rfl rfl rfl ?_
    refine pm_callS0 K gw_ok wcX6_76 (c_isColumn l b) rfl rfl (Nat.le_of_ble_eq_true rfl) (by decide) dX6_pick_8 (q := 11) rfl (fun rs hs hp => ?_)
    obtain ⟨rfl, e1⟩ := hp
    rw [e1]
    cases hvb : tb b
    · rw [hvb] at Z
      refine pm_if_eq K dX6_pick_11 (tgt := 36) (q := 14) rfl rfl (fun _ => ?_) (fun z => absurd z (fun z => z rfl))
      refine pm_ic0 K dX6_pick_36 (q := 37) rfl ?_
      exact pm_iret Z dX6_pick_37 rfl rfl (Nat.le_of_ble_eq_true rfl) (Nat.le_of_ble_eq_true rfl) ⟨rfl, ⟨rfl, X0, fun _ _ => rfl⟩⟩
    · rw [hvb] at Z
      refine pm_if_eq K dX6_pick_11 (tgt := 36) (q := 14) rfl rfl (fun z => absurd z (by decide)) (fun _ => ?_)
      refine pm_iload_n K dX6_pick_14 (q := 15) rfl rfl rfl ?_
      refine pm_callS0 K gw_ok wcX6_76 (c_isColumn l c) rfl rfl (Nat.le_of_ble_eq_true rfl) (by decide) dX6_pick_15 (q := 18) rfl (fun rs hs hp => ?_)
      obtain ⟨rfl, e1⟩ := hp
      rw [e1]
      cases hvc : tb c
      · rw [hvc] at Z
        refine pm_if_eq K dX6_pick_18 (tgt := 36) (q := 21) rfl rfl (fun _ => ?_) (fun z => absurd z (fun z => z rfl))
        refine pm_ic0 K dX6_pick_36 (q := 37) rfl ?_
        exact pm_iret Z dX6_pick_37 rfl rfl (Nat.le_of_ble_eq_true rfl) (Nat.le_of_ble_eq_true rfl) ⟨rfl, ⟨rfl, X0, fun _ _ => rfl⟩⟩
      · rw [hvc] at Z
        refine pm_if_eq K dX6_pick_18 (tgt := 36) (q := 21) rfl rfl (fun z => absurd z (by decide)) (fun _ => ?_)
        refine pm_aload_n K dX6_pick_21 (q := 22) rfl rfl rfl ?_
        refine pm_ic1 K dX6_pick_22 (q := 23) rfl ?_
        refine pm_iload_n K dX6_pick_23 (q := 24) rfl rfl rfl ?_
        refine pm_iload_n K dX6_pick_24 (q := 25) rfl rfl rfl ?_
        refine pm_iload_n K dX6_pick_25 (q := 26) rfl rfl rfl ?_
        refine pm_callV0 K gw_ok wcX6_79 (c_append l X0 hsc 1 a b c) rfl (by omega) x0 rfl rfl (Nat.le_of_ble_eq_true rfl) (by decide) dX6_pick_26 (q := 29) rfl (fun r1 h1 hp => ?_)
        obtain ⟨rfl, X1, F1⟩ := hp
        cases ha : (decide (¬ pt = -1 ∧ sc < 3))
        · rw [ha] at X1 Z
          refine pm_if_eq K dX6_pick_29 (tgt := 36) (q := 32) rfl rfl (fun _ => ?_) (fun z => absurd z (fun z => z rfl))
          refine pm_ic0 K dX6_pick_36 (q := 37) rfl ?_
          exact pm_iret Z dX6_pick_37 rfl rfl (Nat.le_of_ble_eq_true rfl) (Nat.le_of_ble_eq_true rfl) ⟨rfl, ⟨rfl, X1, F1⟩⟩
        · rw [ha] at X1 Z
          refine pm_if_eq K dX6_pick_29 (tgt := 36) (q := 32) rfl rfl (fun z => absurd z (by decide)) (fun _ => ?_)
          refine pm_ic1 K dX6_pick_32 (q := 33) rfl ?_
          refine pm_goto K dX6_pick_33 (q := 37) rfl ?_
          exact pm_iret Z dX6_pick_37 rfl rfl (Nat.le_of_ble_eq_true rfl) (Nat.le_of_ble_eq_true rfl) ⟨rfl, ⟨rfl, X1, F1⟩⟩
set_option maxRecDepth 100000 in
theorem c_group (l : Launch) {n : Nat} {h : pm_H} {T : Nat → List bg_T} {lp ld lr : List bg_T} {pt : Int32} {sc : Nat} {S : Nat → Nat → Int32} {ts : List Int32} (X : x_at n h T lp ld lr pt sc S ts) (hsc : sc ≤ 3) (g a : Int32) : bM0 l yX6_group cX6_group 3 (some (.boolean)) 2 [.ref 0, .int g, .int a] n h (fun r h' => r = some (.int (b2i (tb g && tb a && (decide (¬ pt = -1 ∧ sc < 3))))) ∧ x_at n h' T lp ld lr pt (if (tb g && tb a && (decide (¬ pt = -1 ∧ sc < 3))) = true then sc + 1 else sc) (if (tb g && tb a && (decide (¬ pt = -1 ∧ sc < 3))) = true then va_up S sc (st4 3 g a 0) else S) ts ∧ y_fr h h') := by
  refine pm_enter rfl (Nat.le_of_ble_eq_true rfl) (fun G K Z => ?_)
  have X0 := X
  obtain ⟨⟨hn, ⟨tf, x1, xtf⟩, ⟨sf, x2, xsf⟩, x94, x95⟩, x0, xlp, xld, xlr, xso, xsr, xt, xs⟩ := X
  refine pm_iload_n K dX6_group_0 (q := 1) rfl rfl rfl ?_
  refine pm_callS0 K gw_ok wcX6_76 (c_isColumn l g) rfl rfl (Nat.le_of_ble_eq_true rfl) (by decide) dX6_group_1 (q := 4) rfl (fun rs hs hp => ?_)
  obtain ⟨rfl, e1⟩ := hp
  rw [e1]
  cases hvg : tb g
  · rw [hvg] at Z
    refine pm_if_eq K dX6_group_4 (tgt := 29) (q := 7) rfl rfl (fun _ => ?_) (fun z => absurd z (fun z => z rfl))
    refine pm_ic0 K dX6_group_29 (q := 30) rfl ?_
    exact pm_iret Z dX6_group_30 rfl rfl (Nat.le_of_ble_eq_true rfl) (Nat.le_of_ble_eq_true rfl) ⟨rfl, ⟨rfl, X0, fun _ _ => rfl⟩⟩
  · rw [hvg] at Z
    refine pm_if_eq K dX6_group_4 (tgt := 29) (q := 7) rfl rfl (fun z => absurd z (by decide)) (fun _ => ?_)
    refine pm_iload_n K dX6_group_7 (q := 8) rfl rfl rfl ?_
    refine pm_callS0 K gw_ok wcX6_76 (c_isColumn l a) rfl rfl (Nat.le_of_ble_eq_true rfl) (by decide) dX6_group_8 (q := 11) rfl (fun rs hs hp => ?_)
    obtain ⟨rfl, e1⟩ := hp
    rw [e1]
    cases hva : tb a
    · rw [hva] at Z
      refine pm_if_eq K dX6_group_11 (tgt := 29) (q := 14) rfl rfl (fun _ => ?_) (fun z => absurd z (fun z => z rfl))
      refine pm_ic0 K dX6_group_29 (q := 30) rfl ?_
      exact pm_iret Z dX6_group_30 rfl rfl (Nat.le_of_ble_eq_true rfl) (Nat.le_of_ble_eq_true rfl) ⟨rfl, ⟨rfl, X0, fun _ _ => rfl⟩⟩
    · rw [hva] at Z
      refine pm_if_eq K dX6_group_11 (tgt := 29) (q := 14) rfl rfl (fun z => absurd z (by decide)) (fun _ => ?_)
      refine pm_aload_n K dX6_group_14 (q := 15) rfl rfl rfl ?_
      refine pm_ic3 K dX6_group_15 (q := 16) rfl ?_
      refine pm_iload_n K dX6_group_16 (q := 17) rfl rfl rfl ?_
      refine pm_iload_n K dX6_group_17 (q := 18) rfl rfl rfl ?_
      refine pm_ic0 K dX6_group_18 (q := 19) rfl ?_
      refine pm_callV0 K gw_ok wcX6_79 (c_append l X0 hsc 3 g a 0) rfl (by omega) x0 rfl rfl (Nat.le_of_ble_eq_true rfl) (by decide) dX6_group_19 (q := 22) rfl (fun r1 h1 hp => ?_)
      obtain ⟨rfl, X1, F1⟩ := hp
      cases ha : (decide (¬ pt = -1 ∧ sc < 3))
      · rw [ha] at X1 Z
        refine pm_if_eq K dX6_group_22 (tgt := 29) (q := 25) rfl rfl (fun _ => ?_) (fun z => absurd z (fun z => z rfl))
        refine pm_ic0 K dX6_group_29 (q := 30) rfl ?_
        exact pm_iret Z dX6_group_30 rfl rfl (Nat.le_of_ble_eq_true rfl) (Nat.le_of_ble_eq_true rfl) ⟨rfl, ⟨rfl, X1, F1⟩⟩
      · rw [ha] at X1 Z
        refine pm_if_eq K dX6_group_22 (tgt := 29) (q := 25) rfl rfl (fun z => absurd z (by decide)) (fun _ => ?_)
        refine pm_ic1 K dX6_group_25 (q := 26) rfl ?_
        refine pm_goto K dX6_group_26 (q := 30) rfl ?_
        exact pm_iret Z dX6_group_30 rfl rfl (Nat.le_of_ble_eq_true rfl) (Nat.le_of_ble_eq_true rfl) ⟨rfl, ⟨rfl, X1, F1⟩⟩
set_option maxRecDepth 100000 in
theorem c_join (l : Launch) {n : Nat} {h : pm_H} {T : Nat → List bg_T} {lp ld lr : List bg_T} {pt : Int32} {sc : Nat} {S : Nat → Nat → Int32} {ts : List Int32} (X : x_at n h T lp ld lr pt sc S ts) (hsc : sc ≤ 3) (t x y : Int32) : bM0 l yX6_join cX6_join 4 (some (.boolean)) 2 [.ref 0, .int t, .int x, .int y] n h (fun r h' => r = some (.int (b2i (tb t && tb x && tb y && (decide (¬ pt = -1 ∧ sc < 3))))) ∧ x_at n h' T lp ld lr pt (if (tb t && tb x && tb y && (decide (¬ pt = -1 ∧ sc < 3))) = true then sc + 1 else sc) (if (tb t && tb x && tb y && (decide (¬ pt = -1 ∧ sc < 3))) = true then va_up S sc (st4 4 t x y) else S) ts ∧ y_fr h h') := by
  refine pm_enter rfl (Nat.le_of_ble_eq_true rfl) (fun G K Z => ?_)
  have X0 := X
  obtain ⟨⟨hn, ⟨tf, x1, xtf⟩, ⟨sf, x2, xsf⟩, x94, x95⟩, x0, xlp, xld, xlr, xso, xsr, xt, xs⟩ := X
  refine pm_iload_n K dX6_join_0 (q := 1) rfl rfl rfl ?_
  refine pm_callS0 K gw_ok wcX6_65 (c_isTable l t) rfl rfl (Nat.le_of_ble_eq_true rfl) (by decide) dX6_join_1 (q := 4) rfl (fun rs hs hp => ?_)
  obtain ⟨rfl, e1⟩ := hp
  rw [e1]
  cases hvt : tb t
  · rw [hvt] at Z
    refine pm_if_eq K dX6_join_4 (tgt := 36) (q := 7) rfl rfl (fun _ => ?_) (fun z => absurd z (fun z => z rfl))
    refine pm_ic0 K dX6_join_36 (q := 37) rfl ?_
    exact pm_iret Z dX6_join_37 rfl rfl (Nat.le_of_ble_eq_true rfl) (Nat.le_of_ble_eq_true rfl) ⟨rfl, ⟨rfl, X0, fun _ _ => rfl⟩⟩
  · rw [hvt] at Z
    refine pm_if_eq K dX6_join_4 (tgt := 36) (q := 7) rfl rfl (fun z => absurd z (by decide)) (fun _ => ?_)
    refine pm_iload_n K dX6_join_7 (q := 8) rfl rfl rfl ?_
    refine pm_callS0 K gw_ok wcX6_76 (c_isColumn l x) rfl rfl (Nat.le_of_ble_eq_true rfl) (by decide) dX6_join_8 (q := 11) rfl (fun rs hs hp => ?_)
    obtain ⟨rfl, e1⟩ := hp
    rw [e1]
    cases hvx : tb x
    · rw [hvx] at Z
      refine pm_if_eq K dX6_join_11 (tgt := 36) (q := 14) rfl rfl (fun _ => ?_) (fun z => absurd z (fun z => z rfl))
      refine pm_ic0 K dX6_join_36 (q := 37) rfl ?_
      exact pm_iret Z dX6_join_37 rfl rfl (Nat.le_of_ble_eq_true rfl) (Nat.le_of_ble_eq_true rfl) ⟨rfl, ⟨rfl, X0, fun _ _ => rfl⟩⟩
    · rw [hvx] at Z
      refine pm_if_eq K dX6_join_11 (tgt := 36) (q := 14) rfl rfl (fun z => absurd z (by decide)) (fun _ => ?_)
      refine pm_iload_n K dX6_join_14 (q := 15) rfl rfl rfl ?_
      refine pm_callS0 K gw_ok wcX6_76 (c_isColumn l y) rfl rfl (Nat.le_of_ble_eq_true rfl) (by decide) dX6_join_15 (q := 18) rfl (fun rs hs hp => ?_)
      obtain ⟨rfl, e1⟩ := hp
      rw [e1]
      cases hvy : tb y
      · rw [hvy] at Z
        refine pm_if_eq K dX6_join_18 (tgt := 36) (q := 21) rfl rfl (fun _ => ?_) (fun z => absurd z (fun z => z rfl))
        refine pm_ic0 K dX6_join_36 (q := 37) rfl ?_
        exact pm_iret Z dX6_join_37 rfl rfl (Nat.le_of_ble_eq_true rfl) (Nat.le_of_ble_eq_true rfl) ⟨rfl, ⟨rfl, X0, fun _ _ => rfl⟩⟩
      · rw [hvy] at Z
        refine pm_if_eq K dX6_join_18 (tgt := 36) (q := 21) rfl rfl (fun z => absurd z (by decide)) (fun _ => ?_)
        refine pm_aload_n K dX6_join_21 (q := 22) rfl rfl rfl ?_
        refine pm_ic4 K dX6_join_22 (q := 23) rfl ?_
        refine pm_iload_n K dX6_join_23 (q := 24) rfl rfl rfl ?_
        refine pm_iload_n K dX6_join_24 (q := 25) rfl rfl rfl ?_
        refine pm_iload_n K dX6_join_25 (q := 26) rfl rfl rfl ?_
        refine pm_callV0 K gw_ok wcX6_79 (c_append l X0 hsc 4 t x y) rfl (by omega) x0 rfl rfl (Nat.le_of_ble_eq_true rfl) (by decide) dX6_join_26 (q := 29) rfl (fun r1 h1 hp => ?_)
        obtain ⟨rfl, X1, F1⟩ := hp
        cases ha : (decide (¬ pt = -1 ∧ sc < 3))
        · rw [ha] at X1 Z
          refine pm_if_eq K dX6_join_29 (tgt := 36) (q := 32) rfl rfl (fun _ => ?_) (fun z => absurd z (fun z => z rfl))
          refine pm_ic0 K dX6_join_36 (q := 37) rfl ?_
          exact pm_iret Z dX6_join_37 rfl rfl (Nat.le_of_ble_eq_true rfl) (Nat.le_of_ble_eq_true rfl) ⟨rfl, ⟨rfl, X1, F1⟩⟩
        · rw [ha] at X1 Z
          refine pm_if_eq K dX6_join_29 (tgt := 36) (q := 32) rfl rfl (fun z => absurd z (by decide)) (fun _ => ?_)
          refine pm_ic1 K dX6_join_32 (q := 33) rfl ?_
          refine pm_goto K dX6_join_33 (q := 37) rfl ?_
          exact pm_iret Z dX6_join_37 rfl rfl (Nat.le_of_ble_eq_true rfl) (Nat.le_of_ble_eq_true rfl) ⟨rfl, ⟨rfl, X1, F1⟩⟩
set_option maxRecDepth 100000 in
theorem c_changes (l : Launch) {n : Nat} {h : pm_H} {T : Nat → List bg_T} {lp ld lr : List bg_T} {pt : Int32} {sc : Nat} {S : Nat → Nat → Int32} {ts : List Int32} (X : x_at n h T lp ld lr pt sc S ts) : bM0 l yX6_changes cX6_changes 1 (some (.int)) 0 [.ref 0] n h (fun r h' => r = some (.int (nI (lp.length + ld.length))) ∧ h' = h) := by
  refine pm_enter rfl (Nat.le_of_ble_eq_true rfl) (fun G K Z => ?_)
  obtain ⟨⟨hn, ⟨tf, x1, xtf⟩, ⟨sf, x2, xsf⟩, x94, x95⟩, x0, xlp, xld, xlr, xso, xsr, xt, xs⟩ := X
  refine pm_aload_n K dX6_changes_0 (q := 1) rfl rfl rfl ?_
  refine pm_get K inX6 rfl (k := 2) (by decide) wlX6_24 rfl (by omega) x0 rfl dX6_changes_1 (q := 4) rfl ?_
  refine pm_get K inX0 rfl (k := 3) (by decide) wlX6_73 rfl (by omega) xlp.2.2.2.1 rfl dX6_changes_4 (q := 7) rfl ?_
  refine pm_aload_n K dX6_changes_7 (q := 8) rfl rfl rfl ?_
  refine pm_get K inX6 rfl (k := 3) (by decide) wlX6_28 rfl (by omega) x0 rfl dX6_changes_8 (q := 11) rfl ?_
  refine pm_get K inX0 rfl (k := 3) (by decide) wlX6_73 rfl (by omega) xld.2.2.2.1 rfl dX6_changes_11 (q := 14) rfl ?_
  refine pm_iadd K dX6_changes_14 (q := 15) rfl ?_
  exact pm_iret Z dX6_changes_15 rfl rfl (Nat.le_of_ble_eq_true rfl) (Nat.le_of_ble_eq_true rfl) ⟨rfl, ⟨by rw [nI_add], rfl⟩⟩
set_option maxRecDepth 100000 in
theorem c_put (l : Launch) {n : Nat} {h : pm_H} {T : Nat → List bg_T} {lp ld lr : List bg_T} {pt : Int32} {sc : Nat} {S : Nat → Nat → Int32} {ts : List Int32} (X : x_at n h T lp ld lr pt sc S ts) (a b c : Int32) : bM0 l yX6_put cX6_put 4 (some (.boolean)) 1 [.ref 0, .int a, .int b, .int c] n h (fun r h' => r = some (.int (b2i (decide (lp.length + ld.length < 6)))) ∧ x_at n h' T (if (decide (lp.length + ld.length < 6)) = true then lp ++ [(a, b, c)] else lp) ld lr pt sc S ts ∧ y_fr h h') := by
  refine pm_enter rfl (Nat.le_of_ble_eq_true rfl) (fun G K Z => ?_)
  have X0 := X
  obtain ⟨⟨hn, ⟨tf, x1, xtf⟩, ⟨sf, x2, xsf⟩, x94, x95⟩, x0, xlp, xld, xlr, xso, xsr, xt, xs⟩ := X
  have hl1 := xlp.2.1
  have hl2 := xld.2.1
  refine pm_aload_n K dX6_put_0 (q := 1) rfl rfl rfl ?_
  refine pm_callV0 K gw_ok wcX6_100 (c_changes l X0) rfl (by omega) x0 rfl rfl (Nat.le_of_ble_eq_true rfl) (by decide) dX6_put_1 (q := 4) rfl (fun r1 h1 hp => ?_)
  obtain ⟨rfl, e1⟩ := hp
  rw [e1]
  refine pm_bipush (v := nI 6) K dX6_put_4 (q := 6) rfl (by decide) ?_
  refine pm_icmp_ge K dX6_put_6 (tgt := 26) (q := 9) rfl rfl (fun hx => ?_) (fun hx => ?_)
  · have hg : ¬ lp.length + ld.length < 6 := fun z => nI_ge z (by decide) hx
    rw [decide_eq_false hg] at Z
    refine pm_ic0 K dX6_put_26 (q := 27) rfl ?_
    exact pm_iret Z dX6_put_27 rfl rfl (Nat.le_of_ble_eq_true rfl) (Nat.le_of_ble_eq_true rfl) ⟨rfl, ⟨rfl, X0, fun _ _ => rfl⟩⟩
  · have hg : lp.length + ld.length < 6 := Nat.lt_of_not_le (fun z => hx (nI_le z (by omega)))
    refine pm_aload_n K dX6_put_9 (q := 10) rfl rfl rfl ?_
    refine pm_get K inX6 rfl (k := 2) (by decide) wlX6_24 rfl (by omega) x0 rfl dX6_put_10 (q := 13) rfl ?_
    refine pm_iload_n K dX6_put_13 (q := 14) rfl rfl rfl ?_
    refine pm_iload_n K dX6_put_14 (q := 15) rfl rfl rfl ?_
    refine pm_iload_n K dX6_put_15 (q := 16) rfl rfl rfl ?_
    refine pm_callV0 K gw_ok wcX6_69 (c_hold l xlp a b c) rfl (by omega) xlp.2.2.2.1 rfl rfl (Nat.le_of_ble_eq_true rfl) (by decide) dX6_put_16 (q := 19) rfl (fun r2 h2 hp => ?_)
    obtain ⟨rfl, HB, F1⟩ := hp
    rw [decide_eq_true (show lp.length < 6 by omega)]
    refine pm_if_eq K dX6_put_19 (tgt := 26) (q := 22) rfl rfl (fun z => absurd z (by decide)) (fun _ => ?_)
    refine pm_ic1 K dX6_put_22 (q := 23) rfl ?_
    refine pm_goto K dX6_put_23 (q := 27) rfl ?_
    rw [List.take_of_length_le (by rw [List.length_append]; show lp.length + 1 ≤ 6; omega)] at HB
    rw [decide_eq_true hg] at Z
    exact pm_iret Z dX6_put_27 rfl rfl (Nat.le_of_ble_eq_true rfl) (Nat.le_of_ble_eq_true rfl) ⟨rfl, ⟨rfl, X0.up_lp F1 HB, fun q hq => F1 q (by omega)⟩⟩
set_option maxRecDepth 100000 in
theorem c_drop (l : Launch) {n : Nat} {h : pm_H} {T : Nat → List bg_T} {lp ld lr : List bg_T} {pt : Int32} {sc : Nat} {S : Nat → Nat → Int32} {ts : List Int32} (X : x_at n h T lp ld lr pt sc S ts) (a : Int32) : bM0 l yX6_drop cX6_drop 2 (some (.boolean)) 1 [.ref 0, .int a] n h (fun r h' => r = some (.int (b2i (decide (lp.length + ld.length < 6)))) ∧ x_at n h' T lp (if (decide (lp.length + ld.length < 6)) = true then ld ++ [(a, 0, 0)] else ld) lr pt sc S ts ∧ y_fr h h') := by
  refine pm_enter rfl (Nat.le_of_ble_eq_true rfl) (fun G K Z => ?_)
  have X0 := X
  obtain ⟨⟨hn, ⟨tf, x1, xtf⟩, ⟨sf, x2, xsf⟩, x94, x95⟩, x0, xlp, xld, xlr, xso, xsr, xt, xs⟩ := X
  have hl1 := xlp.2.1
  have hl2 := xld.2.1
  refine pm_aload_n K dX6_drop_0 (q := 1) rfl rfl rfl ?_
  refine pm_callV0 K gw_ok wcX6_100 (c_changes l X0) rfl (by omega) x0 rfl rfl (Nat.le_of_ble_eq_true rfl) (by decide) dX6_drop_1 (q := 4) rfl (fun r1 h1 hp => ?_)
  obtain ⟨rfl, e1⟩ := hp
  rw [e1]
  refine pm_bipush (v := nI 6) K dX6_drop_4 (q := 6) rfl (by decide) ?_
  refine pm_icmp_ge K dX6_drop_6 (tgt := 26) (q := 9) rfl rfl (fun hx => ?_) (fun hx => ?_)
  · have hg : ¬ lp.length + ld.length < 6 := fun z => nI_ge z (by decide) hx
    rw [decide_eq_false hg] at Z
    refine pm_ic0 K dX6_drop_26 (q := 27) rfl ?_
    exact pm_iret Z dX6_drop_27 rfl rfl (Nat.le_of_ble_eq_true rfl) (Nat.le_of_ble_eq_true rfl) ⟨rfl, ⟨rfl, X0, fun _ _ => rfl⟩⟩
  · have hg : lp.length + ld.length < 6 := Nat.lt_of_not_le (fun z => hx (nI_le z (by omega)))
    refine pm_aload_n K dX6_drop_9 (q := 10) rfl rfl rfl ?_
    refine pm_get K inX6 rfl (k := 3) (by decide) wlX6_28 rfl (by omega) x0 rfl dX6_drop_10 (q := 13) rfl ?_
    refine pm_iload_n K dX6_drop_13 (q := 14) rfl rfl rfl ?_
    refine pm_ic0 K dX6_drop_14 (q := 15) rfl ?_
    refine pm_ic0 K dX6_drop_15 (q := 16) rfl ?_
    refine pm_callV0 K gw_ok wcX6_69 (c_hold l xld a 0 0) rfl (by omega) xld.2.2.2.1 rfl rfl (Nat.le_of_ble_eq_true rfl) (by decide) dX6_drop_16 (q := 19) rfl (fun r2 h2 hp => ?_)
    obtain ⟨rfl, HB, F1⟩ := hp
    rw [decide_eq_true (show ld.length < 6 by omega)]
    refine pm_if_eq K dX6_drop_19 (tgt := 26) (q := 22) rfl rfl (fun z => absurd z (by decide)) (fun _ => ?_)
    refine pm_ic1 K dX6_drop_22 (q := 23) rfl ?_
    refine pm_goto K dX6_drop_23 (q := 27) rfl ?_
    rw [List.take_of_length_le (by rw [List.length_append]; show ld.length + 1 ≤ 6; omega)] at HB
    rw [decide_eq_true hg] at Z
    exact pm_iret Z dX6_drop_27 rfl rfl (Nat.le_of_ble_eq_true rfl) (Nat.le_of_ble_eq_true rfl) ⟨rfl, ⟨rfl, X0.up_ld F1 HB, fun q hq => F1 q (by omega)⟩⟩
set_option maxRecDepth 100000 in
theorem c_cell (l : Launch) {n : Nat} {h : pm_H} {T : Nat → List bg_T} {lp ld lr : List bg_T} {pt : Int32} {sc : Nat} {S : Nat → Nat → Int32} {ts : List Int32} (X : x_at n h T lp ld lr pt sc S ts) (r0 c0 : Int32) : bM0 l yX6_cell cX6_cell 3 (some (.int)) 1 [.ref 0, .int r0, .int c0] n h (fun r h' => r = some (.int (if tb c0 = true then bg_cell lr r0 c0 else 0)) ∧ h' = h) := by
  refine pm_enter rfl (Nat.le_of_ble_eq_true rfl) (fun G K Z => ?_)
  obtain ⟨⟨hn, ⟨tf, x1, xtf⟩, ⟨sf, x2, xsf⟩, x94, x95⟩, x0, xlp, xld, xlr, xso, xsr, xt, xs⟩ := X
  refine pm_iload_n K dX6_cell_0 (q := 1) rfl rfl rfl ?_
  refine pm_callS0 K gw_ok wcX6_76 (c_isColumn l c0) rfl rfl (Nat.le_of_ble_eq_true rfl) (by decide) dX6_cell_1 (q := 4) rfl (fun rs hs hp => ?_)
  obtain ⟨rfl, e1⟩ := hp
  rw [e1]
  cases ht : tb c0
  · rw [ht] at Z
    refine pm_if_eq K dX6_cell_4 (tgt := 19) (q := 7) rfl rfl (fun _ => ?_) (fun z => absurd z (fun z => z rfl))
    refine pm_ic0 K dX6_cell_19 (q := 20) rfl ?_
    exact pm_iret Z dX6_cell_20 rfl rfl (Nat.le_of_ble_eq_true rfl) (Nat.le_of_ble_eq_true rfl) ⟨rfl, ⟨rfl, rfl⟩⟩
  · rw [ht] at Z
    refine pm_if_eq K dX6_cell_4 (tgt := 19) (q := 7) rfl rfl (fun z => absurd z (by decide)) (fun _ => ?_)
    refine pm_aload_n K dX6_cell_7 (q := 8) rfl rfl rfl ?_
    refine pm_get K inX6 rfl (k := 4) (by decide) wlX6_31 rfl (by omega) x0 rfl dX6_cell_8 (q := 11) rfl ?_
    refine pm_iload_n K dX6_cell_11 (q := 12) rfl rfl rfl ?_
    refine pm_iload_n K dX6_cell_12 (q := 13) rfl rfl rfl ?_
    refine pm_callV0 K gw_ok wcX6_108 (c_bcolumn l xlr r0 c0) rfl (by omega) xlr.2.2.2.1 rfl rfl (Nat.le_of_ble_eq_true rfl) (by decide) dX6_cell_13 (q := 16) rfl (fun r1 h1 hp => ?_)
    obtain ⟨rfl, e2⟩ := hp
    rw [e2]
    refine pm_goto K dX6_cell_16 (q := 20) rfl ?_
    exact pm_iret Z dX6_cell_20 rfl rfl (Nat.le_of_ble_eq_true rfl) (Nat.le_of_ble_eq_true rfl) ⟨rfl, ⟨rfl, rfl⟩⟩
set_option maxRecDepth 100000 in
theorem c_length (l : Launch) {n : Nat} {h : pm_H} {T : Nat → List bg_T} {lp ld lr : List bg_T} {pt : Int32} {sc : Nat} {S : Nat → Nat → Int32} {ts : List Int32} (X : x_at n h T lp ld lr pt sc S ts) : bM0 l yX6_length cX6_length 1 (some (.int)) 0 [.ref 0] n h (fun r h' => r = some (.int (nI ts.length)) ∧ h' = h) := by
  refine pm_enter rfl (Nat.le_of_ble_eq_true rfl) (fun G K Z => ?_)
  obtain ⟨⟨hn, ⟨tf, x1, xtf⟩, ⟨sf, x2, xsf⟩, x94, x95⟩, x0, xlp, xld, xlr, xso, xsr, xt, xs⟩ := X
  obtain ⟨L, ix, R, HA, -, -⟩ := xso
  refine pm_aload_n K dX6_length_0 (q := 1) rfl rfl rfl ?_
  refine pm_get K inX6 rfl (k := 5) (by decide) wlX6_37 rfl (by omega) x0 rfl dX6_length_1 (q := 4) rfl ?_
  refine pm_get K inX5 rfl (k := 2) (by decide) wlX6_112 rfl (by omega) HA.2.1 rfl dX6_length_4 (q := 7) rfl ?_
  exact pm_iret Z dX6_length_7 rfl rfl (Nat.le_of_ble_eq_true rfl) (Nat.le_of_ble_eq_true rfl) ⟨rfl, ⟨rfl, rfl⟩⟩
set_option maxRecDepth 100000 in
theorem c_access (l : Launch) {n : Nat} {h : pm_H} {T : Nat → List bg_T} {lp ld lr : List bg_T} {pt : Int32} {sc : Nat} {S : Nat → Nat → Int32} {ts : List Int32} (X : x_at n h T lp ld lr pt sc S ts) (k : Int32) : bM0 l yX6_access cX6_access 2 (some (.int)) 1 [.ref 0, .int k] n h (fun r h' => r = some (.int (so_nth ts k)) ∧ h' = h) := by
  refine pm_enter rfl (Nat.le_of_ble_eq_true rfl) (fun G K Z => ?_)
  obtain ⟨⟨hn, ⟨tf, x1, xtf⟩, ⟨sf, x2, xsf⟩, x94, x95⟩, x0, xlp, xld, xlr, xso, xsr, xt, xs⟩ := X
  obtain ⟨L, ix, R, HA, -, -⟩ := xso
  refine pm_aload_n K dX6_access_0 (q := 1) rfl rfl rfl ?_
  refine pm_get K inX6 rfl (k := 5) (by decide) wlX6_37 rfl (by omega) x0 rfl dX6_access_1 (q := 4) rfl ?_
  refine pm_iload_n K dX6_access_4 (q := 5) rfl rfl rfl ?_
  refine pm_callV0 K gw_ok wcX6_115 (c_notedAt l HA k) rfl (by omega) HA.2.1 rfl rfl (Nat.le_of_ble_eq_true rfl) (by decide) dX6_access_5 (q := 8) rfl (fun r1 h1 hp => ?_)
  obtain ⟨rfl, e2⟩ := hp
  rw [e2]
  exact pm_iret Z dX6_access_8 rfl rfl (Nat.le_of_ble_eq_true rfl) (Nat.le_of_ble_eq_true rfl) ⟨rfl, ⟨rfl, rfl⟩⟩
end
section
/-! The system: steps, run, apply. -/
/-- the first place of each value -/
def fs {β : Type} [DecidableEq β] (g : Nat → β) (k : Nat) : Bool := (List.range k).all (fun q => !(decide (g q = g k)))
theorem fs_iff {β : Type} [DecidableEq β] (g : Nat → β) (k : Nat) : fs g k = true ↔ ∀ q, q < k → ¬ g q = g k := by
  unfold fs
  rw [List.all_eq_true]
  constructor
  · intro h q hq z
    have := h q (List.mem_range.mpr hq)
    rw [decide_eq_true z] at this
    cases this
  · intro h q hq
    rw [decide_eq_false (h q (List.mem_range.mp hq))]
    rfl
theorem fs_ok {β : Type} [DecidableEq β] (g : Nat → β) (m : Nat) : ((nw_mk (fs g) m).map g).Nodup ∧ ∀ b, b ∈ (nw_mk (fs g) m).map g ↔ ∃ p, p < m ∧ g p = b := by
  constructor
  · rw [List.Nodup, List.pairwise_map]
    have hlt : (nw_mk (fs g) m).Pairwise (· < ·) := List.Pairwise.filter _ List.pairwise_lt_range
    refine hlt.imp_of_mem (fun {a b} ha hb hab he => ?_)
    exact (fs_iff g b).mp (nw_mk_mem.mp hb).2 a hab he
  · intro b
    constructor
    · intro h
      obtain ⟨p, hp, rfl⟩ := List.mem_map.mp h
      exact ⟨p, (nw_mk_mem.mp hp).1, rfl⟩
    · rintro ⟨p, hp, hb⟩
      obtain ⟨k, hk, hmin⟩ := pk_least (fun p => p < m ∧ g p = b) ⟨p, hp, hb⟩
      refine List.mem_map.mpr ⟨k, nw_mk_mem.mpr ⟨hk.1, (fs_iff g k).mpr (fun q hq z => ?_)⟩, hk.2⟩
      exact hmin q hq ⟨Nat.lt_trans hq hk.1, z.trans hk.2⟩
def dd (l : List bg_T) : List bg_T := (nw_mk (fs (fun k => l.getD k (0, 0, 0))) l.length).map (fun k => l.getD k (0, 0, 0))
theorem dd_ok (l : List bg_T) : (dd l).Nodup ∧ ∀ t, t ∈ dd l ↔ t ∈ l := by
  obtain ⟨h1, h2⟩ := fs_ok (fun k => l.getD k (0, 0, 0)) l.length
  refine ⟨h1, fun t => (h2 t).trans ?_⟩
  have := mk_getD l (0, 0, 0)
  constructor
  · rintro ⟨p, hp, rfl⟩
    have h3 : l.getD p (0, 0, 0) ∈ (List.range l.length).map (fun p => l.getD p (0, 0, 0)) := List.mem_map.mpr ⟨p, List.mem_range.mpr hp, rfl⟩
    rw [this] at h3
    exact h3
  · intro h
    rw [← this] at h
    obtain ⟨p, hp, e⟩ := List.mem_map.mp h
    exact ⟨p, List.mem_range.mp hp, e⟩
theorem dd_perm {l l1 : List bg_T} (h1 : l1.Nodup) (h2 : ∀ t, t ∈ l1 ↔ t ∈ l) : l1.Perm (dd l) := (List.perm_ext_iff_of_nodup h1 (dd_ok l).1).mpr (fun t => (h2 t).trans ((dd_ok l).2 t).symm)
def gp1 (g a : Int32) (l : List bg_T) (k : Int32) : bg_T := (k, (gsl g a l k).1, nI (gsl g a l k).2)
def gp (g a : Int32) (l : List bg_T) : List bg_T := (nw_mk (fs (fun k => bg_col g (l.getD k (0, 0, 0)))) l.length).map (fun k => gp1 g a l (bg_col g (l.getD k (0, 0, 0))))
theorem gp_is (g a : Int32) (l : List bg_T) : gp_ok g a l (gp g a l) := by
  obtain ⟨h1, h2⟩ := fs_ok (fun k => bg_col g (l.getD k (0, 0, 0))) l.length
  have e : gp g a l = ((nw_mk (fs (fun k => bg_col g (l.getD k (0, 0, 0)))) l.length).map (fun k => bg_col g (l.getD k (0, 0, 0)))).map (gp1 g a l) := by
    unfold gp
    rw [List.map_map]
    rfl
  have hmem : ∀ k, k ∈ (nw_mk (fs (fun k => bg_col g (l.getD k (0, 0, 0)))) l.length).map (fun k => bg_col g (l.getD k (0, 0, 0))) ↔ ∃ u ∈ l, bg_col g u = k := fun k => by
    rw [h2]
    have := mk_getD l (0, 0, 0)
    constructor
    · rintro ⟨p, hp, rfl⟩
      have h3 : l.getD p (0, 0, 0) ∈ (List.range l.length).map (fun p => l.getD p (0, 0, 0)) := List.mem_map.mpr ⟨p, List.mem_range.mpr hp, rfl⟩
      rw [this] at h3
      exact ⟨_, h3, rfl⟩
    · rintro ⟨u, hu, rfl⟩
      rw [← this] at hu
      obtain ⟨p, hp, e⟩ := List.mem_map.mp hu
      exact ⟨p, List.mem_range.mp hp, by rw [← e]⟩
  rw [e]
  constructor
  · rw [List.map_map]
    have : ((fun t : bg_T => t.1) ∘ gp1 g a l) = id := rfl
    rw [this, List.map_id]
    exact h1
  · intro t
    rw [List.mem_map]
    constructor
    · rintro ⟨k, hk, rfl⟩
      obtain ⟨u, hu, rfl⟩ := (hmem k).mp hk
      exact ⟨u, hu, rfl⟩
    · rintro ⟨u, hu, rfl⟩
      exact ⟨bg_col g u, (hmem _).mpr ⟨u, hu, rfl⟩, rfl⟩
theorem gp_nd {g a : Int32} {l l1 : List bg_T} (h : gp_ok g a l l1) : l1.Nodup := by
  have := h.1
  rw [List.Nodup, List.pairwise_map] at this
  exact this.imp (fun h z => h (by rw [z]))
theorem gp_perm {g a : Int32} {l l1 : List bg_T} (h : gp_ok g a l l1) : l1.Perm (gp g a l) := (List.perm_ext_iff_of_nodup (gp_nd h) (gp_nd (gp_is g a l))).mpr (fun t => (h.2 t).trans ((gp_is g a l).2 t).symm)
def sp (T : Nat → List bg_T) (s : Nat → Int32) (l : List bg_T) : List bg_T := if s 0 = 0 then l.filter (fun t => op_m (bg_col (s 1) t) (s 2) (s 3)) else if s 0 = 1 then l.map (fun t => (bg_col (s 1) t, bg_col (s 2) t, bg_col (s 3) t)) else if s 0 = 2 then dd l else if s 0 = 3 then gp (s 1) (s 2) l else jn_naive (l.map (kx (s 2))) ((T (s 1).toNatClampNeg).map (kx (s 3)))
section SPP
variable {T : Nat → List bg_T} {s : Nat → Int32} {l : List bg_T}
theorem sp_0 (h : s 0 = 0) : sp T s l = l.filter (fun t => op_m (bg_col (s 1) t) (s 2) (s 3)) := if_pos h
theorem sp_1 (h : s 0 = 1) : sp T s l = l.map (fun t => (bg_col (s 1) t, bg_col (s 2) t, bg_col (s 3) t)) := by
  unfold sp
  rw [h, if_neg (by decide), if_pos rfl]
theorem sp_2 (h : s 0 = 2) : sp T s l = dd l := by
  unfold sp
  rw [h, if_neg (by decide), if_neg (by decide), if_pos rfl]
theorem sp_3 (h : s 0 = 3) : sp T s l = gp (s 1) (s 2) l := by
  unfold sp
  rw [h, if_neg (by decide), if_neg (by decide), if_neg (by decide), if_pos rfl]
theorem sp_4 (h : s 0 = 4) : sp T s l = jn_naive (l.map (kx (s 2))) ((T (s 1).toNatClampNeg).map (kx (s 3))) := by
  unfold sp
  rw [h, if_neg (by decide), if_neg (by decide), if_neg (by decide), if_neg (by decide)]
end SPP
theorem sp_perm (T : Nat → List bg_T) (s : Nat → Int32) {l l' : List bg_T} (h : l.Perm l') : (sp T s l).Perm (sp T s l') := by
  unfold sp
  split
  · exact h.filter _
  · split
    · exact h.map _
    · split
      · exact (dd_perm (dd_ok l).1 (fun t => ((dd_ok l).2 t).trans h.mem_iff))
      · split
        · have h1 := gp_is (s 1) (s 2) l
          refine gp_perm ⟨h1.1, fun t => (h1.2 t).trans ?_⟩
          constructor
          · rintro ⟨u, hu, rfl⟩
            exact ⟨u, h.mem_iff.mp hu, by rw [gsl_perm h]⟩
          · rintro ⟨u, hu, rfl⟩
            exact ⟨u, h.mem_iff.mpr hu, by rw [gsl_perm h]⟩
        · exact jn_naive_perm (h.map _) (List.Perm.refl _)
def sp_tr (k : Int32) (n u m : Nat) : List Int32 := if k = 0 then tr_sc 0 n ++ tr_sqs 0 n (so_k n) else if k = 1 then tr_sc 0 n else if k = 2 then tr_sort 0 n ++ (tr_sc 0 n ++ tr_sqs 0 n (so_k n)) else if k = 3 then tr_sort 0 n ++ (tr_sc 0 n ++ (tr_bk n n ++ tr_sqs 0 n (so_k n))) else tr_join (n + u) m
def st_ok (s : Nat → Int32) : Prop := s 0 = 0 ∨ s 0 = 1 ∨ s 0 = 2 ∨ s 0 = 3 ∨ (s 0 = 4 ∧ tb (s 1) = true)
/-- the rows behind s steps of a plan, and the trace so far -/
def rn_L (T : Nat → List bg_T) (S : Nat → Nat → Int32) (j : Nat) : Nat → List bg_T
  | 0 => T j
  | s + 1 => sp T (S s) (rn_L T S j s)
def rn_t (T : Nat → List bg_T) (S : Nat → Nat → Int32) (j : Nat) : Nat → List Int32
  | 0 => []
  | s + 1 => rn_t T S j s ++ sp_tr (S s 0) (rn_L T S j s).length (T (S s 1).toNatClampNeg).length (rn_L T S j (s + 1)).length
def ap_t (n : Nat) : List Int32 := tr_sort 0 n ++ (tr_sc 0 n ++ tr_sqs 0 n (so_k n))
set_option maxRecDepth 100000 in
theorem c_perform (l : Launch) {n : Nat} {h : pm_H} {T : Nat → List bg_T} {lp ld lr : List bg_T} {pt : Int32} {sc : Nat} {S : Nat → Nat → Int32} {ts : List Int32} (X : x_at n h T lp ld lr pt sc S ts) {j : Nat} (hj : j < 3) (hst : st_ok (S j)) : bM0 l yX6_perform cX6_perform 2 (some (.boolean)) 5 [.ref 0, .ref (109 + j)] n h (fun r h' => ∃ l1, l1.Perm (sp T (S j) lr) ∧ r = some (.int (b2i (decide (l1.length ≤ 24)))) ∧ x_at n h' T lp ld (if l1.length ≤ 24 then l1 else lr) pt sc S (tk (ts ++ sp_tr (S j 0) lr.length (T (S j 1).toNatClampNeg).length l1.length)) ∧ y_fr h h') := by
  refine pm_enter rfl (Nat.le_of_ble_eq_true rfl) (fun G K Z => ?_)
  have X0 := X
  obtain ⟨⟨hn, ⟨tf, x1, xtf⟩, ⟨sf, x2, xsf⟩, x94, x95⟩, x0, xlp, xld, xlr, xso, xsr, xt, xs⟩ := X
  obtain ⟨L, HL⟩ := xso
  have hl24 := xlr.2.1
  refine pm_aload_n K dX6_perform_0 (q := 1) rfl rfl rfl ?_
  refine pm_get K inX4 rfl (k := 0) (by decide) wlX6_125 rfl (by omega) (xs j hj) rfl dX6_perform_1 (q := 4) rfl ?_
  rcases hst with h0 | h0 | h0 | h0 | ⟨h0, ht⟩
  · refine pm_tableIn (off := 32) K dX6_perform_4 (by rw [h0]; decide) (by rw [h0]; decide) (by rw [h0]; rfl) (q := 36) rfl ?_
    refine pm_aload_n K dX6_perform_36 (q := 37) rfl rfl rfl ?_
    refine pm_get K inX6 rfl (k := 6) (by decide) wlX6_46 rfl (by omega) x0 rfl dX6_perform_37 (q := 40) rfl ?_
    refine pm_aload_n K dX6_perform_40 (q := 41) rfl rfl rfl ?_
    refine pm_get K inX6 rfl (k := 4) (by decide) wlX6_31 rfl (by omega) x0 rfl dX6_perform_41 (q := 44) rfl ?_
    refine pm_aload_n K dX6_perform_44 (q := 45) rfl rfl rfl ?_
    refine pm_get K inX4 rfl (k := 1) (by decide) wlX6_128 rfl (by omega) (xs j hj) rfl dX6_perform_45 (q := 48) rfl ?_
    refine pm_aload_n K dX6_perform_48 (q := 49) rfl rfl rfl ?_
    refine pm_get K inX4 rfl (k := 2) (by decide) wlX6_131 rfl (by omega) (xs j hj) rfl dX6_perform_49 (q := 52) rfl ?_
    refine pm_aload_n K dX6_perform_52 (q := 53) rfl rfl rfl ?_
    refine pm_get K inX4 rfl (k := 3) (by decide) wlX6_134 rfl (by omega) (xs j hj) rfl dX6_perform_53 (q := 56) rfl ?_
    refine pm_callV0 K gw_ok wcX6_137 (c_keepMatching l HL hn x94 xlr (by omega) (S j 1) (S j 2) (S j 3)) rfl (by omega) x94 rfl rfl (Nat.le_of_ble_eq_true rfl) (by decide) dX6_perform_56 (q := 59) rfl (fun r1 h1 hp => ?_)
    obtain ⟨rfl, ⟨L2, HL2⟩, B2, F2⟩ := hp
    have hle : (lr.filter (fun t => op_m (bg_col (S j 1) t) (S j 2) (S j 3))).length ≤ 24 := Nat.le_trans (List.length_filter_le _ _) hl24
    refine pm_ic1 K dX6_perform_59 (q := 60) rfl ?_
    exact pm_iret Z dX6_perform_60 rfl rfl (Nat.le_of_ble_eq_true rfl) (Nat.le_of_ble_eq_true rfl) ⟨rfl, ⟨(lr.filter (fun t => op_m (bg_col (S j 1) t) (S j 2) (S j 3))), by rw [sp_0 h0], by rw [decide_eq_true hle]; rfl, by rw [if_pos hle, h0]; exact X0.res (fun q a b c => F2 q a c) B2 ⟨L2, HL2⟩ (by obtain ⟨sr, hs1, hs2⟩ := xsr; exact ⟨sr, (F2 96 (by omega) (by omega)).trans hs1, hs2⟩), fun q hq => F2 q (by omega) (by omega)⟩⟩
  · refine pm_tableIn (off := 57) K dX6_perform_4 (by rw [h0]; decide) (by rw [h0]; decide) (by rw [h0]; rfl) (q := 61) rfl ?_
    refine pm_aload_n K dX6_perform_61 (q := 62) rfl rfl rfl ?_
    refine pm_get K inX6 rfl (k := 6) (by decide) wlX6_46 rfl (by omega) x0 rfl dX6_perform_62 (q := 65) rfl ?_
    refine pm_aload_n K dX6_perform_65 (q := 66) rfl rfl rfl ?_
    refine pm_get K inX6 rfl (k := 4) (by decide) wlX6_31 rfl (by omega) x0 rfl dX6_perform_66 (q := 69) rfl ?_
    refine pm_aload_n K dX6_perform_69 (q := 70) rfl rfl rfl ?_
    refine pm_get K inX4 rfl (k := 1) (by decide) wlX6_128 rfl (by omega) (xs j hj) rfl dX6_perform_70 (q := 73) rfl ?_
    refine pm_aload_n K dX6_perform_73 (q := 74) rfl rfl rfl ?_
    refine pm_get K inX4 rfl (k := 2) (by decide) wlX6_131 rfl (by omega) (xs j hj) rfl dX6_perform_74 (q := 77) rfl ?_
    refine pm_aload_n K dX6_perform_77 (q := 78) rfl rfl rfl ?_
    refine pm_get K inX4 rfl (k := 3) (by decide) wlX6_134 rfl (by omega) (xs j hj) rfl dX6_perform_78 (q := 81) rfl ?_
    refine pm_callV0 K gw_ok wcX6_141 (c_rearrange l HL hn x94 xlr (by omega) (S j 1) (S j 2) (S j 3)) rfl (by omega) x94 rfl rfl (Nat.le_of_ble_eq_true rfl) (by decide) dX6_perform_81 (q := 84) rfl (fun r1 h1 hp => ?_)
    obtain ⟨rfl, ⟨L2, HL2⟩, B2, F2⟩ := hp
    have hle : (lr.map (fun t => (bg_col (S j 1) t, bg_col (S j 2) t, bg_col (S j 3) t))).length ≤ 24 := by rw [List.length_map]; exact hl24
    refine pm_ic1 K dX6_perform_84 (q := 85) rfl ?_
    exact pm_iret Z dX6_perform_85 rfl rfl (Nat.le_of_ble_eq_true rfl) (Nat.le_of_ble_eq_true rfl) ⟨rfl, ⟨(lr.map (fun t => (bg_col (S j 1) t, bg_col (S j 2) t, bg_col (S j 3) t))), by rw [sp_1 h0], by rw [decide_eq_true hle]; rfl, by rw [if_pos hle, h0]; exact X0.res (fun q a b c => F2 q a c) B2 ⟨L2, HL2⟩ (by obtain ⟨sr, hs1, hs2⟩ := xsr; exact ⟨sr, (F2 96 (by omega) (by omega)).trans hs1, hs2⟩), fun q hq => F2 q (by omega) (by omega)⟩⟩
  · refine pm_tableIn (off := 82) K dX6_perform_4 (by rw [h0]; decide) (by rw [h0]; decide) (by rw [h0]; rfl) (q := 86) rfl ?_
    refine pm_aload_n K dX6_perform_86 (q := 87) rfl rfl rfl ?_
    refine pm_get K inX6 rfl (k := 6) (by decide) wlX6_46 rfl (by omega) x0 rfl dX6_perform_87 (q := 90) rfl ?_
    refine pm_aload_n K dX6_perform_90 (q := 91) rfl rfl rfl ?_
    refine pm_get K inX6 rfl (k := 4) (by decide) wlX6_31 rfl (by omega) x0 rfl dX6_perform_91 (q := 94) rfl ?_
    refine pm_callV0 K gw_ok wcX6_144 (c_keepDifferent l HL hn x94 xlr (by omega)) rfl (by omega) x94 rfl rfl (Nat.le_of_ble_eq_true rfl) (by decide) dX6_perform_94 (q := 97) rfl (fun r1 h1 hp => ?_)
    obtain ⟨rfl, l1, hn1, hm1, ⟨L2, HL2⟩, B2, F2⟩ := hp
    have hle : l1.length ≤ 24 := (B2.2.1)
    refine pm_ic1 K dX6_perform_97 (q := 98) rfl ?_
    exact pm_iret Z dX6_perform_98 rfl rfl (Nat.le_of_ble_eq_true rfl) (Nat.le_of_ble_eq_true rfl) ⟨rfl, ⟨l1, by rw [sp_2 h0]; exact dd_perm hn1 hm1, by rw [decide_eq_true hle]; rfl, by rw [if_pos hle, h0]; exact X0.res (fun q a b c => F2 q a c) B2 ⟨L2, HL2⟩ (by obtain ⟨sr, hs1, hs2⟩ := xsr; exact ⟨sr, (F2 96 (by omega) (by omega)).trans hs1, hs2⟩), fun q hq => F2 q (by omega) (by omega)⟩⟩
  · refine pm_tableIn (off := 95) K dX6_perform_4 (by rw [h0]; decide) (by rw [h0]; decide) (by rw [h0]; rfl) (q := 99) rfl ?_
    refine pm_aload_n K dX6_perform_99 (q := 100) rfl rfl rfl ?_
    refine pm_get K inX6 rfl (k := 6) (by decide) wlX6_46 rfl (by omega) x0 rfl dX6_perform_100 (q := 103) rfl ?_
    refine pm_aload_n K dX6_perform_103 (q := 104) rfl rfl rfl ?_
    refine pm_get K inX6 rfl (k := 4) (by decide) wlX6_31 rfl (by omega) x0 rfl dX6_perform_104 (q := 107) rfl ?_
    refine pm_aload_n K dX6_perform_107 (q := 108) rfl rfl rfl ?_
    refine pm_get K inX4 rfl (k := 1) (by decide) wlX6_128 rfl (by omega) (xs j hj) rfl dX6_perform_108 (q := 111) rfl ?_
    refine pm_aload_n K dX6_perform_111 (q := 112) rfl rfl rfl ?_
    refine pm_get K inX4 rfl (k := 2) (by decide) wlX6_131 rfl (by omega) (xs j hj) rfl dX6_perform_112 (q := 115) rfl ?_
    refine pm_callV0 K gw_ok wcX6_147 (c_totalUp l HL hn x94 xlr (by omega) (S j 1) (S j 2)) rfl (by omega) x94 rfl rfl (Nat.le_of_ble_eq_true rfl) (by decide) dX6_perform_115 (q := 118) rfl (fun r1 h1 hp => ?_)
    obtain ⟨rfl, l1, hg1, hlen1, ⟨L2, HL2⟩, B2, F2⟩ := hp
    have hle : l1.length ≤ 24 := (B2.2.1)
    refine pm_ic1 K dX6_perform_118 (q := 119) rfl ?_
    exact pm_iret Z dX6_perform_119 rfl rfl (Nat.le_of_ble_eq_true rfl) (Nat.le_of_ble_eq_true rfl) ⟨rfl, ⟨l1, by rw [sp_3 h0]; exact gp_perm hg1, by rw [decide_eq_true hle]; rfl, by rw [if_pos hle, h0]; exact X0.res (fun q a b c => F2 q a c) B2 ⟨L2, HL2⟩ (by obtain ⟨sr, hs1, hs2⟩ := xsr; exact ⟨sr, (F2 96 (by omega) (by omega)).trans hs1, hs2⟩), fun q hq => F2 q (by omega) (by omega)⟩⟩
  · refine pm_tableOut K dX6_perform_4 (by rw [h0]; decide) (q := 120) rfl ?_
    obtain ⟨m, hm, e1⟩ := tb_ok ht
    obtain ⟨sr, hs1, hs2⟩ := xsr
    have emm : (S j 1).toNatClampNeg = m := by rw [e1]; exact nI_clamp (by omega)
    refine pm_aload_n K dX6_perform_120 (q := 121) rfl rfl rfl ?_
    refine pm_get K inX4 rfl (k := 1) (by decide) wlX6_128 rfl (by omega) (xs j hj) rfl dX6_perform_121 (q := 124) rfl ?_
    refine pm_callS0 K gw_ok wcX6_65 (c_isTable l (S j 1)) rfl rfl (Nat.le_of_ble_eq_true rfl) (by decide) dX6_perform_124 (q := 127) rfl (fun rs hs hp => ?_)
    obtain ⟨rfl, e2⟩ := hp
    rw [e2, ht]
    refine pm_if_eq K dX6_perform_127 (tgt := 165) (q := 130) rfl rfl (fun z => absurd z (by decide)) (fun _ => ?_)
    refine pm_aload_n K dX6_perform_130 (q := 131) rfl rfl rfl ?_
    refine pm_get K inX6 rfl (k := 7) (by decide) wlX6_53 rfl (by omega) x0 rfl dX6_perform_131 (q := 134) rfl ?_
    refine pm_aload_n K dX6_perform_134 (q := 135) rfl rfl rfl ?_
    refine pm_get K inX6 rfl (k := 4) (by decide) wlX6_31 rfl (by omega) x0 rfl dX6_perform_135 (q := 138) rfl ?_
    refine pm_aload_n K dX6_perform_138 (q := 139) rfl rfl rfl ?_
    refine pm_get K inX6 rfl (k := 0) (by decide) wlX6_11 rfl (by omega) x0 rfl dX6_perform_139 (q := 142) rfl ?_
    refine pm_aload_n K dX6_perform_142 (q := 143) rfl rfl rfl ?_
    refine pm_get K inX4 rfl (k := 1) (by decide) wlX6_128 rfl (by omega) (xs j hj) rfl dX6_perform_143 (q := 146) rfl ?_
    rw [e1]
    refine pm_aaldN K (by omega) x1 rfl hm (by decide) (xtf m hm) dX6_perform_146 (q := 147) rfl ?_
    refine pm_aload_n K dX6_perform_147 (q := 148) rfl rfl rfl ?_
    refine pm_get K inX4 rfl (k := 2) (by decide) wlX6_131 rfl (by omega) (xs j hj) rfl dX6_perform_148 (q := 151) rfl ?_
    refine pm_aload_n K dX6_perform_151 (q := 152) rfl rfl rfl ?_
    refine pm_get K inX4 rfl (k := 3) (by decide) wlX6_134 rfl (by omega) (xs j hj) rfl dX6_perform_152 (q := 155) rfl ?_
    refine pm_callV0 K gw_ok wcX6_151 (c_match l HL hn x95 hs1 hs2 xlr (xt m hm) (by omega) (by omega) (S j 2) (S j 3)) rfl (by omega) x95 rfl rfl (Nat.le_of_ble_eq_true rfl) (by decide) dX6_perform_155 (q := 158) rfl (fun r1 h1 hp => ?_)
    obtain ⟨l1, hp1, rfl, HS2, B2, HR2, F2⟩ := hp
    have hsp : l1.Perm (sp T (S j) lr) := by rw [sp_4 h0, emm]; exact hp1
    have X2 : x_at n h1 T lp ld (if l1.length ≤ 24 then l1 else lr) pt sc S (tk (ts ++ sp_tr (S j 0) lr.length (T (S j 1).toNatClampNeg).length l1.length)) := by rw [h0, emm]; exact X0.res F2 B2 HS2 HR2
    have hy : y_fr h h1 := fun q hq => F2 q (by omega) (by omega) (by omega)
    by_cases hle : l1.length ≤ 24
    · rw [decide_eq_true hle]
      refine pm_if_eq K dX6_perform_158 (tgt := 165) (q := 161) rfl rfl (fun z => absurd z (by decide)) (fun _ => ?_)
      refine pm_ic1 K dX6_perform_161 (q := 162) rfl ?_
      refine pm_goto K dX6_perform_162 (q := 166) rfl ?_
      exact pm_iret Z dX6_perform_166 rfl rfl (Nat.le_of_ble_eq_true rfl) (Nat.le_of_ble_eq_true rfl) ⟨rfl, ⟨l1, hsp, by rw [decide_eq_true hle]; rfl, X2, hy⟩⟩
    · rw [decide_eq_false hle]
      refine pm_if_eq K dX6_perform_158 (tgt := 165) (q := 161) rfl rfl (fun _ => ?_) (fun z => absurd z (fun z => z rfl))
      refine pm_ic0 K dX6_perform_165 (q := 166) rfl ?_
      exact pm_iret Z dX6_perform_166 rfl rfl (Nat.le_of_ble_eq_true rfl) (Nat.le_of_ble_eq_true rfl) ⟨rfl, ⟨l1, hsp, by rw [decide_eq_false hle]; rfl, X2, hy⟩⟩
set_option maxRecDepth 100000 in
theorem c_run (l : Launch) {n : Nat} {h : pm_H} {T : Nat → List bg_T} {lp ld lr : List bg_T} {pt : Int32} {sc : Nat} {S : Nat → Nat → Int32} {ts : List Int32} (X : x_at n h T lp ld lr pt sc S ts) (hsc : sc ≤ 3) (hst : ∀ s, s < sc → st_ok (S s)) : bM0 l yX6_run cX6_run 2 (some (.int)) 6 [.ref 0] n h (fun r h' => (tb pt = false ∧ r = some (.int (-1)) ∧ h' = h) ∨ (tb pt = true ∧ y_fr h h' ∧ ((∃ s, s < sc ∧ (∀ i, i < s → (rn_L T S pt.toNatClampNeg (i + 1)).length ≤ 24) ∧ 24 < (rn_L T S pt.toNatClampNeg (s + 1)).length ∧ r = some (.int (-2)) ∧ x_at n h' T lp ld [] pt sc S (tk (rn_t T S pt.toNatClampNeg (s + 1)))) ∨ ((∀ i, i < sc → (rn_L T S pt.toNatClampNeg (i + 1)).length ≤ 24) ∧ ∃ l1, l1.Perm (rn_L T S pt.toNatClampNeg sc) ∧ l1.Pairwise bg_le ∧ r = some (.int (nI l1.length)) ∧ x_at n h' T lp ld l1 pt sc S (tk (rn_t T S pt.toNatClampNeg sc ++ tr_sort 0 l1.length)))))) := by
  refine pm_enter rfl (Nat.le_of_ble_eq_true rfl) (fun G K Z => ?_)
  have X0 := X
  obtain ⟨⟨hn, ⟨tf, x1, xtf⟩, ⟨sf, x2, xsf⟩, x94, x95⟩, x0, xlp, xld, xlr, xso, xsr, xt, xs⟩ := X
  refine pm_aload_n K dX6_run_0 (q := 1) rfl rfl rfl ?_
  refine pm_get K inX6 rfl (k := 8) (by decide) wlX6_57 rfl (by omega) x0 rfl dX6_run_1 (q := 4) rfl ?_
  refine pm_callS0 K gw_ok wcX6_65 (c_isTable l pt) rfl rfl (Nat.le_of_ble_eq_true rfl) (by decide) dX6_run_4 (q := 7) rfl (fun rs hs hp => ?_)
  obtain ⟨rfl, e1⟩ := hp
  rw [e1]
  cases ht : tb pt
  · refine pm_if_ne K dX6_run_7 (tgt := 12) (q := 10) rfl rfl (fun z => absurd z (fun z => z rfl)) (fun _ => ?_)
    refine pm_icm1 K dX6_run_10 (q := 11) rfl ?_
    exact pm_iret Z dX6_run_11 rfl rfl (Nat.le_of_ble_eq_true rfl) (Nat.le_of_ble_eq_true rfl) ⟨rfl, (Or.inl ⟨ht, rfl, rfl⟩)⟩
  · refine pm_if_ne K dX6_run_7 (tgt := 12) (q := 10) rfl rfl (fun _ => ?_) (fun z => absurd z (fun z => absurd z (by decide)))
    obtain ⟨j, hj, ej⟩ := tb_ok ht
    have ejn : pt.toNatClampNeg = j := by rw [ej]; exact nI_clamp (by omega)
    rw [ejn] at Z
    obtain ⟨L, ix, R, HA, hi, hL⟩ := xso
    refine pm_aload_n K dX6_run_12 (q := 13) rfl rfl rfl ?_
    refine pm_get K inX6 rfl (k := 5) (by decide) wlX6_37 rfl (by omega) x0 rfl dX6_run_13 (q := 16) rfl ?_
    refine pm_callV0 K gw_ok wcX6_83 (c_startTrace l HA) rfl (by omega) HA.2.1 rfl rfl (Nat.le_of_ble_eq_true rfl) (by decide) dX6_run_16 (q := 19) rfl (fun r1 h1 hp => ?_)
    obtain ⟨rfl, HA1, F1⟩ := hp
    have X1 : x_at n h1 T lp ld lr pt sc S [] := X0.res (fun q a b c => F1 q (by omega)) (xlr.fr (Nat.le_refl _) (fun q a c => F1 q (by omega))) ⟨L, ix, R, HA1, hi, hL⟩ (by obtain ⟨sr, hs1, hs2⟩ := xsr; exact ⟨sr, (F1 96 (by omega)).trans hs1, hs2⟩)
    have Y1 : y_fr h h1 := fun q hq => F1 q (by omega)
    clear X0 hn x1 x2 x94 x95 x0 xlp xld xlr xsr xt xs
    have X0 := X1
    obtain ⟨⟨hn, ⟨tf1, x1, xtf1⟩, ⟨sf1, x2, xsf1⟩, x94, x95⟩, x0, xlp, xld, xlr, xso, xsr, xt, xs⟩ := X1
    refine pm_aload_n K dX6_run_19 (q := 20) rfl rfl rfl ?_
    refine pm_get K inX6 rfl (k := 4) (by decide) wlX6_31 rfl (by omega) x0 rfl dX6_run_20 (q := 23) rfl ?_
    refine pm_aload_n K dX6_run_23 (q := 24) rfl rfl rfl ?_
    refine pm_get K inX6 rfl (k := 0) (by decide) wlX6_11 rfl (by omega) x0 rfl dX6_run_24 (q := 27) rfl ?_
    refine pm_aload_n K dX6_run_27 (q := 28) rfl rfl rfl ?_
    refine pm_get K inX6 rfl (k := 8) (by decide) wlX6_57 rfl (by omega) x0 rfl dX6_run_28 (q := 31) rfl ?_
    rw [ej]
    refine pm_aaldN K (by omega) x1 rfl hj (by decide) (xtf1 j hj) dX6_run_31 (q := 32) rfl ?_
    refine pm_callV0 K gw_ok wcX6_86 (c_bbecome l xlr (xt j hj) (by omega)) rfl (by omega) xlr.2.2.2.1 rfl rfl (Nat.le_of_ble_eq_true rfl) (by decide) dX6_run_32 (q := 35) rfl (fun r2 h2 hp => ?_)
    obtain ⟨rfl, B2, F2⟩ := hp
    rw [List.take_of_length_le (Nat.le_trans (xt j hj).2.1 (by decide))] at B2
    refine pm_ic0 K dX6_run_35 (q := 36) rfl ?_
    refine pm_istore_n K dX6_run_36 (q := 37) rfl rfl (by decide) rfl ?_
    have X2 : x_at n h2 T lp ld (T j) pt sc S [] := X0.res (fun q a b c => F2 q c) B2 (by obtain ⟨L, hL⟩ := xso; exact ⟨L, hL.mv (fun q hq => F2 q (by omega))⟩) (by obtain ⟨sr, hs1, hs2⟩ := xsr; exact ⟨sr, (F2 96 (by omega)).trans hs1, hs2⟩)
    have Y2 : y_fr h h2 := fun q hq => (F2 q (by omega)).trans (Y1 q hq)
    clear X0 hn x1 x2 x94 x95 x0 xlp xld xlr xso xsr xt xs
    have loop : ∀ (k s : Nat) (h3 : pm_H) (l3 : List bg_T), s + k = sc → l3.Perm (rn_L T S j s) → (∀ i, i < s → (rn_L T S j (i + 1)).length ≤ 24) → x_at n h3 T lp ld l3 pt sc S (tk (rn_t T S j s)) → y_fr h h3 → G 0 0 37 [some (.ref 0), some (.int (nI s))] [] n h3 := by
      intro k
      induction k with
      | zero =>
        intro s h3 l3 hk hp3 hr3 X Y3
        have X0 := X
        obtain ⟨⟨hn, ⟨tf, x1, xtf⟩, ⟨sf, x2, xsf⟩, x94, x95⟩, x0, xlp, xld, xlr, xso, xsr, xt, xs⟩ := X
        refine pm_iload_n K dX6_run_37 (q := 38) rfl rfl rfl ?_
        refine pm_aload_n K dX6_run_38 (q := 39) rfl rfl rfl ?_
        refine pm_get K inX6 rfl (k := 9) (by decide) wlX6_61 rfl (by omega) x0 rfl dX6_run_39 (q := 42) rfl ?_
        refine pm_icmp_ge K dX6_run_42 (tgt := 79) (q := 45) rfl rfl (fun _ => ?_) (fun z => absurd z (fun z => z (nI_le (by omega) (by omega))))
        have es : s = sc := by omega
        subst es
        obtain ⟨L3, HL3⟩ := xso
        refine pm_aload_n K dX6_run_79 (q := 80) rfl rfl rfl ?_
        refine pm_get K inX6 rfl (k := 6) (by decide) wlX6_46 rfl (by omega) x0 rfl dX6_run_80 (q := 83) rfl ?_
        refine pm_aload_n K dX6_run_83 (q := 84) rfl rfl rfl ?_
        refine pm_get K inX6 rfl (k := 4) (by decide) wlX6_31 rfl (by omega) x0 rfl dX6_run_84 (q := 87) rfl ?_
        refine pm_callV0 K gw_ok wcX6_97 (c_order l HL3 hn x94 xlr (by omega)) rfl (by omega) x94 rfl rfl (Nat.le_of_ble_eq_true rfl) (by decide) dX6_run_87 (q := 90) rfl (fun r4 h4 hp => ?_)
        obtain ⟨rfl, l4, hp4, hs4, ⟨L4, HL4⟩, B4, F4⟩ := hp
        rw [tk_app] at HL4
        have el : l4.length = l3.length := hp4.length_eq
        rw [← el] at HL4
        have X4 := X0.res (fun q a b c => F4 q a c) B4 ⟨L4, HL4⟩ (by obtain ⟨sr, hs1, hs2⟩ := xsr; exact ⟨sr, (F4 96 (by omega) (by omega)).trans hs1, hs2⟩)
        refine pm_aload_n K dX6_run_90 (q := 91) rfl rfl rfl ?_
        refine pm_get K inX6 rfl (k := 4) (by decide) wlX6_31 rfl (by omega) X4.2.1 rfl dX6_run_91 (q := 94) rfl ?_
        refine pm_get K inX0 rfl (k := 3) (by decide) wlX6_73 rfl (by omega) B4.2.2.2.1 rfl dX6_run_94 (q := 97) rfl ?_
        exact pm_iret Z dX6_run_97 rfl rfl (Nat.le_of_ble_eq_true rfl) (Nat.le_of_ble_eq_true rfl) ⟨rfl, (Or.inr ⟨ht, fun q hq => (F4 q (by omega) (by omega)).trans (Y3 q hq), Or.inr ⟨hr3, l4, hp4.trans hp3, hs4, rfl, X4⟩⟩)⟩
      | succ k ih =>
        intro s h3 l3 hk hp3 hr3 X Y3
        have X0 := X
        obtain ⟨⟨hn, ⟨tf, x1, xtf⟩, ⟨sf, x2, xsf⟩, x94, x95⟩, x0, xlp, xld, xlr, xso, xsr, xt, xs⟩ := X
        refine pm_iload_n K dX6_run_37 (q := 38) rfl rfl rfl ?_
        refine pm_aload_n K dX6_run_38 (q := 39) rfl rfl rfl ?_
        refine pm_get K inX6 rfl (k := 9) (by decide) wlX6_61 rfl (by omega) x0 rfl dX6_run_39 (q := 42) rfl ?_
        refine pm_icmp_ge K dX6_run_42 (tgt := 79) (q := 45) rfl rfl (fun z => absurd z (nI_ge (by omega) (by omega))) (fun _ => ?_)
        refine pm_iload_n K dX6_run_45 (q := 46) rfl rfl rfl ?_
        refine pm_ic3 K dX6_run_46 (q := 47) rfl ?_
        refine pm_icmp_ge K dX6_run_47 (tgt := 79) (q := 50) rfl rfl (fun z => absurd z (nI_ge (b := 3) (by omega) (by decide))) (fun _ => ?_)
        refine pm_aload_n K dX6_run_50 (q := 51) rfl rfl rfl ?_
        refine pm_aload_n K dX6_run_51 (q := 52) rfl rfl rfl ?_
        refine pm_get K inX6 rfl (k := 1) (by decide) wlX6_17 rfl (by omega) x0 rfl dX6_run_52 (q := 55) rfl ?_
        refine pm_iload_n K dX6_run_55 (q := 56) rfl rfl rfl ?_
        refine pm_aaldN K (by omega) x2 rfl (by omega) (by decide) (xsf s (by omega)) dX6_run_56 (q := 57) rfl ?_
        refine pm_callV0 K gw_ok wcX6_90 (c_perform l X0 (j := s) (by omega) (hst s (by omega))) rfl (by omega) x0 rfl rfl (Nat.le_of_ble_eq_true rfl) (by decide) dX6_run_57 (q := 60) rfl (fun r4 h4 hp => ?_)
        obtain ⟨l4, hp4, rfl, X4, F4⟩ := hp
        have Y4 : y_fr h h4 := fun q hq => (F4 q hq).trans (Y3 q hq)
        have hp5 : l4.Perm (rn_L T S j (s + 1)) := hp4.trans (sp_perm T (S s) hp3)
        rw [tk_app, hp3.length_eq, hp5.length_eq] at X4
        have e5 := hp5.length_eq
        by_cases hle : (rn_L T S j (s + 1)).length ≤ 24
        · rw [e5, decide_eq_true hle]
          rw [if_pos hle] at X4
          refine pm_if_ne K dX6_run_60 (tgt := 73) (q := 63) rfl rfl (fun _ => ?_) (fun z => absurd z (fun z => absurd z (by decide)))
          refine pm_inc K dX6_run_73 (q := 76) rfl rfl (by decide) rfl ?_
          refine pm_goto K dX6_run_76 (q := 37) rfl ?_
          exact ih (s + 1) h4 l4 (by omega) hp5 (fun i hi => by rcases Nat.lt_succ_iff_lt_or_eq.mp hi with z | rfl; exact hr3 i z; exact hle) X4 Y4
        · rw [e5, decide_eq_false hle]
          rw [if_neg hle] at X4
          refine pm_if_ne K dX6_run_60 (tgt := 73) (q := 63) rfl rfl (fun z => absurd z (fun z => z rfl)) (fun _ => ?_)
          refine pm_aload_n K dX6_run_63 (q := 64) rfl rfl rfl ?_
          refine pm_get K inX6 rfl (k := 4) (by decide) wlX6_31 rfl (by omega) X4.2.1 rfl dX6_run_64 (q := 67) rfl ?_
          refine pm_callV0 K gw_ok wcX6_94 (c_bclear l X4.2.2.2.2.1) rfl (by omega) X4.2.2.2.2.1.2.2.2.1 rfl rfl (Nat.le_of_ble_eq_true rfl) (by decide) dX6_run_67 (q := 70) rfl (fun r5 h5 hp => ?_)
          obtain ⟨rfl, B5, F5⟩ := hp
          have X5 := X4.res (fun q a b c => F5 q c) B5 (by obtain ⟨L, hL⟩ := X4.2.2.2.2.2.1; exact ⟨L, hL.mv (fun q hq => F5 q (by omega))⟩) (by obtain ⟨sr, hs1, hs2⟩ := X4.2.2.2.2.2.2.1; exact ⟨sr, (F5 96 (by omega)).trans hs1, hs2⟩)
          refine pm_bipush (v := -2) K dX6_run_70 (q := 72) rfl (by decide) ?_
          exact pm_iret Z dX6_run_72 rfl rfl (Nat.le_of_ble_eq_true rfl) (Nat.le_of_ble_eq_true rfl) ⟨rfl, (Or.inr ⟨ht, fun q hq => (F5 q (by omega)).trans (Y4 q hq), Or.inl ⟨s, by omega, hr3, by omega, rfl, X5⟩⟩)⟩
    have := loop sc 0 h2 (T j) (by omega) (List.Perm.refl _) (fun i hi => absurd hi (Nat.not_lt_zero _)) X2 Y2
    exact this
set_option maxRecDepth 100000 in
theorem c_apply (l : Launch) {n : Nat} {h : pm_H} {T : Nat → List bg_T} {lp ld lr : List bg_T} {pt : Int32} {sc : Nat} {S : Nat → Nat → Int32} {ts : List Int32} (X : x_at n h T lp ld lr pt sc S ts) (t : Int32) : bM0 l yX6_apply cX6_apply 3 (some (.int)) 5 [.ref 0, .int t] n h (fun r h' => (tb t = false ∧ r = some (.int (-1)) ∧ h' = h) ∨ (tb t = true ∧ y_fr h h' ∧ ∃ l1, l1.Perm (bt_batch (T t.toNatClampNeg) lp ld) ∧ r = some (.int (if l1.length ≤ 12 then nI l1.length else -2)) ∧ x_at n h' (if l1.length ≤ 12 then va_up T t.toNatClampNeg l1 else T) [] [] lr pt sc S (tk (ap_t ((T t.toNatClampNeg).length + lp.length + ld.length))))) := by
  refine pm_enter rfl (Nat.le_of_ble_eq_true rfl) (fun G K Z => ?_)
  have X0 := X
  obtain ⟨⟨hn, ⟨tf, x1, xtf⟩, ⟨sf, x2, xsf⟩, x94, x95⟩, x0, xlp, xld, xlr, xso, xsr, xt, xs⟩ := X
  refine pm_iload_n K dX6_apply_0 (q := 1) rfl rfl rfl ?_
  refine pm_callS0 K gw_ok wcX6_65 (c_isTable l t) rfl rfl (Nat.le_of_ble_eq_true rfl) (by decide) dX6_apply_1 (q := 4) rfl (fun rs hs hp => ?_)
  obtain ⟨rfl, e1⟩ := hp
  rw [e1]
  cases ht : tb t
  · refine pm_if_ne K dX6_apply_4 (tgt := 9) (q := 7) rfl rfl (fun z => absurd z (fun z => z rfl)) (fun _ => ?_)
    refine pm_icm1 K dX6_apply_7 (q := 8) rfl ?_
    exact pm_iret Z dX6_apply_8 rfl rfl (Nat.le_of_ble_eq_true rfl) (Nat.le_of_ble_eq_true rfl) ⟨rfl, (Or.inl ⟨ht, rfl, rfl⟩)⟩
  · refine pm_if_ne K dX6_apply_4 (tgt := 9) (q := 7) rfl rfl (fun _ => ?_) (fun z => absurd z (fun z => absurd z (by decide)))
    obtain ⟨j, hj, ej⟩ := tb_ok ht
    have ejn : t.toNatClampNeg = j := by rw [ej]; exact nI_clamp (by omega)
    rw [ejn] at Z
    rw [ej]
    obtain ⟨L, ix, R, HA, hi, hL⟩ := xso
    refine pm_aload_n K dX6_apply_9 (q := 10) rfl rfl rfl ?_
    refine pm_get K inX6 rfl (k := 5) (by decide) wlX6_37 rfl (by omega) x0 rfl dX6_apply_10 (q := 13) rfl ?_
    refine pm_callV0 K gw_ok wcX6_83 (c_startTrace l HA) rfl (by omega) HA.2.1 rfl rfl (Nat.le_of_ble_eq_true rfl) (by decide) dX6_apply_13 (q := 16) rfl (fun r1 h1 hp => ?_)
    obtain ⟨rfl, HA1, F1⟩ := hp
    have X1 : x_at n h1 T lp ld lr pt sc S [] := X0.res (fun q a b c => F1 q (by omega)) (xlr.fr (Nat.le_refl _) (fun q a c => F1 q (by omega))) ⟨L, ix, R, HA1, hi, hL⟩ (by obtain ⟨sr, hs1, hs2⟩ := xsr; exact ⟨sr, (F1 96 (by omega)).trans hs1, hs2⟩)
    have Y1 : y_fr h h1 := fun q hq => F1 q (by omega)
    clear X0 hn x1 x2 x94 x95 x0 xlp xld xlr xsr xt xs
    have X0 := X1
    obtain ⟨⟨hn, ⟨tf1, x1, xtf1⟩, ⟨sf1, x2, xsf1⟩, x94, x95⟩, x0, xlp, xld, xlr, xso, xsr, xt, xs⟩ := X1
    obtain ⟨L1, HL1⟩ := xso
    refine pm_aload_n K dX6_apply_16 (q := 17) rfl rfl rfl ?_
    refine pm_get K inX6 rfl (k := 6) (by decide) wlX6_46 rfl (by omega) x0 rfl dX6_apply_17 (q := 20) rfl ?_
    refine pm_aload_n K dX6_apply_20 (q := 21) rfl rfl rfl ?_
    refine pm_get K inX6 rfl (k := 0) (by decide) wlX6_11 rfl (by omega) x0 rfl dX6_apply_21 (q := 24) rfl ?_
    refine pm_iload_n K dX6_apply_24 (q := 25) rfl rfl rfl ?_
    refine pm_aaldN K (by omega) x1 rfl hj (by decide) (xtf1 j hj) dX6_apply_25 (q := 26) rfl ?_
    refine pm_aload_n K dX6_apply_26 (q := 27) rfl rfl rfl ?_
    refine pm_get K inX6 rfl (k := 2) (by decide) wlX6_24 rfl (by omega) x0 rfl dX6_apply_27 (q := 30) rfl ?_
    refine pm_aload_n K dX6_apply_30 (q := 31) rfl rfl rfl ?_
    refine pm_get K inX6 rfl (k := 3) (by decide) wlX6_28 rfl (by omega) x0 rfl dX6_apply_31 (q := 34) rfl ?_
    refine pm_callV0 K gw_ok wcX6_104 (c_change l HL1 hn x94 (xt j hj) xlp xld (by omega) (by omega) (by omega)) rfl (by omega) x94 rfl rfl (Nat.le_of_ble_eq_true rfl) (by decide) dX6_apply_34 (q := 37) rfl (fun r2 h2 hp => ?_)
    obtain ⟨l1, hp1, rfl, ⟨L2, HL2⟩, B2, F2⟩ := hp
    rw [List.nil_append] at HL2
    have B32 : bg_at n h2 3 6 lp := xlp.fr (Nat.le_refl _) (fun q a c => F2 q (by omega) (by omega))
    refine pm_istore_n K dX6_apply_37 (q := 38) rfl rfl (by decide) rfl ?_
    refine pm_aload_n K dX6_apply_38 (q := 39) rfl rfl rfl ?_
    refine pm_get K inX6 rfl (k := 2) (by decide) wlX6_24 rfl (by omega) ((F2 0 (by omega) (by omega)).trans x0) rfl dX6_apply_39 (q := 42) rfl ?_
    refine pm_callV0 K gw_ok wcX6_94 (c_bclear l B32) rfl (by omega) B32.2.2.2.1 rfl rfl (Nat.le_of_ble_eq_true rfl) (by decide) dX6_apply_42 (q := 45) rfl (fun r3 h3 hp => ?_)
    obtain ⟨rfl, B3, F3⟩ := hp
    have B73 : bg_at n h3 7 6 ld := xld.fr (Nat.le_refl _) (fun q a c => (F3 q (by omega)).trans (F2 q (by omega) (by omega)))
    refine pm_aload_n K dX6_apply_45 (q := 46) rfl rfl rfl ?_
    refine pm_get K inX6 rfl (k := 3) (by decide) wlX6_28 rfl (by omega) ((F3 0 (by omega)).trans ((F2 0 (by omega) (by omega)).trans x0)) rfl dX6_apply_46 (q := 49) rfl ?_
    refine pm_callV0 K gw_ok wcX6_94 (c_bclear l B73) rfl (by omega) B73.2.2.2.1 rfl rfl (Nat.le_of_ble_eq_true rfl) (by decide) dX6_apply_49 (q := 52) rfl (fun r4 h4 hp => ?_)
    obtain ⟨rfl, B4, F4⟩ := hp
    have FF : ∀ q, (q < 3 ∨ 10 < q) → (q < 15 ∨ 93 < q) → (q < 97 + 4 * j ∨ 97 + 4 * j + 3 < q) → h4 q = h1 q := fun q a b c => by rw [F4 q (by omega), F3 q (by omega), F2 q b c]
    have XX : x_at n h4 (if l1.length ≤ 12 then va_up T j l1 else T) [] [] lr pt sc S (tk (ap_t ((T j).length + lp.length + ld.length))) := by
      refine ⟨⟨hn, ⟨tf1, (FF 1 (by omega) (by omega) (by omega)).trans x1, xtf1⟩, ⟨sf1, (FF 2 (by omega) (by omega) (by omega)).trans x2, xsf1⟩, (FF 94 (by omega) (by omega) (by omega)).trans x94, (FF 95 (by omega) (by omega) (by omega)).trans x95⟩, (FF 0 (by omega) (by omega) (by omega)).trans x0, B3.fr (Nat.le_refl _) (fun q a c => F4 q (by omega)), B4, xlr.fr (Nat.le_refl _) (fun q a c => FF q (by omega) (by omega) (by omega)), ⟨L2, HL2.mv (fun q hq => by rw [F4 q (by omega), F3 q (by omega)])⟩, ?_, fun u hu => ?_, fun s hs => (FF _ (by omega) (by omega) (by omega)).trans (xs s hs)⟩
      · obtain ⟨sr, hs1, hs2⟩ := xsr
        exact ⟨sr, (FF 96 (by omega) (by omega) (by omega)).trans hs1, hs2⟩
      · have B5 := B2.fr (Nat.le_refl _) (h' := h4) (fun q a c => by rw [F4 q (by omega), F3 q (by omega)])
        by_cases eu : u = j
        · subst eu
          by_cases hle : l1.length ≤ 12
          · rw [if_pos hle] at B5 ⊢
            simp only [va_up, if_true]
            exact B5
          · rw [if_neg hle] at B5 ⊢
            exact B5
        · have e9 : (if l1.length ≤ 12 then va_up T j l1 else T) u = T u := by
            split
            · simp only [va_up, eu, if_false]
            · rfl
          rw [e9]
          exact (xt u hu).fr (Nat.le_refl _) (fun q a c => FF q (by omega) (by omega) (by omega))
    have hy : y_fr h h4 := fun q hq => (FF q (by omega) (by omega) (by omega)).trans (Y1 q hq)
    by_cases hle : l1.length ≤ 12
    · rw [decide_eq_true hle]
      have B5 := XX.2.2.2.2.2.2.2.1 j hj
      rw [if_pos hle] at B5
      simp only [va_up, if_true] at B5
      refine pm_iload_n K dX6_apply_52 (q := 53) rfl rfl rfl ?_
      refine pm_if_eq K dX6_apply_53 (tgt := 68) (q := 56) rfl rfl (fun z => absurd z (by decide)) (fun _ => ?_)
      refine pm_aload_n K dX6_apply_56 (q := 57) rfl rfl rfl ?_
      refine pm_get K inX6 rfl (k := 0) (by decide) wlX6_11 rfl (by omega) XX.2.1 rfl dX6_apply_57 (q := 60) rfl ?_
      refine pm_iload_n K dX6_apply_60 (q := 61) rfl rfl rfl ?_
      refine pm_aaldN K (by omega) ((FF 1 (by omega) (by omega) (by omega)).trans x1) rfl hj (by decide) (xtf1 j hj) dX6_apply_61 (q := 62) rfl ?_
      refine pm_get K inX0 rfl (k := 3) (by decide) wlX6_73 rfl (by omega) B5.2.2.2.1 rfl dX6_apply_62 (q := 65) rfl ?_
      refine pm_goto K dX6_apply_65 (q := 70) rfl ?_
      exact pm_iret Z dX6_apply_70 rfl rfl (Nat.le_of_ble_eq_true rfl) (Nat.le_of_ble_eq_true rfl) ⟨rfl, (Or.inr ⟨ht, hy, l1, hp1, by rw [if_pos hle], XX⟩)⟩
    · rw [decide_eq_false hle]
      refine pm_iload_n K dX6_apply_52 (q := 53) rfl rfl rfl ?_
      refine pm_if_eq K dX6_apply_53 (tgt := 68) (q := 56) rfl rfl (fun _ => ?_) (fun z => absurd z (fun z => z rfl))
      refine pm_bipush (v := -2) K dX6_apply_68 (q := 70) rfl (by decide) ?_
      exact pm_iret Z dX6_apply_70 rfl rfl (Nat.le_of_ble_eq_true rfl) (Nat.le_of_ble_eq_true rfl) ⟨rfl, (Or.inr ⟨ht, hy, l1, hp1, by rw [if_neg hle], XX⟩)⟩
end
section
/-! Constructors. -/
theorem pm_nn {G : pm_Gt} {cells slots pc n n' : Nat} {ls : List (Option Value)} {st : List Value} {h : pm_H} (e : n = n') (kk : G cells slots pc ls st n' h) : G cells slots pc ls st n h := by
  rw [e]
  exact kk
theorem pm_cs {G : pm_Gt} {c c' s s' pc n : Nat} {ls : List (Option Value)} {st : List Value} {h : pm_H} (e1 : c = c') (e2 : s = s') (kk : G c' s' pc ls st n h) : G c s pc ls st n h := by
  rw [e1, e2]
  exact kk
theorem dfX0 : ∀ j, j < 4 → defaultValue (tyX0 j) = vp_V [.null, .null, .null, .int 0] j := by
  intro j hj
  rcases (show j = 0 ∨ j = 1 ∨ j = 2 ∨ j = 3 by omega) with rfl | rfl | rfl | rfl <;> rfl
theorem dfX1 : ∀ j, j < 2 → defaultValue (tyX1 j) = vp_V [.null, .null] j := by
  intro j hj
  rcases (show j = 0 ∨ j = 1 by omega) with rfl | rfl <;> rfl
theorem dfX2 : ∀ j, j < 1 → defaultValue (tyX2 j) = vp_V [.null] j := by
  intro j hj
  rcases (show j = 0 by omega) with rfl <;> rfl
theorem dfX3 : ∀ j, j < 13 → defaultValue (tyX3 j) = vp_V [.int 0, .int 0, .int 0, .int 0, .int 0, .int 0, .int 0, .int 0, .int 0, .int 0, .int 0, .int 0, .int 0] j := by
  intro j hj
  rcases (show j = 0 ∨ j = 1 ∨ j = 2 ∨ j = 3 ∨ j = 4 ∨ j = 5 ∨ j = 6 ∨ j = 7 ∨ j = 8 ∨ j = 9 ∨ j = 10 ∨ j = 11 ∨ j = 12 by omega) with rfl | rfl | rfl | rfl | rfl | rfl | rfl | rfl | rfl | rfl | rfl | rfl | rfl <;> rfl
theorem dfX4 : ∀ j, j < 4 → defaultValue (tyX4 j) = vp_V [.int 0, .int 0, .int 0, .int 0] j := by
  intro j hj
  rcases (show j = 0 ∨ j = 1 ∨ j = 2 ∨ j = 3 by omega) with rfl | rfl | rfl | rfl <;> rfl
theorem dfX5 : ∀ j, j < 3 → defaultValue (tyX5 j) = vp_V [.null, .null, .int 0] j := by
  intro j hj
  rcases (show j = 0 ∨ j = 1 ∨ j = 2 by omega) with rfl | rfl | rfl <;> rfl
theorem dfX6 : ∀ j, j < 10 → defaultValue (tyX6 j) = vp_V [.null, .null, .null, .null, .null, .null, .null, .null, .int 0, .int 0] j := by
  intro j hj
  rcases (show j = 0 ∨ j = 1 ∨ j = 2 ∨ j = 3 ∨ j = 4 ∨ j = 5 ∨ j = 6 ∨ j = 7 ∨ j = 8 ∨ j = 9 by omega) with rfl | rfl | rfl | rfl | rfl | rfl | rfl | rfl | rfl | rfl <;> rfl
theorem dfX7 : ∀ j, j < 27 → defaultValue (tyX7 j) = vp_V [.null, .null, .int 0, .int 0, .int 0, .null, .null, .null, .null, .int 0, .null, .null, .null, .int 0, .null, .int 0, .null, .int 0, .int 0, .null, .null, .null, .null, .int 0, .int 0, .int 0, .int 0] j := by
  intro j hj
  rcases (show j = 0 ∨ j = 1 ∨ j = 2 ∨ j = 3 ∨ j = 4 ∨ j = 5 ∨ j = 6 ∨ j = 7 ∨ j = 8 ∨ j = 9 ∨ j = 10 ∨ j = 11 ∨ j = 12 ∨ j = 13 ∨ j = 14 ∨ j = 15 ∨ j = 16 ∨ j = 17 ∨ j = 18 ∨ j = 19 ∨ j = 20 ∨ j = 21 ∨ j = 22 ∨ j = 23 ∨ j = 24 ∨ j = 25 ∨ j = 26 by omega) with rfl | rfl | rfl | rfl | rfl | rfl | rfl | rfl | rfl | rfl | rfl | rfl | rfl | rfl | rfl | rfl | rfl | rfl | rfl | rfl | rfl | rfl | rfl | rfl | rfl | rfl | rfl <;> rfl
set_option maxRecDepth 100000 in
theorem c_row0 (l : Launch) {n : Nat} {h : pm_H} {a : Nat} : bM0 l yX3_init cX3_init 1 none 1 [.ref a] n h (fun r h' => r = none ∧ h' = h) := by
  refine pm_enter rfl (Nat.le_of_ble_eq_true rfl) (fun G K Z => ?_)
  refine pm_aload_n K dX3_init_0 (q := 1) rfl rfl rfl ?_
  refine pm_objInit K (gw_1 (j := 58) rfl rfl) (gw_1 (j := 16) rfl rfl) (gw_1 (j := 17) rfl rfl) (Nat.le_of_ble_eq_true rfl) (by decide) (by decide) dX3_init_1 (q := 4) rfl ?_
  exact pm_vret Z dX3_init_4 rfl (Nat.le_of_ble_eq_true rfl) (Nat.le_of_ble_eq_true rfl) ⟨rfl, ⟨rfl, rfl⟩⟩
set_option maxRecDepth 100000 in
theorem c_step0 (l : Launch) {n : Nat} {h : pm_H} {a : Nat} : bM0 l yX4_init cX4_init 1 none 1 [.ref a] n h (fun r h' => r = none ∧ h' = h) := by
  refine pm_enter rfl (Nat.le_of_ble_eq_true rfl) (fun G K Z => ?_)
  refine pm_aload_n K dX4_init_0 (q := 1) rfl rfl rfl ?_
  refine pm_objInit K (gw_1 (j := 156) rfl rfl) (gw_1 (j := 16) rfl rfl) (gw_1 (j := 17) rfl rfl) (Nat.le_of_ble_eq_true rfl) (by decide) (by decide) dX4_init_1 (q := 4) rfl ?_
  exact pm_vret Z dX4_init_4 rfl (Nat.le_of_ble_eq_true rfl) (Nat.le_of_ble_eq_true rfl) ⟨rfl, ⟨rfl, rfl⟩⟩
set_option maxRecDepth 100000 in
theorem c_bag6 (l : Launch) {n : Nat} {h : pm_H} {b : Nat} (hb : n = b + 1) (hbig : b < 1000) (hc : h b = pm_O cBag [.null, .null, .null, .int 0]) : bM l yX0_init cX0_init 2 none 1 3 18 [.ref b, .int (nI 6)] n h (fun r n' h' => r = none ∧ n' = b + 4 ∧ bg_at (b + 4) h' b 6 [] ∧ ∀ q, q < b → h' q = h q) := by
  refine pm_enter rfl (Nat.le_of_ble_eq_true rfl) (fun G K Z => ?_)
  subst hb
  refine pm_aload_n K dX0_init_0 (q := 1) rfl rfl rfl ?_
  refine pm_objInit K (gw_1 (j := 26) rfl rfl) (gw_1 (j := 16) rfl rfl) (gw_1 (j := 17) rfl rfl) (Nat.le_of_ble_eq_true rfl) (by decide) (by decide) dX0_init_1 (q := 4) rfl ?_
  refine pm_aload_n K dX0_init_4 (q := 5) rfl rfl rfl ?_
  refine pm_ic0 K dX0_init_5 (q := 6) rfl ?_
  refine pm_put (fs' := [.null, .null, .null, .int 0]) K inX0 tyX0 tyX0_ok nmX0 rfl (k := 3) (by decide) wlX0_7 rfl rfl (fun _ => ⟨rfl, rfl⟩) (by omega) hc (Nat.le_of_ble_eq_true rfl) rfl dX0_init_6 (q := 9) rfl ?_
  refine pm_aload_n K dX0_init_9 (q := 10) rfl rfl rfl ?_
  refine pm_iload_n K dX0_init_10 (q := 11) rfl rfl rfl ?_
  refine pm_newa (atype := .int) (ty := .int) (t := 0) (N := 6) K rfl (gw_1 (j := 45) rfl rfl) rfl (fun _ _ z => z) rfl (by decide) (by decide) (by decide) (by unfold pm_big; omega) (by decide) (by decide) dX0_init_11 (q := 13) rfl ?_
  refine pm_nn (n' := b + 2) rfl ?_
  refine pm_putF (fs' := [.ref (b + 1), .null, .null, .int 0]) K inX0 tyX0 tyX0_ok nmX0 rfl (k := 0) (by decide) wlX0_13 rfl rfl rfl rfl (fun _ => ⟨rfl, rfl⟩) (by omega) (pm_ne (by omega) (pm_same _ _ _)) (Nat.le_of_ble_eq_true rfl) rfl dX0_init_13 (q := 16) rfl ?_
  refine pm_aload_n K dX0_init_16 (q := 17) rfl rfl rfl ?_
  refine pm_iload_n K dX0_init_17 (q := 18) rfl rfl rfl ?_
  refine pm_newa (atype := .int) (ty := .int) (t := 0) (N := 6) K rfl (gw_1 (j := 45) rfl rfl) rfl (fun _ _ z => z) rfl (by decide) (by decide) (by decide) (by unfold pm_big; omega) (by decide) (by decide) dX0_init_18 (q := 20) rfl ?_
  refine pm_nn (n' := b + 3) rfl ?_
  refine pm_putF (fs' := [.ref (b + 1), .ref (b + 2), .null, .int 0]) K inX0 tyX0 tyX0_ok nmX0 rfl (k := 1) (by decide) wlX0_17 rfl rfl rfl rfl (fun _ => ⟨rfl, rfl⟩) (by omega) (pm_ne (by omega) (pm_same _ _ _)) (Nat.le_of_ble_eq_true rfl) rfl dX0_init_20 (q := 23) rfl ?_
  refine pm_aload_n K dX0_init_23 (q := 24) rfl rfl rfl ?_
  refine pm_iload_n K dX0_init_24 (q := 25) rfl rfl rfl ?_
  refine pm_newa (atype := .int) (ty := .int) (t := 0) (N := 6) K rfl (gw_1 (j := 45) rfl rfl) rfl (fun _ _ z => z) rfl (by decide) (by decide) (by decide) (by unfold pm_big; omega) (by decide) (by decide) dX0_init_25 (q := 27) rfl ?_
  refine pm_nn (n' := b + 4) rfl ?_
  refine pm_putF (fs' := [.ref (b + 1), .ref (b + 2), .ref (b + 3), .int 0]) K inX0 tyX0 tyX0_ok nmX0 rfl (k := 2) (by decide) wlX0_20 rfl rfl rfl rfl (fun _ => ⟨rfl, rfl⟩) (by omega) (pm_ne (by omega) (pm_same _ _ _)) (Nat.le_of_ble_eq_true rfl) rfl dX0_init_27 (q := 30) rfl ?_
  exact pm_vret Z dX0_init_30 rfl (Nat.le_of_ble_eq_true rfl) (Nat.le_of_ble_eq_true rfl) ⟨rfl, rfl, ⟨by omega, Nat.zero_le _, by decide, pm_same _ _ _, fun _ => 0, fun _ => 0, fun _ => 0, (pm_ne (by omega) (pm_ne (by omega) (pm_ne (by omega) (pm_ne (by omega) (pm_ne (by omega) (pm_same _ _ _)))))), (pm_ne (by omega) (pm_ne (by omega) (pm_ne (by omega) (pm_same _ _ _)))), (pm_ne (by omega) (pm_same _ _ _)), fun r hr => absurd hr (Nat.not_lt_zero _)⟩, fun q hq => by rw [pm_ne (by omega) rfl, pm_ne (by omega) rfl, pm_ne (by omega) rfl, pm_ne (by omega) rfl, pm_ne (by omega) rfl, pm_ne (by omega) rfl, pm_ne (by omega) rfl]⟩
set_option maxRecDepth 100000 in
theorem c_bag12 (l : Launch) {n : Nat} {h : pm_H} {b : Nat} (hb : n = b + 1) (hbig : b < 1000) (hc : h b = pm_O cBag [.null, .null, .null, .int 0]) : bM l yX0_init cX0_init 2 none 1 3 36 [.ref b, .int (nI 12)] n h (fun r n' h' => r = none ∧ n' = b + 4 ∧ bg_at (b + 4) h' b 12 [] ∧ ∀ q, q < b → h' q = h q) := by
  refine pm_enter rfl (Nat.le_of_ble_eq_true rfl) (fun G K Z => ?_)
  subst hb
  refine pm_aload_n K dX0_init_0 (q := 1) rfl rfl rfl ?_
  refine pm_objInit K (gw_1 (j := 26) rfl rfl) (gw_1 (j := 16) rfl rfl) (gw_1 (j := 17) rfl rfl) (Nat.le_of_ble_eq_true rfl) (by decide) (by decide) dX0_init_1 (q := 4) rfl ?_
  refine pm_aload_n K dX0_init_4 (q := 5) rfl rfl rfl ?_
  refine pm_ic0 K dX0_init_5 (q := 6) rfl ?_
  refine pm_put (fs' := [.null, .null, .null, .int 0]) K inX0 tyX0 tyX0_ok nmX0 rfl (k := 3) (by decide) wlX0_7 rfl rfl (fun _ => ⟨rfl, rfl⟩) (by omega) hc (Nat.le_of_ble_eq_true rfl) rfl dX0_init_6 (q := 9) rfl ?_
  refine pm_aload_n K dX0_init_9 (q := 10) rfl rfl rfl ?_
  refine pm_iload_n K dX0_init_10 (q := 11) rfl rfl rfl ?_
  refine pm_newa (atype := .int) (ty := .int) (t := 0) (N := 12) K rfl (gw_1 (j := 45) rfl rfl) rfl (fun _ _ z => z) rfl (by decide) (by decide) (by decide) (by unfold pm_big; omega) (by decide) (by decide) dX0_init_11 (q := 13) rfl ?_
  refine pm_nn (n' := b + 2) rfl ?_
  refine pm_putF (fs' := [.ref (b + 1), .null, .null, .int 0]) K inX0 tyX0 tyX0_ok nmX0 rfl (k := 0) (by decide) wlX0_13 rfl rfl rfl rfl (fun _ => ⟨rfl, rfl⟩) (by omega) (pm_ne (by omega) (pm_same _ _ _)) (Nat.le_of_ble_eq_true rfl) rfl dX0_init_13 (q := 16) rfl ?_
  refine pm_aload_n K dX0_init_16 (q := 17) rfl rfl rfl ?_
  refine pm_iload_n K dX0_init_17 (q := 18) rfl rfl rfl ?_
  refine pm_newa (atype := .int) (ty := .int) (t := 0) (N := 12) K rfl (gw_1 (j := 45) rfl rfl) rfl (fun _ _ z => z) rfl (by decide) (by decide) (by decide) (by unfold pm_big; omega) (by decide) (by decide) dX0_init_18 (q := 20) rfl ?_
  refine pm_nn (n' := b + 3) rfl ?_
  refine pm_putF (fs' := [.ref (b + 1), .ref (b + 2), .null, .int 0]) K inX0 tyX0 tyX0_ok nmX0 rfl (k := 1) (by decide) wlX0_17 rfl rfl rfl rfl (fun _ => ⟨rfl, rfl⟩) (by omega) (pm_ne (by omega) (pm_same _ _ _)) (Nat.le_of_ble_eq_true rfl) rfl dX0_init_20 (q := 23) rfl ?_
  refine pm_aload_n K dX0_init_23 (q := 24) rfl rfl rfl ?_
  refine pm_iload_n K dX0_init_24 (q := 25) rfl rfl rfl ?_
  refine pm_newa (atype := .int) (ty := .int) (t := 0) (N := 12) K rfl (gw_1 (j := 45) rfl rfl) rfl (fun _ _ z => z) rfl (by decide) (by decide) (by decide) (by unfold pm_big; omega) (by decide) (by decide) dX0_init_25 (q := 27) rfl ?_
  refine pm_nn (n' := b + 4) rfl ?_
  refine pm_putF (fs' := [.ref (b + 1), .ref (b + 2), .ref (b + 3), .int 0]) K inX0 tyX0 tyX0_ok nmX0 rfl (k := 2) (by decide) wlX0_20 rfl rfl rfl rfl (fun _ => ⟨rfl, rfl⟩) (by omega) (pm_ne (by omega) (pm_same _ _ _)) (Nat.le_of_ble_eq_true rfl) rfl dX0_init_27 (q := 30) rfl ?_
  exact pm_vret Z dX0_init_30 rfl (Nat.le_of_ble_eq_true rfl) (Nat.le_of_ble_eq_true rfl) ⟨rfl, rfl, ⟨by omega, Nat.zero_le _, by decide, pm_same _ _ _, fun _ => 0, fun _ => 0, fun _ => 0, (pm_ne (by omega) (pm_ne (by omega) (pm_ne (by omega) (pm_ne (by omega) (pm_ne (by omega) (pm_same _ _ _)))))), (pm_ne (by omega) (pm_ne (by omega) (pm_ne (by omega) (pm_same _ _ _)))), (pm_ne (by omega) (pm_same _ _ _)), fun r hr => absurd hr (Nat.not_lt_zero _)⟩, fun q hq => by rw [pm_ne (by omega) rfl, pm_ne (by omega) rfl, pm_ne (by omega) rfl, pm_ne (by omega) rfl, pm_ne (by omega) rfl, pm_ne (by omega) rfl, pm_ne (by omega) rfl]⟩
set_option maxRecDepth 100000 in
theorem c_bag24 (l : Launch) {n : Nat} {h : pm_H} {b : Nat} (hb : n = b + 1) (hbig : b < 1000) (hc : h b = pm_O cBag [.null, .null, .null, .int 0]) : bM l yX0_init cX0_init 2 none 1 3 72 [.ref b, .int (nI 24)] n h (fun r n' h' => r = none ∧ n' = b + 4 ∧ bg_at (b + 4) h' b 24 [] ∧ ∀ q, q < b → h' q = h q) := by
  refine pm_enter rfl (Nat.le_of_ble_eq_true rfl) (fun G K Z => ?_)
  subst hb
  refine pm_aload_n K dX0_init_0 (q := 1) rfl rfl rfl ?_
  refine pm_objInit K (gw_1 (j := 26) rfl rfl) (gw_1 (j := 16) rfl rfl) (gw_1 (j := 17) rfl rfl) (Nat.le_of_ble_eq_true rfl) (by decide) (by decide) dX0_init_1 (q := 4) rfl ?_
  refine pm_aload_n K dX0_init_4 (q := 5) rfl rfl rfl ?_
  refine pm_ic0 K dX0_init_5 (q := 6) rfl ?_
  refine pm_put (fs' := [.null, .null, .null, .int 0]) K inX0 tyX0 tyX0_ok nmX0 rfl (k := 3) (by decide) wlX0_7 rfl rfl (fun _ => ⟨rfl, rfl⟩) (by omega) hc (Nat.le_of_ble_eq_true rfl) rfl dX0_init_6 (q := 9) rfl ?_
  refine pm_aload_n K dX0_init_9 (q := 10) rfl rfl rfl ?_
  refine pm_iload_n K dX0_init_10 (q := 11) rfl rfl rfl ?_
  refine pm_newa (atype := .int) (ty := .int) (t := 0) (N := 24) K rfl (gw_1 (j := 45) rfl rfl) rfl (fun _ _ z => z) rfl (by decide) (by decide) (by decide) (by unfold pm_big; omega) (by decide) (by decide) dX0_init_11 (q := 13) rfl ?_
  refine pm_nn (n' := b + 2) rfl ?_
  refine pm_putF (fs' := [.ref (b + 1), .null, .null, .int 0]) K inX0 tyX0 tyX0_ok nmX0 rfl (k := 0) (by decide) wlX0_13 rfl rfl rfl rfl (fun _ => ⟨rfl, rfl⟩) (by omega) (pm_ne (by omega) (pm_same _ _ _)) (Nat.le_of_ble_eq_true rfl) rfl dX0_init_13 (q := 16) rfl ?_
  refine pm_aload_n K dX0_init_16 (q := 17) rfl rfl rfl ?_
  refine pm_iload_n K dX0_init_17 (q := 18) rfl rfl rfl ?_
  refine pm_newa (atype := .int) (ty := .int) (t := 0) (N := 24) K rfl (gw_1 (j := 45) rfl rfl) rfl (fun _ _ z => z) rfl (by decide) (by decide) (by decide) (by unfold pm_big; omega) (by decide) (by decide) dX0_init_18 (q := 20) rfl ?_
  refine pm_nn (n' := b + 3) rfl ?_
  refine pm_putF (fs' := [.ref (b + 1), .ref (b + 2), .null, .int 0]) K inX0 tyX0 tyX0_ok nmX0 rfl (k := 1) (by decide) wlX0_17 rfl rfl rfl rfl (fun _ => ⟨rfl, rfl⟩) (by omega) (pm_ne (by omega) (pm_same _ _ _)) (Nat.le_of_ble_eq_true rfl) rfl dX0_init_20 (q := 23) rfl ?_
  refine pm_aload_n K dX0_init_23 (q := 24) rfl rfl rfl ?_
  refine pm_iload_n K dX0_init_24 (q := 25) rfl rfl rfl ?_
  refine pm_newa (atype := .int) (ty := .int) (t := 0) (N := 24) K rfl (gw_1 (j := 45) rfl rfl) rfl (fun _ _ z => z) rfl (by decide) (by decide) (by decide) (by unfold pm_big; omega) (by decide) (by decide) dX0_init_25 (q := 27) rfl ?_
  refine pm_nn (n' := b + 4) rfl ?_
  refine pm_putF (fs' := [.ref (b + 1), .ref (b + 2), .ref (b + 3), .int 0]) K inX0 tyX0 tyX0_ok nmX0 rfl (k := 2) (by decide) wlX0_20 rfl rfl rfl rfl (fun _ => ⟨rfl, rfl⟩) (by omega) (pm_ne (by omega) (pm_same _ _ _)) (Nat.le_of_ble_eq_true rfl) rfl dX0_init_27 (q := 30) rfl ?_
  exact pm_vret Z dX0_init_30 rfl (Nat.le_of_ble_eq_true rfl) (Nat.le_of_ble_eq_true rfl) ⟨rfl, rfl, ⟨by omega, Nat.zero_le _, by decide, pm_same _ _ _, fun _ => 0, fun _ => 0, fun _ => 0, (pm_ne (by omega) (pm_ne (by omega) (pm_ne (by omega) (pm_ne (by omega) (pm_ne (by omega) (pm_same _ _ _)))))), (pm_ne (by omega) (pm_ne (by omega) (pm_ne (by omega) (pm_same _ _ _)))), (pm_ne (by omega) (pm_same _ _ _)), fun r hr => absurd hr (Nat.not_lt_zero _)⟩, fun q hq => by rw [pm_ne (by omega) rfl, pm_ne (by omega) rfl, pm_ne (by omega) rfl, pm_ne (by omega) rfl, pm_ne (by omega) rfl, pm_ne (by omega) rfl, pm_ne (by omega) rfl]⟩
set_option maxRecDepth 100000 in
theorem c_store0 (l : Launch) {n : Nat} {h : pm_H} (hn : n = 16) (hc : h 15 = pm_O cStore [.null, .null, .int 0]) : bM l yX5_init cX5_init 2 none 2 78 15752 [.ref 15] n h (fun r n' h' => r = none ∧ n' = 94 ∧ so_L 94 h' (fun _ _ => 0) [] ∧ ∀ q, q < 15 → h' q = h q) := by
  refine pm_enter rfl (Nat.le_of_ble_eq_true rfl) (fun G K Z => ?_)
  subst hn
  refine pm_aload_n K dX5_init_0 (q := 1) rfl rfl rfl ?_
  refine pm_objInit K (gw_1 (j := 51) rfl rfl) (gw_1 (j := 16) rfl rfl) (gw_1 (j := 17) rfl rfl) (Nat.le_of_ble_eq_true rfl) (by decide) (by decide) dX5_init_1 (q := 4) rfl ?_
  refine pm_aload_n K dX5_init_4 (q := 5) rfl rfl rfl ?_
  refine pm_bipush (v := nI 76) K dX5_init_5 (q := 7) rfl (by decide) ?_
  refine pm_anewa (t := 1) (N := 76) K (gw_1 (j := 52) rfl rfl) (List.mem_of_getElem? (i := 3) rfl) rfl (by decide) (by decide) (by decide) (by decide) (by decide) (by decide) dX5_init_7 (q := 10) rfl ?_
  refine pm_nn (n' := 17) rfl ?_
  refine pm_putF (fs' := [.ref 16, .null, .int 0]) K inX5 tyX5 tyX5_ok nmX5 rfl (k := 0) (by decide) wlX5_13 rfl rfl rfl rfl (fun _ => ⟨rfl, rfl⟩) (by decide) (pm_ne (by decide) hc) (Nat.le_of_ble_eq_true rfl) rfl dX5_init_10 (q := 13) rfl ?_
  refine pm_aload_n K dX5_init_13 (q := 14) rfl rfl rfl ?_
  refine pm_sipush (v := nI 14688) K dX5_init_14 (q := 17) rfl (by decide) ?_
  refine pm_newa (atype := .int) (ty := .int) (t := 0) (N := 14688) K rfl (gw_1 (j := 45) rfl rfl) rfl (fun _ _ z => z) rfl (by decide) (by decide) (by decide) (by decide) (by decide) (by decide) dX5_init_17 (q := 19) rfl ?_
  refine pm_nn (n' := 18) rfl ?_
  refine pm_putF (fs' := [.ref 16, .ref 17, .int 0]) K inX5 tyX5 tyX5_ok nmX5 rfl (k := 1) (by decide) wlX5_17 rfl rfl rfl rfl (fun _ => ⟨rfl, rfl⟩) (by decide) (pm_ne (by decide) (pm_same _ _ _)) (Nat.le_of_ble_eq_true rfl) rfl dX5_init_19 (q := 22) rfl ?_
  refine pm_aload_n K dX5_init_22 (q := 23) rfl rfl rfl ?_
  refine pm_ic0 K dX5_init_23 (q := 24) rfl ?_
  refine pm_put (fs' := [.ref 16, .ref 17, .int 0]) K inX5 tyX5 tyX5_ok nmX5 rfl (k := 2) (by decide) wlX5_21 rfl rfl (fun _ => ⟨rfl, rfl⟩) (by decide) (pm_same _ _ _) (Nat.le_of_ble_eq_true rfl) rfl dX5_init_24 (q := 27) rfl ?_
  refine pm_ic0 K dX5_init_27 (q := 28) rfl ?_
  refine pm_istore_n K dX5_init_28 (q := 29) rfl rfl (by decide) rfl ?_
  have loop : ∀ (k p : Nat) (h2 : pm_H) (pf : Nat → Option Nat), p + k = 76 → h2 15 = pm_O cStore [.ref 16, .ref 17, .int 0] → h2 16 = pm_R tRow 76 pf → (∀ i, i < p → pf i = some (18 + i)) → h2 17 = pm_I tInt 14688 (fun _ => 0) → (∀ j, j < p → h2 (18 + j) = pm_O cRow (rw_fs (fun _ => 0))) → (∀ q, q < 15 → h2 q = h q) → G (2 + p) (76 + 14688 + 13 * p) 29 [some (.ref 15), some (.int (nI p))] [] (18 + p) h2 := by
    intro k
    induction k with
    | zero =>
      intro p h2 pf hk a1 a2 a3 a4 a5 a6
      refine pm_iload_n K dX5_init_29 (q := 30) rfl rfl rfl ?_
      refine pm_bipush (v := nI 76) K dX5_init_30 (q := 32) rfl (by decide) ?_
      refine pm_icmp_ge K dX5_init_32 (tgt := 54) (q := 35) rfl rfl (fun _ => ?_) (fun z => absurd z (fun z => z (nI_le (by omega) (by omega))))
      have ep : p = 76 := by omega
      subst ep
      exact pm_vret Z dX5_init_54 rfl (Nat.le_of_ble_eq_true rfl) (Nat.le_of_ble_eq_true rfl) ⟨rfl, rfl, ⟨fun i => i, fun _ _ => 0, ⟨by decide, a1, ⟨pf, a2, a3⟩, ⟨_, a4, fun i hi => absurd hi (Nat.not_lt_zero _)⟩, fun i hi => hi, fun j hj => ⟨a5 j hj, Or.inl rfl⟩, Nat.zero_le _⟩, fun i j _ _ e => e, fun i hi => rfl⟩, a6⟩
    | succ k ih =>
      intro p h2 pf hk a1 a2 a3 a4 a5 a6
      refine pm_iload_n K dX5_init_29 (q := 30) rfl rfl rfl ?_
      refine pm_bipush (v := nI 76) K dX5_init_30 (q := 32) rfl (by decide) ?_
      refine pm_icmp_ge K dX5_init_32 (tgt := 54) (q := 35) rfl rfl (fun z => absurd z (nI_ge (by omega) (by decide))) (fun _ => ?_)
      refine pm_aload_n K dX5_init_35 (q := 36) rfl rfl rfl ?_
      refine pm_get K inX5 rfl (k := 0) (by decide) wlX5_13 rfl (by omega) a1 rfl dX5_init_36 (q := 39) rfl ?_
      refine pm_iload_n K dX5_init_39 (q := 40) rfl rfl rfl ?_
      refine pm_new (ci := 3) K inX3 tyX3 tyX3_ok (gw_1 (j := 52) rfl rfl) (gw_1 (j := 54) rfl rfl) (gw_1 (j := 4) rfl rfl) rfl dfX3 (fun _ => rfl) (by unfold pm_big; omega) (by show 2 + p + 1 ≤ 78; omega) (by show 76 + 14688 + 13 * p + 13 ≤ 15752; omega) dX5_init_40 (q := 43) rfl ?_
      refine pm_nn (n' := 18 + (p + 1)) (by omega) ?_
      refine pm_dup K dX5_init_43 (q := 44) rfl ?_
      refine pm_callIN K gw_ok wcX5_25 (c_row0 l (a := 18 + p)) rfl rfl (Nat.le_of_ble_eq_true rfl) (by decide) ⟨by show 2 + p + 1 + 0 ≤ 78; omega, by show 76 + 14688 + 13 * p + 13 + 0 ≤ 15752; omega⟩ dX5_init_44 (q := 47) rfl (fun r1 n1 h1 hp => ?_)
      obtain ⟨rfl, rfl, rfl⟩ := hp
      refine pm_aastN K (by omega) (pm_ne (by omega) a2) (by omega) (pm_same _ _ _) rfl rfl (show p < 76 by omega) (by decide) dX5_init_47 (q := 48) rfl ?_
      refine pm_inc K dX5_init_48 (q := 51) rfl rfl (by decide) rfl ?_
      refine pm_goto K dX5_init_51 (q := 29) rfl ?_
      refine pm_cs (by omega) (by omega) (ih (p + 1) _ (va_up pf p (some (18 + p))) (by omega) (pm_ne (by decide) (pm_ne (by omega) a1)) (pm_same _ _ _) (fun i hi => ?_) (pm_ne (by decide) (pm_ne (by omega) a4)) (fun j hj => ?_) (fun q hq => by rw [pm_ne (by omega) rfl, pm_ne (by omega) rfl]; exact a6 q hq))
      · by_cases e : i = p
        · subst e; simp [va_up]
        · simp [va_up, e, a3 i (by omega)]
      · by_cases e : j = p
        · subst e; exact pm_ne (by omega) (pm_same _ _ _)
        · exact pm_ne (by omega) (pm_ne (by omega) (a5 j (by omega)))
  exact loop 76 0 _ (fun _ => none) (by decide) (pm_same _ _ _) (pm_ne (by decide) (pm_ne (by decide) (pm_ne (by decide) (pm_ne (by decide) (pm_same _ _ _))))) (fun i hi => absurd hi (Nat.not_lt_zero _)) (pm_ne (by decide) (pm_ne (by decide) (pm_same _ _ _))) (fun j hj => absurd hj (Nat.not_lt_zero _)) (fun q hq => by rw [pm_ne (by omega) rfl, pm_ne (by omega) rfl, pm_ne (by omega) rfl, pm_ne (by omega) rfl, pm_ne (by omega) rfl])
set_option maxRecDepth 100000 in
theorem c_ops0 (l : Launch) {n : Nat} {h : pm_H} {a : Nat} (ha : a < n) (hc : h a = pm_O cOps [.null]) : bM0 l yX2_init cX2_init 2 none 1 [.ref a, .ref 15] n h (fun r h' => r = none ∧ h' = va_up h a (pm_O cOps [.ref 15])) := by
  refine pm_enter rfl (Nat.le_of_ble_eq_true rfl) (fun G K Z => ?_)
  refine pm_aload_n K dX2_init_0 (q := 1) rfl rfl rfl ?_
  refine pm_objInit K (gw_1 (j := 132) rfl rfl) (gw_1 (j := 16) rfl rfl) (gw_1 (j := 17) rfl rfl) (Nat.le_of_ble_eq_true rfl) (by decide) (by decide) dX2_init_1 (q := 4) rfl ?_
  refine pm_aload_n K dX2_init_4 (q := 5) rfl rfl rfl ?_
  refine pm_aload_n K dX2_init_5 (q := 6) rfl rfl rfl ?_
  refine pm_putF (fs' := [.ref 15]) K inX2 tyX2 tyX2_ok nmX2 rfl (k := 0) (by decide) wlX2_9 rfl rfl rfl rfl (fun _ => ⟨rfl, rfl⟩) ha hc (Nat.le_of_ble_eq_true rfl) rfl dX2_init_6 (q := 9) rfl ?_
  exact pm_vret Z dX2_init_9 rfl (Nat.le_of_ble_eq_true rfl) (Nat.le_of_ble_eq_true rfl) ⟨rfl, ⟨rfl, rfl⟩⟩
set_option maxRecDepth 100000 in
theorem c_join0 (l : Launch) {n : Nat} {h : pm_H} (hn : n = 96) (hc : h 95 = pm_O cJoin [.null, .null]) : bM l yX1_init cX1_init 2 none 2 1 13 [.ref 95, .ref 15] n h (fun r n' h' => r = none ∧ n' = 97 ∧ h' 95 = pm_O cJoin [.ref 15, .ref 96] ∧ h' 96 = pm_O cRow (rw_fs (fun _ => 0)) ∧ ∀ q, q < 95 → h' q = h q) := by
  refine pm_enter rfl (Nat.le_of_ble_eq_true rfl) (fun G K Z => ?_)
  subst hn
  refine pm_aload_n K dX1_init_0 (q := 1) rfl rfl rfl ?_
  refine pm_objInit K (gw_1 (j := 142) rfl rfl) (gw_1 (j := 16) rfl rfl) (gw_1 (j := 17) rfl rfl) (Nat.le_of_ble_eq_true rfl) (by decide) (by decide) dX1_init_1 (q := 4) rfl ?_
  refine pm_aload_n K dX1_init_4 (q := 5) rfl rfl rfl ?_
  refine pm_new (ci := 3) K inX3 tyX3 tyX3_ok (gw_1 (j := 143) rfl rfl) (gw_1 (j := 54) rfl rfl) (gw_1 (j := 4) rfl rfl) rfl dfX3 (fun _ => rfl) (by decide) (by decide) (by decide) dX1_init_5 (q := 8) rfl ?_
  refine pm_nn (n' := 97) rfl ?_
  refine pm_dup K dX1_init_8 (q := 9) rfl ?_
  refine pm_callIN K gw_ok wcX1_11 (c_row0 l (a := 96)) rfl rfl (Nat.le_of_ble_eq_true rfl) (by decide) (by decide) dX1_init_9 (q := 12) rfl (fun r1 n1 h1 hp => ?_)
  obtain ⟨rfl, rfl, rfl⟩ := hp
  refine pm_putF (fs' := [.null, .ref 96]) K inX1 tyX1 tyX1_ok nmX1 rfl (k := 1) (by decide) wlX1_12 rfl rfl rfl rfl (fun _ => ⟨rfl, rfl⟩) (by decide) (pm_ne (by decide) hc) (Nat.le_of_ble_eq_true rfl) rfl dX1_init_12 (q := 15) rfl ?_
  refine pm_aload_n K dX1_init_15 (q := 16) rfl rfl rfl ?_
  refine pm_aload_n K dX1_init_16 (q := 17) rfl rfl rfl ?_
  refine pm_putF (fs' := [.ref 15, .ref 96]) K inX1 tyX1 tyX1_ok nmX1 rfl (k := 0) (by decide) wlX1_18 rfl rfl rfl rfl (fun _ => ⟨rfl, rfl⟩) (by decide) (pm_same _ _ _) (Nat.le_of_ble_eq_true rfl) rfl dX1_init_17 (q := 20) rfl ?_
  exact pm_vret Z dX1_init_20 rfl (Nat.le_of_ble_eq_true rfl) (Nat.le_of_ble_eq_true rfl) ⟨rfl, rfl, pm_same _ _ _, (pm_ne (by decide) (pm_ne (by decide) (pm_same _ _ _))), fun q hq => by rw [pm_ne (by omega) rfl, pm_ne (by omega) rfl, pm_ne (by omega) rfl]⟩
end
section
/-! The reference: its cells, and rows for them. -/
section MOB
variable {l : Launch} {cl : List vw_C} {tl : List FieldType} {gw nw : List Cond} {own nm : String} {cc : ByteArray} {nL : Nat} {ret : Option FieldType} {R : Room} {G : pm_Gt} {cells slots pc q n : Nat} {ls ls' : List (Option Value)} {st : List Value} {h : pm_H}
theorem pm_dup2 (K : pm_K l cl tl gw nw own nm cc nL ret R G) {v w : Value} (d : decode cc pc = .ok (.dup2, 1)) (hq : pc + 1 = q) (kk : G cells slots q ls (v :: w :: v :: w :: st) n h) : G cells slots pc ls (v :: w :: st) n h := by
  obtain ⟨p, e, s, m, args, below, meth, c, Q, D, dA, A, ad, X, hmn, rfl⟩ := K
  subst hq
  exact fun H locs la hS hL => lv_dup2_11 X.1 X.2.1 d (pm_r_cat _ _) (pm_r_cat _ _) (kk H locs la hS hL)
theorem pm_zald (K : pm_K l cl tl gw nw own nm cc nL ret R G) {a t len r : Nat} {f : Nat → Int32} (ha : a < n) (hcell : h a = pm_I t len f) (ht : tl[t]? = some .boolean) (hr : r < len) (hb : len < 2 ^ 31) (d : decode cc pc = .ok (.baload, 1)) (hq : pc + 1 = q) (kk : G cells slots q ls (.int (f r) :: st) n h) : G cells slots pc ls (.int (nI r) :: .ref a :: st) n h := by
  obtain ⟨p, e, s, m, args, below, meth, c, Q, D, dA, A, ad, X, hmn, rfl⟩ := K
  subst hq
  intro H locs la hS hL
  have hk := kk H locs la hS hL
  have e1 : f r = f (nI r).toNatClampNeg := (congrArg f (nI_clamp (Nat.lt_trans hr hb))).symm
  rw [e1] at hk
  exact va_zald X.1 X.2.1 X.2.2.2.2.2.1 hS.1 a t (cA := dA t) (n := len) (f := f) (by rw [pm_w_at ha, hcell]; rfl) (pm_tys_at ht) (vp_in_nI hr hb) d hk
theorem pm_zast (K : pm_K l cl tl gw nw own nm cc nL ret R G) {a t len r : Nat} {f : Nat → Int32} {x : Int32} (ha : a < n) (hcell : h a = pm_I t len f) (ht : tl[t]? = some .boolean) (hr : r < len) (hb : len < 2 ^ 31) (hx2 : x = 0 ∨ x = 1) (d : decode cc pc = .ok (.bastore, 1)) (hq : pc + 1 = q) (kk : G cells slots q ls st n (va_up h a (pm_I t len (upd f r x)))) : G cells slots pc ls (.int x :: .int (nI r) :: .ref a :: st) n h := by
  obtain ⟨p, e, s, m, args, below, meth, c, Q, D, dA, A, ad, X, hmn, rfl⟩ := K
  subst hq
  intro H locs la hS hL
  obtain ⟨hx, hb2, -, hown, hts, hK, -⟩ := X
  obtain ⟨hP, hD, hSS, hAd⟩ := hS
  have hin := vp_in_nI hr hb
  have ec := nI_clamp (Nat.lt_trans hr hb)
  have he : (pm_w dA ad n h)[a]? = some (ad a, .inl (dA t, len, .inl f)) := by rw [pm_w_at ha, hcell]; rfl
  refine W.zast hx hb2 (hP a _ he) ((hK.2 t _ (pm_tys_at ht)).1 len (fun j => .int (f j))) (fun q => by cases q) (by show ¬ (nI r < 0 ∨ (arrV _ _ _).slots.size ≤ _); rw [arrV_size]; exact hin) rfl rfl d fun H1 e1 z oq => ?_
  rw [(rw_boo hx2).1, ec] at e1
  rw [ec]
  have hat : va_at D cl (ad a, .inl (dA t, len, .inl (upd f r x))) H1 := by
    show H1[ad a]? = some (vp_cell _ _)
    rw [e1, vp_cell_i, vp_cell_i, arrV_store]
    congr 2
    funext q
    by_cases hq : q = r
    · subst hq
      simp [updV, upd]
    · simp [updV, upd, hq]
  have hP' := hP.set hD he hat oq
  have hD' := hD.set (e := .inl (dA t, len, .inl (upd f r x))) he
  have ew : (pm_w dA ad n h).set a (ad a, .inl (dA t, len, .inl (upd f r x))) = pm_w dA ad n (va_up h a (pm_I t len (upd f r x))) := by
    rw [← pm_w_set _ ha]; rfl
  rw [ew] at hP' hD'
  exact kk H1 _ la ⟨hP', hD', hSS.put z oq (hD.2 a _ he), by rw [z]; exact hAd⟩ hL
end MOB
/-- the reference's fields: ints by their numbers; its arrays are the cells 113 .. 127 -/
def mo_fs (g : Nat → Int32) : List Value := [.ref 113, .ref 114, .int (g 2), .int (g 3), .int (g 4), .ref 115, .ref 116, .ref 117, .ref 118, .int (g 9), .ref 119, .ref 120, .ref 121, .int (g 13), .ref 122, .int (g 15), .ref 123, .int (g 17), .int (g 18), .ref 124, .ref 125, .ref 126, .ref 127, .int (g 23), .int (g 24), .int (g 25), .int (g 26)]
def mo_ln (j : Nat) : Nat := [108, 3, 3, 3, 3, 3, 6, 18, 72, 75, 72, 3, 3, 3, 3].getD j 0
def mo_at (n : Nat) (h : pm_H) (g : Nat → Int32) (A : Nat → Nat → Int32) : Prop := 127 < n ∧ h 112 = pm_O cMod (mo_fs g) ∧ ∀ j, j < 15 → h (113 + j) = pm_I (if j = 6 then 4 else 0) (mo_ln j) (A j)
def mo_fr (h h' : pm_H) : Prop := ∀ q, q < 112 → h' q = h q
theorem mo_fr.tr {h h' h'' : pm_H} (a : mo_fr h h') (b : mo_fr h' h'') : mo_fr h h'' := fun q hq => (b q hq).trans (a q hq)
theorem mo_fr.rf {h : pm_H} : mo_fr h h := fun _ _ => rfl
def mo_ik (k : Nat) : Bool := decide (k ∈ [3, 4, 9, 13, 15, 17, 18, 23, 24, 25, 26])
theorem mo_set (g : Nat → Int32) (x : Int32) {k : Nat} (hk : mo_ik k = true) : (mo_fs g).set k (.int x) = mo_fs (upd g k x) := by
  have h := of_decide_eq_true hk
  simp only [List.mem_cons, List.not_mem_nil, or_false] at h
  rcases h with rfl | rfl | rfl | rfl | rfl | rfl | rfl | rfl | rfl | rfl | rfl <;> rfl
theorem mo_decl : ∀ k, k < 27 → (TX7 k).1 = RX7 := by decide +kernel
theorem mo_int : ∀ k, k < 27 → mo_ik k = true → tyX7 k = .int ∧ (TX7 k).2.2.2 = false := by decide +kernel
theorem mo_ik27 {k : Nat} (hk : mo_ik k = true) : k < 27 := by
  have h := of_decide_eq_true hk
  simp only [List.mem_cons, List.not_mem_nil, or_false] at h
  omega
section MOC
variable {l : Launch} {own nm : String} {cc : ByteArray} {nL : Nat} {ret : Option FieldType} {R : Room} {G : pm_Gt} {cells slots pc q n : Nat} {ls : List (Option Value)} {st : List Value} {h : pm_H} {g : Nat → Int32} {A : Nat → Nat → Int32}
theorem mo_at.fld (M : mo_at n h g A) (g' : Nat → Int32) : mo_at n (va_up h 112 (pm_O cMod (mo_fs g'))) g' A := ⟨M.1, pm_same _ _ _, fun j hj => pm_ne (by omega) (M.2.2 j hj)⟩
theorem mo_at.arr (M : mo_at n h g A) {j : Nat} (hj : j < 15) (f : Nat → Int32) : mo_at n (va_up h (113 + j) (pm_I (if j = 6 then 4 else 0) (mo_ln j) f)) g (va_up A j f) := by
  refine ⟨M.1, pm_ne (by omega) M.2.1, fun k hk => ?_⟩
  by_cases e : k = j
  · subst e
    rw [pm_same]
    simp [va_up]
  · rw [pm_ne (by omega) (M.2.2 k hk)]
    simp [va_up, e]
theorem mo_put (K : pm_K l bt_cl bt_tl gw bt_nw own nm cc nL ret R G) (M : mo_at n h g A) {index k : Nat} {x : Int32} (hk : mo_ik k = true) (hlink : Cond.fieldLink own index RX7 (TX7 k).2.1 (TX7 k).2.2.1 ∈ gw) (d : decode cc pc = .ok (.putfield index, 3)) (hq : pc + 3 = q) (kk : ∀ h', mo_at n h' (upd g k x) A → mo_fr h h' → G cells slots q ls st n h') : G cells slots pc ls (.int x :: .ref 112 :: st) n h :=
  pm_put K inX7 tyX7 tyX7_ok nmX7 rfl (mo_ik27 hk) hlink (mo_decl k (mo_ik27 hk)) (mo_int k (mo_ik27 hk) hk).2 (fun _ => by rw [(mo_int k (mo_ik27 hk) hk).1]; exact ⟨rfl, rfl⟩) (by have := M.1; omega) M.2.1 (mo_ik27 hk) (mo_set g x hk) d hq (kk _ (M.fld _) (fun q hq => pm_ne (by omega) rfl))
theorem mo_putB (K : pm_K l bt_cl bt_tl gw bt_nw own nm cc nL ret R G) (M : mo_at n h g A) {index : Nat} {x : Int32} (hx : x = 0 ∨ x = 1) (hlink : Cond.fieldLink own index RX7 (TX7 2).2.1 (TX7 2).2.2.1 ∈ gw) (d : decode cc pc = .ok (.putfield index, 3)) (hq : pc + 3 = q) (kk : ∀ h', mo_at n h' (upd g 2 x) A → mo_fr h h' → G cells slots q ls st n h') : G cells slots pc ls (.int x :: .ref 112 :: st) n h :=
  pm_put K inX7 tyX7 tyX7_ok nmX7 rfl (k := 2) (by decide) hlink rfl rfl (fun _ => rw_boo hx) (by have := M.1; omega) M.2.1 (Nat.le_of_ble_eq_true rfl) (fs' := mo_fs (upd g 2 x)) rfl d hq (kk _ (M.fld _) (fun q hq => pm_ne (by omega) rfl))
theorem mo_lnlt (j : Nat) : mo_ln j < 2 ^ 31 := by
  unfold mo_ln
  by_cases h : j < 15
  · rcases (show j = 0 ∨ j = 1 ∨ j = 2 ∨ j = 3 ∨ j = 4 ∨ j = 5 ∨ j = 6 ∨ j = 7 ∨ j = 8 ∨ j = 9 ∨ j = 10 ∨ j = 11 ∨ j = 12 ∨ j = 13 ∨ j = 14 by omega) with rfl | rfl | rfl | rfl | rfl | rfl | rfl | rfl | rfl | rfl | rfl | rfl | rfl | rfl | rfl <;> decide
  · rw [List.getD_eq_getElem?_getD, List.getElem?_eq_none (by simp; omega)]
    decide
theorem mo_iald (K : pm_K l bt_cl bt_tl gw bt_nw own nm cc nL ret R G) (M : mo_at n h g A) {j r : Nat} (hj : j < 15) (h6 : j ≠ 6) (hr : r < mo_ln j) (d : decode cc pc = .ok (.iaload, 1)) (hq : pc + 1 = q) (kk : G cells slots q ls (.int (A j r) :: st) n h) : G cells slots pc ls (.int (nI r) :: .ref (113 + j) :: st) n h :=
  pm_ialdN K (by have := M.1; omega) ((M.2.2 j hj).trans (by rw [if_neg h6])) rfl hr (mo_lnlt j) d hq kk
theorem mo_iast (K : pm_K l bt_cl bt_tl gw bt_nw own nm cc nL ret R G) (M : mo_at n h g A) {j r : Nat} {x : Int32} (hj : j < 15) (h6 : j ≠ 6) (hr : r < mo_ln j) (d : decode cc pc = .ok (.iastore, 1)) (hq : pc + 1 = q) (kk : ∀ h', mo_at n h' g (va_up A j (upd (A j) r x)) → mo_fr h h' → G cells slots q ls st n h') : G cells slots pc ls (.int x :: .int (nI r) :: .ref (113 + j) :: st) n h :=
  pm_iastN K (by have := M.1; omega) ((M.2.2 j hj).trans (by rw [if_neg h6])) rfl hr (mo_lnlt j) d hq (kk _ (by have := M.arr hj (upd (A j) r x); rw [if_neg h6] at this; exact this) (fun q hq => pm_ne (by omega) rfl))
theorem mo_zald (K : pm_K l bt_cl bt_tl gw bt_nw own nm cc nL ret R G) (M : mo_at n h g A) {r : Nat} (hr : r < 6) (d : decode cc pc = .ok (.baload, 1)) (hq : pc + 1 = q) (kk : G cells slots q ls (.int (A 6 r) :: st) n h) : G cells slots pc ls (.int (nI r) :: .ref 119 :: st) n h :=
  pm_zald K (by have := M.1; omega) (M.2.2 6 (by decide)) rfl hr (by decide) d hq kk
theorem mo_zast (K : pm_K l bt_cl bt_tl gw bt_nw own nm cc nL ret R G) (M : mo_at n h g A) {r : Nat} {x : Int32} (hr : r < 6) (hx : x = 0 ∨ x = 1) (d : decode cc pc = .ok (.bastore, 1)) (hq : pc + 1 = q) (kk : ∀ h', mo_at n h' g (va_up A 6 (upd (A 6) r x)) → mo_fr h h' → G cells slots q ls st n h') : G cells slots pc ls (.int x :: .int (nI r) :: .ref 119 :: st) n h :=
  pm_zast K (by have := M.1; omega) (M.2.2 6 (by decide)) rfl hr (by decide) hx d hq (kk _ (M.arr (j := 6) (by decide) (upd (A 6) r x)) (fun q hq => pm_ne (by omega) rfl))
end MOC
end
