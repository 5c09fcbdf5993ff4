section
-- ===== PART A: goes FIRST, ahead of the names: the tables' words, and 'selects' of the private methods out of them =====
/-- a private method of a class that the tables say can be made, by its rows of tables_1 -/
def lw_okq (q : MethodName × Nat) : Prop := (q.1.cls ≠ "java/lang/invoke/MethodHandle" ∧ q.1.cls ≠ "java/lang/invoke/VarHandle") ∧ Cond.instantiable q.1.cls q.2 ∈ tables_1 ∧ Cond.privateMethod q.1 ∈ tables_1 ∧ Cond.instanceMethod q.1 ∈ tables_1
theorem lw_p0 : lw_okq (⟨"LeanDiagonals$Reader", "skipBlanks", "()V"⟩, 6) := ⟨⟨by decide +kernel, by decide +kernel⟩, List.mem_of_getElem? (i := 83) (by decide +kernel), List.mem_of_getElem? (i := 254) (by decide +kernel), List.mem_of_getElem? (i := 255) (by decide +kernel)⟩
theorem lw_p1 : lw_okq (⟨"LeanDiagonals$Reader", "letterHere", "()I"⟩, 6) := ⟨⟨by decide +kernel, by decide +kernel⟩, List.mem_of_getElem? (i := 83) (by decide +kernel), List.mem_of_getElem? (i := 258) (by decide +kernel), List.mem_of_getElem? (i := 259) (by decide +kernel)⟩
theorem lw_p2 : lw_okq (⟨"LeanDiagonals$Reader", "faultHere", "()I"⟩, 6) := ⟨⟨by decide +kernel, by decide +kernel⟩, List.mem_of_getElem? (i := 83) (by decide +kernel), List.mem_of_getElem? (i := 265) (by decide +kernel), List.mem_of_getElem? (i := 266) (by decide +kernel)⟩
theorem lw_p3 : lw_okq (⟨"LeanDiagonals$Reader", "readRow", "()I"⟩, 6) := ⟨⟨by decide +kernel, by decide +kernel⟩, List.mem_of_getElem? (i := 83) (by decide +kernel), List.mem_of_getElem? (i := 269) (by decide +kernel), List.mem_of_getElem? (i := 270) (by decide +kernel)⟩
theorem lw_p4 : lw_okq (⟨"LeanDiagonals$Reader", "readNumber", "()I"⟩, 6) := ⟨⟨by decide +kernel, by decide +kernel⟩, List.mem_of_getElem? (i := 83) (by decide +kernel), List.mem_of_getElem? (i := 273) (by decide +kernel), List.mem_of_getElem? (i := 274) (by decide +kernel)⟩
theorem lw_p5 : lw_okq (⟨"LeanDiagonals$Reader", "isDigitHere", "()Z"⟩, 6) := ⟨⟨by decide +kernel, by decide +kernel⟩, List.mem_of_getElem? (i := 83) (by decide +kernel), List.mem_of_getElem? (i := 277) (by decide +kernel), List.mem_of_getElem? (i := 278) (by decide +kernel)⟩
theorem lw_p6 : lw_okq (⟨"LeanDiagonals$Reader", "clearSide", "()V"⟩, 6) := ⟨⟨by decide +kernel, by decide +kernel⟩, List.mem_of_getElem? (i := 83) (by decide +kernel), List.mem_of_getElem? (i := 281) (by decide +kernel), List.mem_of_getElem? (i := 282) (by decide +kernel)⟩
theorem lw_p7 : lw_okq (⟨"LeanDiagonals$Reader", "readSide", "()I"⟩, 6) := ⟨⟨by decide +kernel, by decide +kernel⟩, List.mem_of_getElem? (i := 83) (by decide +kernel), List.mem_of_getElem? (i := 285) (by decide +kernel), List.mem_of_getElem? (i := 286) (by decide +kernel)⟩
theorem lw_p8 : lw_okq (⟨"LeanDiagonals", "isPlace", "(I)Z"⟩, 11) := ⟨⟨by decide +kernel, by decide +kernel⟩, List.mem_of_getElem? (i := 13) (by decide +kernel), List.mem_of_getElem? (i := 300) (by decide +kernel), List.mem_of_getElem? (i := 301) (by decide +kernel)⟩
theorem lw_p9 : lw_okq (⟨"LeanDiagonals", "isWithin", "(I)Z"⟩, 11) := ⟨⟨by decide +kernel, by decide +kernel⟩, List.mem_of_getElem? (i := 13) (by decide +kernel), List.mem_of_getElem? (i := 309) (by decide +kernel), List.mem_of_getElem? (i := 310) (by decide +kernel)⟩
theorem lw_p10 : lw_okq (⟨"LeanDiagonals$Setting", "placeAt", "(III)I"⟩, 5) := ⟨⟨by decide +kernel, by decide +kernel⟩, List.mem_of_getElem? (i := 27) (by decide +kernel), List.mem_of_getElem? (i := 321) (by decide +kernel), List.mem_of_getElem? (i := 322) (by decide +kernel)⟩
theorem lw_p11 : lw_okq (⟨"LeanDiagonals", "rankOfMatrix", "()I"⟩, 11) := ⟨⟨by decide +kernel, by decide +kernel⟩, List.mem_of_getElem? (i := 13) (by decide +kernel), List.mem_of_getElem? (i := 332) (by decide +kernel), List.mem_of_getElem? (i := 333) (by decide +kernel)⟩
theorem lw_p12 : lw_okq (⟨"LeanDiagonals$Grid", "findPivot", "(IIII)Z"⟩, 4) := ⟨⟨by decide +kernel, by decide +kernel⟩, List.mem_of_getElem? (i := 112) (by decide +kernel), List.mem_of_getElem? (i := 353) (by decide +kernel), List.mem_of_getElem? (i := 354) (by decide +kernel)⟩
theorem lw_p13 : lw_okq (⟨"LeanDiagonals$Grid", "takeAway", "(IIIII)V"⟩, 4) := ⟨⟨by decide +kernel, by decide +kernel⟩, List.mem_of_getElem? (i := 112) (by decide +kernel), List.mem_of_getElem? (i := 357) (by decide +kernel), List.mem_of_getElem? (i := 358) (by decide +kernel)⟩
theorem lw_p14 : lw_okq (⟨"LeanDiagonals$Grid", "clearOthers", "(IIII)V"⟩, 4) := ⟨⟨by decide +kernel, by decide +kernel⟩, List.mem_of_getElem? (i := 112) (by decide +kernel), List.mem_of_getElem? (i := 361) (by decide +kernel), List.mem_of_getElem? (i := 362) (by decide +kernel)⟩
theorem lw_p15 : lw_okq (⟨"LeanDiagonals", "singularCorners", "()I"⟩, 11) := ⟨⟨by decide +kernel, by decide +kernel⟩, List.mem_of_getElem? (i := 13) (by decide +kernel), List.mem_of_getElem? (i := 365) (by decide +kernel), List.mem_of_getElem? (i := 366) (by decide +kernel)⟩
def lw_privs_1 : List (MethodName × Nat) := [(⟨"LeanDiagonals$Reader", "skipBlanks", "()V"⟩, 6), (⟨"LeanDiagonals$Reader", "letterHere", "()I"⟩, 6), (⟨"LeanDiagonals$Reader", "faultHere", "()I"⟩, 6), (⟨"LeanDiagonals$Reader", "readRow", "()I"⟩, 6), (⟨"LeanDiagonals$Reader", "readNumber", "()I"⟩, 6), (⟨"LeanDiagonals$Reader", "isDigitHere", "()Z"⟩, 6), (⟨"LeanDiagonals$Reader", "clearSide", "()V"⟩, 6), (⟨"LeanDiagonals$Reader", "readSide", "()I"⟩, 6), (⟨"LeanDiagonals", "isPlace", "(I)Z"⟩, 11), (⟨"LeanDiagonals", "isWithin", "(I)Z"⟩, 11), (⟨"LeanDiagonals$Setting", "placeAt", "(III)I"⟩, 5), (⟨"LeanDiagonals", "rankOfMatrix", "()I"⟩, 11), (⟨"LeanDiagonals$Grid", "findPivot", "(IIII)Z"⟩, 4), (⟨"LeanDiagonals$Grid", "takeAway", "(IIIII)V"⟩, 4), (⟨"LeanDiagonals$Grid", "clearOthers", "(IIII)V"⟩, 4), (⟨"LeanDiagonals", "singularCorners", "()I"⟩, 11)]
theorem lw_r1 : ∀ q ∈ lw_privs_1, lw_okq q := List.forall_mem_cons.mpr ⟨lw_p0, List.forall_mem_cons.mpr ⟨lw_p1, List.forall_mem_cons.mpr ⟨lw_p2, List.forall_mem_cons.mpr ⟨lw_p3, List.forall_mem_cons.mpr ⟨lw_p4, List.forall_mem_cons.mpr ⟨lw_p5, List.forall_mem_cons.mpr ⟨lw_p6, List.forall_mem_cons.mpr ⟨lw_p7, List.forall_mem_cons.mpr ⟨lw_p8, List.forall_mem_cons.mpr ⟨lw_p9, List.forall_mem_cons.mpr ⟨lw_p10, List.forall_mem_cons.mpr ⟨lw_p11, List.forall_mem_cons.mpr ⟨lw_p12, List.forall_mem_cons.mpr ⟨lw_p13, List.forall_mem_cons.mpr ⟨lw_p14, List.forall_mem_cons.mpr ⟨lw_p15, fun _ h => absurd h List.not_mem_nil⟩⟩⟩⟩⟩⟩⟩⟩⟩⟩⟩⟩⟩⟩⟩⟩
theorem lw_p16 : lw_okq (⟨"LeanDiagonals", "cornerOf", "(LLeanDiagonals$Setting;I)I"⟩, 11) := ⟨⟨by decide +kernel, by decide +kernel⟩, List.mem_of_getElem? (i := 13) (by decide +kernel), List.mem_of_getElem? (i := 369) (by decide +kernel), List.mem_of_getElem? (i := 370) (by decide +kernel)⟩
theorem lw_p17 : lw_okq (⟨"LeanDiagonals", "wholeCorner", "()I"⟩, 11) := ⟨⟨by decide +kernel, by decide +kernel⟩, List.mem_of_getElem? (i := 13) (by decide +kernel), List.mem_of_getElem? (i := 377) (by decide +kernel), List.mem_of_getElem? (i := 378) (by decide +kernel)⟩
theorem lw_p18 : lw_okq (⟨"LeanDiagonals", "findLaw", "()I"⟩, 11) := ⟨⟨by decide +kernel, by decide +kernel⟩, List.mem_of_getElem? (i := 13) (by decide +kernel), List.mem_of_getElem? (i := 381) (by decide +kernel), List.mem_of_getElem? (i := 382) (by decide +kernel)⟩
theorem lw_p19 : lw_okq (⟨"LeanDiagonals", "fitsLaw", "(I)Z"⟩, 11) := ⟨⟨by decide +kernel, by decide +kernel⟩, List.mem_of_getElem? (i := 13) (by decide +kernel), List.mem_of_getElem? (i := 385) (by decide +kernel), List.mem_of_getElem? (i := 386) (by decide +kernel)⟩
theorem lw_p20 : lw_okq (⟨"LeanDiagonals", "isNumber", "(J)Z"⟩, 11) := ⟨⟨by decide +kernel, by decide +kernel⟩, List.mem_of_getElem? (i := 13) (by decide +kernel), List.mem_of_getElem? (i := 394) (by decide +kernel), List.mem_of_getElem? (i := 395) (by decide +kernel)⟩
theorem lw_p21 : lw_okq (⟨"LeanDiagonals", "solveMatrix", "()J"⟩, 11) := ⟨⟨by decide +kernel, by decide +kernel⟩, List.mem_of_getElem? (i := 13) (by decide +kernel), List.mem_of_getElem? (i := 472) (by decide +kernel), List.mem_of_getElem? (i := 473) (by decide +kernel)⟩
theorem lw_p22 : lw_okq (⟨"LeanDiagonals", "leastMender", "(I)I"⟩, 11) := ⟨⟨by decide +kernel, by decide +kernel⟩, List.mem_of_getElem? (i := 13) (by decide +kernel), List.mem_of_getElem? (i := 495) (by decide +kernel), List.mem_of_getElem? (i := 496) (by decide +kernel)⟩
theorem lw_p23 : lw_okq (⟨"LeanDiagonals", "countWipes", "()V"⟩, 11) := ⟨⟨by decide +kernel, by decide +kernel⟩, List.mem_of_getElem? (i := 13) (by decide +kernel), List.mem_of_getElem? (i := 517) (by decide +kernel), List.mem_of_getElem? (i := 518) (by decide +kernel)⟩
theorem lw_p24 : lw_okq (⟨"LeanDiagonals", "refusalOf", "(IIII)I"⟩, 11) := ⟨⟨by decide +kernel, by decide +kernel⟩, List.mem_of_getElem? (i := 13) (by decide +kernel), List.mem_of_getElem? (i := 557) (by decide +kernel), List.mem_of_getElem? (i := 558) (by decide +kernel)⟩
theorem lw_p25 : lw_okq (⟨"LeanDiagonals", "readNumbers", "(LLeanDiagonals$Sheet;I[I)Z"⟩, 11) := ⟨⟨by decide +kernel, by decide +kernel⟩, List.mem_of_getElem? (i := 13) (by decide +kernel), List.mem_of_getElem? (i := 575) (by decide +kernel), List.mem_of_getElem? (i := 576) (by decide +kernel)⟩
theorem lw_p26 : lw_okq (⟨"LeanDiagonals", "comesBy", "(I)Z"⟩, 11) := ⟨⟨by decide +kernel, by decide +kernel⟩, List.mem_of_getElem? (i := 13) (by decide +kernel), List.mem_of_getElem? (i := 579) (by decide +kernel), List.mem_of_getElem? (i := 580) (by decide +kernel)⟩
theorem lw_p27 : lw_okq (⟨"LeanDiagonals", "rowTimesGiven", "(II)I"⟩, 11) := ⟨⟨by decide +kernel, by decide +kernel⟩, List.mem_of_getElem? (i := 13) (by decide +kernel), List.mem_of_getElem? (i := 583) (by decide +kernel), List.mem_of_getElem? (i := 584) (by decide +kernel)⟩
theorem lw_p28 : lw_okq (⟨"LeanDiagonalsModel", "isLine", "(I)Z"⟩, 19) := ⟨⟨by decide +kernel, by decide +kernel⟩, List.mem_of_getElem? (i := 626) (by decide +kernel), List.mem_of_getElem? (i := 706) (by decide +kernel), List.mem_of_getElem? (i := 707) (by decide +kernel)⟩
theorem lw_p29 : lw_okq (⟨"LeanDiagonalsModel", "lines", "()I"⟩, 19) := ⟨⟨by decide +kernel, by decide +kernel⟩, List.mem_of_getElem? (i := 626) (by decide +kernel), List.mem_of_getElem? (i := 710) (by decide +kernel), List.mem_of_getElem? (i := 711) (by decide +kernel)⟩
theorem lw_p30 : lw_okq (⟨"LeanDiagonalsModel", "isRow", "(I)Z"⟩, 19) := ⟨⟨by decide +kernel, by decide +kernel⟩, List.mem_of_getElem? (i := 626) (by decide +kernel), List.mem_of_getElem? (i := 718) (by decide +kernel), List.mem_of_getElem? (i := 719) (by decide +kernel)⟩
theorem lw_p31 : lw_okq (⟨"LeanDiagonalsModel", "entryBy", "(III)I"⟩, 19) := ⟨⟨by decide +kernel, by decide +kernel⟩, List.mem_of_getElem? (i := 626) (by decide +kernel), List.mem_of_getElem? (i := 726) (by decide +kernel), List.mem_of_getElem? (i := 727) (by decide +kernel)⟩
def lw_privs_2 : List (MethodName × Nat) := [(⟨"LeanDiagonals", "cornerOf", "(LLeanDiagonals$Setting;I)I"⟩, 11), (⟨"LeanDiagonals", "wholeCorner", "()I"⟩, 11), (⟨"LeanDiagonals", "findLaw", "()I"⟩, 11), (⟨"LeanDiagonals", "fitsLaw", "(I)Z"⟩, 11), (⟨"LeanDiagonals", "isNumber", "(J)Z"⟩, 11), (⟨"LeanDiagonals", "solveMatrix", "()J"⟩, 11), (⟨"LeanDiagonals", "leastMender", "(I)I"⟩, 11), (⟨"LeanDiagonals", "countWipes", "()V"⟩, 11), (⟨"LeanDiagonals", "refusalOf", "(IIII)I"⟩, 11), (⟨"LeanDiagonals", "readNumbers", "(LLeanDiagonals$Sheet;I[I)Z"⟩, 11), (⟨"LeanDiagonals", "comesBy", "(I)Z"⟩, 11), (⟨"LeanDiagonals", "rowTimesGiven", "(II)I"⟩, 11), (⟨"LeanDiagonalsModel", "isLine", "(I)Z"⟩, 19), (⟨"LeanDiagonalsModel", "lines", "()I"⟩, 19), (⟨"LeanDiagonalsModel", "isRow", "(I)Z"⟩, 19), (⟨"LeanDiagonalsModel", "entryBy", "(III)I"⟩, 19)]
theorem lw_r2 : ∀ q ∈ lw_privs_2, lw_okq q := List.forall_mem_cons.mpr ⟨lw_p16, List.forall_mem_cons.mpr ⟨lw_p17, List.forall_mem_cons.mpr ⟨lw_p18, List.forall_mem_cons.mpr ⟨lw_p19, List.forall_mem_cons.mpr ⟨lw_p20, List.forall_mem_cons.mpr ⟨lw_p21, List.forall_mem_cons.mpr ⟨lw_p22, List.forall_mem_cons.mpr ⟨lw_p23, List.forall_mem_cons.mpr ⟨lw_p24, List.forall_mem_cons.mpr ⟨lw_p25, List.forall_mem_cons.mpr ⟨lw_p26, List.forall_mem_cons.mpr ⟨lw_p27, List.forall_mem_cons.mpr ⟨lw_p28, List.forall_mem_cons.mpr ⟨lw_p29, List.forall_mem_cons.mpr ⟨lw_p30, List.forall_mem_cons.mpr ⟨lw_p31, fun _ h => absurd h List.not_mem_nil⟩⟩⟩⟩⟩⟩⟩⟩⟩⟩⟩⟩⟩⟩⟩⟩
theorem lw_p32 : lw_okq (⟨"LeanDiagonalsModel", "rankOf", "()I"⟩, 19) := ⟨⟨by decide +kernel, by decide +kernel⟩, List.mem_of_getElem? (i := 626) (by decide +kernel), List.mem_of_getElem? (i := 734) (by decide +kernel), List.mem_of_getElem? (i := 735) (by decide +kernel)⟩
theorem lw_p33 : lw_okq (⟨"LeanDiagonalsModel", "solves", "(I)Z"⟩, 19) := ⟨⟨by decide +kernel, by decide +kernel⟩, List.mem_of_getElem? (i := 626) (by decide +kernel), List.mem_of_getElem? (i := 738) (by decide +kernel), List.mem_of_getElem? (i := 739) (by decide +kernel)⟩
theorem lw_p34 : lw_okq (⟨"LeanDiagonalsModel", "fills", "(II)V"⟩, 19) := ⟨⟨by decide +kernel, by decide +kernel⟩, List.mem_of_getElem? (i := 626) (by decide +kernel), List.mem_of_getElem? (i := 742) (by decide +kernel), List.mem_of_getElem? (i := 743) (by decide +kernel)⟩
theorem lw_p35 : lw_okq (⟨"LeanDiagonalsModel", "worksOut", "(II)Z"⟩, 19) := ⟨⟨by decide +kernel, by decide +kernel⟩, List.mem_of_getElem? (i := 626) (by decide +kernel), List.mem_of_getElem? (i := 746) (by decide +kernel), List.mem_of_getElem? (i := 747) (by decide +kernel)⟩
theorem lw_p36 : lw_okq (⟨"LeanDiagonalsModel", "pivot", "(III)I"⟩, 19) := ⟨⟨by decide +kernel, by decide +kernel⟩, List.mem_of_getElem? (i := 626) (by decide +kernel), List.mem_of_getElem? (i := 750) (by decide +kernel), List.mem_of_getElem? (i := 751) (by decide +kernel)⟩
theorem lw_p37 : lw_okq (⟨"LeanDiagonalsModel", "swaps", "(II)V"⟩, 19) := ⟨⟨by decide +kernel, by decide +kernel⟩, List.mem_of_getElem? (i := 626) (by decide +kernel), List.mem_of_getElem? (i := 754) (by decide +kernel), List.mem_of_getElem? (i := 755) (by decide +kernel)⟩
theorem lw_p38 : lw_okq (⟨"LeanDiagonalsModel", "inverseOf", "(I)I"⟩, 19) := ⟨⟨by decide +kernel, by decide +kernel⟩, List.mem_of_getElem? (i := 626) (by decide +kernel), List.mem_of_getElem? (i := 758) (by decide +kernel), List.mem_of_getElem? (i := 759) (by decide +kernel)⟩
theorem lw_p39 : lw_okq (⟨"LeanDiagonalsModel", "multiplies", "(II)V"⟩, 19) := ⟨⟨by decide +kernel, by decide +kernel⟩, List.mem_of_getElem? (i := 626) (by decide +kernel), List.mem_of_getElem? (i := 762) (by decide +kernel), List.mem_of_getElem? (i := 763) (by decide +kernel)⟩
theorem lw_p40 : lw_okq (⟨"LeanDiagonalsModel", "takes", "(III)V"⟩, 19) := ⟨⟨by decide +kernel, by decide +kernel⟩, List.mem_of_getElem? (i := 626) (by decide +kernel), List.mem_of_getElem? (i := 766) (by decide +kernel), List.mem_of_getElem? (i := 767) (by decide +kernel)⟩
theorem lw_p41 : lw_okq (⟨"LeanDiagonalsModel", "singular", "()I"⟩, 19) := ⟨⟨by decide +kernel, by decide +kernel⟩, List.mem_of_getElem? (i := 626) (by decide +kernel), List.mem_of_getElem? (i := 770) (by decide +kernel), List.mem_of_getElem? (i := 771) (by decide +kernel)⟩
theorem lw_p42 : lw_okq (⟨"LeanDiagonalsModel", "cornerOf", "(I)I"⟩, 19) := ⟨⟨by decide +kernel, by decide +kernel⟩, List.mem_of_getElem? (i := 626) (by decide +kernel), List.mem_of_getElem? (i := 774) (by decide +kernel), List.mem_of_getElem? (i := 775) (by decide +kernel)⟩
theorem lw_p43 : lw_okq (⟨"LeanDiagonalsModel", "law", "()I"⟩, 19) := ⟨⟨by decide +kernel, by decide +kernel⟩, List.mem_of_getElem? (i := 626) (by decide +kernel), List.mem_of_getElem? (i := 778) (by decide +kernel), List.mem_of_getElem? (i := 779) (by decide +kernel)⟩
theorem lw_p44 : lw_okq (⟨"LeanDiagonalsModel", "isLaw", "(I)Z"⟩, 19) := ⟨⟨by decide +kernel, by decide +kernel⟩, List.mem_of_getElem? (i := 626) (by decide +kernel), List.mem_of_getElem? (i := 782) (by decide +kernel), List.mem_of_getElem? (i := 783) (by decide +kernel)⟩
theorem lw_p45 : lw_okq (⟨"LeanDiagonalsModel", "least", "(II)I"⟩, 19) := ⟨⟨by decide +kernel, by decide +kernel⟩, List.mem_of_getElem? (i := 626) (by decide +kernel), List.mem_of_getElem? (i := 786) (by decide +kernel), List.mem_of_getElem? (i := 787) (by decide +kernel)⟩
theorem lw_p46 : lw_okq (⟨"LeanDiagonalsModel", "here", "()I"⟩, 19) := ⟨⟨by decide +kernel, by decide +kernel⟩, List.mem_of_getElem? (i := 626) (by decide +kernel), List.mem_of_getElem? (i := 800) (by decide +kernel), List.mem_of_getElem? (i := 801) (by decide +kernel)⟩
theorem lw_p47 : lw_okq (⟨"LeanDiagonalsModel", "fault", "()I"⟩, 19) := ⟨⟨by decide +kernel, by decide +kernel⟩, List.mem_of_getElem? (i := 626) (by decide +kernel), List.mem_of_getElem? (i := 807) (by decide +kernel), List.mem_of_getElem? (i := 808) (by decide +kernel)⟩
def lw_privs_3 : List (MethodName × Nat) := [(⟨"LeanDiagonalsModel", "rankOf", "()I"⟩, 19), (⟨"LeanDiagonalsModel", "solves", "(I)Z"⟩, 19), (⟨"LeanDiagonalsModel", "fills", "(II)V"⟩, 19), (⟨"LeanDiagonalsModel", "worksOut", "(II)Z"⟩, 19), (⟨"LeanDiagonalsModel", "pivot", "(III)I"⟩, 19), (⟨"LeanDiagonalsModel", "swaps", "(II)V"⟩, 19), (⟨"LeanDiagonalsModel", "inverseOf", "(I)I"⟩, 19), (⟨"LeanDiagonalsModel", "multiplies", "(II)V"⟩, 19), (⟨"LeanDiagonalsModel", "takes", "(III)V"⟩, 19), (⟨"LeanDiagonalsModel", "singular", "()I"⟩, 19), (⟨"LeanDiagonalsModel", "cornerOf", "(I)I"⟩, 19), (⟨"LeanDiagonalsModel", "law", "()I"⟩, 19), (⟨"LeanDiagonalsModel", "isLaw", "(I)Z"⟩, 19), (⟨"LeanDiagonalsModel", "least", "(II)I"⟩, 19), (⟨"LeanDiagonalsModel", "here", "()I"⟩, 19), (⟨"LeanDiagonalsModel", "fault", "()I"⟩, 19)]
theorem lw_r3 : ∀ q ∈ lw_privs_3, lw_okq q := List.forall_mem_cons.mpr ⟨lw_p32, List.forall_mem_cons.mpr ⟨lw_p33, List.forall_mem_cons.mpr ⟨lw_p34, List.forall_mem_cons.mpr ⟨lw_p35, List.forall_mem_cons.mpr ⟨lw_p36, List.forall_mem_cons.mpr ⟨lw_p37, List.forall_mem_cons.mpr ⟨lw_p38, List.forall_mem_cons.mpr ⟨lw_p39, List.forall_mem_cons.mpr ⟨lw_p40, List.forall_mem_cons.mpr ⟨lw_p41, List.forall_mem_cons.mpr ⟨lw_p42, List.forall_mem_cons.mpr ⟨lw_p43, List.forall_mem_cons.mpr ⟨lw_p44, List.forall_mem_cons.mpr ⟨lw_p45, List.forall_mem_cons.mpr ⟨lw_p46, List.forall_mem_cons.mpr ⟨lw_p47, fun _ h => absurd h List.not_mem_nil⟩⟩⟩⟩⟩⟩⟩⟩⟩⟩⟩⟩⟩⟩⟩⟩
theorem lw_p48 : lw_okq (⟨"LeanDiagonalsModel", "numbers", "(II)I"⟩, 19) := ⟨⟨by decide +kernel, by decide +kernel⟩, List.mem_of_getElem? (i := 626) (by decide +kernel), List.mem_of_getElem? (i := 811) (by decide +kernel), List.mem_of_getElem? (i := 812) (by decide +kernel)⟩
theorem lw_p49 : lw_okq (⟨"LeanDiagonalsModel", "number", "()I"⟩, 19) := ⟨⟨by decide +kernel, by decide +kernel⟩, List.mem_of_getElem? (i := 626) (by decide +kernel), List.mem_of_getElem? (i := 815) (by decide +kernel), List.mem_of_getElem? (i := 816) (by decide +kernel)⟩
theorem lw_p50 : lw_okq (⟨"LeanDiagonalsModel", "isNumber", "(J)Z"⟩, 19) := ⟨⟨by decide +kernel, by decide +kernel⟩, List.mem_of_getElem? (i := 626) (by decide +kernel), List.mem_of_getElem? (i := 821) (by decide +kernel), List.mem_of_getElem? (i := 822) (by decide +kernel)⟩
theorem lw_p51 : lw_okq (⟨"LeanDiagonalsModel", "has", "(I)Z"⟩, 19) := ⟨⟨by decide +kernel, by decide +kernel⟩, List.mem_of_getElem? (i := 626) (by decide +kernel), List.mem_of_getElem? (i := 825) (by decide +kernel), List.mem_of_getElem? (i := 826) (by decide +kernel)⟩
theorem lw_p52 : lw_okq (⟨"LeanDiagonalsModel", "notes", "()V"⟩, 19) := ⟨⟨by decide +kernel, by decide +kernel⟩, List.mem_of_getElem? (i := 626) (by decide +kernel), List.mem_of_getElem? (i := 833) (by decide +kernel), List.mem_of_getElem? (i := 834) (by decide +kernel)⟩
theorem lw_p53 : lw_okq (⟨"LeanDiagonalsModel", "ways", "()J"⟩, 19) := ⟨⟨by decide +kernel, by decide +kernel⟩, List.mem_of_getElem? (i := 626) (by decide +kernel), List.mem_of_getElem? (i := 888) (by decide +kernel), List.mem_of_getElem? (i := 889) (by decide +kernel)⟩
theorem lw_p54 : lw_okq (⟨"LeanDiagonalsModel", "mends", "(I)I"⟩, 19) := ⟨⟨by decide +kernel, by decide +kernel⟩, List.mem_of_getElem? (i := 626) (by decide +kernel), List.mem_of_getElem? (i := 905) (by decide +kernel), List.mem_of_getElem? (i := 906) (by decide +kernel)⟩
theorem lw_p55 : lw_okq (⟨"LeanDiagonalsModel", "why", "(IIII)I"⟩, 19) := ⟨⟨by decide +kernel, by decide +kernel⟩, List.mem_of_getElem? (i := 626) (by decide +kernel), List.mem_of_getElem? (i := 947) (by decide +kernel), List.mem_of_getElem? (i := 948) (by decide +kernel)⟩
theorem lw_p56 : lw_okq (⟨"LeanDiagonalsModel", "areNumbers", "(II)Z"⟩, 19) := ⟨⟨by decide +kernel, by decide +kernel⟩, List.mem_of_getElem? (i := 626) (by decide +kernel), List.mem_of_getElem? (i := 962) (by decide +kernel), List.mem_of_getElem? (i := 963) (by decide +kernel)⟩
theorem lw_p57 : lw_okq (⟨"LeanDiagonalsModel", "comes", "(III)I"⟩, 19) := ⟨⟨by decide +kernel, by decide +kernel⟩, List.mem_of_getElem? (i := 626) (by decide +kernel), List.mem_of_getElem? (i := 966) (by decide +kernel), List.mem_of_getElem? (i := 967) (by decide +kernel)⟩
def lw_privs_4 : List (MethodName × Nat) := [(⟨"LeanDiagonalsModel", "numbers", "(II)I"⟩, 19), (⟨"LeanDiagonalsModel", "number", "()I"⟩, 19), (⟨"LeanDiagonalsModel", "isNumber", "(J)Z"⟩, 19), (⟨"LeanDiagonalsModel", "has", "(I)Z"⟩, 19), (⟨"LeanDiagonalsModel", "notes", "()V"⟩, 19), (⟨"LeanDiagonalsModel", "ways", "()J"⟩, 19), (⟨"LeanDiagonalsModel", "mends", "(I)I"⟩, 19), (⟨"LeanDiagonalsModel", "why", "(IIII)I"⟩, 19), (⟨"LeanDiagonalsModel", "areNumbers", "(II)Z"⟩, 19), (⟨"LeanDiagonalsModel", "comes", "(III)I"⟩, 19)]
theorem lw_r4 : ∀ q ∈ lw_privs_4, lw_okq q := List.forall_mem_cons.mpr ⟨lw_p48, List.forall_mem_cons.mpr ⟨lw_p49, List.forall_mem_cons.mpr ⟨lw_p50, List.forall_mem_cons.mpr ⟨lw_p51, List.forall_mem_cons.mpr ⟨lw_p52, List.forall_mem_cons.mpr ⟨lw_p53, List.forall_mem_cons.mpr ⟨lw_p54, List.forall_mem_cons.mpr ⟨lw_p55, List.forall_mem_cons.mpr ⟨lw_p56, List.forall_mem_cons.mpr ⟨lw_p57, fun _ h => absurd h List.not_mem_nil⟩⟩⟩⟩⟩⟩⟩⟩⟩⟩
def lw_privs : List (MethodName × Nat) := lw_privs_1 ++ (lw_privs_2 ++ (lw_privs_3 ++ (lw_privs_4)))
def lw_tbl : List Cond := k2_sels lw_privs ++ tables_1
theorem lw_privs_ok : ∀ q ∈ lw_privs, lw_okq q := by
  show ∀ q ∈ lw_privs_1 ++ (lw_privs_2 ++ (lw_privs_3 ++ (lw_privs_4))), lw_okq q
  exact List.forall_mem_append.mpr ⟨lw_r1, List.forall_mem_append.mpr ⟨lw_r2, List.forall_mem_append.mpr ⟨lw_r3, lw_r4⟩⟩⟩
end
section
/-! ===== BEGIN words of one list among another's, by their places ===== -/
theorem goodIn_r {big : List Cond} (ws : List Cond) (ps : List Nat) (hp : ws = ps.filterMap (fun i => big[i]?)) (h : ws.all goodWord = true) : GoodIn big ws := by
  intro w hw
  have h1 := List.all_eq_true.mp h w hw
  rw [hp] at hw
  obtain ⟨i, -, hi⟩ := List.mem_filterMap.mp hw
  have hm : w ∈ big := by first | exact List.mem_of_getElem? hi | exact List.getElem?_mem hi
  exact ⟨hm, good_of_word h1⟩
theorem goodIn_app {big a b : List Cond} (ha : GoodIn big a) (hb : GoodIn big b) : GoodIn big (a ++ b) := fun w h => (List.mem_append.mp h).elim (ha w) (hb w)
theorem goodIn_ca {big a b : List Cond} {c : Cond} (ha : GoodIn big (c :: a)) (hb : GoodIn big b) : GoodIn big (c :: (a ++ b)) := fun w h => (List.mem_cons.mp h).elim (fun e => ha w (List.mem_cons.mpr (Or.inl e))) (fun h => (List.mem_append.mp h).elim (fun h => ha w (List.mem_cons.mpr (Or.inr h))) (hb w))
theorem goodIn_sub {big ws : List Cond} (hm : ∀ w ∈ ws, w ∈ big) (h : ws.all goodWord = true) : GoodIn big ws := fun w hw => ⟨hm w hw, good_of_word (List.all_eq_true.mp h w hw)⟩
/-! ===== END ===== -/

def RX0 : String := "LeanDiagonals$Book"
def TX0 : u_T := fun k => match k with
  | 0 => ("LeanDiagonals$Book", "prime", "I", false)
  | 1 => ("LeanDiagonals$Book", "known", "I", false)
  | 2 => ("LeanDiagonals$Book", "now", "LLeanDiagonals$Setting;", true)
  | 3 => ("LeanDiagonals$Book", "oldest", "I", false)
  | _ => ("LeanDiagonals$Book", "past", "[LLeanDiagonals$Setting;", true)
def tyX0 : Nat → FieldType := fun k => match k with
  | 0 => .int
  | 1 => .int
  | 2 => .object "LeanDiagonals$Setting"
  | 3 => .int
  | _ => .array (.object "LeanDiagonals$Setting")
abbrev wsX00 : List Cond := u_ws RX0 TX0 5
theorem nmX0 : ∀ a, a < 5 → ∀ b, b < 5 → a ≠ b → (TX0 a).2.1 ≠ (TX0 b).2.1 := by decide +kernel
theorem tyX0_ok : ∀ k, k < 5 → parseFieldDescriptor (TX0 k).2.2.1 = some (tyX0 k) := by decide +kernel
abbrev cX0_init : ByteArray := prog_2_method_1_code
def yX0_init : MethodName := ⟨RX0, "<init>", "()V"⟩
abbrev cX0_remember : ByteArray := prog_2_method_2_code
def yX0_remember : MethodName := ⟨RX0, "remember", "()V"⟩
abbrev cX0_stepBack : ByteArray := prog_2_method_3_code
def yX0_stepBack : MethodName := ⟨RX0, "stepBack", "()Z"⟩
abbrev cX0_forget : ByteArray := prog_2_method_4_code
def yX0_forget : MethodName := ⟨RX0, "forget", "()V"⟩
abbrev cX0_takeFrom : ByteArray := prog_2_method_5_code
def yX0_takeFrom : MethodName := ⟨RX0, "takeFrom", "(LLeanDiagonals$Book;)V"⟩
def RX1 : String := "LeanDiagonals$Grid"
def TX1 : u_T := fun k => match k with
  | 0 => ("LeanDiagonals$Grid", "cells", "[[I", true)
  | 1 => ("LeanDiagonals$Grid", "answer", "[I", true)
  | 2 => ("LeanDiagonals$Grid", "inverses", "[I", true)
  | _ => ("LeanDiagonals$Grid", "prime", "I", false)
def tyX1 : Nat → FieldType := fun k => match k with
  | 0 => .array (.array .int)
  | 1 => .array .int
  | 2 => .array .int
  | _ => .int
abbrev wsX10 : List Cond := u_ws RX1 TX1 4
theorem nmX1 : ∀ a, a < 4 → ∀ b, b < 4 → a ≠ b → (TX1 a).2.1 ≠ (TX1 b).2.1 := by decide +kernel
theorem tyX1_ok : ∀ k, k < 4 → parseFieldDescriptor (TX1 k).2.2.1 = some (tyX1 k) := by decide +kernel
abbrev cX1_init : ByteArray := prog_3_method_1_code
def yX1_init : MethodName := ⟨RX1, "<init>", "()V"⟩
abbrev cX1_usePrime : ByteArray := prog_3_method_2_code
def yX1_usePrime : MethodName := ⟨RX1, "usePrime", "(I)V"⟩
abbrev cX1_fill : ByteArray := prog_3_method_3_code
def yX1_fill : MethodName := ⟨RX1, "fill", "(LLeanDiagonals$Setting;II)V"⟩
abbrev cX1_clearColumn : ByteArray := prog_3_method_4_code
def yX1_clearColumn : MethodName := ⟨RX1, "clearColumn", "(II)V"⟩
abbrev cX1_determinant : ByteArray := prog_3_method_5_code
def yX1_determinant : MethodName := ⟨RX1, "determinant", "(I)I"⟩
abbrev cX1_solveLeast : ByteArray := prog_3_method_6_code
def yX1_solveLeast : MethodName := ⟨RX1, "solveLeast", "(II)I"⟩
abbrev cX1_clearOthers : ByteArray := prog_3_method_7_code
def yX1_clearOthers : MethodName := ⟨RX1, "clearOthers", "(IIII)V"⟩
abbrev cX1_findPivot : ByteArray := prog_3_method_8_code
def yX1_findPivot : MethodName := ⟨RX1, "findPivot", "(IIII)Z"⟩
abbrev cX1_takeAway : ByteArray := prog_3_method_9_code
def yX1_takeAway : MethodName := ⟨RX1, "takeAway", "(IIIII)V"⟩
def RX2 : String := "LeanDiagonals$Reader"
def TX2 : u_T := fun k => match k with
  | 0 => ("LeanDiagonals$Reader", "length", "I", false)
  | 1 => ("LeanDiagonals$Reader", "read", "LLeanDiagonals$Setting;", true)
  | 2 => ("LeanDiagonals$Reader", "tape", "[I", true)
  | 3 => ("LeanDiagonals$Reader", "place", "I", false)
  | 4 => ("LeanDiagonals$Reader", "prime", "I", false)
  | _ => ("LeanDiagonals$Reader", "number", "I", false)
def tyX2 : Nat → FieldType := fun k => match k with
  | 0 => .int
  | 1 => .object "LeanDiagonals$Setting"
  | 2 => .array .int
  | 3 => .int
  | 4 => .int
  | _ => .int
abbrev wsX20 : List Cond := u_ws RX2 TX2 6
theorem nmX2 : ∀ a, a < 6 → ∀ b, b < 6 → a ≠ b → (TX2 a).2.1 ≠ (TX2 b).2.1 := by decide +kernel
theorem tyX2_ok : ∀ k, k < 6 → parseFieldDescriptor (TX2 k).2.2.1 = some (tyX2 k) := by decide +kernel
abbrev cX2_init : ByteArray := prog_4_method_1_code
def yX2_init : MethodName := ⟨RX2, "<init>", "()V"⟩
abbrev cX2_takeLetter : ByteArray := prog_4_method_2_code
def yX2_takeLetter : MethodName := ⟨RX2, "takeLetter", "(I)Z"⟩
abbrev cX2_readMatrix : ByteArray := prog_4_method_3_code
def yX2_readMatrix : MethodName := ⟨RX2, "readMatrix", "(I)I"⟩
abbrev cX2_readRow : ByteArray := prog_4_method_4_code
def yX2_readRow : MethodName := ⟨RX2, "readRow", "()I"⟩
abbrev cX2_readSide : ByteArray := prog_4_method_5_code
def yX2_readSide : MethodName := ⟨RX2, "readSide", "()I"⟩
abbrev cX2_clearSide : ByteArray := prog_4_method_6_code
def yX2_clearSide : MethodName := ⟨RX2, "clearSide", "()V"⟩
abbrev cX2_readNumber : ByteArray := prog_4_method_7_code
def yX2_readNumber : MethodName := ⟨RX2, "readNumber", "()I"⟩
abbrev cX2_skipBlanks : ByteArray := prog_4_method_8_code
def yX2_skipBlanks : MethodName := ⟨RX2, "skipBlanks", "()V"⟩
abbrev cX2_isDigitHere : ByteArray := prog_4_method_9_code
def yX2_isDigitHere : MethodName := ⟨RX2, "isDigitHere", "()Z"⟩
abbrev cX2_letterHere : ByteArray := prog_4_method_10_code
def yX2_letterHere : MethodName := ⟨RX2, "letterHere", "()I"⟩
abbrev cX2_faultHere : ByteArray := prog_4_method_11_code
def yX2_faultHere : MethodName := ⟨RX2, "faultHere", "()I"⟩
abbrev cX2_kindOf : ByteArray := prog_4_method_12_code
def yX2_kindOf : MethodName := ⟨RX2, "kindOf", "(I)I"⟩
def RX3 : String := "LeanDiagonals$Setting"
def TX3 : u_T := fun k => match k with
  | 0 => ("LeanDiagonals$Setting", "width", "I", false)
  | 1 => ("LeanDiagonals$Setting", "kind", "I", false)
  | 2 => ("LeanDiagonals$Setting", "draw", "I", false)
  | 3 => ("LeanDiagonals$Setting", "row", "[I", true)
  | _ => ("LeanDiagonals$Setting", "side", "[I", true)
def tyX3 : Nat → FieldType := fun k => match k with
  | 0 => .int
  | 1 => .int
  | 2 => .int
  | 3 => .array .int
  | _ => .array .int
abbrev wsX30 : List Cond := u_ws RX3 TX3 5
theorem nmX3 : ∀ a, a < 5 → ∀ b, b < 5 → a ≠ b → (TX3 a).2.1 ≠ (TX3 b).2.1 := by decide +kernel
theorem tyX3_ok : ∀ k, k < 5 → parseFieldDescriptor (TX3 k).2.2.1 = some (tyX3 k) := by decide +kernel
abbrev cX3_init : ByteArray := prog_5_method_1_code
def yX3_init : MethodName := ⟨RX3, "<init>", "()V"⟩
abbrev cX3_rowLength : ByteArray := prog_5_method_2_code
def yX3_rowLength : MethodName := ⟨RX3, "rowLength", "()I"⟩
abbrev cX3_takeFrom : ByteArray := prog_5_method_3_code
def yX3_takeFrom : MethodName := ⟨RX3, "takeFrom", "(LLeanDiagonals$Setting;)V"⟩
abbrev cX3_cellAt : ByteArray := prog_5_method_4_code
def yX3_cellAt : MethodName := ⟨RX3, "cellAt", "(IIII)I"⟩
abbrev cX3_placeAt : ByteArray := prog_5_method_5_code
def yX3_placeAt : MethodName := ⟨RX3, "placeAt", "(III)I"⟩
abbrev cX3_leaveOver : ByteArray := prog_5_method_6_code
def yX3_leaveOver : MethodName := ⟨RX3, "leaveOver", "(I)V"⟩
abbrev cX3_addBorder : ByteArray := prog_5_method_7_code
def yX3_addBorder : MethodName := ⟨RX3, "addBorder", "()V"⟩
abbrev cX3_dropBorder : ByteArray := prog_5_method_8_code
def yX3_dropBorder : MethodName := ⟨RX3, "dropBorder", "()V"⟩
abbrev cX3_reverseRow : ByteArray := prog_5_method_9_code
def yX3_reverseRow : MethodName := ⟨RX3, "reverseRow", "()V"⟩
abbrev cX3_driftOnce : ByteArray := prog_5_method_10_code
def yX3_driftOnce : MethodName := ⟨RX3, "driftOnce", "(I)V"⟩
def RX4 : String := "LeanDiagonals$Sheet"
def TX4 : u_T := fun k => match k with
  | 0 => ("LeanDiagonals$Sheet", "lane", "I", false)
  | 1 => ("LeanDiagonals$Sheet", "length", "I", false)
  | _ => ("LeanDiagonals$Sheet", "items", "[J", true)
def tyX4 : Nat → FieldType := fun k => match k with
  | 0 => .int
  | 1 => .int
  | _ => .array .long
abbrev wsX40 : List Cond := u_ws RX4 TX4 3
theorem nmX4 : ∀ a, a < 3 → ∀ b, b < 3 → a ≠ b → (TX4 a).2.1 ≠ (TX4 b).2.1 := by decide +kernel
theorem tyX4_ok : ∀ k, k < 3 → parseFieldDescriptor (TX4 k).2.2.1 = some (tyX4 k) := by decide +kernel
abbrev cX4_init : ByteArray := prog_6_method_1_code
def yX4_init : MethodName := ⟨RX4, "<init>", "()V"⟩
abbrev cX4_isMissing : ByteArray := prog_6_method_2_code
def yX4_isMissing : MethodName := ⟨RX4, "isMissing", "()Z"⟩
abbrev cX4_begin : ByteArray := prog_6_method_3_code
def yX4_begin : MethodName := ⟨RX4, "begin", "(II)V"⟩
abbrev cX4_lose : ByteArray := prog_6_method_4_code
def yX4_lose : MethodName := ⟨RX4, "lose", "()V"⟩
abbrev cX4_holds : ByteArray := prog_6_method_5_code
def yX4_holds : MethodName := ⟨RX4, "holds", "(II)Z"⟩
def RX5 : String := "LeanDiagonals$Wipes"
def TX5 : u_T := fun k => match k with
  | 0 => ("LeanDiagonals$Wipes", "zeros", "[J", true)
  | 1 => ("LeanDiagonals$Wipes", "places", "[I", true)
  | 2 => ("LeanDiagonals$Wipes", "live", "I", false)
  | 3 => ("LeanDiagonals$Wipes", "prime", "I", false)
  | _ => ("LeanDiagonals$Wipes", "counted", "LLeanDiagonals$Setting;", true)
def tyX5 : Nat → FieldType := fun k => match k with
  | 0 => .array .long
  | 1 => .array .int
  | 2 => .int
  | 3 => .int
  | _ => .object "LeanDiagonals$Setting"
abbrev wsX50 : List Cond := u_ws RX5 TX5 5
theorem nmX5 : ∀ a, a < 5 → ∀ b, b < 5 → a ≠ b → (TX5 a).2.1 ≠ (TX5 b).2.1 := by decide +kernel
theorem tyX5_ok : ∀ k, k < 5 → parseFieldDescriptor (TX5 k).2.2.1 = some (tyX5 k) := by decide +kernel
abbrev cX5_init : ByteArray := prog_7_method_1_code
def yX5_init : MethodName := ⟨RX5, "<init>", "()V"⟩
abbrev cX5_isOf : ByteArray := prog_7_method_2_code
def yX5_isOf : MethodName := ⟨RX5, "isOf", "(LLeanDiagonals$Setting;I)Z"⟩
abbrev cX5_begin : ByteArray := prog_7_method_3_code
def yX5_begin : MethodName := ⟨RX5, "begin", "(LLeanDiagonals$Setting;I)V"⟩
abbrev cX5_weighted : ByteArray := prog_7_method_4_code
def yX5_weighted : MethodName := ⟨RX5, "weighted", "(I)J"⟩
def RX6 : String := "LeanDiagonals"
def TX6 : u_T := fun k => match k with
  | 0 => ("LeanDiagonals", "book", "LLeanDiagonals$Book;", true)
  | 1 => ("LeanDiagonals", "kept", "LLeanDiagonals$Book;", true)
  | 2 => ("LeanDiagonals", "isKept", "Z", false)
  | 3 => ("LeanDiagonals", "reader", "LLeanDiagonals$Reader;", true)
  | 4 => ("LeanDiagonals", "grid", "LLeanDiagonals$Grid;", true)
  | 5 => ("LeanDiagonals", "trial", "LLeanDiagonals$Setting;", true)
  | 6 => ("LeanDiagonals", "wipes", "LLeanDiagonals$Wipes;", true)
  | 7 => ("LeanDiagonals", "onward", "[I", true)
  | 8 => ("LeanDiagonals", "given", "[I", true)
  | 9 => ("LeanDiagonals", "told", "[I", true)
  | _ => ("LeanDiagonals", "sheets", "[LLeanDiagonals$Sheet;", true)
def tyX6 : Nat → FieldType := fun k => match k with
  | 0 => .object "LeanDiagonals$Book"
  | 1 => .object "LeanDiagonals$Book"
  | 2 => .boolean
  | 3 => .object "LeanDiagonals$Reader"
  | 4 => .object "LeanDiagonals$Grid"
  | 5 => .object "LeanDiagonals$Setting"
  | 6 => .object "LeanDiagonals$Wipes"
  | 7 => .array .int
  | 8 => .array .int
  | 9 => .array .int
  | _ => .array (.object "LeanDiagonals$Sheet")
abbrev wsX60 : List Cond := u_ws RX6 TX6 11
theorem nmX6 : ∀ a, a < 11 → ∀ b, b < 11 → a ≠ b → (TX6 a).2.1 ≠ (TX6 b).2.1 := by decide +kernel
theorem tyX6_ok : ∀ k, k < 11 → parseFieldDescriptor (TX6 k).2.2.1 = some (tyX6 k) := by decide +kernel
abbrev cX6_init : ByteArray := prog_1_method_1_code
def yX6_init : MethodName := ⟨RX6, "<init>", "()V"⟩
abbrev cX6_prime : ByteArray := prog_1_method_2_code
def yX6_prime : MethodName := ⟨RX6, "prime", "(I)I"⟩
abbrev cX6_type : ByteArray := prog_1_method_3_code
def yX6_type : MethodName := ⟨RX6, "type", "(I)I"⟩
abbrev cX6_matrix : ByteArray := prog_1_method_4_code
def yX6_matrix : MethodName := ⟨RX6, "matrix", "()I"⟩
abbrev cX6_line : ByteArray := prog_1_method_5_code
def yX6_line : MethodName := ⟨RX6, "line", "(I)I"⟩
abbrev cX6_right : ByteArray := prog_1_method_6_code
def yX6_right : MethodName := ⟨RX6, "right", "(I)I"⟩
abbrev cX6_entry : ByteArray := prog_1_method_7_code
def yX6_entry : MethodName := ⟨RX6, "entry", "(II)I"⟩
abbrev cX6_count : ByteArray := prog_1_method_8_code
def yX6_count : MethodName := ⟨RX6, "count", "(I)I"⟩
abbrev cX6_change : ByteArray := prog_1_method_9_code
def yX6_change : MethodName := ⟨RX6, "change", "(II)I"⟩
abbrev cX6_put : ByteArray := prog_1_method_10_code
def yX6_put : MethodName := ⟨RX6, "put", "(II)I"⟩
abbrev cX6_shape : ByteArray := prog_1_method_11_code
def yX6_shape : MethodName := ⟨RX6, "shape", "(I)I"⟩
abbrev cX6_widen : ByteArray := prog_1_method_12_code
def yX6_widen : MethodName := ⟨RX6, "widen", "()I"⟩
abbrev cX6_cut : ByteArray := prog_1_method_13_code
def yX6_cut : MethodName := ⟨RX6, "cut", "()I"⟩
abbrev cX6_turn : ByteArray := prog_1_method_14_code
def yX6_turn : MethodName := ⟨RX6, "turn", "()I"⟩
abbrev cX6_drift : ByteArray := prog_1_method_15_code
def yX6_drift : MethodName := ⟨RX6, "drift", "(I)I"⟩
abbrev cX6_undo : ByteArray := prog_1_method_16_code
def yX6_undo : MethodName := ⟨RX6, "undo", "()I"⟩
abbrev cX6_seed : ByteArray := prog_1_method_17_code
def yX6_seed : MethodName := ⟨RX6, "seed", "(I)I"⟩
abbrev cX6_corner : ByteArray := prog_1_method_18_code
def yX6_corner : MethodName := ⟨RX6, "corner", "(I)I"⟩
abbrev cX6_leap : ByteArray := prog_1_method_19_code
def yX6_leap : MethodName := ⟨RX6, "leap", "(I)I"⟩
abbrev cX6_solved : ByteArray := prog_1_method_20_code
def yX6_solved : MethodName := ⟨RX6, "solved", "(I)J"⟩
abbrev cX6_inverse : ByteArray := prog_1_method_21_code
def yX6_inverse : MethodName := ⟨RX6, "inverse", "(II)I"⟩
abbrev cX6_weak : ByteArray := prog_1_method_22_code
def yX6_weak : MethodName := ⟨RX6, "weak", "(II)I"⟩
abbrev cX6_mend : ByteArray := prog_1_method_23_code
def yX6_mend : MethodName := ⟨RX6, "mend", "(I)I"⟩
abbrev cX6_term : ByteArray := prog_1_method_24_code
def yX6_term : MethodName := ⟨RX6, "term", "(I)I"⟩
abbrev cX6_next : ByteArray := prog_1_method_25_code
def yX6_next : MethodName := ⟨RX6, "next", "(I)I"⟩
abbrev cX6_wiped : ByteArray := prog_1_method_26_code
def yX6_wiped : MethodName := ⟨RX6, "wiped", "(II)J"⟩
abbrev cX6_image : ByteArray := prog_1_method_27_code
def yX6_image : MethodName := ⟨RX6, "image", "()I"⟩
abbrev cX6_restore : ByteArray := prog_1_method_28_code
def yX6_restore : MethodName := ⟨RX6, "restore", "()I"⟩
abbrev cX6_came : ByteArray := prog_1_method_29_code
def yX6_came : MethodName := ⟨RX6, "came", "(III)I"⟩
abbrev cX6_apply : ByteArray := prog_1_method_30_code
def yX6_apply : MethodName := ⟨RX6, "apply", "(III)I"⟩
abbrev cX6_film : ByteArray := prog_1_method_31_code
def yX6_film : MethodName := ⟨RX6, "film", "(III)I"⟩
abbrev cX6_sheet : ByteArray := prog_1_method_32_code
def yX6_sheet : MethodName := ⟨RX6, "sheet", "(III)I"⟩
abbrev cX6_drop : ByteArray := prog_1_method_33_code
def yX6_drop : MethodName := ⟨RX6, "drop", "(I)I"⟩
abbrev cX6_item : ByteArray := prog_1_method_34_code
def yX6_item : MethodName := ⟨RX6, "item", "(IIIJ)I"⟩
abbrev cX6_copy : ByteArray := prog_1_method_35_code
def yX6_copy : MethodName := ⟨RX6, "copy", "(IIIII)I"⟩
abbrev cX6_isPrime : ByteArray := prog_1_method_36_code
def yX6_isPrime : MethodName := ⟨RX6, "isPrime", "(I)Z"⟩
abbrev cX6_isPlace : ByteArray := prog_1_method_37_code
def yX6_isPlace : MethodName := ⟨RX6, "isPlace", "(I)Z"⟩
abbrev cX6_isWithin : ByteArray := prog_1_method_38_code
def yX6_isWithin : MethodName := ⟨RX6, "isWithin", "(I)Z"⟩
abbrev cX6_isNumber : ByteArray := prog_1_method_39_code
def yX6_isNumber : MethodName := ⟨RX6, "isNumber", "(J)Z"⟩
abbrev cX6_isHalf : ByteArray := prog_1_method_40_code
def yX6_isHalf : MethodName := ⟨RX6, "isHalf", "(I)Z"⟩
abbrev cX6_isSheet : ByteArray := prog_1_method_41_code
def yX6_isSheet : MethodName := ⟨RX6, "isSheet", "(I)Z"⟩
abbrev cX6_isLane : ByteArray := prog_1_method_42_code
def yX6_isLane : MethodName := ⟨RX6, "isLane", "(I)Z"⟩
abbrev cX6_refusalOf : ByteArray := prog_1_method_43_code
def yX6_refusalOf : MethodName := ⟨RX6, "refusalOf", "(IIII)I"⟩
abbrev cX6_cornerOf : ByteArray := prog_1_method_44_code
def yX6_cornerOf : MethodName := ⟨RX6, "cornerOf", "(LLeanDiagonals$Setting;I)I"⟩
abbrev cX6_wholeCorner : ByteArray := prog_1_method_45_code
def yX6_wholeCorner : MethodName := ⟨RX6, "wholeCorner", "()I"⟩
abbrev cX6_singularCorners : ByteArray := prog_1_method_46_code
def yX6_singularCorners : MethodName := ⟨RX6, "singularCorners", "()I"⟩
abbrev cX6_rankOfMatrix : ByteArray := prog_1_method_47_code
def yX6_rankOfMatrix : MethodName := ⟨RX6, "rankOfMatrix", "()I"⟩
abbrev cX6_solveMatrix : ByteArray := prog_1_method_48_code
def yX6_solveMatrix : MethodName := ⟨RX6, "solveMatrix", "()J"⟩
abbrev cX6_leastMender : ByteArray := prog_1_method_49_code
def yX6_leastMender : MethodName := ⟨RX6, "leastMender", "(I)I"⟩
abbrev cX6_findLaw : ByteArray := prog_1_method_50_code
def yX6_findLaw : MethodName := ⟨RX6, "findLaw", "()I"⟩
abbrev cX6_fitsLaw : ByteArray := prog_1_method_51_code
def yX6_fitsLaw : MethodName := ⟨RX6, "fitsLaw", "(I)Z"⟩
abbrev cX6_countWipes : ByteArray := prog_1_method_52_code
def yX6_countWipes : MethodName := ⟨RX6, "countWipes", "()V"⟩
abbrev cX6_power : ByteArray := prog_1_method_53_code
def yX6_power : MethodName := ⟨RX6, "power", "(JI)J"⟩
abbrev cX6_greatestShared : ByteArray := prog_1_method_54_code
def yX6_greatestShared : MethodName := ⟨RX6, "greatestShared", "(JJ)J"⟩
abbrev cX6_readNumbers : ByteArray := prog_1_method_55_code
def yX6_readNumbers : MethodName := ⟨RX6, "readNumbers", "(LLeanDiagonals$Sheet;I[I)Z"⟩
abbrev cX6_rowTimesGiven : ByteArray := prog_1_method_56_code
def yX6_rowTimesGiven : MethodName := ⟨RX6, "rowTimesGiven", "(II)I"⟩
abbrev cX6_comesBy : ByteArray := prog_1_method_57_code
def yX6_comesBy : MethodName := ⟨RX6, "comesBy", "(I)Z"⟩
abbrev cX6_lowestBits : ByteArray := prog_1_method_58_code
def yX6_lowestBits : MethodName := ⟨RX6, "lowestBits", "(IJ)J"⟩
def RX7 : String := "LeanDiagonalsModel"
def TX7 : u_T := fun k => match k with
  | 0 => ("LeanDiagonalsModel", "now", "[I", true)
  | 1 => ("LeanDiagonalsModel", "work", "[I", true)
  | 2 => ("LeanDiagonalsModel", "told", "[I", true)
  | 3 => ("LeanDiagonalsModel", "rank", "I", false)
  | 4 => ("LeanDiagonalsModel", "tape", "[I", true)
  | 5 => ("LeanDiagonalsModel", "taped", "I", false)
  | 6 => ("LeanDiagonalsModel", "place", "I", false)
  | 7 => ("LeanDiagonalsModel", "read", "[I", true)
  | 8 => ("LeanDiagonalsModel", "ahead", "[I", true)
  | 9 => ("LeanDiagonalsModel", "undos", "I", false)
  | 10 => ("LeanDiagonalsModel", "terms", "[I", true)
  | 11 => ("LeanDiagonalsModel", "goesOn", "[I", true)
  | 12 => ("LeanDiagonalsModel", "kept", "[I", true)
  | 13 => ("LeanDiagonalsModel", "keptAhead", "[I", true)
  | 14 => ("LeanDiagonalsModel", "keptUndos", "I", false)
  | 15 => ("LeanDiagonalsModel", "lanes", "[I", true)
  | 16 => ("LeanDiagonalsModel", "sizes", "[I", true)
  | 17 => ("LeanDiagonalsModel", "items", "[J", true)
  | _ => ("LeanDiagonalsModel", "moved", "[J", true)
def tyX7 : Nat → FieldType := fun k => match k with
  | 0 => .array .int
  | 1 => .array .int
  | 2 => .array .int
  | 3 => .int
  | 4 => .array .int
  | 5 => .int
  | 6 => .int
  | 7 => .array .int
  | 8 => .array .int
  | 9 => .int
  | 10 => .array .int
  | 11 => .array .int
  | 12 => .array .int
  | 13 => .array .int
  | 14 => .int
  | 15 => .array .int
  | 16 => .array .int
  | 17 => .array .long
  | _ => .array .long
abbrev wsX70 : List Cond := u_ws RX7 TX7 19
theorem nmX7 : ∀ a, a < 19 → ∀ b, b < 19 → a ≠ b → (TX7 a).2.1 ≠ (TX7 b).2.1 := by decide +kernel
theorem tyX7_ok : ∀ k, k < 19 → parseFieldDescriptor (TX7 k).2.2.1 = some (tyX7 k) := by decide +kernel
abbrev cX7_in : ByteArray := prog_9_method_2_code
def yX7_in : MethodName := ⟨RX7, "in", "(JJJ)Z"⟩
abbrev cX7_init : ByteArray := prog_9_method_3_code
def yX7_init : MethodName := ⟨RX7, "<init>", "()V"⟩
abbrev cX7_lines : ByteArray := prog_9_method_4_code
def yX7_lines : MethodName := ⟨RX7, "lines", "()I"⟩
abbrev cX7_isNumber : ByteArray := prog_9_method_5_code
def yX7_isNumber : MethodName := ⟨RX7, "isNumber", "(J)Z"⟩
abbrev cX7_isLine : ByteArray := prog_9_method_6_code
def yX7_isLine : MethodName := ⟨RX7, "isLine", "(I)Z"⟩
abbrev cX7_isRow : ByteArray := prog_9_method_7_code
def yX7_isRow : MethodName := ⟨RX7, "isRow", "(I)Z"⟩
abbrev cX7_entryBy : ByteArray := prog_9_method_8_code
def yX7_entryBy : MethodName := ⟨RX7, "entryBy", "(III)I"⟩
abbrev cX7_inverseOf : ByteArray := prog_9_method_9_code
def yX7_inverseOf : MethodName := ⟨RX7, "inverseOf", "(I)I"⟩
abbrev cX7_swaps : ByteArray := prog_9_method_10_code
def yX7_swaps : MethodName := ⟨RX7, "swaps", "(II)V"⟩
abbrev cX7_multiplies : ByteArray := prog_9_method_11_code
def yX7_multiplies : MethodName := ⟨RX7, "multiplies", "(II)V"⟩
abbrev cX7_takes : ByteArray := prog_9_method_12_code
def yX7_takes : MethodName := ⟨RX7, "takes", "(III)V"⟩
abbrev cX7_pivot : ByteArray := prog_9_method_13_code
def yX7_pivot : MethodName := ⟨RX7, "pivot", "(III)I"⟩
abbrev cX7_fills : ByteArray := prog_9_method_14_code
def yX7_fills : MethodName := ⟨RX7, "fills", "(II)V"⟩
abbrev cX7_cornerOf : ByteArray := prog_9_method_15_code
def yX7_cornerOf : MethodName := ⟨RX7, "cornerOf", "(I)I"⟩
abbrev cX7_worksOut : ByteArray := prog_9_method_16_code
def yX7_worksOut : MethodName := ⟨RX7, "worksOut", "(II)Z"⟩
abbrev cX7_least : ByteArray := prog_9_method_17_code
def yX7_least : MethodName := ⟨RX7, "least", "(II)I"⟩
abbrev cX7_solves : ByteArray := prog_9_method_18_code
def yX7_solves : MethodName := ⟨RX7, "solves", "(I)Z"⟩
abbrev cX7_ways : ByteArray := prog_9_method_19_code
def yX7_ways : MethodName := ⟨RX7, "ways", "()J"⟩
abbrev cX7_isPrime : ByteArray := prog_9_method_20_code
def yX7_isPrime : MethodName := ⟨RX7, "isPrime", "(I)Z"⟩
abbrev cX7_prime : ByteArray := prog_9_method_21_code
def yX7_prime : MethodName := ⟨RX7, "prime", "(I)I"⟩
abbrev cX7_line : ByteArray := prog_9_method_22_code
def yX7_line : MethodName := ⟨RX7, "line", "(I)I"⟩
abbrev cX7_right : ByteArray := prog_9_method_23_code
def yX7_right : MethodName := ⟨RX7, "right", "(I)I"⟩
abbrev cX7_entry : ByteArray := prog_9_method_24_code
def yX7_entry : MethodName := ⟨RX7, "entry", "(II)I"⟩
abbrev cX7_singular : ByteArray := prog_9_method_25_code
def yX7_singular : MethodName := ⟨RX7, "singular", "()I"⟩
abbrev cX7_rankOf : ByteArray := prog_9_method_26_code
def yX7_rankOf : MethodName := ⟨RX7, "rankOf", "()I"⟩
abbrev cX7_count : ByteArray := prog_9_method_27_code
def yX7_count : MethodName := ⟨RX7, "count", "(I)I"⟩
abbrev cX7_type : ByteArray := prog_9_method_28_code
def yX7_type : MethodName := ⟨RX7, "type", "(I)I"⟩
abbrev cX7_here : ByteArray := prog_9_method_29_code
def yX7_here : MethodName := ⟨RX7, "here", "()I"⟩
abbrev cX7_has : ByteArray := prog_9_method_30_code
def yX7_has : MethodName := ⟨RX7, "has", "(I)Z"⟩
abbrev cX7_number : ByteArray := prog_9_method_31_code
def yX7_number : MethodName := ⟨RX7, "number", "()I"⟩
abbrev cX7_kindBy : ByteArray := prog_9_method_32_code
def yX7_kindBy : MethodName := ⟨RX7, "kindBy", "(I)I"⟩
abbrev cX7_numbers : ByteArray := prog_9_method_33_code
def yX7_numbers : MethodName := ⟨RX7, "numbers", "(II)I"⟩
abbrev cX7_fault : ByteArray := prog_9_method_34_code
def yX7_fault : MethodName := ⟨RX7, "fault", "()I"⟩
abbrev cX7_matrix : ByteArray := prog_9_method_35_code
def yX7_matrix : MethodName := ⟨RX7, "matrix", "()I"⟩
abbrev cX7_notes : ByteArray := prog_9_method_36_code
def yX7_notes : MethodName := ⟨RX7, "notes", "()V"⟩
abbrev cX7_change : ByteArray := prog_9_method_37_code
def yX7_change : MethodName := ⟨RX7, "change", "(II)I"⟩
abbrev cX7_put : ByteArray := prog_9_method_38_code
def yX7_put : MethodName := ⟨RX7, "put", "(II)I"⟩
abbrev cX7_shape : ByteArray := prog_9_method_39_code
def yX7_shape : MethodName := ⟨RX7, "shape", "(I)I"⟩
abbrev cX7_widen : ByteArray := prog_9_method_40_code
def yX7_widen : MethodName := ⟨RX7, "widen", "()I"⟩
abbrev cX7_cut : ByteArray := prog_9_method_41_code
def yX7_cut : MethodName := ⟨RX7, "cut", "()I"⟩
abbrev cX7_turn : ByteArray := prog_9_method_42_code
def yX7_turn : MethodName := ⟨RX7, "turn", "()I"⟩
abbrev cX7_drift : ByteArray := prog_9_method_43_code
def yX7_drift : MethodName := ⟨RX7, "drift", "(I)I"⟩
abbrev cX7_undo : ByteArray := prog_9_method_44_code
def yX7_undo : MethodName := ⟨RX7, "undo", "()I"⟩
abbrev cX7_seed : ByteArray := prog_9_method_45_code
def yX7_seed : MethodName := ⟨RX7, "seed", "(I)I"⟩
abbrev cX7_corner : ByteArray := prog_9_method_46_code
def yX7_corner : MethodName := ⟨RX7, "corner", "(I)I"⟩
abbrev cX7_leap : ByteArray := prog_9_method_47_code
def yX7_leap : MethodName := ⟨RX7, "leap", "(I)I"⟩
abbrev cX7_solved : ByteArray := prog_9_method_48_code
def yX7_solved : MethodName := ⟨RX7, "solved", "(I)J"⟩
abbrev cX7_inverse : ByteArray := prog_9_method_49_code
def yX7_inverse : MethodName := ⟨RX7, "inverse", "(II)I"⟩
abbrev cX7_weak : ByteArray := prog_9_method_50_code
def yX7_weak : MethodName := ⟨RX7, "weak", "(II)I"⟩
abbrev cX7_mends : ByteArray := prog_9_method_51_code
def yX7_mends : MethodName := ⟨RX7, "mends", "(I)I"⟩
abbrev cX7_mend : ByteArray := prog_9_method_52_code
def yX7_mend : MethodName := ⟨RX7, "mend", "(I)I"⟩
abbrev cX7_isLaw : ByteArray := prog_9_method_53_code
def yX7_isLaw : MethodName := ⟨RX7, "isLaw", "(I)Z"⟩
abbrev cX7_law : ByteArray := prog_9_method_54_code
def yX7_law : MethodName := ⟨RX7, "law", "()I"⟩
abbrev cX7_term : ByteArray := prog_9_method_55_code
def yX7_term : MethodName := ⟨RX7, "term", "(I)I"⟩
abbrev cX7_next : ByteArray := prog_9_method_56_code
def yX7_next : MethodName := ⟨RX7, "next", "(I)I"⟩
abbrev cX7_wiped : ByteArray := prog_9_method_57_code
def yX7_wiped : MethodName := ⟨RX7, "wiped", "(II)J"⟩
abbrev cX7_image : ByteArray := prog_9_method_58_code
def yX7_image : MethodName := ⟨RX7, "image", "()I"⟩
abbrev cX7_restore : ByteArray := prog_9_method_59_code
def yX7_restore : MethodName := ⟨RX7, "restore", "()I"⟩
abbrev cX7_isSheet : ByteArray := prog_9_method_60_code
def yX7_isSheet : MethodName := ⟨RX7, "isSheet", "(I)Z"⟩
abbrev cX7_cutTo : ByteArray := prog_9_method_61_code
def yX7_cutTo : MethodName := ⟨RX7, "cutTo", "(JI)J"⟩
abbrev cX7_sheet : ByteArray := prog_9_method_62_code
def yX7_sheet : MethodName := ⟨RX7, "sheet", "(III)I"⟩
abbrev cX7_drop : ByteArray := prog_9_method_63_code
def yX7_drop : MethodName := ⟨RX7, "drop", "(I)I"⟩
abbrev cX7_why : ByteArray := prog_9_method_64_code
def yX7_why : MethodName := ⟨RX7, "why", "(IIII)I"⟩
abbrev cX7_item : ByteArray := prog_9_method_65_code
def yX7_item : MethodName := ⟨RX7, "item", "(IIIJ)I"⟩
abbrev cX7_copy : ByteArray := prog_9_method_66_code
def yX7_copy : MethodName := ⟨RX7, "copy", "(IIIII)I"⟩
abbrev cX7_areNumbers : ByteArray := prog_9_method_67_code
def yX7_areNumbers : MethodName := ⟨RX7, "areNumbers", "(II)Z"⟩
abbrev cX7_comes : ByteArray := prog_9_method_68_code
def yX7_comes : MethodName := ⟨RX7, "comes", "(III)I"⟩
abbrev cX7_came : ByteArray := prog_9_method_69_code
def yX7_came : MethodName := ⟨RX7, "came", "(III)I"⟩
abbrev cX7_apply : ByteArray := prog_9_method_70_code
def yX7_apply : MethodName := ⟨RX7, "apply", "(III)I"⟩
abbrev cX7_film : ByteArray := prog_9_method_71_code
def yX7_film : MethodName := ⟨RX7, "film", "(III)I"⟩
def RJ6 : String := "java/lang/Integer"
def TJ6 : u_T := fun k => match k with
  | _ => ("", "", "", false)
def tyJ6 : Nat → FieldType := fun k => match k with
  | _ => .int
abbrev wsJ60 : List Cond := u_ws RJ6 TJ6 0
theorem nmJ6 : ∀ a, a < 0 → ∀ b, b < 0 → a ≠ b → (TJ6 a).2.1 ≠ (TJ6 b).2.1 := by decide +kernel
theorem tyJ6_ok : ∀ k, k < 0 → parseFieldDescriptor (TJ6 k).2.2.1 = some (tyJ6 k) := by decide +kernel
abbrev cJ6_bitCount_0f7a4 : ByteArray := prog_10_method_49_code
def yJ6_bitCount_0f7a4 : MethodName := ⟨RJ6, "bitCount", "(I)I"⟩
def RJ9 : String := "java/lang/Math"
def TJ9 : u_T := fun k => match k with
  | _ => ("", "", "", false)
def tyJ9 : Nat → FieldType := fun k => match k with
  | _ => .int
abbrev wsJ90 : List Cond := u_ws RJ9 TJ9 0
theorem nmJ9 : ∀ a, a < 0 → ∀ b, b < 0 → a ≠ b → (TJ9 a).2.1 ≠ (TJ9 b).2.1 := by decide +kernel
theorem tyJ9_ok : ∀ k, k < 0 → parseFieldDescriptor (TJ9 k).2.2.1 = some (tyJ9 k) := by decide +kernel
abbrev cJ9_abs_0f7a4 : ByteArray := prog_11_method_59_code
def yJ9_abs_0f7a4 : MethodName := ⟨RJ9, "abs", "(I)I"⟩
abbrev cJ9_min_f86c9 : ByteArray := prog_11_method_70_code
def yJ9_min_f86c9 : MethodName := ⟨RJ9, "min", "(JJ)J"⟩
def RJ10 : String := "java/lang/System"
def TJ10 : u_T := fun k => match k with
  | _ => ("", "", "", false)
def tyJ10 : Nat → FieldType := fun k => match k with
  | _ => .int
theorem nmJ10 : ∀ a, a < 0 → ∀ b, b < 0 → a ≠ b → (TJ10 a).2.1 ≠ (TJ10 b).2.1 := by decide +kernel
theorem tyJ10_ok : ∀ k, k < 0 → parseFieldDescriptor (TJ10 k).2.2.1 = some (tyJ10 k) := by decide +kernel
def RL : String := "LeanDiagonalsLaw"
abbrev cL_law : ByteArray := code
def yL_law : MethodName := ⟨RL, "law", "([I)Z"⟩
end
section
theorem dX0_init_0 : decode cX0_init 0 = .ok (.aload_n 0, 1) := by decide +kernel
theorem dX0_init_1 : decode cX0_init 1 = .ok (.invokespecial 3, 3) := by decide +kernel
theorem dX0_init_4 : decode cX0_init 4 = .ok (.aload_n 0, 1) := by decide +kernel
theorem dX0_init_5 : decode cX0_init 5 = .ok (.bipush 7, 2) := by decide +kernel
theorem dX0_init_7 : decode cX0_init 7 = .ok (.putfield 9, 3) := by decide +kernel
theorem dX0_init_10 : decode cX0_init 10 = .ok (.aload_n 0, 1) := by decide +kernel
theorem dX0_init_11 : decode cX0_init 11 = .ok (.iconst 0, 1) := by decide +kernel
theorem dX0_init_12 : decode cX0_init 12 = .ok (.putfield 15, 3) := by decide +kernel
theorem dX0_init_15 : decode cX0_init 15 = .ok (.aload_n 0, 1) := by decide +kernel
theorem dX0_init_16 : decode cX0_init 16 = .ok (.new 18, 3) := by decide +kernel
theorem dX0_init_19 : decode cX0_init 19 = .ok (.dup, 1) := by decide +kernel
theorem dX0_init_20 : decode cX0_init 20 = .ok (.invokespecial 20, 3) := by decide +kernel
theorem dX0_init_23 : decode cX0_init 23 = .ok (.putfield 21, 3) := by decide +kernel
theorem dX0_init_26 : decode cX0_init 26 = .ok (.aload_n 0, 1) := by decide +kernel
theorem dX0_init_27 : decode cX0_init 27 = .ok (.iconst 0, 1) := by decide +kernel
theorem dX0_init_28 : decode cX0_init 28 = .ok (.putfield 25, 3) := by decide +kernel
theorem dX0_init_31 : decode cX0_init 31 = .ok (.aload_n 0, 1) := by decide +kernel
theorem dX0_init_32 : decode cX0_init 32 = .ok (.bipush 8, 2) := by decide +kernel
theorem dX0_init_34 : decode cX0_init 34 = .ok (.anewarray 18, 3) := by decide +kernel
theorem dX0_init_37 : decode cX0_init 37 = .ok (.putfield 28, 3) := by decide +kernel
theorem dX0_init_40 : decode cX0_init 40 = .ok (.iconst 0, 1) := by decide +kernel
theorem dX0_init_41 : decode cX0_init 41 = .ok (.istore_n 1, 1) := by decide +kernel
theorem dX0_init_42 : decode cX0_init 42 = .ok (.iload_n 1, 1) := by decide +kernel
theorem dX0_init_43 : decode cX0_init 43 = .ok (.bipush 8, 2) := by decide +kernel
theorem dX0_init_45 : decode cX0_init 45 = .ok (.if_icmp .ge 22, 3) := by decide +kernel
theorem dX0_init_48 : decode cX0_init 48 = .ok (.aload_n 0, 1) := by decide +kernel
theorem dX0_init_49 : decode cX0_init 49 = .ok (.getfield 28, 3) := by decide +kernel
theorem dX0_init_52 : decode cX0_init 52 = .ok (.iload_n 1, 1) := by decide +kernel
theorem dX0_init_53 : decode cX0_init 53 = .ok (.new 18, 3) := by decide +kernel
theorem dX0_init_56 : decode cX0_init 56 = .ok (.dup, 1) := by decide +kernel
theorem dX0_init_57 : decode cX0_init 57 = .ok (.invokespecial 20, 3) := by decide +kernel
theorem dX0_init_60 : decode cX0_init 60 = .ok (.aastore, 1) := by decide +kernel
theorem dX0_init_61 : decode cX0_init 61 = .ok (.iinc 1 1, 3) := by decide +kernel
theorem dX0_init_64 : decode cX0_init 64 = .ok (.goto (-22), 3) := by decide +kernel
theorem dX0_init_67 : decode cX0_init 67 = .ok (.return_, 1) := by decide +kernel
theorem dX0_remember_0 : decode cX0_remember 0 = .ok (.aload_n 0, 1) := by decide +kernel
theorem dX0_remember_1 : decode cX0_remember 1 = .ok (.getfield 28, 3) := by decide +kernel
theorem dX0_remember_4 : decode cX0_remember 4 = .ok (.aload_n 0, 1) := by decide +kernel
theorem dX0_remember_5 : decode cX0_remember 5 = .ok (.getfield 25, 3) := by decide +kernel
theorem dX0_remember_8 : decode cX0_remember 8 = .ok (.aload_n 0, 1) := by decide +kernel
theorem dX0_remember_9 : decode cX0_remember 9 = .ok (.getfield 15, 3) := by decide +kernel
theorem dX0_remember_12 : decode cX0_remember 12 = .ok (.iadd, 1) := by decide +kernel
theorem dX0_remember_13 : decode cX0_remember 13 = .ok (.bipush 8, 2) := by decide +kernel
theorem dX0_remember_15 : decode cX0_remember 15 = .ok (.irem, 1) := by decide +kernel
theorem dX0_remember_16 : decode cX0_remember 16 = .ok (.aaload, 1) := by decide +kernel
theorem dX0_remember_17 : decode cX0_remember 17 = .ok (.aload_n 0, 1) := by decide +kernel
theorem dX0_remember_18 : decode cX0_remember 18 = .ok (.getfield 21, 3) := by decide +kernel
theorem dX0_remember_21 : decode cX0_remember 21 = .ok (.invokevirtual 32, 3) := by decide +kernel
theorem dX0_remember_24 : decode cX0_remember 24 = .ok (.aload_n 0, 1) := by decide +kernel
theorem dX0_remember_25 : decode cX0_remember 25 = .ok (.getfield 15, 3) := by decide +kernel
theorem dX0_remember_28 : decode cX0_remember 28 = .ok (.bipush 8, 2) := by decide +kernel
theorem dX0_remember_30 : decode cX0_remember 30 = .ok (.if_icmp .ge 16, 3) := by decide +kernel
theorem dX0_remember_33 : decode cX0_remember 33 = .ok (.aload_n 0, 1) := by decide +kernel
theorem dX0_remember_34 : decode cX0_remember 34 = .ok (.dup, 1) := by decide +kernel
theorem dX0_remember_35 : decode cX0_remember 35 = .ok (.getfield 15, 3) := by decide +kernel
theorem dX0_remember_38 : decode cX0_remember 38 = .ok (.iconst 1, 1) := by decide +kernel
theorem dX0_remember_39 : decode cX0_remember 39 = .ok (.iadd, 1) := by decide +kernel
theorem dX0_remember_40 : decode cX0_remember 40 = .ok (.putfield 15, 3) := by decide +kernel
theorem dX0_remember_43 : decode cX0_remember 43 = .ok (.goto 16, 3) := by decide +kernel
theorem dX0_remember_46 : decode cX0_remember 46 = .ok (.aload_n 0, 1) := by decide +kernel
theorem dX0_remember_47 : decode cX0_remember 47 = .ok (.aload_n 0, 1) := by decide +kernel
theorem dX0_remember_48 : decode cX0_remember 48 = .ok (.getfield 25, 3) := by decide +kernel
theorem dX0_remember_51 : decode cX0_remember 51 = .ok (.iconst 1, 1) := by decide +kernel
theorem dX0_remember_52 : decode cX0_remember 52 = .ok (.iadd, 1) := by decide +kernel
theorem dX0_remember_53 : decode cX0_remember 53 = .ok (.bipush 8, 2) := by decide +kernel
theorem dX0_remember_55 : decode cX0_remember 55 = .ok (.irem, 1) := by decide +kernel
theorem dX0_remember_56 : decode cX0_remember 56 = .ok (.putfield 25, 3) := by decide +kernel
theorem dX0_remember_59 : decode cX0_remember 59 = .ok (.return_, 1) := by decide +kernel
theorem dX0_stepBack_0 : decode cX0_stepBack 0 = .ok (.aload_n 0, 1) := by decide +kernel
theorem dX0_stepBack_1 : decode cX0_stepBack 1 = .ok (.getfield 15, 3) := by decide +kernel
theorem dX0_stepBack_4 : decode cX0_stepBack 4 = .ok (.ifCond .ne 5, 3) := by decide +kernel
theorem dX0_stepBack_7 : decode cX0_stepBack 7 = .ok (.iconst 0, 1) := by decide +kernel
theorem dX0_stepBack_8 : decode cX0_stepBack 8 = .ok (.ireturn, 1) := by decide +kernel
theorem dX0_stepBack_9 : decode cX0_stepBack 9 = .ok (.aload_n 0, 1) := by decide +kernel
theorem dX0_stepBack_10 : decode cX0_stepBack 10 = .ok (.dup, 1) := by decide +kernel
theorem dX0_stepBack_11 : decode cX0_stepBack 11 = .ok (.getfield 15, 3) := by decide +kernel
theorem dX0_stepBack_14 : decode cX0_stepBack 14 = .ok (.iconst 1, 1) := by decide +kernel
theorem dX0_stepBack_15 : decode cX0_stepBack 15 = .ok (.isub, 1) := by decide +kernel
theorem dX0_stepBack_16 : decode cX0_stepBack 16 = .ok (.putfield 15, 3) := by decide +kernel
theorem dX0_stepBack_19 : decode cX0_stepBack 19 = .ok (.aload_n 0, 1) := by decide +kernel
theorem dX0_stepBack_20 : decode cX0_stepBack 20 = .ok (.getfield 21, 3) := by decide +kernel
theorem dX0_stepBack_23 : decode cX0_stepBack 23 = .ok (.aload_n 0, 1) := by decide +kernel
theorem dX0_stepBack_24 : decode cX0_stepBack 24 = .ok (.getfield 28, 3) := by decide +kernel
theorem dX0_stepBack_27 : decode cX0_stepBack 27 = .ok (.aload_n 0, 1) := by decide +kernel
theorem dX0_stepBack_28 : decode cX0_stepBack 28 = .ok (.getfield 25, 3) := by decide +kernel
theorem dX0_stepBack_31 : decode cX0_stepBack 31 = .ok (.aload_n 0, 1) := by decide +kernel
theorem dX0_stepBack_32 : decode cX0_stepBack 32 = .ok (.getfield 15, 3) := by decide +kernel
theorem dX0_stepBack_35 : decode cX0_stepBack 35 = .ok (.iadd, 1) := by decide +kernel
theorem dX0_stepBack_36 : decode cX0_stepBack 36 = .ok (.bipush 8, 2) := by decide +kernel
theorem dX0_stepBack_38 : decode cX0_stepBack 38 = .ok (.irem, 1) := by decide +kernel
theorem dX0_stepBack_39 : decode cX0_stepBack 39 = .ok (.aaload, 1) := by decide +kernel
theorem dX0_stepBack_40 : decode cX0_stepBack 40 = .ok (.invokevirtual 32, 3) := by decide +kernel
theorem dX0_stepBack_43 : decode cX0_stepBack 43 = .ok (.iconst 1, 1) := by decide +kernel
theorem dX0_stepBack_44 : decode cX0_stepBack 44 = .ok (.ireturn, 1) := by decide +kernel
theorem dX0_forget_0 : decode cX0_forget 0 = .ok (.aload_n 0, 1) := by decide +kernel
theorem dX0_forget_1 : decode cX0_forget 1 = .ok (.iconst 0, 1) := by decide +kernel
theorem dX0_forget_2 : decode cX0_forget 2 = .ok (.putfield 15, 3) := by decide +kernel
theorem dX0_forget_5 : decode cX0_forget 5 = .ok (.return_, 1) := by decide +kernel
theorem dX0_takeFrom_0 : decode cX0_takeFrom 0 = .ok (.aload_n 0, 1) := by decide +kernel
theorem dX0_takeFrom_1 : decode cX0_takeFrom 1 = .ok (.aload_n 1, 1) := by decide +kernel
theorem dX0_takeFrom_2 : decode cX0_takeFrom 2 = .ok (.getfield 9, 3) := by decide +kernel
theorem dX0_takeFrom_5 : decode cX0_takeFrom 5 = .ok (.putfield 9, 3) := by decide +kernel
theorem dX0_takeFrom_8 : decode cX0_takeFrom 8 = .ok (.aload_n 0, 1) := by decide +kernel
theorem dX0_takeFrom_9 : decode cX0_takeFrom 9 = .ok (.aload_n 1, 1) := by decide +kernel
theorem dX0_takeFrom_10 : decode cX0_takeFrom 10 = .ok (.getfield 15, 3) := by decide +kernel
theorem dX0_takeFrom_13 : decode cX0_takeFrom 13 = .ok (.putfield 15, 3) := by decide +kernel
theorem dX0_takeFrom_16 : decode cX0_takeFrom 16 = .ok (.aload_n 0, 1) := by decide +kernel
theorem dX0_takeFrom_17 : decode cX0_takeFrom 17 = .ok (.aload_n 1, 1) := by decide +kernel
theorem dX0_takeFrom_18 : decode cX0_takeFrom 18 = .ok (.getfield 25, 3) := by decide +kernel
theorem dX0_takeFrom_21 : decode cX0_takeFrom 21 = .ok (.putfield 25, 3) := by decide +kernel
theorem dX0_takeFrom_24 : decode cX0_takeFrom 24 = .ok (.aload_n 0, 1) := by decide +kernel
theorem dX0_takeFrom_25 : decode cX0_takeFrom 25 = .ok (.getfield 21, 3) := by decide +kernel
theorem dX0_takeFrom_28 : decode cX0_takeFrom 28 = .ok (.aload_n 1, 1) := by decide +kernel
theorem dX0_takeFrom_29 : decode cX0_takeFrom 29 = .ok (.getfield 21, 3) := by decide +kernel
theorem dX0_takeFrom_32 : decode cX0_takeFrom 32 = .ok (.invokevirtual 32, 3) := by decide +kernel
theorem dX0_takeFrom_35 : decode cX0_takeFrom 35 = .ok (.iconst 0, 1) := by decide +kernel
theorem dX0_takeFrom_36 : decode cX0_takeFrom 36 = .ok (.istore_n 2, 1) := by decide +kernel
theorem dX0_takeFrom_37 : decode cX0_takeFrom 37 = .ok (.iload_n 2, 1) := by decide +kernel
theorem dX0_takeFrom_38 : decode cX0_takeFrom 38 = .ok (.bipush 8, 2) := by decide +kernel
theorem dX0_takeFrom_40 : decode cX0_takeFrom 40 = .ok (.if_icmp .ge 24, 3) := by decide +kernel
theorem dX0_takeFrom_43 : decode cX0_takeFrom 43 = .ok (.aload_n 0, 1) := by decide +kernel
theorem dX0_takeFrom_44 : decode cX0_takeFrom 44 = .ok (.getfield 28, 3) := by decide +kernel
theorem dX0_takeFrom_47 : decode cX0_takeFrom 47 = .ok (.iload_n 2, 1) := by decide +kernel
theorem dX0_takeFrom_48 : decode cX0_takeFrom 48 = .ok (.aaload, 1) := by decide +kernel
theorem dX0_takeFrom_49 : decode cX0_takeFrom 49 = .ok (.aload_n 1, 1) := by decide +kernel
theorem dX0_takeFrom_50 : decode cX0_takeFrom 50 = .ok (.getfield 28, 3) := by decide +kernel
theorem dX0_takeFrom_53 : decode cX0_takeFrom 53 = .ok (.iload_n 2, 1) := by decide +kernel
theorem dX0_takeFrom_54 : decode cX0_takeFrom 54 = .ok (.aaload, 1) := by decide +kernel
theorem dX0_takeFrom_55 : decode cX0_takeFrom 55 = .ok (.invokevirtual 32, 3) := by decide +kernel
theorem dX0_takeFrom_58 : decode cX0_takeFrom 58 = .ok (.iinc 2 1, 3) := by decide +kernel
theorem dX0_takeFrom_61 : decode cX0_takeFrom 61 = .ok (.goto (-24), 3) := by decide +kernel
theorem dX0_takeFrom_64 : decode cX0_takeFrom 64 = .ok (.return_, 1) := by decide +kernel
theorem dX1_init_0 : decode cX1_init 0 = .ok (.aload_n 0, 1) := by decide +kernel
theorem dX1_init_1 : decode cX1_init 1 = .ok (.invokespecial 3, 3) := by decide +kernel
theorem dX1_init_4 : decode cX1_init 4 = .ok (.aload_n 0, 1) := by decide +kernel
theorem dX1_init_5 : decode cX1_init 5 = .ok (.bipush 11, 2) := by decide +kernel
theorem dX1_init_7 : decode cX1_init 7 = .ok (.bipush 12, 2) := by decide +kernel
theorem dX1_init_9 : decode cX1_init 9 = .ok (.multianewarray 9 2, 4) := by decide +kernel
theorem dX1_init_13 : decode cX1_init 13 = .ok (.putfield 11, 3) := by decide +kernel
theorem dX1_init_16 : decode cX1_init 16 = .ok (.aload_n 0, 1) := by decide +kernel
theorem dX1_init_17 : decode cX1_init 17 = .ok (.bipush 11, 2) := by decide +kernel
theorem dX1_init_19 : decode cX1_init 19 = .ok (.newarray .int, 2) := by decide +kernel
theorem dX1_init_21 : decode cX1_init 21 = .ok (.putfield 16, 3) := by decide +kernel
theorem dX1_init_24 : decode cX1_init 24 = .ok (.aload_n 0, 1) := by decide +kernel
theorem dX1_init_25 : decode cX1_init 25 = .ok (.bipush 97, 2) := by decide +kernel
theorem dX1_init_27 : decode cX1_init 27 = .ok (.newarray .int, 2) := by decide +kernel
theorem dX1_init_29 : decode cX1_init 29 = .ok (.putfield 20, 3) := by decide +kernel
theorem dX1_init_32 : decode cX1_init 32 = .ok (.aload_n 0, 1) := by decide +kernel
theorem dX1_init_33 : decode cX1_init 33 = .ok (.iconst 2, 1) := by decide +kernel
theorem dX1_init_34 : decode cX1_init 34 = .ok (.putfield 23, 3) := by decide +kernel
theorem dX1_init_37 : decode cX1_init 37 = .ok (.aload_n 0, 1) := by decide +kernel
theorem dX1_init_38 : decode cX1_init 38 = .ok (.getfield 20, 3) := by decide +kernel
theorem dX1_init_41 : decode cX1_init 41 = .ok (.iconst 1, 1) := by decide +kernel
theorem dX1_init_42 : decode cX1_init 42 = .ok (.iconst 1, 1) := by decide +kernel
theorem dX1_init_43 : decode cX1_init 43 = .ok (.iastore, 1) := by decide +kernel
theorem dX1_init_44 : decode cX1_init 44 = .ok (.return_, 1) := by decide +kernel
theorem dX1_usePrime_0 : decode cX1_usePrime 0 = .ok (.iload_n 1, 1) := by decide +kernel
theorem dX1_usePrime_1 : decode cX1_usePrime 1 = .ok (.aload_n 0, 1) := by decide +kernel
theorem dX1_usePrime_2 : decode cX1_usePrime 2 = .ok (.getfield 23, 3) := by decide +kernel
theorem dX1_usePrime_5 : decode cX1_usePrime 5 = .ok (.if_icmp .ne 4, 3) := by decide +kernel
theorem dX1_usePrime_8 : decode cX1_usePrime 8 = .ok (.return_, 1) := by decide +kernel
theorem dX1_usePrime_9 : decode cX1_usePrime 9 = .ok (.aload_n 0, 1) := by decide +kernel
theorem dX1_usePrime_10 : decode cX1_usePrime 10 = .ok (.iload_n 1, 1) := by decide +kernel
theorem dX1_usePrime_11 : decode cX1_usePrime 11 = .ok (.putfield 23, 3) := by decide +kernel
theorem dX1_usePrime_14 : decode cX1_usePrime 14 = .ok (.iconst 2, 1) := by decide +kernel
theorem dX1_usePrime_15 : decode cX1_usePrime 15 = .ok (.istore_n 2, 1) := by decide +kernel
theorem dX1_usePrime_16 : decode cX1_usePrime 16 = .ok (.iload_n 2, 1) := by decide +kernel
theorem dX1_usePrime_17 : decode cX1_usePrime 17 = .ok (.iload_n 1, 1) := by decide +kernel
theorem dX1_usePrime_18 : decode cX1_usePrime 18 = .ok (.if_icmp .ge 31, 3) := by decide +kernel
theorem dX1_usePrime_21 : decode cX1_usePrime 21 = .ok (.aload_n 0, 1) := by decide +kernel
theorem dX1_usePrime_22 : decode cX1_usePrime 22 = .ok (.getfield 20, 3) := by decide +kernel
theorem dX1_usePrime_25 : decode cX1_usePrime 25 = .ok (.iload_n 2, 1) := by decide +kernel
theorem dX1_usePrime_26 : decode cX1_usePrime 26 = .ok (.iload_n 1, 1) := by decide +kernel
theorem dX1_usePrime_27 : decode cX1_usePrime 27 = .ok (.iload_n 1, 1) := by decide +kernel
theorem dX1_usePrime_28 : decode cX1_usePrime 28 = .ok (.iload_n 2, 1) := by decide +kernel
theorem dX1_usePrime_29 : decode cX1_usePrime 29 = .ok (.idiv, 1) := by decide +kernel
theorem dX1_usePrime_30 : decode cX1_usePrime 30 = .ok (.isub, 1) := by decide +kernel
theorem dX1_usePrime_31 : decode cX1_usePrime 31 = .ok (.aload_n 0, 1) := by decide +kernel
theorem dX1_usePrime_32 : decode cX1_usePrime 32 = .ok (.getfield 20, 3) := by decide +kernel
theorem dX1_usePrime_35 : decode cX1_usePrime 35 = .ok (.iload_n 1, 1) := by decide +kernel
theorem dX1_usePrime_36 : decode cX1_usePrime 36 = .ok (.iload_n 2, 1) := by decide +kernel
theorem dX1_usePrime_37 : decode cX1_usePrime 37 = .ok (.irem, 1) := by decide +kernel
theorem dX1_usePrime_38 : decode cX1_usePrime 38 = .ok (.iaload, 1) := by decide +kernel
theorem dX1_usePrime_39 : decode cX1_usePrime 39 = .ok (.imul, 1) := by decide +kernel
theorem dX1_usePrime_40 : decode cX1_usePrime 40 = .ok (.iload_n 1, 1) := by decide +kernel
theorem dX1_usePrime_41 : decode cX1_usePrime 41 = .ok (.irem, 1) := by decide +kernel
theorem dX1_usePrime_42 : decode cX1_usePrime 42 = .ok (.iastore, 1) := by decide +kernel
theorem dX1_usePrime_43 : decode cX1_usePrime 43 = .ok (.iinc 2 1, 3) := by decide +kernel
theorem dX1_usePrime_46 : decode cX1_usePrime 46 = .ok (.goto (-30), 3) := by decide +kernel
theorem dX1_usePrime_49 : decode cX1_usePrime 49 = .ok (.return_, 1) := by decide +kernel
theorem dX1_fill_0 : decode cX1_fill 0 = .ok (.aload_n 0, 1) := by decide +kernel
theorem dX1_fill_1 : decode cX1_fill 1 = .ok (.iload_n 2, 1) := by decide +kernel
theorem dX1_fill_2 : decode cX1_fill 2 = .ok (.invokevirtual 27, 3) := by decide +kernel
theorem dX1_fill_5 : decode cX1_fill 5 = .ok (.iconst 0, 1) := by decide +kernel
theorem dX1_fill_6 : decode cX1_fill 6 = .ok (.istore 4, 2) := by decide +kernel
theorem dX1_fill_8 : decode cX1_fill 8 = .ok (.iload 4, 2) := by decide +kernel
theorem dX1_fill_10 : decode cX1_fill 10 = .ok (.iload_n 3, 1) := by decide +kernel
theorem dX1_fill_11 : decode cX1_fill 11 = .ok (.if_icmp .ge 47, 3) := by decide +kernel
theorem dX1_fill_14 : decode cX1_fill 14 = .ok (.iconst 0, 1) := by decide +kernel
theorem dX1_fill_15 : decode cX1_fill 15 = .ok (.istore 5, 2) := by decide +kernel
theorem dX1_fill_17 : decode cX1_fill 17 = .ok (.iload 5, 2) := by decide +kernel
theorem dX1_fill_19 : decode cX1_fill 19 = .ok (.iload_n 3, 1) := by decide +kernel
theorem dX1_fill_20 : decode cX1_fill 20 = .ok (.if_icmp .ge 32, 3) := by decide +kernel
theorem dX1_fill_23 : decode cX1_fill 23 = .ok (.aload_n 0, 1) := by decide +kernel
theorem dX1_fill_24 : decode cX1_fill 24 = .ok (.getfield 11, 3) := by decide +kernel
theorem dX1_fill_27 : decode cX1_fill 27 = .ok (.iload 4, 2) := by decide +kernel
theorem dX1_fill_29 : decode cX1_fill 29 = .ok (.aaload, 1) := by decide +kernel
theorem dX1_fill_30 : decode cX1_fill 30 = .ok (.iload 5, 2) := by decide +kernel
theorem dX1_fill_32 : decode cX1_fill 32 = .ok (.aload_n 1, 1) := by decide +kernel
theorem dX1_fill_33 : decode cX1_fill 33 = .ok (.aload_n 1, 1) := by decide +kernel
theorem dX1_fill_34 : decode cX1_fill 34 = .ok (.getfield 31, 3) := by decide +kernel
theorem dX1_fill_37 : decode cX1_fill 37 = .ok (.iload 4, 2) := by decide +kernel
theorem dX1_fill_39 : decode cX1_fill 39 = .ok (.iload 5, 2) := by decide +kernel
theorem dX1_fill_41 : decode cX1_fill 41 = .ok (.iload_n 2, 1) := by decide +kernel
theorem dX1_fill_42 : decode cX1_fill 42 = .ok (.invokevirtual 36, 3) := by decide +kernel
theorem dX1_fill_45 : decode cX1_fill 45 = .ok (.iastore, 1) := by decide +kernel
theorem dX1_fill_46 : decode cX1_fill 46 = .ok (.iinc 5 1, 3) := by decide +kernel
theorem dX1_fill_49 : decode cX1_fill 49 = .ok (.goto (-32), 3) := by decide +kernel
theorem dX1_fill_52 : decode cX1_fill 52 = .ok (.iinc 4 1, 3) := by decide +kernel
theorem dX1_fill_55 : decode cX1_fill 55 = .ok (.goto (-47), 3) := by decide +kernel
theorem dX1_fill_58 : decode cX1_fill 58 = .ok (.return_, 1) := by decide +kernel
theorem dX1_clearColumn_0 : decode cX1_clearColumn 0 = .ok (.iconst 0, 1) := by decide +kernel
theorem dX1_clearColumn_1 : decode cX1_clearColumn 1 = .ok (.istore_n 3, 1) := by decide +kernel
theorem dX1_clearColumn_2 : decode cX1_clearColumn 2 = .ok (.iload_n 3, 1) := by decide +kernel
theorem dX1_clearColumn_3 : decode cX1_clearColumn 3 = .ok (.iload_n 2, 1) := by decide +kernel
theorem dX1_clearColumn_4 : decode cX1_clearColumn 4 = .ok (.if_icmp .ge 18, 3) := by decide +kernel
theorem dX1_clearColumn_7 : decode cX1_clearColumn 7 = .ok (.aload_n 0, 1) := by decide +kernel
theorem dX1_clearColumn_8 : decode cX1_clearColumn 8 = .ok (.getfield 11, 3) := by decide +kernel
theorem dX1_clearColumn_11 : decode cX1_clearColumn 11 = .ok (.iload_n 3, 1) := by decide +kernel
theorem dX1_clearColumn_12 : decode cX1_clearColumn 12 = .ok (.aaload, 1) := by decide +kernel
theorem dX1_clearColumn_13 : decode cX1_clearColumn 13 = .ok (.iload_n 1, 1) := by decide +kernel
theorem dX1_clearColumn_14 : decode cX1_clearColumn 14 = .ok (.iconst 0, 1) := by decide +kernel
theorem dX1_clearColumn_15 : decode cX1_clearColumn 15 = .ok (.iastore, 1) := by decide +kernel
theorem dX1_clearColumn_16 : decode cX1_clearColumn 16 = .ok (.iinc 3 1, 3) := by decide +kernel
theorem dX1_clearColumn_19 : decode cX1_clearColumn 19 = .ok (.goto (-17), 3) := by decide +kernel
theorem dX1_clearColumn_22 : decode cX1_clearColumn 22 = .ok (.return_, 1) := by decide +kernel
theorem dX1_determinant_0 : decode cX1_determinant 0 = .ok (.iconst 1, 1) := by decide +kernel
theorem dX1_determinant_1 : decode cX1_determinant 1 = .ok (.istore_n 2, 1) := by decide +kernel
theorem dX1_determinant_2 : decode cX1_determinant 2 = .ok (.iconst 0, 1) := by decide +kernel
theorem dX1_determinant_3 : decode cX1_determinant 3 = .ok (.istore_n 3, 1) := by decide +kernel
theorem dX1_determinant_4 : decode cX1_determinant 4 = .ok (.iload_n 3, 1) := by decide +kernel
theorem dX1_determinant_5 : decode cX1_determinant 5 = .ok (.iload_n 1, 1) := by decide +kernel
theorem dX1_determinant_6 : decode cX1_determinant 6 = .ok (.if_icmp .ge 96, 3) := by decide +kernel
theorem dX1_determinant_9 : decode cX1_determinant 9 = .ok (.aload_n 0, 1) := by decide +kernel
theorem dX1_determinant_10 : decode cX1_determinant 10 = .ok (.iload_n 3, 1) := by decide +kernel
theorem dX1_determinant_11 : decode cX1_determinant 11 = .ok (.iload_n 3, 1) := by decide +kernel
theorem dX1_determinant_12 : decode cX1_determinant 12 = .ok (.iload_n 1, 1) := by decide +kernel
theorem dX1_determinant_13 : decode cX1_determinant 13 = .ok (.iload_n 1, 1) := by decide +kernel
theorem dX1_determinant_14 : decode cX1_determinant 14 = .ok (.invokevirtual 40, 3) := by decide +kernel
theorem dX1_determinant_17 : decode cX1_determinant 17 = .ok (.ifCond .ne 5, 3) := by decide +kernel
theorem dX1_determinant_20 : decode cX1_determinant 20 = .ok (.iconst 0, 1) := by decide +kernel
theorem dX1_determinant_21 : decode cX1_determinant 21 = .ok (.ireturn, 1) := by decide +kernel
theorem dX1_determinant_22 : decode cX1_determinant 22 = .ok (.iload_n 2, 1) := by decide +kernel
theorem dX1_determinant_23 : decode cX1_determinant 23 = .ok (.aload_n 0, 1) := by decide +kernel
theorem dX1_determinant_24 : decode cX1_determinant 24 = .ok (.getfield 11, 3) := by decide +kernel
theorem dX1_determinant_27 : decode cX1_determinant 27 = .ok (.iload_n 3, 1) := by decide +kernel
theorem dX1_determinant_28 : decode cX1_determinant 28 = .ok (.aaload, 1) := by decide +kernel
theorem dX1_determinant_29 : decode cX1_determinant 29 = .ok (.iload_n 3, 1) := by decide +kernel
theorem dX1_determinant_30 : decode cX1_determinant 30 = .ok (.iaload, 1) := by decide +kernel
theorem dX1_determinant_31 : decode cX1_determinant 31 = .ok (.imul, 1) := by decide +kernel
theorem dX1_determinant_32 : decode cX1_determinant 32 = .ok (.aload_n 0, 1) := by decide +kernel
theorem dX1_determinant_33 : decode cX1_determinant 33 = .ok (.getfield 23, 3) := by decide +kernel
theorem dX1_determinant_36 : decode cX1_determinant 36 = .ok (.irem, 1) := by decide +kernel
theorem dX1_determinant_37 : decode cX1_determinant 37 = .ok (.istore_n 2, 1) := by decide +kernel
theorem dX1_determinant_38 : decode cX1_determinant 38 = .ok (.aload_n 0, 1) := by decide +kernel
theorem dX1_determinant_39 : decode cX1_determinant 39 = .ok (.getfield 20, 3) := by decide +kernel
theorem dX1_determinant_42 : decode cX1_determinant 42 = .ok (.aload_n 0, 1) := by decide +kernel
theorem dX1_determinant_43 : decode cX1_determinant 43 = .ok (.getfield 11, 3) := by decide +kernel
theorem dX1_determinant_46 : decode cX1_determinant 46 = .ok (.iload_n 3, 1) := by decide +kernel
theorem dX1_determinant_47 : decode cX1_determinant 47 = .ok (.aaload, 1) := by decide +kernel
theorem dX1_determinant_48 : decode cX1_determinant 48 = .ok (.iload_n 3, 1) := by decide +kernel
theorem dX1_determinant_49 : decode cX1_determinant 49 = .ok (.iaload, 1) := by decide +kernel
theorem dX1_determinant_50 : decode cX1_determinant 50 = .ok (.iaload, 1) := by decide +kernel
theorem dX1_determinant_51 : decode cX1_determinant 51 = .ok (.istore 4, 2) := by decide +kernel
theorem dX1_determinant_53 : decode cX1_determinant 53 = .ok (.iload_n 3, 1) := by decide +kernel
theorem dX1_determinant_54 : decode cX1_determinant 54 = .ok (.iconst 1, 1) := by decide +kernel
theorem dX1_determinant_55 : decode cX1_determinant 55 = .ok (.iadd, 1) := by decide +kernel
theorem dX1_determinant_56 : decode cX1_determinant 56 = .ok (.istore 5, 2) := by decide +kernel
theorem dX1_determinant_58 : decode cX1_determinant 58 = .ok (.iload 5, 2) := by decide +kernel
theorem dX1_determinant_60 : decode cX1_determinant 60 = .ok (.iload_n 1, 1) := by decide +kernel
theorem dX1_determinant_61 : decode cX1_determinant 61 = .ok (.if_icmp .ge 35, 3) := by decide +kernel
theorem dX1_determinant_64 : decode cX1_determinant 64 = .ok (.aload_n 0, 1) := by decide +kernel
theorem dX1_determinant_65 : decode cX1_determinant 65 = .ok (.iload 5, 2) := by decide +kernel
theorem dX1_determinant_67 : decode cX1_determinant 67 = .ok (.iload_n 3, 1) := by decide +kernel
theorem dX1_determinant_68 : decode cX1_determinant 68 = .ok (.aload_n 0, 1) := by decide +kernel
theorem dX1_determinant_69 : decode cX1_determinant 69 = .ok (.getfield 11, 3) := by decide +kernel
theorem dX1_determinant_72 : decode cX1_determinant 72 = .ok (.iload 5, 2) := by decide +kernel
theorem dX1_determinant_74 : decode cX1_determinant 74 = .ok (.aaload, 1) := by decide +kernel
theorem dX1_determinant_75 : decode cX1_determinant 75 = .ok (.iload_n 3, 1) := by decide +kernel
theorem dX1_determinant_76 : decode cX1_determinant 76 = .ok (.iaload, 1) := by decide +kernel
theorem dX1_determinant_77 : decode cX1_determinant 77 = .ok (.iload 4, 2) := by decide +kernel
theorem dX1_determinant_79 : decode cX1_determinant 79 = .ok (.imul, 1) := by decide +kernel
theorem dX1_determinant_80 : decode cX1_determinant 80 = .ok (.aload_n 0, 1) := by decide +kernel
theorem dX1_determinant_81 : decode cX1_determinant 81 = .ok (.getfield 23, 3) := by decide +kernel
theorem dX1_determinant_84 : decode cX1_determinant 84 = .ok (.irem, 1) := by decide +kernel
theorem dX1_determinant_85 : decode cX1_determinant 85 = .ok (.iload_n 3, 1) := by decide +kernel
theorem dX1_determinant_86 : decode cX1_determinant 86 = .ok (.iload_n 1, 1) := by decide +kernel
theorem dX1_determinant_87 : decode cX1_determinant 87 = .ok (.invokevirtual 44, 3) := by decide +kernel
theorem dX1_determinant_90 : decode cX1_determinant 90 = .ok (.iinc 5 1, 3) := by decide +kernel
theorem dX1_determinant_93 : decode cX1_determinant 93 = .ok (.goto (-35), 3) := by decide +kernel
theorem dX1_determinant_96 : decode cX1_determinant 96 = .ok (.iinc 3 1, 3) := by decide +kernel
theorem dX1_determinant_99 : decode cX1_determinant 99 = .ok (.goto (-95), 3) := by decide +kernel
theorem dX1_determinant_102 : decode cX1_determinant 102 = .ok (.iload_n 2, 1) := by decide +kernel
theorem dX1_determinant_103 : decode cX1_determinant 103 = .ok (.ireturn, 1) := by decide +kernel
theorem dX1_solveLeast_0 : decode cX1_solveLeast 0 = .ok (.iconst 0, 1) := by decide +kernel
theorem dX1_solveLeast_1 : decode cX1_solveLeast 1 = .ok (.istore_n 3, 1) := by decide +kernel
theorem dX1_solveLeast_2 : decode cX1_solveLeast 2 = .ok (.iload_n 2, 1) := by decide +kernel
theorem dX1_solveLeast_3 : decode cX1_solveLeast 3 = .ok (.iconst 1, 1) := by decide +kernel
theorem dX1_solveLeast_4 : decode cX1_solveLeast 4 = .ok (.isub, 1) := by decide +kernel
theorem dX1_solveLeast_5 : decode cX1_solveLeast 5 = .ok (.istore 4, 2) := by decide +kernel
theorem dX1_solveLeast_7 : decode cX1_solveLeast 7 = .ok (.iload 4, 2) := by decide +kernel
theorem dX1_solveLeast_9 : decode cX1_solveLeast 9 = .ok (.ifCond .lt 51, 3) := by decide +kernel
theorem dX1_solveLeast_12 : decode cX1_solveLeast 12 = .ok (.aload_n 0, 1) := by decide +kernel
theorem dX1_solveLeast_13 : decode cX1_solveLeast 13 = .ok (.getfield 16, 3) := by decide +kernel
theorem dX1_solveLeast_16 : decode cX1_solveLeast 16 = .ok (.iload 4, 2) := by decide +kernel
theorem dX1_solveLeast_18 : decode cX1_solveLeast 18 = .ok (.iconst (-1), 1) := by decide +kernel
theorem dX1_solveLeast_19 : decode cX1_solveLeast 19 = .ok (.iastore, 1) := by decide +kernel
theorem dX1_solveLeast_20 : decode cX1_solveLeast 20 = .ok (.aload_n 0, 1) := by decide +kernel
theorem dX1_solveLeast_21 : decode cX1_solveLeast 21 = .ok (.iload 4, 2) := by decide +kernel
theorem dX1_solveLeast_23 : decode cX1_solveLeast 23 = .ok (.iload_n 3, 1) := by decide +kernel
theorem dX1_solveLeast_24 : decode cX1_solveLeast 24 = .ok (.iload_n 1, 1) := by decide +kernel
theorem dX1_solveLeast_25 : decode cX1_solveLeast 25 = .ok (.iload_n 2, 1) := by decide +kernel
theorem dX1_solveLeast_26 : decode cX1_solveLeast 26 = .ok (.iconst 1, 1) := by decide +kernel
theorem dX1_solveLeast_27 : decode cX1_solveLeast 27 = .ok (.iadd, 1) := by decide +kernel
theorem dX1_solveLeast_28 : decode cX1_solveLeast 28 = .ok (.invokevirtual 40, 3) := by decide +kernel
theorem dX1_solveLeast_31 : decode cX1_solveLeast 31 = .ok (.ifCond .eq 23, 3) := by decide +kernel
theorem dX1_solveLeast_34 : decode cX1_solveLeast 34 = .ok (.aload_n 0, 1) := by decide +kernel
theorem dX1_solveLeast_35 : decode cX1_solveLeast 35 = .ok (.iload_n 3, 1) := by decide +kernel
theorem dX1_solveLeast_36 : decode cX1_solveLeast 36 = .ok (.iload 4, 2) := by decide +kernel
theorem dX1_solveLeast_38 : decode cX1_solveLeast 38 = .ok (.iload_n 1, 1) := by decide +kernel
theorem dX1_solveLeast_39 : decode cX1_solveLeast 39 = .ok (.iload_n 2, 1) := by decide +kernel
theorem dX1_solveLeast_40 : decode cX1_solveLeast 40 = .ok (.invokevirtual 48, 3) := by decide +kernel
theorem dX1_solveLeast_43 : decode cX1_solveLeast 43 = .ok (.aload_n 0, 1) := by decide +kernel
theorem dX1_solveLeast_44 : decode cX1_solveLeast 44 = .ok (.getfield 16, 3) := by decide +kernel
theorem dX1_solveLeast_47 : decode cX1_solveLeast 47 = .ok (.iload 4, 2) := by decide +kernel
theorem dX1_solveLeast_49 : decode cX1_solveLeast 49 = .ok (.iload_n 3, 1) := by decide +kernel
theorem dX1_solveLeast_50 : decode cX1_solveLeast 50 = .ok (.iastore, 1) := by decide +kernel
theorem dX1_solveLeast_51 : decode cX1_solveLeast 51 = .ok (.iinc 3 1, 3) := by decide +kernel
theorem dX1_solveLeast_54 : decode cX1_solveLeast 54 = .ok (.iinc 4 (-1), 3) := by decide +kernel
theorem dX1_solveLeast_57 : decode cX1_solveLeast 57 = .ok (.goto (-50), 3) := by decide +kernel
theorem dX1_solveLeast_60 : decode cX1_solveLeast 60 = .ok (.iload_n 3, 1) := by decide +kernel
theorem dX1_solveLeast_61 : decode cX1_solveLeast 61 = .ok (.istore 4, 2) := by decide +kernel
theorem dX1_solveLeast_63 : decode cX1_solveLeast 63 = .ok (.iload 4, 2) := by decide +kernel
theorem dX1_solveLeast_65 : decode cX1_solveLeast 65 = .ok (.iload_n 1, 1) := by decide +kernel
theorem dX1_solveLeast_66 : decode cX1_solveLeast 66 = .ok (.if_icmp .ge 23, 3) := by decide +kernel
theorem dX1_solveLeast_69 : decode cX1_solveLeast 69 = .ok (.aload_n 0, 1) := by decide +kernel
theorem dX1_solveLeast_70 : decode cX1_solveLeast 70 = .ok (.getfield 11, 3) := by decide +kernel
theorem dX1_solveLeast_73 : decode cX1_solveLeast 73 = .ok (.iload 4, 2) := by decide +kernel
theorem dX1_solveLeast_75 : decode cX1_solveLeast 75 = .ok (.aaload, 1) := by decide +kernel
theorem dX1_solveLeast_76 : decode cX1_solveLeast 76 = .ok (.iload_n 2, 1) := by decide +kernel
theorem dX1_solveLeast_77 : decode cX1_solveLeast 77 = .ok (.iaload, 1) := by decide +kernel
theorem dX1_solveLeast_78 : decode cX1_solveLeast 78 = .ok (.ifCond .eq 5, 3) := by decide +kernel
theorem dX1_solveLeast_81 : decode cX1_solveLeast 81 = .ok (.iconst (-1), 1) := by decide +kernel
theorem dX1_solveLeast_82 : decode cX1_solveLeast 82 = .ok (.ireturn, 1) := by decide +kernel
theorem dX1_solveLeast_83 : decode cX1_solveLeast 83 = .ok (.iinc 4 1, 3) := by decide +kernel
theorem dX1_solveLeast_86 : decode cX1_solveLeast 86 = .ok (.goto (-23), 3) := by decide +kernel
theorem dX1_solveLeast_89 : decode cX1_solveLeast 89 = .ok (.iconst 0, 1) := by decide +kernel
theorem dX1_solveLeast_90 : decode cX1_solveLeast 90 = .ok (.istore 4, 2) := by decide +kernel
theorem dX1_solveLeast_92 : decode cX1_solveLeast 92 = .ok (.iload 4, 2) := by decide +kernel
theorem dX1_solveLeast_94 : decode cX1_solveLeast 94 = .ok (.iload_n 2, 1) := by decide +kernel
theorem dX1_solveLeast_95 : decode cX1_solveLeast 95 = .ok (.if_icmp .ge 44, 3) := by decide +kernel
theorem dX1_solveLeast_98 : decode cX1_solveLeast 98 = .ok (.aload_n 0, 1) := by decide +kernel
theorem dX1_solveLeast_99 : decode cX1_solveLeast 99 = .ok (.getfield 16, 3) := by decide +kernel
theorem dX1_solveLeast_102 : decode cX1_solveLeast 102 = .ok (.iload 4, 2) := by decide +kernel
theorem dX1_solveLeast_104 : decode cX1_solveLeast 104 = .ok (.aload_n 0, 1) := by decide +kernel
theorem dX1_solveLeast_105 : decode cX1_solveLeast 105 = .ok (.getfield 16, 3) := by decide +kernel
theorem dX1_solveLeast_108 : decode cX1_solveLeast 108 = .ok (.iload 4, 2) := by decide +kernel
theorem dX1_solveLeast_110 : decode cX1_solveLeast 110 = .ok (.iaload, 1) := by decide +kernel
theorem dX1_solveLeast_111 : decode cX1_solveLeast 111 = .ok (.ifCond .ge 7, 3) := by decide +kernel
theorem dX1_solveLeast_114 : decode cX1_solveLeast 114 = .ok (.iconst 0, 1) := by decide +kernel
theorem dX1_solveLeast_115 : decode cX1_solveLeast 115 = .ok (.goto 17, 3) := by decide +kernel
theorem dX1_solveLeast_118 : decode cX1_solveLeast 118 = .ok (.aload_n 0, 1) := by decide +kernel
theorem dX1_solveLeast_119 : decode cX1_solveLeast 119 = .ok (.getfield 11, 3) := by decide +kernel
theorem dX1_solveLeast_122 : decode cX1_solveLeast 122 = .ok (.aload_n 0, 1) := by decide +kernel
theorem dX1_solveLeast_123 : decode cX1_solveLeast 123 = .ok (.getfield 16, 3) := by decide +kernel
theorem dX1_solveLeast_126 : decode cX1_solveLeast 126 = .ok (.iload 4, 2) := by decide +kernel
theorem dX1_solveLeast_128 : decode cX1_solveLeast 128 = .ok (.iaload, 1) := by decide +kernel
theorem dX1_solveLeast_129 : decode cX1_solveLeast 129 = .ok (.aaload, 1) := by decide +kernel
theorem dX1_solveLeast_130 : decode cX1_solveLeast 130 = .ok (.iload_n 2, 1) := by decide +kernel
theorem dX1_solveLeast_131 : decode cX1_solveLeast 131 = .ok (.iaload, 1) := by decide +kernel
theorem dX1_solveLeast_132 : decode cX1_solveLeast 132 = .ok (.iastore, 1) := by decide +kernel
theorem dX1_solveLeast_133 : decode cX1_solveLeast 133 = .ok (.iinc 4 1, 3) := by decide +kernel
theorem dX1_solveLeast_136 : decode cX1_solveLeast 136 = .ok (.goto (-44), 3) := by decide +kernel
theorem dX1_solveLeast_139 : decode cX1_solveLeast 139 = .ok (.iload_n 3, 1) := by decide +kernel
theorem dX1_solveLeast_140 : decode cX1_solveLeast 140 = .ok (.ireturn, 1) := by decide +kernel
theorem dX1_clearOthers_0 : decode cX1_clearOthers 0 = .ok (.aload_n 0, 1) := by decide +kernel
theorem dX1_clearOthers_1 : decode cX1_clearOthers 1 = .ok (.getfield 20, 3) := by decide +kernel
theorem dX1_clearOthers_4 : decode cX1_clearOthers 4 = .ok (.aload_n 0, 1) := by decide +kernel
theorem dX1_clearOthers_5 : decode cX1_clearOthers 5 = .ok (.getfield 11, 3) := by decide +kernel
theorem dX1_clearOthers_8 : decode cX1_clearOthers 8 = .ok (.iload_n 1, 1) := by decide +kernel
theorem dX1_clearOthers_9 : decode cX1_clearOthers 9 = .ok (.aaload, 1) := by decide +kernel
theorem dX1_clearOthers_10 : decode cX1_clearOthers 10 = .ok (.iload_n 2, 1) := by decide +kernel
theorem dX1_clearOthers_11 : decode cX1_clearOthers 11 = .ok (.iaload, 1) := by decide +kernel
theorem dX1_clearOthers_12 : decode cX1_clearOthers 12 = .ok (.iaload, 1) := by decide +kernel
theorem dX1_clearOthers_13 : decode cX1_clearOthers 13 = .ok (.istore 5, 2) := by decide +kernel
theorem dX1_clearOthers_15 : decode cX1_clearOthers 15 = .ok (.iconst 0, 1) := by decide +kernel
theorem dX1_clearOthers_16 : decode cX1_clearOthers 16 = .ok (.istore 6, 2) := by decide +kernel
theorem dX1_clearOthers_18 : decode cX1_clearOthers 18 = .ok (.iload 6, 2) := by decide +kernel
theorem dX1_clearOthers_20 : decode cX1_clearOthers 20 = .ok (.iload 4, 2) := by decide +kernel
theorem dX1_clearOthers_22 : decode cX1_clearOthers 22 = .ok (.if_icmp .gt 35, 3) := by decide +kernel
theorem dX1_clearOthers_25 : decode cX1_clearOthers 25 = .ok (.aload_n 0, 1) := by decide +kernel
theorem dX1_clearOthers_26 : decode cX1_clearOthers 26 = .ok (.getfield 11, 3) := by decide +kernel
theorem dX1_clearOthers_29 : decode cX1_clearOthers 29 = .ok (.iload_n 1, 1) := by decide +kernel
theorem dX1_clearOthers_30 : decode cX1_clearOthers 30 = .ok (.aaload, 1) := by decide +kernel
theorem dX1_clearOthers_31 : decode cX1_clearOthers 31 = .ok (.iload 6, 2) := by decide +kernel
theorem dX1_clearOthers_33 : decode cX1_clearOthers 33 = .ok (.aload_n 0, 1) := by decide +kernel
theorem dX1_clearOthers_34 : decode cX1_clearOthers 34 = .ok (.getfield 11, 3) := by decide +kernel
theorem dX1_clearOthers_37 : decode cX1_clearOthers 37 = .ok (.iload_n 1, 1) := by decide +kernel
theorem dX1_clearOthers_38 : decode cX1_clearOthers 38 = .ok (.aaload, 1) := by decide +kernel
theorem dX1_clearOthers_39 : decode cX1_clearOthers 39 = .ok (.iload 6, 2) := by decide +kernel
theorem dX1_clearOthers_41 : decode cX1_clearOthers 41 = .ok (.iaload, 1) := by decide +kernel
theorem dX1_clearOthers_42 : decode cX1_clearOthers 42 = .ok (.iload 5, 2) := by decide +kernel
theorem dX1_clearOthers_44 : decode cX1_clearOthers 44 = .ok (.imul, 1) := by decide +kernel
theorem dX1_clearOthers_45 : decode cX1_clearOthers 45 = .ok (.aload_n 0, 1) := by decide +kernel
theorem dX1_clearOthers_46 : decode cX1_clearOthers 46 = .ok (.getfield 23, 3) := by decide +kernel
theorem dX1_clearOthers_49 : decode cX1_clearOthers 49 = .ok (.irem, 1) := by decide +kernel
theorem dX1_clearOthers_50 : decode cX1_clearOthers 50 = .ok (.iastore, 1) := by decide +kernel
theorem dX1_clearOthers_51 : decode cX1_clearOthers 51 = .ok (.iinc 6 1, 3) := by decide +kernel
theorem dX1_clearOthers_54 : decode cX1_clearOthers 54 = .ok (.goto (-36), 3) := by decide +kernel
theorem dX1_clearOthers_57 : decode cX1_clearOthers 57 = .ok (.iconst 0, 1) := by decide +kernel
theorem dX1_clearOthers_58 : decode cX1_clearOthers 58 = .ok (.istore 6, 2) := by decide +kernel
theorem dX1_clearOthers_60 : decode cX1_clearOthers 60 = .ok (.iload 6, 2) := by decide +kernel
theorem dX1_clearOthers_62 : decode cX1_clearOthers 62 = .ok (.iload_n 3, 1) := by decide +kernel
theorem dX1_clearOthers_63 : decode cX1_clearOthers 63 = .ok (.if_icmp .ge 36, 3) := by decide +kernel
theorem dX1_clearOthers_66 : decode cX1_clearOthers 66 = .ok (.iload 6, 2) := by decide +kernel
theorem dX1_clearOthers_68 : decode cX1_clearOthers 68 = .ok (.iload_n 1, 1) := by decide +kernel
theorem dX1_clearOthers_69 : decode cX1_clearOthers 69 = .ok (.if_icmp .eq 24, 3) := by decide +kernel
theorem dX1_clearOthers_72 : decode cX1_clearOthers 72 = .ok (.aload_n 0, 1) := by decide +kernel
theorem dX1_clearOthers_73 : decode cX1_clearOthers 73 = .ok (.iload 6, 2) := by decide +kernel
theorem dX1_clearOthers_75 : decode cX1_clearOthers 75 = .ok (.iload_n 1, 1) := by decide +kernel
theorem dX1_clearOthers_76 : decode cX1_clearOthers 76 = .ok (.aload_n 0, 1) := by decide +kernel
theorem dX1_clearOthers_77 : decode cX1_clearOthers 77 = .ok (.getfield 11, 3) := by decide +kernel
theorem dX1_clearOthers_80 : decode cX1_clearOthers 80 = .ok (.iload 6, 2) := by decide +kernel
theorem dX1_clearOthers_82 : decode cX1_clearOthers 82 = .ok (.aaload, 1) := by decide +kernel
theorem dX1_clearOthers_83 : decode cX1_clearOthers 83 = .ok (.iload_n 2, 1) := by decide +kernel
theorem dX1_clearOthers_84 : decode cX1_clearOthers 84 = .ok (.iaload, 1) := by decide +kernel
theorem dX1_clearOthers_85 : decode cX1_clearOthers 85 = .ok (.iconst 0, 1) := by decide +kernel
theorem dX1_clearOthers_86 : decode cX1_clearOthers 86 = .ok (.iload 4, 2) := by decide +kernel
theorem dX1_clearOthers_88 : decode cX1_clearOthers 88 = .ok (.iconst 1, 1) := by decide +kernel
theorem dX1_clearOthers_89 : decode cX1_clearOthers 89 = .ok (.iadd, 1) := by decide +kernel
theorem dX1_clearOthers_90 : decode cX1_clearOthers 90 = .ok (.invokevirtual 44, 3) := by decide +kernel
theorem dX1_clearOthers_93 : decode cX1_clearOthers 93 = .ok (.iinc 6 1, 3) := by decide +kernel
theorem dX1_clearOthers_96 : decode cX1_clearOthers 96 = .ok (.goto (-36), 3) := by decide +kernel
theorem dX1_clearOthers_99 : decode cX1_clearOthers 99 = .ok (.return_, 1) := by decide +kernel
theorem dX1_findPivot_0 : decode cX1_findPivot 0 = .ok (.iload_n 2, 1) := by decide +kernel
theorem dX1_findPivot_1 : decode cX1_findPivot 1 = .ok (.istore 5, 2) := by decide +kernel
theorem dX1_findPivot_3 : decode cX1_findPivot 3 = .ok (.iload 5, 2) := by decide +kernel
theorem dX1_findPivot_5 : decode cX1_findPivot 5 = .ok (.iload_n 3, 1) := by decide +kernel
theorem dX1_findPivot_6 : decode cX1_findPivot 6 = .ok (.if_icmp .ge 45, 3) := by decide +kernel
theorem dX1_findPivot_9 : decode cX1_findPivot 9 = .ok (.aload_n 0, 1) := by decide +kernel
theorem dX1_findPivot_10 : decode cX1_findPivot 10 = .ok (.getfield 11, 3) := by decide +kernel
theorem dX1_findPivot_13 : decode cX1_findPivot 13 = .ok (.iload 5, 2) := by decide +kernel
theorem dX1_findPivot_15 : decode cX1_findPivot 15 = .ok (.aaload, 1) := by decide +kernel
theorem dX1_findPivot_16 : decode cX1_findPivot 16 = .ok (.iload_n 1, 1) := by decide +kernel
theorem dX1_findPivot_17 : decode cX1_findPivot 17 = .ok (.iaload, 1) := by decide +kernel
theorem dX1_findPivot_18 : decode cX1_findPivot 18 = .ok (.ifCond .eq 27, 3) := by decide +kernel
theorem dX1_findPivot_21 : decode cX1_findPivot 21 = .ok (.iload 5, 2) := by decide +kernel
theorem dX1_findPivot_23 : decode cX1_findPivot 23 = .ok (.iload_n 2, 1) := by decide +kernel
theorem dX1_findPivot_24 : decode cX1_findPivot 24 = .ok (.if_icmp .eq 19, 3) := by decide +kernel
theorem dX1_findPivot_27 : decode cX1_findPivot 27 = .ok (.aload_n 0, 1) := by decide +kernel
theorem dX1_findPivot_28 : decode cX1_findPivot 28 = .ok (.iload_n 2, 1) := by decide +kernel
theorem dX1_findPivot_29 : decode cX1_findPivot 29 = .ok (.iload 5, 2) := by decide +kernel
theorem dX1_findPivot_31 : decode cX1_findPivot 31 = .ok (.aload_n 0, 1) := by decide +kernel
theorem dX1_findPivot_32 : decode cX1_findPivot 32 = .ok (.getfield 23, 3) := by decide +kernel
theorem dX1_findPivot_35 : decode cX1_findPivot 35 = .ok (.iconst 1, 1) := by decide +kernel
theorem dX1_findPivot_36 : decode cX1_findPivot 36 = .ok (.isub, 1) := by decide +kernel
theorem dX1_findPivot_37 : decode cX1_findPivot 37 = .ok (.iconst 0, 1) := by decide +kernel
theorem dX1_findPivot_38 : decode cX1_findPivot 38 = .ok (.iload 4, 2) := by decide +kernel
theorem dX1_findPivot_40 : decode cX1_findPivot 40 = .ok (.invokevirtual 44, 3) := by decide +kernel
theorem dX1_findPivot_43 : decode cX1_findPivot 43 = .ok (.iconst 1, 1) := by decide +kernel
theorem dX1_findPivot_44 : decode cX1_findPivot 44 = .ok (.ireturn, 1) := by decide +kernel
theorem dX1_findPivot_45 : decode cX1_findPivot 45 = .ok (.iinc 5 1, 3) := by decide +kernel
theorem dX1_findPivot_48 : decode cX1_findPivot 48 = .ok (.goto (-45), 3) := by decide +kernel
theorem dX1_findPivot_51 : decode cX1_findPivot 51 = .ok (.iconst 0, 1) := by decide +kernel
theorem dX1_findPivot_52 : decode cX1_findPivot 52 = .ok (.ireturn, 1) := by decide +kernel
theorem dX1_takeAway_0 : decode cX1_takeAway 0 = .ok (.iload_n 3, 1) := by decide +kernel
theorem dX1_takeAway_1 : decode cX1_takeAway 1 = .ok (.ifCond .ne 4, 3) := by decide +kernel
theorem dX1_takeAway_4 : decode cX1_takeAway 4 = .ok (.return_, 1) := by decide +kernel
theorem dX1_takeAway_5 : decode cX1_takeAway 5 = .ok (.aload_n 0, 1) := by decide +kernel
theorem dX1_takeAway_6 : decode cX1_takeAway 6 = .ok (.getfield 11, 3) := by decide +kernel
theorem dX1_takeAway_9 : decode cX1_takeAway 9 = .ok (.iload_n 1, 1) := by decide +kernel
theorem dX1_takeAway_10 : decode cX1_takeAway 10 = .ok (.aaload, 1) := by decide +kernel
theorem dX1_takeAway_11 : decode cX1_takeAway 11 = .ok (.astore 6, 2) := by decide +kernel
theorem dX1_takeAway_13 : decode cX1_takeAway 13 = .ok (.aload_n 0, 1) := by decide +kernel
theorem dX1_takeAway_14 : decode cX1_takeAway 14 = .ok (.getfield 11, 3) := by decide +kernel
theorem dX1_takeAway_17 : decode cX1_takeAway 17 = .ok (.iload_n 2, 1) := by decide +kernel
theorem dX1_takeAway_18 : decode cX1_takeAway 18 = .ok (.aaload, 1) := by decide +kernel
theorem dX1_takeAway_19 : decode cX1_takeAway 19 = .ok (.astore 7, 2) := by decide +kernel
theorem dX1_takeAway_21 : decode cX1_takeAway 21 = .ok (.aload_n 0, 1) := by decide +kernel
theorem dX1_takeAway_22 : decode cX1_takeAway 22 = .ok (.getfield 23, 3) := by decide +kernel
theorem dX1_takeAway_25 : decode cX1_takeAway 25 = .ok (.iload_n 3, 1) := by decide +kernel
theorem dX1_takeAway_26 : decode cX1_takeAway 26 = .ok (.isub, 1) := by decide +kernel
theorem dX1_takeAway_27 : decode cX1_takeAway 27 = .ok (.istore 8, 2) := by decide +kernel
theorem dX1_takeAway_29 : decode cX1_takeAway 29 = .ok (.iload 4, 2) := by decide +kernel
theorem dX1_takeAway_31 : decode cX1_takeAway 31 = .ok (.istore 9, 2) := by decide +kernel
theorem dX1_takeAway_33 : decode cX1_takeAway 33 = .ok (.iload 9, 2) := by decide +kernel
theorem dX1_takeAway_35 : decode cX1_takeAway 35 = .ok (.iload 5, 2) := by decide +kernel
theorem dX1_takeAway_37 : decode cX1_takeAway 37 = .ok (.if_icmp .ge 33, 3) := by decide +kernel
theorem dX1_takeAway_40 : decode cX1_takeAway 40 = .ok (.aload 6, 2) := by decide +kernel
theorem dX1_takeAway_42 : decode cX1_takeAway 42 = .ok (.iload 9, 2) := by decide +kernel
theorem dX1_takeAway_44 : decode cX1_takeAway 44 = .ok (.aload 6, 2) := by decide +kernel
theorem dX1_takeAway_46 : decode cX1_takeAway 46 = .ok (.iload 9, 2) := by decide +kernel
theorem dX1_takeAway_48 : decode cX1_takeAway 48 = .ok (.iaload, 1) := by decide +kernel
theorem dX1_takeAway_49 : decode cX1_takeAway 49 = .ok (.iload 8, 2) := by decide +kernel
theorem dX1_takeAway_51 : decode cX1_takeAway 51 = .ok (.aload 7, 2) := by decide +kernel
theorem dX1_takeAway_53 : decode cX1_takeAway 53 = .ok (.iload 9, 2) := by decide +kernel
theorem dX1_takeAway_55 : decode cX1_takeAway 55 = .ok (.iaload, 1) := by decide +kernel
theorem dX1_takeAway_56 : decode cX1_takeAway 56 = .ok (.imul, 1) := by decide +kernel
theorem dX1_takeAway_57 : decode cX1_takeAway 57 = .ok (.iadd, 1) := by decide +kernel
theorem dX1_takeAway_58 : decode cX1_takeAway 58 = .ok (.aload_n 0, 1) := by decide +kernel
theorem dX1_takeAway_59 : decode cX1_takeAway 59 = .ok (.getfield 23, 3) := by decide +kernel
theorem dX1_takeAway_62 : decode cX1_takeAway 62 = .ok (.irem, 1) := by decide +kernel
theorem dX1_takeAway_63 : decode cX1_takeAway 63 = .ok (.iastore, 1) := by decide +kernel
theorem dX1_takeAway_64 : decode cX1_takeAway 64 = .ok (.iinc 9 1, 3) := by decide +kernel
theorem dX1_takeAway_67 : decode cX1_takeAway 67 = .ok (.goto (-34), 3) := by decide +kernel
theorem dX1_takeAway_70 : decode cX1_takeAway 70 = .ok (.return_, 1) := by decide +kernel
theorem dX2_init_0 : decode cX2_init 0 = .ok (.aload_n 0, 1) := by decide +kernel
theorem dX2_init_1 : decode cX2_init 1 = .ok (.invokespecial 3, 3) := by decide +kernel
theorem dX2_init_4 : decode cX2_init 4 = .ok (.aload_n 0, 1) := by decide +kernel
theorem dX2_init_5 : decode cX2_init 5 = .ok (.iconst 0, 1) := by decide +kernel
theorem dX2_init_6 : decode cX2_init 6 = .ok (.putfield 9, 3) := by decide +kernel
theorem dX2_init_9 : decode cX2_init 9 = .ok (.aload_n 0, 1) := by decide +kernel
theorem dX2_init_10 : decode cX2_init 10 = .ok (.new 15, 3) := by decide +kernel
theorem dX2_init_13 : decode cX2_init 13 = .ok (.dup, 1) := by decide +kernel
theorem dX2_init_14 : decode cX2_init 14 = .ok (.invokespecial 17, 3) := by decide +kernel
theorem dX2_init_17 : decode cX2_init 17 = .ok (.putfield 18, 3) := by decide +kernel
theorem dX2_init_20 : decode cX2_init 20 = .ok (.aload_n 0, 1) := by decide +kernel
theorem dX2_init_21 : decode cX2_init 21 = .ok (.bipush 70, 2) := by decide +kernel
theorem dX2_init_23 : decode cX2_init 23 = .ok (.newarray .int, 2) := by decide +kernel
theorem dX2_init_25 : decode cX2_init 25 = .ok (.putfield 22, 3) := by decide +kernel
theorem dX2_init_28 : decode cX2_init 28 = .ok (.aload_n 0, 1) := by decide +kernel
theorem dX2_init_29 : decode cX2_init 29 = .ok (.iconst 0, 1) := by decide +kernel
theorem dX2_init_30 : decode cX2_init 30 = .ok (.putfield 26, 3) := by decide +kernel
theorem dX2_init_33 : decode cX2_init 33 = .ok (.aload_n 0, 1) := by decide +kernel
theorem dX2_init_34 : decode cX2_init 34 = .ok (.iconst 0, 1) := by decide +kernel
theorem dX2_init_35 : decode cX2_init 35 = .ok (.putfield 29, 3) := by decide +kernel
theorem dX2_init_38 : decode cX2_init 38 = .ok (.aload_n 0, 1) := by decide +kernel
theorem dX2_init_39 : decode cX2_init 39 = .ok (.iconst 0, 1) := by decide +kernel
theorem dX2_init_40 : decode cX2_init 40 = .ok (.putfield 32, 3) := by decide +kernel
theorem dX2_init_43 : decode cX2_init 43 = .ok (.return_, 1) := by decide +kernel
theorem dX2_takeLetter_0 : decode cX2_takeLetter 0 = .ok (.aload_n 0, 1) := by decide +kernel
theorem dX2_takeLetter_1 : decode cX2_takeLetter 1 = .ok (.getfield 9, 3) := by decide +kernel
theorem dX2_takeLetter_4 : decode cX2_takeLetter 4 = .ok (.bipush 70, 2) := by decide +kernel
theorem dX2_takeLetter_6 : decode cX2_takeLetter 6 = .ok (.if_icmp .lt 5, 3) := by decide +kernel
theorem dX2_takeLetter_9 : decode cX2_takeLetter 9 = .ok (.iconst 0, 1) := by decide +kernel
theorem dX2_takeLetter_10 : decode cX2_takeLetter 10 = .ok (.ireturn, 1) := by decide +kernel
theorem dX2_takeLetter_11 : decode cX2_takeLetter 11 = .ok (.aload_n 0, 1) := by decide +kernel
theorem dX2_takeLetter_12 : decode cX2_takeLetter 12 = .ok (.getfield 22, 3) := by decide +kernel
theorem dX2_takeLetter_15 : decode cX2_takeLetter 15 = .ok (.aload_n 0, 1) := by decide +kernel
theorem dX2_takeLetter_16 : decode cX2_takeLetter 16 = .ok (.getfield 9, 3) := by decide +kernel
theorem dX2_takeLetter_19 : decode cX2_takeLetter 19 = .ok (.iload_n 1, 1) := by decide +kernel
theorem dX2_takeLetter_20 : decode cX2_takeLetter 20 = .ok (.iastore, 1) := by decide +kernel
theorem dX2_takeLetter_21 : decode cX2_takeLetter 21 = .ok (.aload_n 0, 1) := by decide +kernel
theorem dX2_takeLetter_22 : decode cX2_takeLetter 22 = .ok (.dup, 1) := by decide +kernel
theorem dX2_takeLetter_23 : decode cX2_takeLetter 23 = .ok (.getfield 9, 3) := by decide +kernel
theorem dX2_takeLetter_26 : decode cX2_takeLetter 26 = .ok (.iconst 1, 1) := by decide +kernel
theorem dX2_takeLetter_27 : decode cX2_takeLetter 27 = .ok (.iadd, 1) := by decide +kernel
theorem dX2_takeLetter_28 : decode cX2_takeLetter 28 = .ok (.putfield 9, 3) := by decide +kernel
theorem dX2_takeLetter_31 : decode cX2_takeLetter 31 = .ok (.iconst 1, 1) := by decide +kernel
theorem dX2_takeLetter_32 : decode cX2_takeLetter 32 = .ok (.ireturn, 1) := by decide +kernel
theorem dX2_readMatrix_0 : decode cX2_readMatrix 0 = .ok (.aload_n 0, 1) := by decide +kernel
theorem dX2_readMatrix_1 : decode cX2_readMatrix 1 = .ok (.iload_n 1, 1) := by decide +kernel
theorem dX2_readMatrix_2 : decode cX2_readMatrix 2 = .ok (.putfield 29, 3) := by decide +kernel
theorem dX2_readMatrix_5 : decode cX2_readMatrix 5 = .ok (.aload_n 0, 1) := by decide +kernel
theorem dX2_readMatrix_6 : decode cX2_readMatrix 6 = .ok (.iconst 0, 1) := by decide +kernel
theorem dX2_readMatrix_7 : decode cX2_readMatrix 7 = .ok (.putfield 26, 3) := by decide +kernel
theorem dX2_readMatrix_10 : decode cX2_readMatrix 10 = .ok (.aload_n 0, 1) := by decide +kernel
theorem dX2_readMatrix_11 : decode cX2_readMatrix 11 = .ok (.invokevirtual 35, 3) := by decide +kernel
theorem dX2_readMatrix_14 : decode cX2_readMatrix 14 = .ok (.aload_n 0, 1) := by decide +kernel
theorem dX2_readMatrix_15 : decode cX2_readMatrix 15 = .ok (.getfield 18, 3) := by decide +kernel
theorem dX2_readMatrix_18 : decode cX2_readMatrix 18 = .ok (.aload_n 0, 1) := by decide +kernel
theorem dX2_readMatrix_19 : decode cX2_readMatrix 19 = .ok (.invokevirtual 38, 3) := by decide +kernel
theorem dX2_readMatrix_22 : decode cX2_readMatrix 22 = .ok (.invokestatic 42, 3) := by decide +kernel
theorem dX2_readMatrix_25 : decode cX2_readMatrix 25 = .ok (.putfield 46, 3) := by decide +kernel
theorem dX2_readMatrix_28 : decode cX2_readMatrix 28 = .ok (.aload_n 0, 1) := by decide +kernel
theorem dX2_readMatrix_29 : decode cX2_readMatrix 29 = .ok (.getfield 18, 3) := by decide +kernel
theorem dX2_readMatrix_32 : decode cX2_readMatrix 32 = .ok (.getfield 46, 3) := by decide +kernel
theorem dX2_readMatrix_35 : decode cX2_readMatrix 35 = .ok (.ifCond .ge 8, 3) := by decide +kernel
theorem dX2_readMatrix_38 : decode cX2_readMatrix 38 = .ok (.aload_n 0, 1) := by decide +kernel
theorem dX2_readMatrix_39 : decode cX2_readMatrix 39 = .ok (.invokevirtual 49, 3) := by decide +kernel
theorem dX2_readMatrix_42 : decode cX2_readMatrix 42 = .ok (.ireturn, 1) := by decide +kernel
theorem dX2_readMatrix_43 : decode cX2_readMatrix 43 = .ok (.aload_n 0, 1) := by decide +kernel
theorem dX2_readMatrix_44 : decode cX2_readMatrix 44 = .ok (.dup, 1) := by decide +kernel
theorem dX2_readMatrix_45 : decode cX2_readMatrix 45 = .ok (.getfield 26, 3) := by decide +kernel
theorem dX2_readMatrix_48 : decode cX2_readMatrix 48 = .ok (.iconst 1, 1) := by decide +kernel
theorem dX2_readMatrix_49 : decode cX2_readMatrix 49 = .ok (.iadd, 1) := by decide +kernel
theorem dX2_readMatrix_50 : decode cX2_readMatrix 50 = .ok (.putfield 26, 3) := by decide +kernel
theorem dX2_readMatrix_53 : decode cX2_readMatrix 53 = .ok (.aload_n 0, 1) := by decide +kernel
theorem dX2_readMatrix_54 : decode cX2_readMatrix 54 = .ok (.invokevirtual 52, 3) := by decide +kernel
theorem dX2_readMatrix_57 : decode cX2_readMatrix 57 = .ok (.istore_n 2, 1) := by decide +kernel
theorem dX2_readMatrix_58 : decode cX2_readMatrix 58 = .ok (.iload_n 2, 1) := by decide +kernel
theorem dX2_readMatrix_59 : decode cX2_readMatrix 59 = .ok (.ifCond .eq 5, 3) := by decide +kernel
theorem dX2_readMatrix_62 : decode cX2_readMatrix 62 = .ok (.iload_n 2, 1) := by decide +kernel
theorem dX2_readMatrix_63 : decode cX2_readMatrix 63 = .ok (.ireturn, 1) := by decide +kernel
theorem dX2_readMatrix_64 : decode cX2_readMatrix 64 = .ok (.aload_n 0, 1) := by decide +kernel
theorem dX2_readMatrix_65 : decode cX2_readMatrix 65 = .ok (.invokevirtual 55, 3) := by decide +kernel
theorem dX2_readMatrix_68 : decode cX2_readMatrix 68 = .ok (.aload_n 0, 1) := by decide +kernel
theorem dX2_readMatrix_69 : decode cX2_readMatrix 69 = .ok (.invokevirtual 38, 3) := by decide +kernel
theorem dX2_readMatrix_72 : decode cX2_readMatrix 72 = .ok (.bipush 61, 2) := by decide +kernel
theorem dX2_readMatrix_74 : decode cX2_readMatrix 74 = .ok (.if_icmp .ne 18, 3) := by decide +kernel
theorem dX2_readMatrix_77 : decode cX2_readMatrix 77 = .ok (.aload_n 0, 1) := by decide +kernel
theorem dX2_readMatrix_78 : decode cX2_readMatrix 78 = .ok (.dup, 1) := by decide +kernel
theorem dX2_readMatrix_79 : decode cX2_readMatrix 79 = .ok (.getfield 26, 3) := by decide +kernel
theorem dX2_readMatrix_82 : decode cX2_readMatrix 82 = .ok (.iconst 1, 1) := by decide +kernel
theorem dX2_readMatrix_83 : decode cX2_readMatrix 83 = .ok (.iadd, 1) := by decide +kernel
theorem dX2_readMatrix_84 : decode cX2_readMatrix 84 = .ok (.putfield 26, 3) := by decide +kernel
theorem dX2_readMatrix_87 : decode cX2_readMatrix 87 = .ok (.aload_n 0, 1) := by decide +kernel
theorem dX2_readMatrix_88 : decode cX2_readMatrix 88 = .ok (.invokevirtual 58, 3) := by decide +kernel
theorem dX2_readMatrix_91 : decode cX2_readMatrix 91 = .ok (.istore_n 2, 1) := by decide +kernel
theorem dX2_readMatrix_92 : decode cX2_readMatrix 92 = .ok (.iload_n 2, 1) := by decide +kernel
theorem dX2_readMatrix_93 : decode cX2_readMatrix 93 = .ok (.ifCond .ne 10, 3) := by decide +kernel
theorem dX2_readMatrix_96 : decode cX2_readMatrix 96 = .ok (.aload_n 0, 1) := by decide +kernel
theorem dX2_readMatrix_97 : decode cX2_readMatrix 97 = .ok (.invokevirtual 38, 3) := by decide +kernel
theorem dX2_readMatrix_100 : decode cX2_readMatrix 100 = .ok (.ifCond .ge 7, 3) := by decide +kernel
theorem dX2_readMatrix_103 : decode cX2_readMatrix 103 = .ok (.iload_n 2, 1) := by decide +kernel
theorem dX2_readMatrix_104 : decode cX2_readMatrix 104 = .ok (.goto 7, 3) := by decide +kernel
theorem dX2_readMatrix_107 : decode cX2_readMatrix 107 = .ok (.aload_n 0, 1) := by decide +kernel
theorem dX2_readMatrix_108 : decode cX2_readMatrix 108 = .ok (.invokevirtual 49, 3) := by decide +kernel
theorem dX2_readMatrix_111 : decode cX2_readMatrix 111 = .ok (.ireturn, 1) := by decide +kernel
theorem dX2_readRow_0 : decode cX2_readRow 0 = .ok (.iconst 0, 1) := by decide +kernel
theorem dX2_readRow_1 : decode cX2_readRow 1 = .ok (.istore_n 1, 1) := by decide +kernel
theorem dX2_readRow_2 : decode cX2_readRow 2 = .ok (.iconst 1, 1) := by decide +kernel
theorem dX2_readRow_3 : decode cX2_readRow 3 = .ok (.istore_n 2, 1) := by decide +kernel
theorem dX2_readRow_4 : decode cX2_readRow 4 = .ok (.iload_n 2, 1) := by decide +kernel
theorem dX2_readRow_5 : decode cX2_readRow 5 = .ok (.ifCond .eq 78, 3) := by decide +kernel
theorem dX2_readRow_8 : decode cX2_readRow 8 = .ok (.iload_n 1, 1) := by decide +kernel
theorem dX2_readRow_9 : decode cX2_readRow 9 = .ok (.bipush 11, 2) := by decide +kernel
theorem dX2_readRow_11 : decode cX2_readRow 11 = .ok (.if_icmp .ge 72, 3) := by decide +kernel
theorem dX2_readRow_14 : decode cX2_readRow 14 = .ok (.aload_n 0, 1) := by decide +kernel
theorem dX2_readRow_15 : decode cX2_readRow 15 = .ok (.invokevirtual 61, 3) := by decide +kernel
theorem dX2_readRow_18 : decode cX2_readRow 18 = .ok (.istore_n 3, 1) := by decide +kernel
theorem dX2_readRow_19 : decode cX2_readRow 19 = .ok (.iload_n 3, 1) := by decide +kernel
theorem dX2_readRow_20 : decode cX2_readRow 20 = .ok (.ifCond .eq 5, 3) := by decide +kernel
theorem dX2_readRow_23 : decode cX2_readRow 23 = .ok (.iload_n 3, 1) := by decide +kernel
theorem dX2_readRow_24 : decode cX2_readRow 24 = .ok (.ireturn, 1) := by decide +kernel
theorem dX2_readRow_25 : decode cX2_readRow 25 = .ok (.aload_n 0, 1) := by decide +kernel
theorem dX2_readRow_26 : decode cX2_readRow 26 = .ok (.getfield 18, 3) := by decide +kernel
theorem dX2_readRow_29 : decode cX2_readRow 29 = .ok (.getfield 64, 3) := by decide +kernel
theorem dX2_readRow_32 : decode cX2_readRow 32 = .ok (.iload_n 1, 1) := by decide +kernel
theorem dX2_readRow_33 : decode cX2_readRow 33 = .ok (.aload_n 0, 1) := by decide +kernel
theorem dX2_readRow_34 : decode cX2_readRow 34 = .ok (.getfield 32, 3) := by decide +kernel
theorem dX2_readRow_37 : decode cX2_readRow 37 = .ok (.iastore, 1) := by decide +kernel
theorem dX2_readRow_38 : decode cX2_readRow 38 = .ok (.iinc 1 1, 3) := by decide +kernel
theorem dX2_readRow_41 : decode cX2_readRow 41 = .ok (.aload_n 0, 1) := by decide +kernel
theorem dX2_readRow_42 : decode cX2_readRow 42 = .ok (.invokevirtual 38, 3) := by decide +kernel
theorem dX2_readRow_45 : decode cX2_readRow 45 = .ok (.bipush 44, 2) := by decide +kernel
theorem dX2_readRow_47 : decode cX2_readRow 47 = .ok (.if_icmp .ne 13, 3) := by decide +kernel
theorem dX2_readRow_50 : decode cX2_readRow 50 = .ok (.iload_n 1, 1) := by decide +kernel
theorem dX2_readRow_51 : decode cX2_readRow 51 = .ok (.bipush 11, 2) := by decide +kernel
theorem dX2_readRow_53 : decode cX2_readRow 53 = .ok (.if_icmp .ge 7, 3) := by decide +kernel
theorem dX2_readRow_56 : decode cX2_readRow 56 = .ok (.iconst 1, 1) := by decide +kernel
theorem dX2_readRow_57 : decode cX2_readRow 57 = .ok (.goto 4, 3) := by decide +kernel
theorem dX2_readRow_60 : decode cX2_readRow 60 = .ok (.iconst 0, 1) := by decide +kernel
theorem dX2_readRow_61 : decode cX2_readRow 61 = .ok (.istore_n 2, 1) := by decide +kernel
theorem dX2_readRow_62 : decode cX2_readRow 62 = .ok (.aload_n 0, 1) := by decide +kernel
theorem dX2_readRow_63 : decode cX2_readRow 63 = .ok (.dup, 1) := by decide +kernel
theorem dX2_readRow_64 : decode cX2_readRow 64 = .ok (.getfield 26, 3) := by decide +kernel
theorem dX2_readRow_67 : decode cX2_readRow 67 = .ok (.iload_n 2, 1) := by decide +kernel
theorem dX2_readRow_68 : decode cX2_readRow 68 = .ok (.ifCond .eq 7, 3) := by decide +kernel
theorem dX2_readRow_71 : decode cX2_readRow 71 = .ok (.iconst 1, 1) := by decide +kernel
theorem dX2_readRow_72 : decode cX2_readRow 72 = .ok (.goto 4, 3) := by decide +kernel
theorem dX2_readRow_75 : decode cX2_readRow 75 = .ok (.iconst 0, 1) := by decide +kernel
theorem dX2_readRow_76 : decode cX2_readRow 76 = .ok (.iadd, 1) := by decide +kernel
theorem dX2_readRow_77 : decode cX2_readRow 77 = .ok (.putfield 26, 3) := by decide +kernel
theorem dX2_readRow_80 : decode cX2_readRow 80 = .ok (.goto (-76), 3) := by decide +kernel
theorem dX2_readRow_83 : decode cX2_readRow 83 = .ok (.iload_n 1, 1) := by decide +kernel
theorem dX2_readRow_84 : decode cX2_readRow 84 = .ok (.iconst 2, 1) := by decide +kernel
theorem dX2_readRow_85 : decode cX2_readRow 85 = .ok (.irem, 1) := by decide +kernel
theorem dX2_readRow_86 : decode cX2_readRow 86 = .ok (.ifCond .ne 8, 3) := by decide +kernel
theorem dX2_readRow_89 : decode cX2_readRow 89 = .ok (.aload_n 0, 1) := by decide +kernel
theorem dX2_readRow_90 : decode cX2_readRow 90 = .ok (.invokevirtual 49, 3) := by decide +kernel
theorem dX2_readRow_93 : decode cX2_readRow 93 = .ok (.ireturn, 1) := by decide +kernel
theorem dX2_readRow_94 : decode cX2_readRow 94 = .ok (.aload_n 0, 1) := by decide +kernel
theorem dX2_readRow_95 : decode cX2_readRow 95 = .ok (.getfield 18, 3) := by decide +kernel
theorem dX2_readRow_98 : decode cX2_readRow 98 = .ok (.iload_n 1, 1) := by decide +kernel
theorem dX2_readRow_99 : decode cX2_readRow 99 = .ok (.iconst 1, 1) := by decide +kernel
theorem dX2_readRow_100 : decode cX2_readRow 100 = .ok (.iadd, 1) := by decide +kernel
theorem dX2_readRow_101 : decode cX2_readRow 101 = .ok (.iconst 2, 1) := by decide +kernel
theorem dX2_readRow_102 : decode cX2_readRow 102 = .ok (.idiv, 1) := by decide +kernel
theorem dX2_readRow_103 : decode cX2_readRow 103 = .ok (.putfield 67, 3) := by decide +kernel
theorem dX2_readRow_106 : decode cX2_readRow 106 = .ok (.iconst 0, 1) := by decide +kernel
theorem dX2_readRow_107 : decode cX2_readRow 107 = .ok (.ireturn, 1) := by decide +kernel
theorem dX2_readSide_0 : decode cX2_readSide 0 = .ok (.iconst 0, 1) := by decide +kernel
theorem dX2_readSide_1 : decode cX2_readSide 1 = .ok (.istore_n 1, 1) := by decide +kernel
theorem dX2_readSide_2 : decode cX2_readSide 2 = .ok (.iload_n 1, 1) := by decide +kernel
theorem dX2_readSide_3 : decode cX2_readSide 3 = .ok (.aload_n 0, 1) := by decide +kernel
theorem dX2_readSide_4 : decode cX2_readSide 4 = .ok (.getfield 18, 3) := by decide +kernel
theorem dX2_readSide_7 : decode cX2_readSide 7 = .ok (.getfield 67, 3) := by decide +kernel
theorem dX2_readSide_10 : decode cX2_readSide 10 = .ok (.if_icmp .ge 61, 3) := by decide +kernel
theorem dX2_readSide_13 : decode cX2_readSide 13 = .ok (.iload_n 1, 1) := by decide +kernel
theorem dX2_readSide_14 : decode cX2_readSide 14 = .ok (.ifCond .le 27, 3) := by decide +kernel
theorem dX2_readSide_17 : decode cX2_readSide 17 = .ok (.aload_n 0, 1) := by decide +kernel
theorem dX2_readSide_18 : decode cX2_readSide 18 = .ok (.invokevirtual 38, 3) := by decide +kernel
theorem dX2_readSide_21 : decode cX2_readSide 21 = .ok (.bipush 44, 2) := by decide +kernel
theorem dX2_readSide_23 : decode cX2_readSide 23 = .ok (.if_icmp .eq 8, 3) := by decide +kernel
theorem dX2_readSide_26 : decode cX2_readSide 26 = .ok (.aload_n 0, 1) := by decide +kernel
theorem dX2_readSide_27 : decode cX2_readSide 27 = .ok (.invokevirtual 49, 3) := by decide +kernel
theorem dX2_readSide_30 : decode cX2_readSide 30 = .ok (.ireturn, 1) := by decide +kernel
theorem dX2_readSide_31 : decode cX2_readSide 31 = .ok (.aload_n 0, 1) := by decide +kernel
theorem dX2_readSide_32 : decode cX2_readSide 32 = .ok (.dup, 1) := by decide +kernel
theorem dX2_readSide_33 : decode cX2_readSide 33 = .ok (.getfield 26, 3) := by decide +kernel
theorem dX2_readSide_36 : decode cX2_readSide 36 = .ok (.iconst 1, 1) := by decide +kernel
theorem dX2_readSide_37 : decode cX2_readSide 37 = .ok (.iadd, 1) := by decide +kernel
theorem dX2_readSide_38 : decode cX2_readSide 38 = .ok (.putfield 26, 3) := by decide +kernel
theorem dX2_readSide_41 : decode cX2_readSide 41 = .ok (.aload_n 0, 1) := by decide +kernel
theorem dX2_readSide_42 : decode cX2_readSide 42 = .ok (.invokevirtual 61, 3) := by decide +kernel
theorem dX2_readSide_45 : decode cX2_readSide 45 = .ok (.istore_n 2, 1) := by decide +kernel
theorem dX2_readSide_46 : decode cX2_readSide 46 = .ok (.iload_n 2, 1) := by decide +kernel
theorem dX2_readSide_47 : decode cX2_readSide 47 = .ok (.ifCond .eq 5, 3) := by decide +kernel
theorem dX2_readSide_50 : decode cX2_readSide 50 = .ok (.iload_n 2, 1) := by decide +kernel
theorem dX2_readSide_51 : decode cX2_readSide 51 = .ok (.ireturn, 1) := by decide +kernel
theorem dX2_readSide_52 : decode cX2_readSide 52 = .ok (.aload_n 0, 1) := by decide +kernel
theorem dX2_readSide_53 : decode cX2_readSide 53 = .ok (.getfield 18, 3) := by decide +kernel
theorem dX2_readSide_56 : decode cX2_readSide 56 = .ok (.getfield 70, 3) := by decide +kernel
theorem dX2_readSide_59 : decode cX2_readSide 59 = .ok (.iload_n 1, 1) := by decide +kernel
theorem dX2_readSide_60 : decode cX2_readSide 60 = .ok (.aload_n 0, 1) := by decide +kernel
theorem dX2_readSide_61 : decode cX2_readSide 61 = .ok (.getfield 32, 3) := by decide +kernel
theorem dX2_readSide_64 : decode cX2_readSide 64 = .ok (.iastore, 1) := by decide +kernel
theorem dX2_readSide_65 : decode cX2_readSide 65 = .ok (.iinc 1 1, 3) := by decide +kernel
theorem dX2_readSide_68 : decode cX2_readSide 68 = .ok (.goto (-66), 3) := by decide +kernel
theorem dX2_readSide_71 : decode cX2_readSide 71 = .ok (.iconst 0, 1) := by decide +kernel
theorem dX2_readSide_72 : decode cX2_readSide 72 = .ok (.ireturn, 1) := by decide +kernel
theorem dX2_clearSide_0 : decode cX2_clearSide 0 = .ok (.iconst 0, 1) := by decide +kernel
theorem dX2_clearSide_1 : decode cX2_clearSide 1 = .ok (.istore_n 1, 1) := by decide +kernel
theorem dX2_clearSide_2 : decode cX2_clearSide 2 = .ok (.iload_n 1, 1) := by decide +kernel
theorem dX2_clearSide_3 : decode cX2_clearSide 3 = .ok (.bipush 6, 2) := by decide +kernel
theorem dX2_clearSide_5 : decode cX2_clearSide 5 = .ok (.if_icmp .ge 19, 3) := by decide +kernel
theorem dX2_clearSide_8 : decode cX2_clearSide 8 = .ok (.aload_n 0, 1) := by decide +kernel
theorem dX2_clearSide_9 : decode cX2_clearSide 9 = .ok (.getfield 18, 3) := by decide +kernel
theorem dX2_clearSide_12 : decode cX2_clearSide 12 = .ok (.getfield 70, 3) := by decide +kernel
theorem dX2_clearSide_15 : decode cX2_clearSide 15 = .ok (.iload_n 1, 1) := by decide +kernel
theorem dX2_clearSide_16 : decode cX2_clearSide 16 = .ok (.iconst 0, 1) := by decide +kernel
theorem dX2_clearSide_17 : decode cX2_clearSide 17 = .ok (.iastore, 1) := by decide +kernel
theorem dX2_clearSide_18 : decode cX2_clearSide 18 = .ok (.iinc 1 1, 3) := by decide +kernel
theorem dX2_clearSide_21 : decode cX2_clearSide 21 = .ok (.goto (-19), 3) := by decide +kernel
theorem dX2_clearSide_24 : decode cX2_clearSide 24 = .ok (.return_, 1) := by decide +kernel
theorem dX2_readNumber_0 : decode cX2_readNumber 0 = .ok (.aload_n 0, 1) := by decide +kernel
theorem dX2_readNumber_1 : decode cX2_readNumber 1 = .ok (.invokevirtual 35, 3) := by decide +kernel
theorem dX2_readNumber_4 : decode cX2_readNumber 4 = .ok (.aload_n 0, 1) := by decide +kernel
theorem dX2_readNumber_5 : decode cX2_readNumber 5 = .ok (.getfield 26, 3) := by decide +kernel
theorem dX2_readNumber_8 : decode cX2_readNumber 8 = .ok (.istore_n 1, 1) := by decide +kernel
theorem dX2_readNumber_9 : decode cX2_readNumber 9 = .ok (.aload_n 0, 1) := by decide +kernel
theorem dX2_readNumber_10 : decode cX2_readNumber 10 = .ok (.invokevirtual 73, 3) := by decide +kernel
theorem dX2_readNumber_13 : decode cX2_readNumber 13 = .ok (.ifCond .ne 8, 3) := by decide +kernel
theorem dX2_readNumber_16 : decode cX2_readNumber 16 = .ok (.aload_n 0, 1) := by decide +kernel
theorem dX2_readNumber_17 : decode cX2_readNumber 17 = .ok (.invokevirtual 49, 3) := by decide +kernel
theorem dX2_readNumber_20 : decode cX2_readNumber 20 = .ok (.ireturn, 1) := by decide +kernel
theorem dX2_readNumber_21 : decode cX2_readNumber 21 = .ok (.aload_n 0, 1) := by decide +kernel
theorem dX2_readNumber_22 : decode cX2_readNumber 22 = .ok (.iconst 0, 1) := by decide +kernel
theorem dX2_readNumber_23 : decode cX2_readNumber 23 = .ok (.putfield 32, 3) := by decide +kernel
theorem dX2_readNumber_26 : decode cX2_readNumber 26 = .ok (.iconst 0, 1) := by decide +kernel
theorem dX2_readNumber_27 : decode cX2_readNumber 27 = .ok (.istore_n 2, 1) := by decide +kernel
theorem dX2_readNumber_28 : decode cX2_readNumber 28 = .ok (.iload_n 2, 1) := by decide +kernel
theorem dX2_readNumber_29 : decode cX2_readNumber 29 = .ok (.iconst 2, 1) := by decide +kernel
theorem dX2_readNumber_30 : decode cX2_readNumber 30 = .ok (.if_icmp .ge 45, 3) := by decide +kernel
theorem dX2_readNumber_33 : decode cX2_readNumber 33 = .ok (.aload_n 0, 1) := by decide +kernel
theorem dX2_readNumber_34 : decode cX2_readNumber 34 = .ok (.invokevirtual 73, 3) := by decide +kernel
theorem dX2_readNumber_37 : decode cX2_readNumber 37 = .ok (.ifCond .eq 38, 3) := by decide +kernel
theorem dX2_readNumber_40 : decode cX2_readNumber 40 = .ok (.aload_n 0, 1) := by decide +kernel
theorem dX2_readNumber_41 : decode cX2_readNumber 41 = .ok (.bipush 10, 2) := by decide +kernel
theorem dX2_readNumber_43 : decode cX2_readNumber 43 = .ok (.aload_n 0, 1) := by decide +kernel
theorem dX2_readNumber_44 : decode cX2_readNumber 44 = .ok (.getfield 32, 3) := by decide +kernel
theorem dX2_readNumber_47 : decode cX2_readNumber 47 = .ok (.imul, 1) := by decide +kernel
theorem dX2_readNumber_48 : decode cX2_readNumber 48 = .ok (.aload_n 0, 1) := by decide +kernel
theorem dX2_readNumber_49 : decode cX2_readNumber 49 = .ok (.invokevirtual 38, 3) := by decide +kernel
theorem dX2_readNumber_52 : decode cX2_readNumber 52 = .ok (.iadd, 1) := by decide +kernel
theorem dX2_readNumber_53 : decode cX2_readNumber 53 = .ok (.bipush 48, 2) := by decide +kernel
theorem dX2_readNumber_55 : decode cX2_readNumber 55 = .ok (.isub, 1) := by decide +kernel
theorem dX2_readNumber_56 : decode cX2_readNumber 56 = .ok (.putfield 32, 3) := by decide +kernel
theorem dX2_readNumber_59 : decode cX2_readNumber 59 = .ok (.aload_n 0, 1) := by decide +kernel
theorem dX2_readNumber_60 : decode cX2_readNumber 60 = .ok (.dup, 1) := by decide +kernel
theorem dX2_readNumber_61 : decode cX2_readNumber 61 = .ok (.getfield 26, 3) := by decide +kernel
theorem dX2_readNumber_64 : decode cX2_readNumber 64 = .ok (.iconst 1, 1) := by decide +kernel
theorem dX2_readNumber_65 : decode cX2_readNumber 65 = .ok (.iadd, 1) := by decide +kernel
theorem dX2_readNumber_66 : decode cX2_readNumber 66 = .ok (.putfield 26, 3) := by decide +kernel
theorem dX2_readNumber_69 : decode cX2_readNumber 69 = .ok (.iinc 2 1, 3) := by decide +kernel
theorem dX2_readNumber_72 : decode cX2_readNumber 72 = .ok (.goto (-44), 3) := by decide +kernel
theorem dX2_readNumber_75 : decode cX2_readNumber 75 = .ok (.aload_n 0, 1) := by decide +kernel
theorem dX2_readNumber_76 : decode cX2_readNumber 76 = .ok (.getfield 32, 3) := by decide +kernel
theorem dX2_readNumber_79 : decode cX2_readNumber 79 = .ok (.aload_n 0, 1) := by decide +kernel
theorem dX2_readNumber_80 : decode cX2_readNumber 80 = .ok (.getfield 29, 3) := by decide +kernel
theorem dX2_readNumber_83 : decode cX2_readNumber 83 = .ok (.if_icmp .lt 8, 3) := by decide +kernel
theorem dX2_readNumber_86 : decode cX2_readNumber 86 = .ok (.bipush (-20), 2) := by decide +kernel
theorem dX2_readNumber_88 : decode cX2_readNumber 88 = .ok (.iload_n 1, 1) := by decide +kernel
theorem dX2_readNumber_89 : decode cX2_readNumber 89 = .ok (.isub, 1) := by decide +kernel
theorem dX2_readNumber_90 : decode cX2_readNumber 90 = .ok (.ireturn, 1) := by decide +kernel
theorem dX2_readNumber_91 : decode cX2_readNumber 91 = .ok (.aload_n 0, 1) := by decide +kernel
theorem dX2_readNumber_92 : decode cX2_readNumber 92 = .ok (.invokevirtual 73, 3) := by decide +kernel
theorem dX2_readNumber_95 : decode cX2_readNumber 95 = .ok (.ifCond .eq 8, 3) := by decide +kernel
theorem dX2_readNumber_98 : decode cX2_readNumber 98 = .ok (.aload_n 0, 1) := by decide +kernel
theorem dX2_readNumber_99 : decode cX2_readNumber 99 = .ok (.invokevirtual 49, 3) := by decide +kernel
theorem dX2_readNumber_102 : decode cX2_readNumber 102 = .ok (.ireturn, 1) := by decide +kernel
theorem dX2_readNumber_103 : decode cX2_readNumber 103 = .ok (.aload_n 0, 1) := by decide +kernel
theorem dX2_readNumber_104 : decode cX2_readNumber 104 = .ok (.invokevirtual 35, 3) := by decide +kernel
theorem dX2_readNumber_107 : decode cX2_readNumber 107 = .ok (.iconst 0, 1) := by decide +kernel
theorem dX2_readNumber_108 : decode cX2_readNumber 108 = .ok (.ireturn, 1) := by decide +kernel
theorem dX2_skipBlanks_0 : decode cX2_skipBlanks 0 = .ok (.aload_n 0, 1) := by decide +kernel
theorem dX2_skipBlanks_1 : decode cX2_skipBlanks 1 = .ok (.getfield 26, 3) := by decide +kernel
theorem dX2_skipBlanks_4 : decode cX2_skipBlanks 4 = .ok (.aload_n 0, 1) := by decide +kernel
theorem dX2_skipBlanks_5 : decode cX2_skipBlanks 5 = .ok (.getfield 9, 3) := by decide +kernel
theorem dX2_skipBlanks_8 : decode cX2_skipBlanks 8 = .ok (.if_icmp .ge 25, 3) := by decide +kernel
theorem dX2_skipBlanks_11 : decode cX2_skipBlanks 11 = .ok (.aload_n 0, 1) := by decide +kernel
theorem dX2_skipBlanks_12 : decode cX2_skipBlanks 12 = .ok (.invokevirtual 38, 3) := by decide +kernel
theorem dX2_skipBlanks_15 : decode cX2_skipBlanks 15 = .ok (.bipush 32, 2) := by decide +kernel
theorem dX2_skipBlanks_17 : decode cX2_skipBlanks 17 = .ok (.if_icmp .ne 16, 3) := by decide +kernel
theorem dX2_skipBlanks_20 : decode cX2_skipBlanks 20 = .ok (.aload_n 0, 1) := by decide +kernel
theorem dX2_skipBlanks_21 : decode cX2_skipBlanks 21 = .ok (.dup, 1) := by decide +kernel
theorem dX2_skipBlanks_22 : decode cX2_skipBlanks 22 = .ok (.getfield 26, 3) := by decide +kernel
theorem dX2_skipBlanks_25 : decode cX2_skipBlanks 25 = .ok (.iconst 1, 1) := by decide +kernel
theorem dX2_skipBlanks_26 : decode cX2_skipBlanks 26 = .ok (.iadd, 1) := by decide +kernel
theorem dX2_skipBlanks_27 : decode cX2_skipBlanks 27 = .ok (.putfield 26, 3) := by decide +kernel
theorem dX2_skipBlanks_30 : decode cX2_skipBlanks 30 = .ok (.goto (-30), 3) := by decide +kernel
theorem dX2_skipBlanks_33 : decode cX2_skipBlanks 33 = .ok (.return_, 1) := by decide +kernel
theorem dX2_isDigitHere_0 : decode cX2_isDigitHere 0 = .ok (.aload_n 0, 1) := by decide +kernel
theorem dX2_isDigitHere_1 : decode cX2_isDigitHere 1 = .ok (.invokevirtual 38, 3) := by decide +kernel
theorem dX2_isDigitHere_4 : decode cX2_isDigitHere 4 = .ok (.bipush 48, 2) := by decide +kernel
theorem dX2_isDigitHere_6 : decode cX2_isDigitHere 6 = .ok (.if_icmp .lt 16, 3) := by decide +kernel
theorem dX2_isDigitHere_9 : decode cX2_isDigitHere 9 = .ok (.aload_n 0, 1) := by decide +kernel
theorem dX2_isDigitHere_10 : decode cX2_isDigitHere 10 = .ok (.invokevirtual 38, 3) := by decide +kernel
theorem dX2_isDigitHere_13 : decode cX2_isDigitHere 13 = .ok (.bipush 57, 2) := by decide +kernel
theorem dX2_isDigitHere_15 : decode cX2_isDigitHere 15 = .ok (.if_icmp .gt 7, 3) := by decide +kernel
theorem dX2_isDigitHere_18 : decode cX2_isDigitHere 18 = .ok (.iconst 1, 1) := by decide +kernel
theorem dX2_isDigitHere_19 : decode cX2_isDigitHere 19 = .ok (.goto 4, 3) := by decide +kernel
theorem dX2_isDigitHere_22 : decode cX2_isDigitHere 22 = .ok (.iconst 0, 1) := by decide +kernel
theorem dX2_isDigitHere_23 : decode cX2_isDigitHere 23 = .ok (.ireturn, 1) := by decide +kernel
theorem dX2_letterHere_0 : decode cX2_letterHere 0 = .ok (.aload_n 0, 1) := by decide +kernel
theorem dX2_letterHere_1 : decode cX2_letterHere 1 = .ok (.getfield 26, 3) := by decide +kernel
theorem dX2_letterHere_4 : decode cX2_letterHere 4 = .ok (.ifCond .lt 26, 3) := by decide +kernel
theorem dX2_letterHere_7 : decode cX2_letterHere 7 = .ok (.aload_n 0, 1) := by decide +kernel
theorem dX2_letterHere_8 : decode cX2_letterHere 8 = .ok (.getfield 26, 3) := by decide +kernel
theorem dX2_letterHere_11 : decode cX2_letterHere 11 = .ok (.aload_n 0, 1) := by decide +kernel
theorem dX2_letterHere_12 : decode cX2_letterHere 12 = .ok (.getfield 9, 3) := by decide +kernel
theorem dX2_letterHere_15 : decode cX2_letterHere 15 = .ok (.if_icmp .ge 15, 3) := by decide +kernel
theorem dX2_letterHere_18 : decode cX2_letterHere 18 = .ok (.aload_n 0, 1) := by decide +kernel
theorem dX2_letterHere_19 : decode cX2_letterHere 19 = .ok (.getfield 22, 3) := by decide +kernel
theorem dX2_letterHere_22 : decode cX2_letterHere 22 = .ok (.aload_n 0, 1) := by decide +kernel
theorem dX2_letterHere_23 : decode cX2_letterHere 23 = .ok (.getfield 26, 3) := by decide +kernel
theorem dX2_letterHere_26 : decode cX2_letterHere 26 = .ok (.iaload, 1) := by decide +kernel
theorem dX2_letterHere_27 : decode cX2_letterHere 27 = .ok (.goto 4, 3) := by decide +kernel
theorem dX2_letterHere_30 : decode cX2_letterHere 30 = .ok (.iconst (-1), 1) := by decide +kernel
theorem dX2_letterHere_31 : decode cX2_letterHere 31 = .ok (.ireturn, 1) := by decide +kernel
theorem dX2_faultHere_0 : decode cX2_faultHere 0 = .ok (.bipush (-20), 2) := by decide +kernel
theorem dX2_faultHere_2 : decode cX2_faultHere 2 = .ok (.aload_n 0, 1) := by decide +kernel
theorem dX2_faultHere_3 : decode cX2_faultHere 3 = .ok (.getfield 26, 3) := by decide +kernel
theorem dX2_faultHere_6 : decode cX2_faultHere 6 = .ok (.isub, 1) := by decide +kernel
theorem dX2_faultHere_7 : decode cX2_faultHere 7 = .ok (.ireturn, 1) := by decide +kernel
theorem dX2_kindOf_0 : decode cX2_kindOf 0 = .ok (.iload_n 0, 1) := by decide +kernel
theorem dX2_kindOf_1 : decode cX2_kindOf 1 = .ok (.lookupswitch 61 #[(98, 53), (101, 55), (110, 59), (114, 57), (115, 51)], 51) := by decide +kernel
theorem dX2_kindOf_52 : decode cX2_kindOf 52 = .ok (.iconst 0, 1) := by decide +kernel
theorem dX2_kindOf_53 : decode cX2_kindOf 53 = .ok (.ireturn, 1) := by decide +kernel
theorem dX2_kindOf_54 : decode cX2_kindOf 54 = .ok (.iconst 1, 1) := by decide +kernel
theorem dX2_kindOf_55 : decode cX2_kindOf 55 = .ok (.ireturn, 1) := by decide +kernel
theorem dX2_kindOf_56 : decode cX2_kindOf 56 = .ok (.iconst 2, 1) := by decide +kernel
theorem dX2_kindOf_57 : decode cX2_kindOf 57 = .ok (.ireturn, 1) := by decide +kernel
theorem dX2_kindOf_58 : decode cX2_kindOf 58 = .ok (.iconst 3, 1) := by decide +kernel
theorem dX2_kindOf_59 : decode cX2_kindOf 59 = .ok (.ireturn, 1) := by decide +kernel
theorem dX2_kindOf_60 : decode cX2_kindOf 60 = .ok (.iconst 4, 1) := by decide +kernel
theorem dX2_kindOf_61 : decode cX2_kindOf 61 = .ok (.ireturn, 1) := by decide +kernel
theorem dX2_kindOf_62 : decode cX2_kindOf 62 = .ok (.iconst (-1), 1) := by decide +kernel
theorem dX2_kindOf_63 : decode cX2_kindOf 63 = .ok (.ireturn, 1) := by decide +kernel
theorem dX3_init_0 : decode cX3_init 0 = .ok (.aload_n 0, 1) := by decide +kernel
theorem dX3_init_1 : decode cX3_init 1 = .ok (.invokespecial 3, 3) := by decide +kernel
theorem dX3_init_4 : decode cX3_init 4 = .ok (.aload_n 0, 1) := by decide +kernel
theorem dX3_init_5 : decode cX3_init 5 = .ok (.iconst 1, 1) := by decide +kernel
theorem dX3_init_6 : decode cX3_init 6 = .ok (.putfield 9, 3) := by decide +kernel
theorem dX3_init_9 : decode cX3_init 9 = .ok (.aload_n 0, 1) := by decide +kernel
theorem dX3_init_10 : decode cX3_init 10 = .ok (.iconst 0, 1) := by decide +kernel
theorem dX3_init_11 : decode cX3_init 11 = .ok (.putfield 15, 3) := by decide +kernel
theorem dX3_init_14 : decode cX3_init 14 = .ok (.aload_n 0, 1) := by decide +kernel
theorem dX3_init_15 : decode cX3_init 15 = .ok (.iconst 1, 1) := by decide +kernel
theorem dX3_init_16 : decode cX3_init 16 = .ok (.putfield 18, 3) := by decide +kernel
theorem dX3_init_19 : decode cX3_init 19 = .ok (.aload_n 0, 1) := by decide +kernel
theorem dX3_init_20 : decode cX3_init 20 = .ok (.bipush 11, 2) := by decide +kernel
theorem dX3_init_22 : decode cX3_init 22 = .ok (.newarray .int, 2) := by decide +kernel
theorem dX3_init_24 : decode cX3_init 24 = .ok (.putfield 21, 3) := by decide +kernel
theorem dX3_init_27 : decode cX3_init 27 = .ok (.aload_n 0, 1) := by decide +kernel
theorem dX3_init_28 : decode cX3_init 28 = .ok (.bipush 6, 2) := by decide +kernel
theorem dX3_init_30 : decode cX3_init 30 = .ok (.newarray .int, 2) := by decide +kernel
theorem dX3_init_32 : decode cX3_init 32 = .ok (.putfield 25, 3) := by decide +kernel
theorem dX3_init_35 : decode cX3_init 35 = .ok (.return_, 1) := by decide +kernel
theorem dX3_rowLength_0 : decode cX3_rowLength 0 = .ok (.iconst 2, 1) := by decide +kernel
theorem dX3_rowLength_1 : decode cX3_rowLength 1 = .ok (.aload_n 0, 1) := by decide +kernel
theorem dX3_rowLength_2 : decode cX3_rowLength 2 = .ok (.getfield 9, 3) := by decide +kernel
theorem dX3_rowLength_5 : decode cX3_rowLength 5 = .ok (.imul, 1) := by decide +kernel
theorem dX3_rowLength_6 : decode cX3_rowLength 6 = .ok (.iconst 1, 1) := by decide +kernel
theorem dX3_rowLength_7 : decode cX3_rowLength 7 = .ok (.isub, 1) := by decide +kernel
theorem dX3_rowLength_8 : decode cX3_rowLength 8 = .ok (.ireturn, 1) := by decide +kernel
theorem dX3_takeFrom_0 : decode cX3_takeFrom 0 = .ok (.aload_n 0, 1) := by decide +kernel
theorem dX3_takeFrom_1 : decode cX3_takeFrom 1 = .ok (.aload_n 1, 1) := by decide +kernel
theorem dX3_takeFrom_2 : decode cX3_takeFrom 2 = .ok (.getfield 9, 3) := by decide +kernel
theorem dX3_takeFrom_5 : decode cX3_takeFrom 5 = .ok (.putfield 9, 3) := by decide +kernel
theorem dX3_takeFrom_8 : decode cX3_takeFrom 8 = .ok (.aload_n 0, 1) := by decide +kernel
theorem dX3_takeFrom_9 : decode cX3_takeFrom 9 = .ok (.aload_n 1, 1) := by decide +kernel
theorem dX3_takeFrom_10 : decode cX3_takeFrom 10 = .ok (.getfield 15, 3) := by decide +kernel
theorem dX3_takeFrom_13 : decode cX3_takeFrom 13 = .ok (.putfield 15, 3) := by decide +kernel
theorem dX3_takeFrom_16 : decode cX3_takeFrom 16 = .ok (.aload_n 0, 1) := by decide +kernel
theorem dX3_takeFrom_17 : decode cX3_takeFrom 17 = .ok (.aload_n 1, 1) := by decide +kernel
theorem dX3_takeFrom_18 : decode cX3_takeFrom 18 = .ok (.getfield 18, 3) := by decide +kernel
theorem dX3_takeFrom_21 : decode cX3_takeFrom 21 = .ok (.putfield 18, 3) := by decide +kernel
theorem dX3_takeFrom_24 : decode cX3_takeFrom 24 = .ok (.aload_n 1, 1) := by decide +kernel
theorem dX3_takeFrom_25 : decode cX3_takeFrom 25 = .ok (.getfield 21, 3) := by decide +kernel
theorem dX3_takeFrom_28 : decode cX3_takeFrom 28 = .ok (.iconst 0, 1) := by decide +kernel
theorem dX3_takeFrom_29 : decode cX3_takeFrom 29 = .ok (.aload_n 0, 1) := by decide +kernel
theorem dX3_takeFrom_30 : decode cX3_takeFrom 30 = .ok (.getfield 21, 3) := by decide +kernel
theorem dX3_takeFrom_33 : decode cX3_takeFrom 33 = .ok (.iconst 0, 1) := by decide +kernel
theorem dX3_takeFrom_34 : decode cX3_takeFrom 34 = .ok (.bipush 11, 2) := by decide +kernel
theorem dX3_takeFrom_36 : decode cX3_takeFrom 36 = .ok (.invokestatic 28, 3) := by decide +kernel
theorem dX3_takeFrom_39 : decode cX3_takeFrom 39 = .ok (.aload_n 1, 1) := by decide +kernel
theorem dX3_takeFrom_40 : decode cX3_takeFrom 40 = .ok (.getfield 25, 3) := by decide +kernel
theorem dX3_takeFrom_43 : decode cX3_takeFrom 43 = .ok (.iconst 0, 1) := by decide +kernel
theorem dX3_takeFrom_44 : decode cX3_takeFrom 44 = .ok (.aload_n 0, 1) := by decide +kernel
theorem dX3_takeFrom_45 : decode cX3_takeFrom 45 = .ok (.getfield 25, 3) := by decide +kernel
theorem dX3_takeFrom_48 : decode cX3_takeFrom 48 = .ok (.iconst 0, 1) := by decide +kernel
theorem dX3_takeFrom_49 : decode cX3_takeFrom 49 = .ok (.bipush 6, 2) := by decide +kernel
theorem dX3_takeFrom_51 : decode cX3_takeFrom 51 = .ok (.invokestatic 28, 3) := by decide +kernel
theorem dX3_takeFrom_54 : decode cX3_takeFrom 54 = .ok (.return_, 1) := by decide +kernel
theorem dX3_cellAt_0 : decode cX3_cellAt 0 = .ok (.aload_n 0, 1) := by decide +kernel
theorem dX3_cellAt_1 : decode cX3_cellAt 1 = .ok (.getfield 21, 3) := by decide +kernel
theorem dX3_cellAt_4 : decode cX3_cellAt 4 = .ok (.aload_n 0, 1) := by decide +kernel
theorem dX3_cellAt_5 : decode cX3_cellAt 5 = .ok (.iload_n 1, 1) := by decide +kernel
theorem dX3_cellAt_6 : decode cX3_cellAt 6 = .ok (.iload_n 2, 1) := by decide +kernel
theorem dX3_cellAt_7 : decode cX3_cellAt 7 = .ok (.iload_n 3, 1) := by decide +kernel
theorem dX3_cellAt_8 : decode cX3_cellAt 8 = .ok (.invokevirtual 34, 3) := by decide +kernel
theorem dX3_cellAt_11 : decode cX3_cellAt 11 = .ok (.iaload, 1) := by decide +kernel
theorem dX3_cellAt_12 : decode cX3_cellAt 12 = .ok (.istore 5, 2) := by decide +kernel
theorem dX3_cellAt_14 : decode cX3_cellAt 14 = .ok (.iload_n 1, 1) := by decide +kernel
theorem dX3_cellAt_15 : decode cX3_cellAt 15 = .ok (.iconst 4, 1) := by decide +kernel
theorem dX3_cellAt_16 : decode cX3_cellAt 16 = .ok (.if_icmp .ne 21, 3) := by decide +kernel
theorem dX3_cellAt_19 : decode cX3_cellAt 19 = .ok (.iload_n 2, 1) := by decide +kernel
theorem dX3_cellAt_20 : decode cX3_cellAt 20 = .ok (.iload_n 3, 1) := by decide +kernel
theorem dX3_cellAt_21 : decode cX3_cellAt 21 = .ok (.if_icmp .ge 16, 3) := by decide +kernel
theorem dX3_cellAt_24 : decode cX3_cellAt 24 = .ok (.iload 5, 2) := by decide +kernel
theorem dX3_cellAt_26 : decode cX3_cellAt 26 = .ok (.ifCond .eq 11, 3) := by decide +kernel
theorem dX3_cellAt_29 : decode cX3_cellAt 29 = .ok (.iload 4, 2) := by decide +kernel
theorem dX3_cellAt_31 : decode cX3_cellAt 31 = .ok (.iload 5, 2) := by decide +kernel
theorem dX3_cellAt_33 : decode cX3_cellAt 33 = .ok (.isub, 1) := by decide +kernel
theorem dX3_cellAt_34 : decode cX3_cellAt 34 = .ok (.goto 5, 3) := by decide +kernel
theorem dX3_cellAt_37 : decode cX3_cellAt 37 = .ok (.iload 5, 2) := by decide +kernel
theorem dX3_cellAt_39 : decode cX3_cellAt 39 = .ok (.ireturn, 1) := by decide +kernel
theorem dX3_placeAt_0 : decode cX3_placeAt 0 = .ok (.aload_n 0, 1) := by decide +kernel
theorem dX3_placeAt_1 : decode cX3_placeAt 1 = .ok (.getfield 9, 3) := by decide +kernel
theorem dX3_placeAt_4 : decode cX3_placeAt 4 = .ok (.iconst 1, 1) := by decide +kernel
theorem dX3_placeAt_5 : decode cX3_placeAt 5 = .ok (.isub, 1) := by decide +kernel
theorem dX3_placeAt_6 : decode cX3_placeAt 6 = .ok (.istore 4, 2) := by decide +kernel
theorem dX3_placeAt_8 : decode cX3_placeAt 8 = .ok (.iload_n 1, 1) := by decide +kernel
theorem dX3_placeAt_9 : decode cX3_placeAt 9 = .ok (.tableswitch 78 1 4 #[31, 45, 55, 45], 31) := by decide +kernel
theorem dX3_placeAt_40 : decode cX3_placeAt 40 = .ok (.iload 4, 2) := by decide +kernel
theorem dX3_placeAt_42 : decode cX3_placeAt 42 = .ok (.iload_n 2, 1) := by decide +kernel
theorem dX3_placeAt_43 : decode cX3_placeAt 43 = .ok (.iadd, 1) := by decide +kernel
theorem dX3_placeAt_44 : decode cX3_placeAt 44 = .ok (.aload_n 0, 1) := by decide +kernel
theorem dX3_placeAt_45 : decode cX3_placeAt 45 = .ok (.getfield 9, 3) := by decide +kernel
theorem dX3_placeAt_48 : decode cX3_placeAt 48 = .ok (.iconst 1, 1) := by decide +kernel
theorem dX3_placeAt_49 : decode cX3_placeAt 49 = .ok (.isub, 1) := by decide +kernel
theorem dX3_placeAt_50 : decode cX3_placeAt 50 = .ok (.iload_n 3, 1) := by decide +kernel
theorem dX3_placeAt_51 : decode cX3_placeAt 51 = .ok (.isub, 1) := by decide +kernel
theorem dX3_placeAt_52 : decode cX3_placeAt 52 = .ok (.isub, 1) := by decide +kernel
theorem dX3_placeAt_53 : decode cX3_placeAt 53 = .ok (.ireturn, 1) := by decide +kernel
theorem dX3_placeAt_54 : decode cX3_placeAt 54 = .ok (.iload 4, 2) := by decide +kernel
theorem dX3_placeAt_56 : decode cX3_placeAt 56 = .ok (.iload_n 2, 1) := by decide +kernel
theorem dX3_placeAt_57 : decode cX3_placeAt 57 = .ok (.iload_n 3, 1) := by decide +kernel
theorem dX3_placeAt_58 : decode cX3_placeAt 58 = .ok (.isub, 1) := by decide +kernel
theorem dX3_placeAt_59 : decode cX3_placeAt 59 = .ok (.invokestatic 38, 3) := by decide +kernel
theorem dX3_placeAt_62 : decode cX3_placeAt 62 = .ok (.iadd, 1) := by decide +kernel
theorem dX3_placeAt_63 : decode cX3_placeAt 63 = .ok (.ireturn, 1) := by decide +kernel
theorem dX3_placeAt_64 : decode cX3_placeAt 64 = .ok (.iload 4, 2) := by decide +kernel
theorem dX3_placeAt_66 : decode cX3_placeAt 66 = .ok (.iload_n 2, 1) := by decide +kernel
theorem dX3_placeAt_67 : decode cX3_placeAt 67 = .ok (.iload_n 3, 1) := by decide +kernel
theorem dX3_placeAt_68 : decode cX3_placeAt 68 = .ok (.if_icmp .ge 14, 3) := by decide +kernel
theorem dX3_placeAt_71 : decode cX3_placeAt 71 = .ok (.iload_n 2, 1) := by decide +kernel
theorem dX3_placeAt_72 : decode cX3_placeAt 72 = .ok (.iload_n 3, 1) := by decide +kernel
theorem dX3_placeAt_73 : decode cX3_placeAt 73 = .ok (.isub, 1) := by decide +kernel
theorem dX3_placeAt_74 : decode cX3_placeAt 74 = .ok (.aload_n 0, 1) := by decide +kernel
theorem dX3_placeAt_75 : decode cX3_placeAt 75 = .ok (.getfield 9, 3) := by decide +kernel
theorem dX3_placeAt_78 : decode cX3_placeAt 78 = .ok (.iadd, 1) := by decide +kernel
theorem dX3_placeAt_79 : decode cX3_placeAt 79 = .ok (.goto 6, 3) := by decide +kernel
theorem dX3_placeAt_82 : decode cX3_placeAt 82 = .ok (.iload_n 2, 1) := by decide +kernel
theorem dX3_placeAt_83 : decode cX3_placeAt 83 = .ok (.iload_n 3, 1) := by decide +kernel
theorem dX3_placeAt_84 : decode cX3_placeAt 84 = .ok (.isub, 1) := by decide +kernel
theorem dX3_placeAt_85 : decode cX3_placeAt 85 = .ok (.iadd, 1) := by decide +kernel
theorem dX3_placeAt_86 : decode cX3_placeAt 86 = .ok (.ireturn, 1) := by decide +kernel
theorem dX3_placeAt_87 : decode cX3_placeAt 87 = .ok (.iload 4, 2) := by decide +kernel
theorem dX3_placeAt_89 : decode cX3_placeAt 89 = .ok (.iload_n 2, 1) := by decide +kernel
theorem dX3_placeAt_90 : decode cX3_placeAt 90 = .ok (.iadd, 1) := by decide +kernel
theorem dX3_placeAt_91 : decode cX3_placeAt 91 = .ok (.iload_n 3, 1) := by decide +kernel
theorem dX3_placeAt_92 : decode cX3_placeAt 92 = .ok (.isub, 1) := by decide +kernel
theorem dX3_placeAt_93 : decode cX3_placeAt 93 = .ok (.ireturn, 1) := by decide +kernel
theorem dX3_leaveOver_0 : decode cX3_leaveOver 0 = .ok (.iconst 0, 1) := by decide +kernel
theorem dX3_leaveOver_1 : decode cX3_leaveOver 1 = .ok (.istore_n 2, 1) := by decide +kernel
theorem dX3_leaveOver_2 : decode cX3_leaveOver 2 = .ok (.iload_n 2, 1) := by decide +kernel
theorem dX3_leaveOver_3 : decode cX3_leaveOver 3 = .ok (.aload_n 0, 1) := by decide +kernel
theorem dX3_leaveOver_4 : decode cX3_leaveOver 4 = .ok (.invokevirtual 44, 3) := by decide +kernel
theorem dX3_leaveOver_7 : decode cX3_leaveOver 7 = .ok (.if_icmp .ge 19, 3) := by decide +kernel
theorem dX3_leaveOver_10 : decode cX3_leaveOver 10 = .ok (.aload_n 0, 1) := by decide +kernel
theorem dX3_leaveOver_11 : decode cX3_leaveOver 11 = .ok (.getfield 21, 3) := by decide +kernel
theorem dX3_leaveOver_14 : decode cX3_leaveOver 14 = .ok (.iload_n 2, 1) := by decide +kernel
theorem dX3_leaveOver_15 : decode cX3_leaveOver 15 = .ok (.dup2, 1) := by decide +kernel
theorem dX3_leaveOver_16 : decode cX3_leaveOver 16 = .ok (.iaload, 1) := by decide +kernel
theorem dX3_leaveOver_17 : decode cX3_leaveOver 17 = .ok (.iload_n 1, 1) := by decide +kernel
theorem dX3_leaveOver_18 : decode cX3_leaveOver 18 = .ok (.irem, 1) := by decide +kernel
theorem dX3_leaveOver_19 : decode cX3_leaveOver 19 = .ok (.iastore, 1) := by decide +kernel
theorem dX3_leaveOver_20 : decode cX3_leaveOver 20 = .ok (.iinc 2 1, 3) := by decide +kernel
theorem dX3_leaveOver_23 : decode cX3_leaveOver 23 = .ok (.goto (-21), 3) := by decide +kernel
theorem dX3_leaveOver_26 : decode cX3_leaveOver 26 = .ok (.iconst 0, 1) := by decide +kernel
theorem dX3_leaveOver_27 : decode cX3_leaveOver 27 = .ok (.istore_n 2, 1) := by decide +kernel
theorem dX3_leaveOver_28 : decode cX3_leaveOver 28 = .ok (.iload_n 2, 1) := by decide +kernel
theorem dX3_leaveOver_29 : decode cX3_leaveOver 29 = .ok (.aload_n 0, 1) := by decide +kernel
theorem dX3_leaveOver_30 : decode cX3_leaveOver 30 = .ok (.getfield 9, 3) := by decide +kernel
theorem dX3_leaveOver_33 : decode cX3_leaveOver 33 = .ok (.if_icmp .ge 19, 3) := by decide +kernel
theorem dX3_leaveOver_36 : decode cX3_leaveOver 36 = .ok (.aload_n 0, 1) := by decide +kernel
theorem dX3_leaveOver_37 : decode cX3_leaveOver 37 = .ok (.getfield 25, 3) := by decide +kernel
theorem dX3_leaveOver_40 : decode cX3_leaveOver 40 = .ok (.iload_n 2, 1) := by decide +kernel
theorem dX3_leaveOver_41 : decode cX3_leaveOver 41 = .ok (.dup2, 1) := by decide +kernel
theorem dX3_leaveOver_42 : decode cX3_leaveOver 42 = .ok (.iaload, 1) := by decide +kernel
theorem dX3_leaveOver_43 : decode cX3_leaveOver 43 = .ok (.iload_n 1, 1) := by decide +kernel
theorem dX3_leaveOver_44 : decode cX3_leaveOver 44 = .ok (.irem, 1) := by decide +kernel
theorem dX3_leaveOver_45 : decode cX3_leaveOver 45 = .ok (.iastore, 1) := by decide +kernel
theorem dX3_leaveOver_46 : decode cX3_leaveOver 46 = .ok (.iinc 2 1, 3) := by decide +kernel
theorem dX3_leaveOver_49 : decode cX3_leaveOver 49 = .ok (.goto (-21), 3) := by decide +kernel
theorem dX3_leaveOver_52 : decode cX3_leaveOver 52 = .ok (.return_, 1) := by decide +kernel
theorem dX3_addBorder_0 : decode cX3_addBorder 0 = .ok (.aload_n 0, 1) := by decide +kernel
theorem dX3_addBorder_1 : decode cX3_addBorder 1 = .ok (.invokevirtual 44, 3) := by decide +kernel
theorem dX3_addBorder_4 : decode cX3_addBorder 4 = .ok (.istore_n 1, 1) := by decide +kernel
theorem dX3_addBorder_5 : decode cX3_addBorder 5 = .ok (.aload_n 0, 1) := by decide +kernel
theorem dX3_addBorder_6 : decode cX3_addBorder 6 = .ok (.getfield 21, 3) := by decide +kernel
theorem dX3_addBorder_9 : decode cX3_addBorder 9 = .ok (.iconst 0, 1) := by decide +kernel
theorem dX3_addBorder_10 : decode cX3_addBorder 10 = .ok (.aload_n 0, 1) := by decide +kernel
theorem dX3_addBorder_11 : decode cX3_addBorder 11 = .ok (.getfield 21, 3) := by decide +kernel
theorem dX3_addBorder_14 : decode cX3_addBorder 14 = .ok (.iconst 1, 1) := by decide +kernel
theorem dX3_addBorder_15 : decode cX3_addBorder 15 = .ok (.iload_n 1, 1) := by decide +kernel
theorem dX3_addBorder_16 : decode cX3_addBorder 16 = .ok (.invokestatic 28, 3) := by decide +kernel
theorem dX3_addBorder_19 : decode cX3_addBorder 19 = .ok (.aload_n 0, 1) := by decide +kernel
theorem dX3_addBorder_20 : decode cX3_addBorder 20 = .ok (.getfield 21, 3) := by decide +kernel
theorem dX3_addBorder_23 : decode cX3_addBorder 23 = .ok (.iconst 0, 1) := by decide +kernel
theorem dX3_addBorder_24 : decode cX3_addBorder 24 = .ok (.iconst 0, 1) := by decide +kernel
theorem dX3_addBorder_25 : decode cX3_addBorder 25 = .ok (.iastore, 1) := by decide +kernel
theorem dX3_addBorder_26 : decode cX3_addBorder 26 = .ok (.aload_n 0, 1) := by decide +kernel
theorem dX3_addBorder_27 : decode cX3_addBorder 27 = .ok (.getfield 21, 3) := by decide +kernel
theorem dX3_addBorder_30 : decode cX3_addBorder 30 = .ok (.iload_n 1, 1) := by decide +kernel
theorem dX3_addBorder_31 : decode cX3_addBorder 31 = .ok (.iconst 1, 1) := by decide +kernel
theorem dX3_addBorder_32 : decode cX3_addBorder 32 = .ok (.iadd, 1) := by decide +kernel
theorem dX3_addBorder_33 : decode cX3_addBorder 33 = .ok (.iconst 0, 1) := by decide +kernel
theorem dX3_addBorder_34 : decode cX3_addBorder 34 = .ok (.iastore, 1) := by decide +kernel
theorem dX3_addBorder_35 : decode cX3_addBorder 35 = .ok (.aload_n 0, 1) := by decide +kernel
theorem dX3_addBorder_36 : decode cX3_addBorder 36 = .ok (.getfield 25, 3) := by decide +kernel
theorem dX3_addBorder_39 : decode cX3_addBorder 39 = .ok (.aload_n 0, 1) := by decide +kernel
theorem dX3_addBorder_40 : decode cX3_addBorder 40 = .ok (.getfield 9, 3) := by decide +kernel
theorem dX3_addBorder_43 : decode cX3_addBorder 43 = .ok (.iconst 0, 1) := by decide +kernel
theorem dX3_addBorder_44 : decode cX3_addBorder 44 = .ok (.iastore, 1) := by decide +kernel
theorem dX3_addBorder_45 : decode cX3_addBorder 45 = .ok (.aload_n 0, 1) := by decide +kernel
theorem dX3_addBorder_46 : decode cX3_addBorder 46 = .ok (.dup, 1) := by decide +kernel
theorem dX3_addBorder_47 : decode cX3_addBorder 47 = .ok (.getfield 9, 3) := by decide +kernel
theorem dX3_addBorder_50 : decode cX3_addBorder 50 = .ok (.iconst 1, 1) := by decide +kernel
theorem dX3_addBorder_51 : decode cX3_addBorder 51 = .ok (.iadd, 1) := by decide +kernel
theorem dX3_addBorder_52 : decode cX3_addBorder 52 = .ok (.putfield 9, 3) := by decide +kernel
theorem dX3_addBorder_55 : decode cX3_addBorder 55 = .ok (.return_, 1) := by decide +kernel
theorem dX3_dropBorder_0 : decode cX3_dropBorder 0 = .ok (.aload_n 0, 1) := by decide +kernel
theorem dX3_dropBorder_1 : decode cX3_dropBorder 1 = .ok (.getfield 21, 3) := by decide +kernel
theorem dX3_dropBorder_4 : decode cX3_dropBorder 4 = .ok (.iconst 1, 1) := by decide +kernel
theorem dX3_dropBorder_5 : decode cX3_dropBorder 5 = .ok (.aload_n 0, 1) := by decide +kernel
theorem dX3_dropBorder_6 : decode cX3_dropBorder 6 = .ok (.getfield 21, 3) := by decide +kernel
theorem dX3_dropBorder_9 : decode cX3_dropBorder 9 = .ok (.iconst 0, 1) := by decide +kernel
theorem dX3_dropBorder_10 : decode cX3_dropBorder 10 = .ok (.aload_n 0, 1) := by decide +kernel
theorem dX3_dropBorder_11 : decode cX3_dropBorder 11 = .ok (.invokevirtual 44, 3) := by decide +kernel
theorem dX3_dropBorder_14 : decode cX3_dropBorder 14 = .ok (.iconst 2, 1) := by decide +kernel
theorem dX3_dropBorder_15 : decode cX3_dropBorder 15 = .ok (.isub, 1) := by decide +kernel
theorem dX3_dropBorder_16 : decode cX3_dropBorder 16 = .ok (.invokestatic 28, 3) := by decide +kernel
theorem dX3_dropBorder_19 : decode cX3_dropBorder 19 = .ok (.aload_n 0, 1) := by decide +kernel
theorem dX3_dropBorder_20 : decode cX3_dropBorder 20 = .ok (.dup, 1) := by decide +kernel
theorem dX3_dropBorder_21 : decode cX3_dropBorder 21 = .ok (.getfield 9, 3) := by decide +kernel
theorem dX3_dropBorder_24 : decode cX3_dropBorder 24 = .ok (.iconst 1, 1) := by decide +kernel
theorem dX3_dropBorder_25 : decode cX3_dropBorder 25 = .ok (.isub, 1) := by decide +kernel
theorem dX3_dropBorder_26 : decode cX3_dropBorder 26 = .ok (.putfield 9, 3) := by decide +kernel
theorem dX3_dropBorder_29 : decode cX3_dropBorder 29 = .ok (.return_, 1) := by decide +kernel
theorem dX3_reverseRow_0 : decode cX3_reverseRow 0 = .ok (.aload_n 0, 1) := by decide +kernel
theorem dX3_reverseRow_1 : decode cX3_reverseRow 1 = .ok (.invokevirtual 44, 3) := by decide +kernel
theorem dX3_reverseRow_4 : decode cX3_reverseRow 4 = .ok (.iconst 1, 1) := by decide +kernel
theorem dX3_reverseRow_5 : decode cX3_reverseRow 5 = .ok (.isub, 1) := by decide +kernel
theorem dX3_reverseRow_6 : decode cX3_reverseRow 6 = .ok (.istore_n 1, 1) := by decide +kernel
theorem dX3_reverseRow_7 : decode cX3_reverseRow 7 = .ok (.iconst 0, 1) := by decide +kernel
theorem dX3_reverseRow_8 : decode cX3_reverseRow 8 = .ok (.istore_n 2, 1) := by decide +kernel
theorem dX3_reverseRow_9 : decode cX3_reverseRow 9 = .ok (.iload_n 2, 1) := by decide +kernel
theorem dX3_reverseRow_10 : decode cX3_reverseRow 10 = .ok (.iload_n 1, 1) := by decide +kernel
theorem dX3_reverseRow_11 : decode cX3_reverseRow 11 = .ok (.iload_n 2, 1) := by decide +kernel
theorem dX3_reverseRow_12 : decode cX3_reverseRow 12 = .ok (.isub, 1) := by decide +kernel
theorem dX3_reverseRow_13 : decode cX3_reverseRow 13 = .ok (.if_icmp .ge 39, 3) := by decide +kernel
theorem dX3_reverseRow_16 : decode cX3_reverseRow 16 = .ok (.aload_n 0, 1) := by decide +kernel
theorem dX3_reverseRow_17 : decode cX3_reverseRow 17 = .ok (.getfield 21, 3) := by decide +kernel
theorem dX3_reverseRow_20 : decode cX3_reverseRow 20 = .ok (.iload_n 2, 1) := by decide +kernel
theorem dX3_reverseRow_21 : decode cX3_reverseRow 21 = .ok (.iaload, 1) := by decide +kernel
theorem dX3_reverseRow_22 : decode cX3_reverseRow 22 = .ok (.istore_n 3, 1) := by decide +kernel
theorem dX3_reverseRow_23 : decode cX3_reverseRow 23 = .ok (.aload_n 0, 1) := by decide +kernel
theorem dX3_reverseRow_24 : decode cX3_reverseRow 24 = .ok (.getfield 21, 3) := by decide +kernel
theorem dX3_reverseRow_27 : decode cX3_reverseRow 27 = .ok (.iload_n 2, 1) := by decide +kernel
theorem dX3_reverseRow_28 : decode cX3_reverseRow 28 = .ok (.aload_n 0, 1) := by decide +kernel
theorem dX3_reverseRow_29 : decode cX3_reverseRow 29 = .ok (.getfield 21, 3) := by decide +kernel
theorem dX3_reverseRow_32 : decode cX3_reverseRow 32 = .ok (.iload_n 1, 1) := by decide +kernel
theorem dX3_reverseRow_33 : decode cX3_reverseRow 33 = .ok (.iload_n 2, 1) := by decide +kernel
theorem dX3_reverseRow_34 : decode cX3_reverseRow 34 = .ok (.isub, 1) := by decide +kernel
theorem dX3_reverseRow_35 : decode cX3_reverseRow 35 = .ok (.iaload, 1) := by decide +kernel
theorem dX3_reverseRow_36 : decode cX3_reverseRow 36 = .ok (.iastore, 1) := by decide +kernel
theorem dX3_reverseRow_37 : decode cX3_reverseRow 37 = .ok (.aload_n 0, 1) := by decide +kernel
theorem dX3_reverseRow_38 : decode cX3_reverseRow 38 = .ok (.getfield 21, 3) := by decide +kernel
theorem dX3_reverseRow_41 : decode cX3_reverseRow 41 = .ok (.iload_n 1, 1) := by decide +kernel
theorem dX3_reverseRow_42 : decode cX3_reverseRow 42 = .ok (.iload_n 2, 1) := by decide +kernel
theorem dX3_reverseRow_43 : decode cX3_reverseRow 43 = .ok (.isub, 1) := by decide +kernel
theorem dX3_reverseRow_44 : decode cX3_reverseRow 44 = .ok (.iload_n 3, 1) := by decide +kernel
theorem dX3_reverseRow_45 : decode cX3_reverseRow 45 = .ok (.iastore, 1) := by decide +kernel
theorem dX3_reverseRow_46 : decode cX3_reverseRow 46 = .ok (.iinc 2 1, 3) := by decide +kernel
theorem dX3_reverseRow_49 : decode cX3_reverseRow 49 = .ok (.goto (-40), 3) := by decide +kernel
theorem dX3_reverseRow_52 : decode cX3_reverseRow 52 = .ok (.return_, 1) := by decide +kernel
theorem dX3_driftOnce_0 : decode cX3_driftOnce 0 = .ok (.aload_n 0, 1) := by decide +kernel
theorem dX3_driftOnce_1 : decode cX3_driftOnce 1 = .ok (.aload_n 0, 1) := by decide +kernel
theorem dX3_driftOnce_2 : decode cX3_driftOnce 2 = .ok (.getfield 18, 3) := by decide +kernel
theorem dX3_driftOnce_5 : decode cX3_driftOnce 5 = .ok (.i2l, 1) := by decide +kernel
theorem dX3_driftOnce_6 : decode cX3_driftOnce 6 = .ok (.ldc2_w 48, 3) := by decide +kernel
theorem dX3_driftOnce_9 : decode cX3_driftOnce 9 = .ok (.lmul, 1) := by decide +kernel
theorem dX3_driftOnce_10 : decode cX3_driftOnce 10 = .ok (.ldc2_w 50, 3) := by decide +kernel
theorem dX3_driftOnce_13 : decode cX3_driftOnce 13 = .ok (.ladd, 1) := by decide +kernel
theorem dX3_driftOnce_14 : decode cX3_driftOnce 14 = .ok (.ldc2_w 52, 3) := by decide +kernel
theorem dX3_driftOnce_17 : decode cX3_driftOnce 17 = .ok (.land, 1) := by decide +kernel
theorem dX3_driftOnce_18 : decode cX3_driftOnce 18 = .ok (.l2i, 1) := by decide +kernel
theorem dX3_driftOnce_19 : decode cX3_driftOnce 19 = .ok (.putfield 18, 3) := by decide +kernel
theorem dX3_driftOnce_22 : decode cX3_driftOnce 22 = .ok (.aload_n 0, 1) := by decide +kernel
theorem dX3_driftOnce_23 : decode cX3_driftOnce 23 = .ok (.getfield 21, 3) := by decide +kernel
theorem dX3_driftOnce_26 : decode cX3_driftOnce 26 = .ok (.aload_n 0, 1) := by decide +kernel
theorem dX3_driftOnce_27 : decode cX3_driftOnce 27 = .ok (.getfield 18, 3) := by decide +kernel
theorem dX3_driftOnce_30 : decode cX3_driftOnce 30 = .ok (.ldc 54, 2) := by decide +kernel
theorem dX3_driftOnce_32 : decode cX3_driftOnce 32 = .ok (.idiv, 1) := by decide +kernel
theorem dX3_driftOnce_33 : decode cX3_driftOnce 33 = .ok (.aload_n 0, 1) := by decide +kernel
theorem dX3_driftOnce_34 : decode cX3_driftOnce 34 = .ok (.invokevirtual 44, 3) := by decide +kernel
theorem dX3_driftOnce_37 : decode cX3_driftOnce 37 = .ok (.irem, 1) := by decide +kernel
theorem dX3_driftOnce_38 : decode cX3_driftOnce 38 = .ok (.aload_n 0, 1) := by decide +kernel
theorem dX3_driftOnce_39 : decode cX3_driftOnce 39 = .ok (.getfield 18, 3) := by decide +kernel
theorem dX3_driftOnce_42 : decode cX3_driftOnce 42 = .ok (.sipush 256, 3) := by decide +kernel
theorem dX3_driftOnce_45 : decode cX3_driftOnce 45 = .ok (.idiv, 1) := by decide +kernel
theorem dX3_driftOnce_46 : decode cX3_driftOnce 46 = .ok (.iload_n 1, 1) := by decide +kernel
theorem dX3_driftOnce_47 : decode cX3_driftOnce 47 = .ok (.irem, 1) := by decide +kernel
theorem dX3_driftOnce_48 : decode cX3_driftOnce 48 = .ok (.iastore, 1) := by decide +kernel
theorem dX3_driftOnce_49 : decode cX3_driftOnce 49 = .ok (.return_, 1) := by decide +kernel
theorem dX4_init_0 : decode cX4_init 0 = .ok (.aload_n 0, 1) := by decide +kernel
theorem dX4_init_1 : decode cX4_init 1 = .ok (.invokespecial 3, 3) := by decide +kernel
theorem dX4_init_4 : decode cX4_init 4 = .ok (.aload_n 0, 1) := by decide +kernel
theorem dX4_init_5 : decode cX4_init 5 = .ok (.iconst (-1), 1) := by decide +kernel
theorem dX4_init_6 : decode cX4_init 6 = .ok (.putfield 11, 3) := by decide +kernel
theorem dX4_init_9 : decode cX4_init 9 = .ok (.aload_n 0, 1) := by decide +kernel
theorem dX4_init_10 : decode cX4_init 10 = .ok (.iconst 0, 1) := by decide +kernel
theorem dX4_init_11 : decode cX4_init 11 = .ok (.putfield 15, 3) := by decide +kernel
theorem dX4_init_14 : decode cX4_init 14 = .ok (.aload_n 0, 1) := by decide +kernel
theorem dX4_init_15 : decode cX4_init 15 = .ok (.bipush 24, 2) := by decide +kernel
theorem dX4_init_17 : decode cX4_init 17 = .ok (.newarray .long, 2) := by decide +kernel
theorem dX4_init_19 : decode cX4_init 19 = .ok (.putfield 18, 3) := by decide +kernel
theorem dX4_init_22 : decode cX4_init 22 = .ok (.return_, 1) := by decide +kernel
theorem dX4_isMissing_0 : decode cX4_isMissing 0 = .ok (.aload_n 0, 1) := by decide +kernel
theorem dX4_isMissing_1 : decode cX4_isMissing 1 = .ok (.getfield 11, 3) := by decide +kernel
theorem dX4_isMissing_4 : decode cX4_isMissing 4 = .ok (.iconst (-1), 1) := by decide +kernel
theorem dX4_isMissing_5 : decode cX4_isMissing 5 = .ok (.if_icmp .ne 7, 3) := by decide +kernel
theorem dX4_isMissing_8 : decode cX4_isMissing 8 = .ok (.iconst 1, 1) := by decide +kernel
theorem dX4_isMissing_9 : decode cX4_isMissing 9 = .ok (.goto 4, 3) := by decide +kernel
theorem dX4_isMissing_12 : decode cX4_isMissing 12 = .ok (.iconst 0, 1) := by decide +kernel
theorem dX4_isMissing_13 : decode cX4_isMissing 13 = .ok (.ireturn, 1) := by decide +kernel
theorem dX4_begin_0 : decode cX4_begin 0 = .ok (.aload_n 0, 1) := by decide +kernel
theorem dX4_begin_1 : decode cX4_begin 1 = .ok (.iload_n 1, 1) := by decide +kernel
theorem dX4_begin_2 : decode cX4_begin 2 = .ok (.putfield 11, 3) := by decide +kernel
theorem dX4_begin_5 : decode cX4_begin 5 = .ok (.aload_n 0, 1) := by decide +kernel
theorem dX4_begin_6 : decode cX4_begin 6 = .ok (.iload_n 2, 1) := by decide +kernel
theorem dX4_begin_7 : decode cX4_begin 7 = .ok (.putfield 15, 3) := by decide +kernel
theorem dX4_begin_10 : decode cX4_begin 10 = .ok (.iconst 0, 1) := by decide +kernel
theorem dX4_begin_11 : decode cX4_begin 11 = .ok (.istore_n 3, 1) := by decide +kernel
theorem dX4_begin_12 : decode cX4_begin 12 = .ok (.iload_n 3, 1) := by decide +kernel
theorem dX4_begin_13 : decode cX4_begin 13 = .ok (.bipush 24, 2) := by decide +kernel
theorem dX4_begin_15 : decode cX4_begin 15 = .ok (.if_icmp .ge 16, 3) := by decide +kernel
theorem dX4_begin_18 : decode cX4_begin 18 = .ok (.aload_n 0, 1) := by decide +kernel
theorem dX4_begin_19 : decode cX4_begin 19 = .ok (.getfield 18, 3) := by decide +kernel
theorem dX4_begin_22 : decode cX4_begin 22 = .ok (.iload_n 3, 1) := by decide +kernel
theorem dX4_begin_23 : decode cX4_begin 23 = .ok (.lconst 0, 1) := by decide +kernel
theorem dX4_begin_24 : decode cX4_begin 24 = .ok (.lastore, 1) := by decide +kernel
theorem dX4_begin_25 : decode cX4_begin 25 = .ok (.iinc 3 1, 3) := by decide +kernel
theorem dX4_begin_28 : decode cX4_begin 28 = .ok (.goto (-16), 3) := by decide +kernel
theorem dX4_begin_31 : decode cX4_begin 31 = .ok (.return_, 1) := by decide +kernel
theorem dX4_lose_0 : decode cX4_lose 0 = .ok (.aload_n 0, 1) := by decide +kernel
theorem dX4_lose_1 : decode cX4_lose 1 = .ok (.iconst (-1), 1) := by decide +kernel
theorem dX4_lose_2 : decode cX4_lose 2 = .ok (.putfield 11, 3) := by decide +kernel
theorem dX4_lose_5 : decode cX4_lose 5 = .ok (.aload_n 0, 1) := by decide +kernel
theorem dX4_lose_6 : decode cX4_lose 6 = .ok (.iconst 0, 1) := by decide +kernel
theorem dX4_lose_7 : decode cX4_lose 7 = .ok (.putfield 15, 3) := by decide +kernel
theorem dX4_lose_10 : decode cX4_lose 10 = .ok (.return_, 1) := by decide +kernel
theorem dX4_holds_0 : decode cX4_holds 0 = .ok (.iload_n 1, 1) := by decide +kernel
theorem dX4_holds_1 : decode cX4_holds 1 = .ok (.ifCond .lt 21, 3) := by decide +kernel
theorem dX4_holds_4 : decode cX4_holds 4 = .ok (.iload_n 2, 1) := by decide +kernel
theorem dX4_holds_5 : decode cX4_holds 5 = .ok (.ifCond .lt 17, 3) := by decide +kernel
theorem dX4_holds_8 : decode cX4_holds 8 = .ok (.iload_n 1, 1) := by decide +kernel
theorem dX4_holds_9 : decode cX4_holds 9 = .ok (.aload_n 0, 1) := by decide +kernel
theorem dX4_holds_10 : decode cX4_holds 10 = .ok (.getfield 15, 3) := by decide +kernel
theorem dX4_holds_13 : decode cX4_holds 13 = .ok (.iload_n 2, 1) := by decide +kernel
theorem dX4_holds_14 : decode cX4_holds 14 = .ok (.isub, 1) := by decide +kernel
theorem dX4_holds_15 : decode cX4_holds 15 = .ok (.if_icmp .gt 7, 3) := by decide +kernel
theorem dX4_holds_18 : decode cX4_holds 18 = .ok (.iconst 1, 1) := by decide +kernel
theorem dX4_holds_19 : decode cX4_holds 19 = .ok (.goto 4, 3) := by decide +kernel
theorem dX4_holds_22 : decode cX4_holds 22 = .ok (.iconst 0, 1) := by decide +kernel
theorem dX4_holds_23 : decode cX4_holds 23 = .ok (.ireturn, 1) := by decide +kernel
theorem dX5_init_0 : decode cX5_init 0 = .ok (.aload_n 0, 1) := by decide +kernel
theorem dX5_init_1 : decode cX5_init 1 = .ok (.invokespecial 3, 3) := by decide +kernel
theorem dX5_init_4 : decode cX5_init 4 = .ok (.aload_n 0, 1) := by decide +kernel
theorem dX5_init_5 : decode cX5_init 5 = .ok (.bipush 12, 2) := by decide +kernel
theorem dX5_init_7 : decode cX5_init 7 = .ok (.newarray .long, 2) := by decide +kernel
theorem dX5_init_9 : decode cX5_init 9 = .ok (.putfield 9, 3) := by decide +kernel
theorem dX5_init_12 : decode cX5_init 12 = .ok (.aload_n 0, 1) := by decide +kernel
theorem dX5_init_13 : decode cX5_init 13 = .ok (.bipush 11, 2) := by decide +kernel
theorem dX5_init_15 : decode cX5_init 15 = .ok (.newarray .int, 2) := by decide +kernel
theorem dX5_init_17 : decode cX5_init 17 = .ok (.putfield 15, 3) := by decide +kernel
theorem dX5_init_20 : decode cX5_init 20 = .ok (.aload_n 0, 1) := by decide +kernel
theorem dX5_init_21 : decode cX5_init 21 = .ok (.iconst 0, 1) := by decide +kernel
theorem dX5_init_22 : decode cX5_init 22 = .ok (.putfield 19, 3) := by decide +kernel
theorem dX5_init_25 : decode cX5_init 25 = .ok (.aload_n 0, 1) := by decide +kernel
theorem dX5_init_26 : decode cX5_init 26 = .ok (.iconst 0, 1) := by decide +kernel
theorem dX5_init_27 : decode cX5_init 27 = .ok (.putfield 23, 3) := by decide +kernel
theorem dX5_init_30 : decode cX5_init 30 = .ok (.aload_n 0, 1) := by decide +kernel
theorem dX5_init_31 : decode cX5_init 31 = .ok (.new 26, 3) := by decide +kernel
theorem dX5_init_34 : decode cX5_init 34 = .ok (.dup, 1) := by decide +kernel
theorem dX5_init_35 : decode cX5_init 35 = .ok (.invokespecial 28, 3) := by decide +kernel
theorem dX5_init_38 : decode cX5_init 38 = .ok (.putfield 29, 3) := by decide +kernel
theorem dX5_init_41 : decode cX5_init 41 = .ok (.return_, 1) := by decide +kernel
theorem dX5_isOf_0 : decode cX5_isOf 0 = .ok (.iload_n 2, 1) := by decide +kernel
theorem dX5_isOf_1 : decode cX5_isOf 1 = .ok (.aload_n 0, 1) := by decide +kernel
theorem dX5_isOf_2 : decode cX5_isOf 2 = .ok (.getfield 23, 3) := by decide +kernel
theorem dX5_isOf_5 : decode cX5_isOf 5 = .ok (.if_icmp .ne 31, 3) := by decide +kernel
theorem dX5_isOf_8 : decode cX5_isOf 8 = .ok (.aload_n 1, 1) := by decide +kernel
theorem dX5_isOf_9 : decode cX5_isOf 9 = .ok (.getfield 33, 3) := by decide +kernel
theorem dX5_isOf_12 : decode cX5_isOf 12 = .ok (.aload_n 0, 1) := by decide +kernel
theorem dX5_isOf_13 : decode cX5_isOf 13 = .ok (.getfield 29, 3) := by decide +kernel
theorem dX5_isOf_16 : decode cX5_isOf 16 = .ok (.getfield 33, 3) := by decide +kernel
theorem dX5_isOf_19 : decode cX5_isOf 19 = .ok (.if_icmp .ne 17, 3) := by decide +kernel
theorem dX5_isOf_22 : decode cX5_isOf 22 = .ok (.aload_n 1, 1) := by decide +kernel
theorem dX5_isOf_23 : decode cX5_isOf 23 = .ok (.getfield 36, 3) := by decide +kernel
theorem dX5_isOf_26 : decode cX5_isOf 26 = .ok (.aload_n 0, 1) := by decide +kernel
theorem dX5_isOf_27 : decode cX5_isOf 27 = .ok (.getfield 29, 3) := by decide +kernel
theorem dX5_isOf_30 : decode cX5_isOf 30 = .ok (.getfield 36, 3) := by decide +kernel
theorem dX5_isOf_33 : decode cX5_isOf 33 = .ok (.if_icmp .eq 5, 3) := by decide +kernel
theorem dX5_isOf_36 : decode cX5_isOf 36 = .ok (.iconst 0, 1) := by decide +kernel
theorem dX5_isOf_37 : decode cX5_isOf 37 = .ok (.ireturn, 1) := by decide +kernel
theorem dX5_isOf_38 : decode cX5_isOf 38 = .ok (.iconst 0, 1) := by decide +kernel
theorem dX5_isOf_39 : decode cX5_isOf 39 = .ok (.istore_n 3, 1) := by decide +kernel
theorem dX5_isOf_40 : decode cX5_isOf 40 = .ok (.iload_n 3, 1) := by decide +kernel
theorem dX5_isOf_41 : decode cX5_isOf 41 = .ok (.aload_n 1, 1) := by decide +kernel
theorem dX5_isOf_42 : decode cX5_isOf 42 = .ok (.invokevirtual 39, 3) := by decide +kernel
theorem dX5_isOf_45 : decode cX5_isOf 45 = .ok (.if_icmp .ge 29, 3) := by decide +kernel
theorem dX5_isOf_48 : decode cX5_isOf 48 = .ok (.aload_n 1, 1) := by decide +kernel
theorem dX5_isOf_49 : decode cX5_isOf 49 = .ok (.getfield 43, 3) := by decide +kernel
theorem dX5_isOf_52 : decode cX5_isOf 52 = .ok (.iload_n 3, 1) := by decide +kernel
theorem dX5_isOf_53 : decode cX5_isOf 53 = .ok (.iaload, 1) := by decide +kernel
theorem dX5_isOf_54 : decode cX5_isOf 54 = .ok (.aload_n 0, 1) := by decide +kernel
theorem dX5_isOf_55 : decode cX5_isOf 55 = .ok (.getfield 29, 3) := by decide +kernel
theorem dX5_isOf_58 : decode cX5_isOf 58 = .ok (.getfield 43, 3) := by decide +kernel
theorem dX5_isOf_61 : decode cX5_isOf 61 = .ok (.iload_n 3, 1) := by decide +kernel
theorem dX5_isOf_62 : decode cX5_isOf 62 = .ok (.iaload, 1) := by decide +kernel
theorem dX5_isOf_63 : decode cX5_isOf 63 = .ok (.if_icmp .eq 5, 3) := by decide +kernel
theorem dX5_isOf_66 : decode cX5_isOf 66 = .ok (.iconst 0, 1) := by decide +kernel
theorem dX5_isOf_67 : decode cX5_isOf 67 = .ok (.ireturn, 1) := by decide +kernel
theorem dX5_isOf_68 : decode cX5_isOf 68 = .ok (.iinc 3 1, 3) := by decide +kernel
theorem dX5_isOf_71 : decode cX5_isOf 71 = .ok (.goto (-31), 3) := by decide +kernel
theorem dX5_isOf_74 : decode cX5_isOf 74 = .ok (.iconst 1, 1) := by decide +kernel
theorem dX5_isOf_75 : decode cX5_isOf 75 = .ok (.ireturn, 1) := by decide +kernel
theorem dX5_begin_0 : decode cX5_begin 0 = .ok (.aload_n 0, 1) := by decide +kernel
theorem dX5_begin_1 : decode cX5_begin 1 = .ok (.iload_n 2, 1) := by decide +kernel
theorem dX5_begin_2 : decode cX5_begin 2 = .ok (.putfield 23, 3) := by decide +kernel
theorem dX5_begin_5 : decode cX5_begin 5 = .ok (.aload_n 0, 1) := by decide +kernel
theorem dX5_begin_6 : decode cX5_begin 6 = .ok (.getfield 29, 3) := by decide +kernel
theorem dX5_begin_9 : decode cX5_begin 9 = .ok (.aload_n 1, 1) := by decide +kernel
theorem dX5_begin_10 : decode cX5_begin 10 = .ok (.invokevirtual 46, 3) := by decide +kernel
theorem dX5_begin_13 : decode cX5_begin 13 = .ok (.aload_n 0, 1) := by decide +kernel
theorem dX5_begin_14 : decode cX5_begin 14 = .ok (.iconst 0, 1) := by decide +kernel
theorem dX5_begin_15 : decode cX5_begin 15 = .ok (.putfield 19, 3) := by decide +kernel
theorem dX5_begin_18 : decode cX5_begin 18 = .ok (.aload_n 1, 1) := by decide +kernel
theorem dX5_begin_19 : decode cX5_begin 19 = .ok (.getfield 36, 3) := by decide +kernel
theorem dX5_begin_22 : decode cX5_begin 22 = .ok (.ifCond .eq 11, 3) := by decide +kernel
theorem dX5_begin_25 : decode cX5_begin 25 = .ok (.aload_n 1, 1) := by decide +kernel
theorem dX5_begin_26 : decode cX5_begin 26 = .ok (.getfield 36, 3) := by decide +kernel
theorem dX5_begin_29 : decode cX5_begin 29 = .ok (.iconst 1, 1) := by decide +kernel
theorem dX5_begin_30 : decode cX5_begin 30 = .ok (.if_icmp .ne 7, 3) := by decide +kernel
theorem dX5_begin_33 : decode cX5_begin 33 = .ok (.iconst 1, 1) := by decide +kernel
theorem dX5_begin_34 : decode cX5_begin 34 = .ok (.goto 4, 3) := by decide +kernel
theorem dX5_begin_37 : decode cX5_begin 37 = .ok (.iconst 0, 1) := by decide +kernel
theorem dX5_begin_38 : decode cX5_begin 38 = .ok (.istore_n 3, 1) := by decide +kernel
theorem dX5_begin_39 : decode cX5_begin 39 = .ok (.iload_n 3, 1) := by decide +kernel
theorem dX5_begin_40 : decode cX5_begin 40 = .ok (.ifCond .eq 7, 3) := by decide +kernel
theorem dX5_begin_43 : decode cX5_begin 43 = .ok (.iconst 0, 1) := by decide +kernel
theorem dX5_begin_44 : decode cX5_begin 44 = .ok (.goto 9, 3) := by decide +kernel
theorem dX5_begin_47 : decode cX5_begin 47 = .ok (.aload_n 1, 1) := by decide +kernel
theorem dX5_begin_48 : decode cX5_begin 48 = .ok (.getfield 33, 3) := by decide +kernel
theorem dX5_begin_51 : decode cX5_begin 51 = .ok (.iconst 1, 1) := by decide +kernel
theorem dX5_begin_52 : decode cX5_begin 52 = .ok (.isub, 1) := by decide +kernel
theorem dX5_begin_53 : decode cX5_begin 53 = .ok (.istore 4, 2) := by decide +kernel
theorem dX5_begin_55 : decode cX5_begin 55 = .ok (.iload 4, 2) := by decide +kernel
theorem dX5_begin_57 : decode cX5_begin 57 = .ok (.aload_n 1, 1) := by decide +kernel
theorem dX5_begin_58 : decode cX5_begin 58 = .ok (.invokevirtual 39, 3) := by decide +kernel
theorem dX5_begin_61 : decode cX5_begin 61 = .ok (.if_icmp .ge 40, 3) := by decide +kernel
theorem dX5_begin_64 : decode cX5_begin 64 = .ok (.aload_n 1, 1) := by decide +kernel
theorem dX5_begin_65 : decode cX5_begin 65 = .ok (.getfield 43, 3) := by decide +kernel
theorem dX5_begin_68 : decode cX5_begin 68 = .ok (.iload 4, 2) := by decide +kernel
theorem dX5_begin_70 : decode cX5_begin 70 = .ok (.iaload, 1) := by decide +kernel
theorem dX5_begin_71 : decode cX5_begin 71 = .ok (.ifCond .eq 24, 3) := by decide +kernel
theorem dX5_begin_74 : decode cX5_begin 74 = .ok (.aload_n 0, 1) := by decide +kernel
theorem dX5_begin_75 : decode cX5_begin 75 = .ok (.getfield 15, 3) := by decide +kernel
theorem dX5_begin_78 : decode cX5_begin 78 = .ok (.aload_n 0, 1) := by decide +kernel
theorem dX5_begin_79 : decode cX5_begin 79 = .ok (.getfield 19, 3) := by decide +kernel
theorem dX5_begin_82 : decode cX5_begin 82 = .ok (.iload 4, 2) := by decide +kernel
theorem dX5_begin_84 : decode cX5_begin 84 = .ok (.iastore, 1) := by decide +kernel
theorem dX5_begin_85 : decode cX5_begin 85 = .ok (.aload_n 0, 1) := by decide +kernel
theorem dX5_begin_86 : decode cX5_begin 86 = .ok (.dup, 1) := by decide +kernel
theorem dX5_begin_87 : decode cX5_begin 87 = .ok (.getfield 19, 3) := by decide +kernel
theorem dX5_begin_90 : decode cX5_begin 90 = .ok (.iconst 1, 1) := by decide +kernel
theorem dX5_begin_91 : decode cX5_begin 91 = .ok (.iadd, 1) := by decide +kernel
theorem dX5_begin_92 : decode cX5_begin 92 = .ok (.putfield 19, 3) := by decide +kernel
theorem dX5_begin_95 : decode cX5_begin 95 = .ok (.iinc 4 1, 3) := by decide +kernel
theorem dX5_begin_98 : decode cX5_begin 98 = .ok (.goto (-43), 3) := by decide +kernel
theorem dX5_begin_101 : decode cX5_begin 101 = .ok (.iconst 0, 1) := by decide +kernel
theorem dX5_begin_102 : decode cX5_begin 102 = .ok (.istore 4, 2) := by decide +kernel
theorem dX5_begin_104 : decode cX5_begin 104 = .ok (.iload 4, 2) := by decide +kernel
theorem dX5_begin_106 : decode cX5_begin 106 = .ok (.bipush 11, 2) := by decide +kernel
theorem dX5_begin_108 : decode cX5_begin 108 = .ok (.if_icmp .gt 17, 3) := by decide +kernel
theorem dX5_begin_111 : decode cX5_begin 111 = .ok (.aload_n 0, 1) := by decide +kernel
theorem dX5_begin_112 : decode cX5_begin 112 = .ok (.getfield 9, 3) := by decide +kernel
theorem dX5_begin_115 : decode cX5_begin 115 = .ok (.iload 4, 2) := by decide +kernel
theorem dX5_begin_117 : decode cX5_begin 117 = .ok (.lconst 0, 1) := by decide +kernel
theorem dX5_begin_118 : decode cX5_begin 118 = .ok (.lastore, 1) := by decide +kernel
theorem dX5_begin_119 : decode cX5_begin 119 = .ok (.iinc 4 1, 3) := by decide +kernel
theorem dX5_begin_122 : decode cX5_begin 122 = .ok (.goto (-18), 3) := by decide +kernel
theorem dX5_begin_125 : decode cX5_begin 125 = .ok (.return_, 1) := by decide +kernel
theorem dX5_weighted_0 : decode cX5_weighted 0 = .ok (.lconst 0, 1) := by decide +kernel
theorem dX5_weighted_1 : decode cX5_weighted 1 = .ok (.lstore_n 2, 1) := by decide +kernel
theorem dX5_weighted_2 : decode cX5_weighted 2 = .ok (.iconst 0, 1) := by decide +kernel
theorem dX5_weighted_3 : decode cX5_weighted 3 = .ok (.istore 4, 2) := by decide +kernel
theorem dX5_weighted_5 : decode cX5_weighted 5 = .ok (.iload 4, 2) := by decide +kernel
theorem dX5_weighted_7 : decode cX5_weighted 7 = .ok (.aload_n 0, 1) := by decide +kernel
theorem dX5_weighted_8 : decode cX5_weighted 8 = .ok (.getfield 19, 3) := by decide +kernel
theorem dX5_weighted_11 : decode cX5_weighted 11 = .ok (.if_icmp .gt 43, 3) := by decide +kernel
theorem dX5_weighted_14 : decode cX5_weighted 14 = .ok (.lload_n 2, 1) := by decide +kernel
theorem dX5_weighted_15 : decode cX5_weighted 15 = .ok (.aload_n 0, 1) := by decide +kernel
theorem dX5_weighted_16 : decode cX5_weighted 16 = .ok (.getfield 9, 3) := by decide +kernel
theorem dX5_weighted_19 : decode cX5_weighted 19 = .ok (.iload 4, 2) := by decide +kernel
theorem dX5_weighted_21 : decode cX5_weighted 21 = .ok (.laload, 1) := by decide +kernel
theorem dX5_weighted_22 : decode cX5_weighted 22 = .ok (.iload_n 1, 1) := by decide +kernel
theorem dX5_weighted_23 : decode cX5_weighted 23 = .ok (.i2l, 1) := by decide +kernel
theorem dX5_weighted_24 : decode cX5_weighted 24 = .ok (.iload 4, 2) := by decide +kernel
theorem dX5_weighted_26 : decode cX5_weighted 26 = .ok (.invokestatic 50, 3) := by decide +kernel
theorem dX5_weighted_29 : decode cX5_weighted 29 = .ok (.lmul, 1) := by decide +kernel
theorem dX5_weighted_30 : decode cX5_weighted 30 = .ok (.bipush 10, 2) := by decide +kernel
theorem dX5_weighted_32 : decode cX5_weighted 32 = .ok (.iload_n 1, 1) := by decide +kernel
theorem dX5_weighted_33 : decode cX5_weighted 33 = .ok (.isub, 1) := by decide +kernel
theorem dX5_weighted_34 : decode cX5_weighted 34 = .ok (.i2l, 1) := by decide +kernel
theorem dX5_weighted_35 : decode cX5_weighted 35 = .ok (.aload_n 0, 1) := by decide +kernel
theorem dX5_weighted_36 : decode cX5_weighted 36 = .ok (.getfield 19, 3) := by decide +kernel
theorem dX5_weighted_39 : decode cX5_weighted 39 = .ok (.iload 4, 2) := by decide +kernel
theorem dX5_weighted_41 : decode cX5_weighted 41 = .ok (.isub, 1) := by decide +kernel
theorem dX5_weighted_42 : decode cX5_weighted 42 = .ok (.invokestatic 50, 3) := by decide +kernel
theorem dX5_weighted_45 : decode cX5_weighted 45 = .ok (.lmul, 1) := by decide +kernel
theorem dX5_weighted_46 : decode cX5_weighted 46 = .ok (.ladd, 1) := by decide +kernel
theorem dX5_weighted_47 : decode cX5_weighted 47 = .ok (.lstore_n 2, 1) := by decide +kernel
theorem dX5_weighted_48 : decode cX5_weighted 48 = .ok (.iinc 4 1, 3) := by decide +kernel
theorem dX5_weighted_51 : decode cX5_weighted 51 = .ok (.goto (-46), 3) := by decide +kernel
theorem dX5_weighted_54 : decode cX5_weighted 54 = .ok (.lload_n 2, 1) := by decide +kernel
theorem dX5_weighted_55 : decode cX5_weighted 55 = .ok (.lreturn, 1) := by decide +kernel
end
section
theorem dX6_init_0 : decode cX6_init 0 = .ok (.aload_n 0, 1) := by decide +kernel
theorem dX6_init_1 : decode cX6_init 1 = .ok (.invokespecial 3, 3) := by decide +kernel
theorem dX6_init_4 : decode cX6_init 4 = .ok (.aload_n 0, 1) := by decide +kernel
theorem dX6_init_5 : decode cX6_init 5 = .ok (.new 9, 3) := by decide +kernel
theorem dX6_init_8 : decode cX6_init 8 = .ok (.dup, 1) := by decide +kernel
theorem dX6_init_9 : decode cX6_init 9 = .ok (.invokespecial 11, 3) := by decide +kernel
theorem dX6_init_12 : decode cX6_init 12 = .ok (.putfield 12, 3) := by decide +kernel
theorem dX6_init_15 : decode cX6_init 15 = .ok (.aload_n 0, 1) := by decide +kernel
theorem dX6_init_16 : decode cX6_init 16 = .ok (.new 9, 3) := by decide +kernel
theorem dX6_init_19 : decode cX6_init 19 = .ok (.dup, 1) := by decide +kernel
theorem dX6_init_20 : decode cX6_init 20 = .ok (.invokespecial 11, 3) := by decide +kernel
theorem dX6_init_23 : decode cX6_init 23 = .ok (.putfield 16, 3) := by decide +kernel
theorem dX6_init_26 : decode cX6_init 26 = .ok (.aload_n 0, 1) := by decide +kernel
theorem dX6_init_27 : decode cX6_init 27 = .ok (.iconst 0, 1) := by decide +kernel
theorem dX6_init_28 : decode cX6_init 28 = .ok (.putfield 19, 3) := by decide +kernel
theorem dX6_init_31 : decode cX6_init 31 = .ok (.aload_n 0, 1) := by decide +kernel
theorem dX6_init_32 : decode cX6_init 32 = .ok (.new 23, 3) := by decide +kernel
theorem dX6_init_35 : decode cX6_init 35 = .ok (.dup, 1) := by decide +kernel
theorem dX6_init_36 : decode cX6_init 36 = .ok (.invokespecial 25, 3) := by decide +kernel
theorem dX6_init_39 : decode cX6_init 39 = .ok (.putfield 26, 3) := by decide +kernel
theorem dX6_init_42 : decode cX6_init 42 = .ok (.aload_n 0, 1) := by decide +kernel
theorem dX6_init_43 : decode cX6_init 43 = .ok (.new 30, 3) := by decide +kernel
theorem dX6_init_46 : decode cX6_init 46 = .ok (.dup, 1) := by decide +kernel
theorem dX6_init_47 : decode cX6_init 47 = .ok (.invokespecial 32, 3) := by decide +kernel
theorem dX6_init_50 : decode cX6_init 50 = .ok (.putfield 33, 3) := by decide +kernel
theorem dX6_init_53 : decode cX6_init 53 = .ok (.aload_n 0, 1) := by decide +kernel
theorem dX6_init_54 : decode cX6_init 54 = .ok (.new 37, 3) := by decide +kernel
theorem dX6_init_57 : decode cX6_init 57 = .ok (.dup, 1) := by decide +kernel
theorem dX6_init_58 : decode cX6_init 58 = .ok (.invokespecial 39, 3) := by decide +kernel
theorem dX6_init_61 : decode cX6_init 61 = .ok (.putfield 40, 3) := by decide +kernel
theorem dX6_init_64 : decode cX6_init 64 = .ok (.aload_n 0, 1) := by decide +kernel
theorem dX6_init_65 : decode cX6_init 65 = .ok (.new 44, 3) := by decide +kernel
theorem dX6_init_68 : decode cX6_init 68 = .ok (.dup, 1) := by decide +kernel
theorem dX6_init_69 : decode cX6_init 69 = .ok (.invokespecial 46, 3) := by decide +kernel
theorem dX6_init_72 : decode cX6_init 72 = .ok (.putfield 47, 3) := by decide +kernel
theorem dX6_init_75 : decode cX6_init 75 = .ok (.aload_n 0, 1) := by decide +kernel
theorem dX6_init_76 : decode cX6_init 76 = .ok (.bipush 32, 2) := by decide +kernel
theorem dX6_init_78 : decode cX6_init 78 = .ok (.newarray .int, 2) := by decide +kernel
theorem dX6_init_80 : decode cX6_init 80 = .ok (.putfield 51, 3) := by decide +kernel
theorem dX6_init_83 : decode cX6_init 83 = .ok (.aload_n 0, 1) := by decide +kernel
theorem dX6_init_84 : decode cX6_init 84 = .ok (.bipush 6, 2) := by decide +kernel
theorem dX6_init_86 : decode cX6_init 86 = .ok (.newarray .int, 2) := by decide +kernel
theorem dX6_init_88 : decode cX6_init 88 = .ok (.putfield 55, 3) := by decide +kernel
theorem dX6_init_91 : decode cX6_init 91 = .ok (.aload_n 0, 1) := by decide +kernel
theorem dX6_init_92 : decode cX6_init 92 = .ok (.bipush 6, 2) := by decide +kernel
theorem dX6_init_94 : decode cX6_init 94 = .ok (.newarray .int, 2) := by decide +kernel
theorem dX6_init_96 : decode cX6_init 96 = .ok (.putfield 58, 3) := by decide +kernel
theorem dX6_init_99 : decode cX6_init 99 = .ok (.aload_n 0, 1) := by decide +kernel
theorem dX6_init_100 : decode cX6_init 100 = .ok (.iconst 4, 1) := by decide +kernel
theorem dX6_init_101 : decode cX6_init 101 = .ok (.anewarray 61, 3) := by decide +kernel
theorem dX6_init_104 : decode cX6_init 104 = .ok (.putfield 63, 3) := by decide +kernel
theorem dX6_init_107 : decode cX6_init 107 = .ok (.iconst 0, 1) := by decide +kernel
theorem dX6_init_108 : decode cX6_init 108 = .ok (.istore_n 1, 1) := by decide +kernel
theorem dX6_init_109 : decode cX6_init 109 = .ok (.iload_n 1, 1) := by decide +kernel
theorem dX6_init_110 : decode cX6_init 110 = .ok (.iconst 4, 1) := by decide +kernel
theorem dX6_init_111 : decode cX6_init 111 = .ok (.if_icmp .ge 22, 3) := by decide +kernel
theorem dX6_init_114 : decode cX6_init 114 = .ok (.aload_n 0, 1) := by decide +kernel
theorem dX6_init_115 : decode cX6_init 115 = .ok (.getfield 63, 3) := by decide +kernel
theorem dX6_init_118 : decode cX6_init 118 = .ok (.iload_n 1, 1) := by decide +kernel
theorem dX6_init_119 : decode cX6_init 119 = .ok (.new 61, 3) := by decide +kernel
theorem dX6_init_122 : decode cX6_init 122 = .ok (.dup, 1) := by decide +kernel
theorem dX6_init_123 : decode cX6_init 123 = .ok (.invokespecial 67, 3) := by decide +kernel
theorem dX6_init_126 : decode cX6_init 126 = .ok (.aastore, 1) := by decide +kernel
theorem dX6_init_127 : decode cX6_init 127 = .ok (.iinc 1 1, 3) := by decide +kernel
theorem dX6_init_130 : decode cX6_init 130 = .ok (.goto (-21), 3) := by decide +kernel
theorem dX6_init_133 : decode cX6_init 133 = .ok (.return_, 1) := by decide +kernel
theorem dX6_prime_0 : decode cX6_prime 0 = .ok (.iload_n 1, 1) := by decide +kernel
theorem dX6_prime_1 : decode cX6_prime 1 = .ok (.invokestatic 68, 3) := by decide +kernel
theorem dX6_prime_4 : decode cX6_prime 4 = .ok (.ifCond .ne 5, 3) := by decide +kernel
theorem dX6_prime_7 : decode cX6_prime 7 = .ok (.iconst (-1), 1) := by decide +kernel
theorem dX6_prime_8 : decode cX6_prime 8 = .ok (.ireturn, 1) := by decide +kernel
theorem dX6_prime_9 : decode cX6_prime 9 = .ok (.aload_n 0, 1) := by decide +kernel
theorem dX6_prime_10 : decode cX6_prime 10 = .ok (.getfield 12, 3) := by decide +kernel
theorem dX6_prime_13 : decode cX6_prime 13 = .ok (.getfield 72, 3) := by decide +kernel
theorem dX6_prime_16 : decode cX6_prime 16 = .ok (.istore_n 2, 1) := by decide +kernel
theorem dX6_prime_17 : decode cX6_prime 17 = .ok (.iload_n 1, 1) := by decide +kernel
theorem dX6_prime_18 : decode cX6_prime 18 = .ok (.iload_n 2, 1) := by decide +kernel
theorem dX6_prime_19 : decode cX6_prime 19 = .ok (.if_icmp .ne 6, 3) := by decide +kernel
theorem dX6_prime_22 : decode cX6_prime 22 = .ok (.bipush (-2), 2) := by decide +kernel
theorem dX6_prime_24 : decode cX6_prime 24 = .ok (.ireturn, 1) := by decide +kernel
theorem dX6_prime_25 : decode cX6_prime 25 = .ok (.aload_n 0, 1) := by decide +kernel
theorem dX6_prime_26 : decode cX6_prime 26 = .ok (.getfield 12, 3) := by decide +kernel
theorem dX6_prime_29 : decode cX6_prime 29 = .ok (.iload_n 1, 1) := by decide +kernel
theorem dX6_prime_30 : decode cX6_prime 30 = .ok (.putfield 72, 3) := by decide +kernel
theorem dX6_prime_33 : decode cX6_prime 33 = .ok (.aload_n 0, 1) := by decide +kernel
theorem dX6_prime_34 : decode cX6_prime 34 = .ok (.getfield 12, 3) := by decide +kernel
theorem dX6_prime_37 : decode cX6_prime 37 = .ok (.getfield 76, 3) := by decide +kernel
theorem dX6_prime_40 : decode cX6_prime 40 = .ok (.iload_n 1, 1) := by decide +kernel
theorem dX6_prime_41 : decode cX6_prime 41 = .ok (.invokevirtual 79, 3) := by decide +kernel
theorem dX6_prime_44 : decode cX6_prime 44 = .ok (.aload_n 0, 1) := by decide +kernel
theorem dX6_prime_45 : decode cX6_prime 45 = .ok (.getfield 12, 3) := by decide +kernel
theorem dX6_prime_48 : decode cX6_prime 48 = .ok (.invokevirtual 83, 3) := by decide +kernel
theorem dX6_prime_51 : decode cX6_prime 51 = .ok (.iload_n 2, 1) := by decide +kernel
theorem dX6_prime_52 : decode cX6_prime 52 = .ok (.ireturn, 1) := by decide +kernel
theorem dX6_type_0 : decode cX6_type 0 = .ok (.iload_n 1, 1) := by decide +kernel
theorem dX6_type_1 : decode cX6_type 1 = .ok (.bipush 32, 2) := by decide +kernel
theorem dX6_type_3 : decode cX6_type 3 = .ok (.if_icmp .lt 9, 3) := by decide +kernel
theorem dX6_type_6 : decode cX6_type 6 = .ok (.iload_n 1, 1) := by decide +kernel
theorem dX6_type_7 : decode cX6_type 7 = .ok (.bipush 126, 2) := by decide +kernel
theorem dX6_type_9 : decode cX6_type 9 = .ok (.if_icmp .le 5, 3) := by decide +kernel
theorem dX6_type_12 : decode cX6_type 12 = .ok (.iconst (-1), 1) := by decide +kernel
theorem dX6_type_13 : decode cX6_type 13 = .ok (.ireturn, 1) := by decide +kernel
theorem dX6_type_14 : decode cX6_type 14 = .ok (.aload_n 0, 1) := by decide +kernel
theorem dX6_type_15 : decode cX6_type 15 = .ok (.getfield 26, 3) := by decide +kernel
theorem dX6_type_18 : decode cX6_type 18 = .ok (.iload_n 1, 1) := by decide +kernel
theorem dX6_type_19 : decode cX6_type 19 = .ok (.invokevirtual 86, 3) := by decide +kernel
theorem dX6_type_22 : decode cX6_type 22 = .ok (.ifCond .eq 13, 3) := by decide +kernel
theorem dX6_type_25 : decode cX6_type 25 = .ok (.aload_n 0, 1) := by decide +kernel
theorem dX6_type_26 : decode cX6_type 26 = .ok (.getfield 26, 3) := by decide +kernel
theorem dX6_type_29 : decode cX6_type 29 = .ok (.getfield 89, 3) := by decide +kernel
theorem dX6_type_32 : decode cX6_type 32 = .ok (.goto 5, 3) := by decide +kernel
theorem dX6_type_35 : decode cX6_type 35 = .ok (.bipush (-3), 2) := by decide +kernel
theorem dX6_type_37 : decode cX6_type 37 = .ok (.ireturn, 1) := by decide +kernel
theorem dX6_matrix_0 : decode cX6_matrix 0 = .ok (.aload_n 0, 1) := by decide +kernel
theorem dX6_matrix_1 : decode cX6_matrix 1 = .ok (.getfield 26, 3) := by decide +kernel
theorem dX6_matrix_4 : decode cX6_matrix 4 = .ok (.aload_n 0, 1) := by decide +kernel
theorem dX6_matrix_5 : decode cX6_matrix 5 = .ok (.getfield 12, 3) := by decide +kernel
theorem dX6_matrix_8 : decode cX6_matrix 8 = .ok (.getfield 72, 3) := by decide +kernel
theorem dX6_matrix_11 : decode cX6_matrix 11 = .ok (.invokevirtual 92, 3) := by decide +kernel
theorem dX6_matrix_14 : decode cX6_matrix 14 = .ok (.istore_n 1, 1) := by decide +kernel
theorem dX6_matrix_15 : decode cX6_matrix 15 = .ok (.aload_n 0, 1) := by decide +kernel
theorem dX6_matrix_16 : decode cX6_matrix 16 = .ok (.getfield 26, 3) := by decide +kernel
theorem dX6_matrix_19 : decode cX6_matrix 19 = .ok (.iconst 0, 1) := by decide +kernel
theorem dX6_matrix_20 : decode cX6_matrix 20 = .ok (.putfield 89, 3) := by decide +kernel
theorem dX6_matrix_23 : decode cX6_matrix 23 = .ok (.iload_n 1, 1) := by decide +kernel
theorem dX6_matrix_24 : decode cX6_matrix 24 = .ok (.ifCond .eq 5, 3) := by decide +kernel
theorem dX6_matrix_27 : decode cX6_matrix 27 = .ok (.iload_n 1, 1) := by decide +kernel
theorem dX6_matrix_28 : decode cX6_matrix 28 = .ok (.ireturn, 1) := by decide +kernel
theorem dX6_matrix_29 : decode cX6_matrix 29 = .ok (.aload_n 0, 1) := by decide +kernel
theorem dX6_matrix_30 : decode cX6_matrix 30 = .ok (.getfield 12, 3) := by decide +kernel
theorem dX6_matrix_33 : decode cX6_matrix 33 = .ok (.getfield 76, 3) := by decide +kernel
theorem dX6_matrix_36 : decode cX6_matrix 36 = .ok (.getfield 96, 3) := by decide +kernel
theorem dX6_matrix_39 : decode cX6_matrix 39 = .ok (.istore_n 2, 1) := by decide +kernel
theorem dX6_matrix_40 : decode cX6_matrix 40 = .ok (.aload_n 0, 1) := by decide +kernel
theorem dX6_matrix_41 : decode cX6_matrix 41 = .ok (.getfield 12, 3) := by decide +kernel
theorem dX6_matrix_44 : decode cX6_matrix 44 = .ok (.getfield 76, 3) := by decide +kernel
theorem dX6_matrix_47 : decode cX6_matrix 47 = .ok (.aload_n 0, 1) := by decide +kernel
theorem dX6_matrix_48 : decode cX6_matrix 48 = .ok (.getfield 26, 3) := by decide +kernel
theorem dX6_matrix_51 : decode cX6_matrix 51 = .ok (.getfield 99, 3) := by decide +kernel
theorem dX6_matrix_54 : decode cX6_matrix 54 = .ok (.invokevirtual 102, 3) := by decide +kernel
theorem dX6_matrix_57 : decode cX6_matrix 57 = .ok (.aload_n 0, 1) := by decide +kernel
theorem dX6_matrix_58 : decode cX6_matrix 58 = .ok (.getfield 12, 3) := by decide +kernel
theorem dX6_matrix_61 : decode cX6_matrix 61 = .ok (.getfield 76, 3) := by decide +kernel
theorem dX6_matrix_64 : decode cX6_matrix 64 = .ok (.iload_n 2, 1) := by decide +kernel
theorem dX6_matrix_65 : decode cX6_matrix 65 = .ok (.putfield 96, 3) := by decide +kernel
theorem dX6_matrix_68 : decode cX6_matrix 68 = .ok (.aload_n 0, 1) := by decide +kernel
theorem dX6_matrix_69 : decode cX6_matrix 69 = .ok (.getfield 12, 3) := by decide +kernel
theorem dX6_matrix_72 : decode cX6_matrix 72 = .ok (.invokevirtual 83, 3) := by decide +kernel
theorem dX6_matrix_75 : decode cX6_matrix 75 = .ok (.aload_n 0, 1) := by decide +kernel
theorem dX6_matrix_76 : decode cX6_matrix 76 = .ok (.getfield 12, 3) := by decide +kernel
theorem dX6_matrix_79 : decode cX6_matrix 79 = .ok (.getfield 76, 3) := by decide +kernel
theorem dX6_matrix_82 : decode cX6_matrix 82 = .ok (.getfield 106, 3) := by decide +kernel
theorem dX6_matrix_85 : decode cX6_matrix 85 = .ok (.ireturn, 1) := by decide +kernel
theorem dX6_line_0 : decode cX6_line 0 = .ok (.aload_n 0, 1) := by decide +kernel
theorem dX6_line_1 : decode cX6_line 1 = .ok (.iload_n 1, 1) := by decide +kernel
theorem dX6_line_2 : decode cX6_line 2 = .ok (.invokevirtual 109, 3) := by decide +kernel
theorem dX6_line_5 : decode cX6_line 5 = .ok (.ifCond .eq 18, 3) := by decide +kernel
theorem dX6_line_8 : decode cX6_line 8 = .ok (.aload_n 0, 1) := by decide +kernel
theorem dX6_line_9 : decode cX6_line 9 = .ok (.getfield 12, 3) := by decide +kernel
theorem dX6_line_12 : decode cX6_line 12 = .ok (.getfield 76, 3) := by decide +kernel
theorem dX6_line_15 : decode cX6_line 15 = .ok (.getfield 112, 3) := by decide +kernel
theorem dX6_line_18 : decode cX6_line 18 = .ok (.iload_n 1, 1) := by decide +kernel
theorem dX6_line_19 : decode cX6_line 19 = .ok (.iaload, 1) := by decide +kernel
theorem dX6_line_20 : decode cX6_line 20 = .ok (.goto 4, 3) := by decide +kernel
theorem dX6_line_23 : decode cX6_line 23 = .ok (.iconst (-1), 1) := by decide +kernel
theorem dX6_line_24 : decode cX6_line 24 = .ok (.ireturn, 1) := by decide +kernel
theorem dX6_right_0 : decode cX6_right 0 = .ok (.aload_n 0, 1) := by decide +kernel
theorem dX6_right_1 : decode cX6_right 1 = .ok (.iload_n 1, 1) := by decide +kernel
theorem dX6_right_2 : decode cX6_right 2 = .ok (.invokevirtual 115, 3) := by decide +kernel
theorem dX6_right_5 : decode cX6_right 5 = .ok (.ifCond .eq 18, 3) := by decide +kernel
theorem dX6_right_8 : decode cX6_right 8 = .ok (.aload_n 0, 1) := by decide +kernel
theorem dX6_right_9 : decode cX6_right 9 = .ok (.getfield 12, 3) := by decide +kernel
theorem dX6_right_12 : decode cX6_right 12 = .ok (.getfield 76, 3) := by decide +kernel
theorem dX6_right_15 : decode cX6_right 15 = .ok (.getfield 118, 3) := by decide +kernel
theorem dX6_right_18 : decode cX6_right 18 = .ok (.iload_n 1, 1) := by decide +kernel
theorem dX6_right_19 : decode cX6_right 19 = .ok (.iaload, 1) := by decide +kernel
theorem dX6_right_20 : decode cX6_right 20 = .ok (.goto 4, 3) := by decide +kernel
theorem dX6_right_23 : decode cX6_right 23 = .ok (.iconst (-1), 1) := by decide +kernel
theorem dX6_right_24 : decode cX6_right 24 = .ok (.ireturn, 1) := by decide +kernel
theorem dX6_entry_0 : decode cX6_entry 0 = .ok (.aload_n 0, 1) := by decide +kernel
theorem dX6_entry_1 : decode cX6_entry 1 = .ok (.iload_n 1, 1) := by decide +kernel
theorem dX6_entry_2 : decode cX6_entry 2 = .ok (.invokevirtual 115, 3) := by decide +kernel
theorem dX6_entry_5 : decode cX6_entry 5 = .ok (.ifCond .eq 11, 3) := by decide +kernel
theorem dX6_entry_8 : decode cX6_entry 8 = .ok (.aload_n 0, 1) := by decide +kernel
theorem dX6_entry_9 : decode cX6_entry 9 = .ok (.iload_n 2, 1) := by decide +kernel
theorem dX6_entry_10 : decode cX6_entry 10 = .ok (.invokevirtual 115, 3) := by decide +kernel
theorem dX6_entry_13 : decode cX6_entry 13 = .ok (.ifCond .ne 5, 3) := by decide +kernel
theorem dX6_entry_16 : decode cX6_entry 16 = .ok (.iconst (-1), 1) := by decide +kernel
theorem dX6_entry_17 : decode cX6_entry 17 = .ok (.ireturn, 1) := by decide +kernel
theorem dX6_entry_18 : decode cX6_entry 18 = .ok (.aload_n 0, 1) := by decide +kernel
theorem dX6_entry_19 : decode cX6_entry 19 = .ok (.getfield 12, 3) := by decide +kernel
theorem dX6_entry_22 : decode cX6_entry 22 = .ok (.getfield 76, 3) := by decide +kernel
theorem dX6_entry_25 : decode cX6_entry 25 = .ok (.aload_n 0, 1) := by decide +kernel
theorem dX6_entry_26 : decode cX6_entry 26 = .ok (.getfield 12, 3) := by decide +kernel
theorem dX6_entry_29 : decode cX6_entry 29 = .ok (.getfield 76, 3) := by decide +kernel
theorem dX6_entry_32 : decode cX6_entry 32 = .ok (.getfield 121, 3) := by decide +kernel
theorem dX6_entry_35 : decode cX6_entry 35 = .ok (.iload_n 1, 1) := by decide +kernel
theorem dX6_entry_36 : decode cX6_entry 36 = .ok (.iload_n 2, 1) := by decide +kernel
theorem dX6_entry_37 : decode cX6_entry 37 = .ok (.aload_n 0, 1) := by decide +kernel
theorem dX6_entry_38 : decode cX6_entry 38 = .ok (.getfield 12, 3) := by decide +kernel
theorem dX6_entry_41 : decode cX6_entry 41 = .ok (.getfield 72, 3) := by decide +kernel
theorem dX6_entry_44 : decode cX6_entry 44 = .ok (.invokevirtual 124, 3) := by decide +kernel
theorem dX6_entry_47 : decode cX6_entry 47 = .ok (.ireturn, 1) := by decide +kernel
theorem dX6_count_0 : decode cX6_count 0 = .ok (.iload_n 1, 1) := by decide +kernel
theorem dX6_count_1 : decode cX6_count 1 = .ok (.tableswitch 105 0 7 #[47, 58, 69, 77, 82, 87, 92, 97], 47) := by decide +kernel
theorem dX6_count_48 : decode cX6_count 48 = .ok (.aload_n 0, 1) := by decide +kernel
theorem dX6_count_49 : decode cX6_count 49 = .ok (.getfield 12, 3) := by decide +kernel
theorem dX6_count_52 : decode cX6_count 52 = .ok (.getfield 76, 3) := by decide +kernel
theorem dX6_count_55 : decode cX6_count 55 = .ok (.getfield 106, 3) := by decide +kernel
theorem dX6_count_58 : decode cX6_count 58 = .ok (.ireturn, 1) := by decide +kernel
theorem dX6_count_59 : decode cX6_count 59 = .ok (.aload_n 0, 1) := by decide +kernel
theorem dX6_count_60 : decode cX6_count 60 = .ok (.getfield 12, 3) := by decide +kernel
theorem dX6_count_63 : decode cX6_count 63 = .ok (.getfield 76, 3) := by decide +kernel
theorem dX6_count_66 : decode cX6_count 66 = .ok (.getfield 121, 3) := by decide +kernel
theorem dX6_count_69 : decode cX6_count 69 = .ok (.ireturn, 1) := by decide +kernel
theorem dX6_count_70 : decode cX6_count 70 = .ok (.aload_n 0, 1) := by decide +kernel
theorem dX6_count_71 : decode cX6_count 71 = .ok (.getfield 12, 3) := by decide +kernel
theorem dX6_count_74 : decode cX6_count 74 = .ok (.getfield 72, 3) := by decide +kernel
theorem dX6_count_77 : decode cX6_count 77 = .ok (.ireturn, 1) := by decide +kernel
theorem dX6_count_78 : decode cX6_count 78 = .ok (.aload_n 0, 1) := by decide +kernel
theorem dX6_count_79 : decode cX6_count 79 = .ok (.invokevirtual 128, 3) := by decide +kernel
theorem dX6_count_82 : decode cX6_count 82 = .ok (.ireturn, 1) := by decide +kernel
theorem dX6_count_83 : decode cX6_count 83 = .ok (.aload_n 0, 1) := by decide +kernel
theorem dX6_count_84 : decode cX6_count 84 = .ok (.invokevirtual 132, 3) := by decide +kernel
theorem dX6_count_87 : decode cX6_count 87 = .ok (.ireturn, 1) := by decide +kernel
theorem dX6_count_88 : decode cX6_count 88 = .ok (.aload_n 0, 1) := by decide +kernel
theorem dX6_count_89 : decode cX6_count 89 = .ok (.invokevirtual 135, 3) := by decide +kernel
theorem dX6_count_92 : decode cX6_count 92 = .ok (.ireturn, 1) := by decide +kernel
theorem dX6_count_93 : decode cX6_count 93 = .ok (.aload_n 0, 1) := by decide +kernel
theorem dX6_count_94 : decode cX6_count 94 = .ok (.invokevirtual 138, 3) := by decide +kernel
theorem dX6_count_97 : decode cX6_count 97 = .ok (.ireturn, 1) := by decide +kernel
theorem dX6_count_98 : decode cX6_count 98 = .ok (.aload_n 0, 1) := by decide +kernel
theorem dX6_count_99 : decode cX6_count 99 = .ok (.getfield 12, 3) := by decide +kernel
theorem dX6_count_102 : decode cX6_count 102 = .ok (.getfield 141, 3) := by decide +kernel
theorem dX6_count_105 : decode cX6_count 105 = .ok (.ireturn, 1) := by decide +kernel
theorem dX6_count_106 : decode cX6_count 106 = .ok (.iconst (-1), 1) := by decide +kernel
theorem dX6_count_107 : decode cX6_count 107 = .ok (.ireturn, 1) := by decide +kernel
theorem dX6_change_0 : decode cX6_change 0 = .ok (.aload_n 0, 1) := by decide +kernel
theorem dX6_change_1 : decode cX6_change 1 = .ok (.iload_n 1, 1) := by decide +kernel
theorem dX6_change_2 : decode cX6_change 2 = .ok (.invokevirtual 109, 3) := by decide +kernel
theorem dX6_change_5 : decode cX6_change 5 = .ok (.ifCond .eq 12, 3) := by decide +kernel
theorem dX6_change_8 : decode cX6_change 8 = .ok (.aload_n 0, 1) := by decide +kernel
theorem dX6_change_9 : decode cX6_change 9 = .ok (.iload_n 2, 1) := by decide +kernel
theorem dX6_change_10 : decode cX6_change 10 = .ok (.i2l, 1) := by decide +kernel
theorem dX6_change_11 : decode cX6_change 11 = .ok (.invokevirtual 144, 3) := by decide +kernel
theorem dX6_change_14 : decode cX6_change 14 = .ok (.ifCond .ne 5, 3) := by decide +kernel
theorem dX6_change_17 : decode cX6_change 17 = .ok (.iconst (-1), 1) := by decide +kernel
theorem dX6_change_18 : decode cX6_change 18 = .ok (.ireturn, 1) := by decide +kernel
theorem dX6_change_19 : decode cX6_change 19 = .ok (.aload_n 0, 1) := by decide +kernel
theorem dX6_change_20 : decode cX6_change 20 = .ok (.getfield 12, 3) := by decide +kernel
theorem dX6_change_23 : decode cX6_change 23 = .ok (.getfield 76, 3) := by decide +kernel
theorem dX6_change_26 : decode cX6_change 26 = .ok (.getfield 112, 3) := by decide +kernel
theorem dX6_change_29 : decode cX6_change 29 = .ok (.iload_n 1, 1) := by decide +kernel
theorem dX6_change_30 : decode cX6_change 30 = .ok (.iaload, 1) := by decide +kernel
theorem dX6_change_31 : decode cX6_change 31 = .ok (.istore_n 3, 1) := by decide +kernel
theorem dX6_change_32 : decode cX6_change 32 = .ok (.iload_n 2, 1) := by decide +kernel
theorem dX6_change_33 : decode cX6_change 33 = .ok (.iload_n 3, 1) := by decide +kernel
theorem dX6_change_34 : decode cX6_change 34 = .ok (.if_icmp .ne 6, 3) := by decide +kernel
theorem dX6_change_37 : decode cX6_change 37 = .ok (.bipush (-2), 2) := by decide +kernel
theorem dX6_change_39 : decode cX6_change 39 = .ok (.ireturn, 1) := by decide +kernel
theorem dX6_change_40 : decode cX6_change 40 = .ok (.aload_n 0, 1) := by decide +kernel
theorem dX6_change_41 : decode cX6_change 41 = .ok (.getfield 12, 3) := by decide +kernel
theorem dX6_change_44 : decode cX6_change 44 = .ok (.invokevirtual 148, 3) := by decide +kernel
theorem dX6_change_47 : decode cX6_change 47 = .ok (.aload_n 0, 1) := by decide +kernel
theorem dX6_change_48 : decode cX6_change 48 = .ok (.getfield 12, 3) := by decide +kernel
theorem dX6_change_51 : decode cX6_change 51 = .ok (.getfield 76, 3) := by decide +kernel
theorem dX6_change_54 : decode cX6_change 54 = .ok (.getfield 112, 3) := by decide +kernel
theorem dX6_change_57 : decode cX6_change 57 = .ok (.iload_n 1, 1) := by decide +kernel
theorem dX6_change_58 : decode cX6_change 58 = .ok (.iload_n 2, 1) := by decide +kernel
theorem dX6_change_59 : decode cX6_change 59 = .ok (.iastore, 1) := by decide +kernel
theorem dX6_change_60 : decode cX6_change 60 = .ok (.iload_n 3, 1) := by decide +kernel
theorem dX6_change_61 : decode cX6_change 61 = .ok (.ireturn, 1) := by decide +kernel
theorem dX6_put_0 : decode cX6_put 0 = .ok (.aload_n 0, 1) := by decide +kernel
theorem dX6_put_1 : decode cX6_put 1 = .ok (.iload_n 1, 1) := by decide +kernel
theorem dX6_put_2 : decode cX6_put 2 = .ok (.invokevirtual 115, 3) := by decide +kernel
theorem dX6_put_5 : decode cX6_put 5 = .ok (.ifCond .eq 12, 3) := by decide +kernel
theorem dX6_put_8 : decode cX6_put 8 = .ok (.aload_n 0, 1) := by decide +kernel
theorem dX6_put_9 : decode cX6_put 9 = .ok (.iload_n 2, 1) := by decide +kernel
theorem dX6_put_10 : decode cX6_put 10 = .ok (.i2l, 1) := by decide +kernel
theorem dX6_put_11 : decode cX6_put 11 = .ok (.invokevirtual 144, 3) := by decide +kernel
theorem dX6_put_14 : decode cX6_put 14 = .ok (.ifCond .ne 5, 3) := by decide +kernel
theorem dX6_put_17 : decode cX6_put 17 = .ok (.iconst (-1), 1) := by decide +kernel
theorem dX6_put_18 : decode cX6_put 18 = .ok (.ireturn, 1) := by decide +kernel
theorem dX6_put_19 : decode cX6_put 19 = .ok (.aload_n 0, 1) := by decide +kernel
theorem dX6_put_20 : decode cX6_put 20 = .ok (.getfield 12, 3) := by decide +kernel
theorem dX6_put_23 : decode cX6_put 23 = .ok (.getfield 76, 3) := by decide +kernel
theorem dX6_put_26 : decode cX6_put 26 = .ok (.getfield 118, 3) := by decide +kernel
theorem dX6_put_29 : decode cX6_put 29 = .ok (.iload_n 1, 1) := by decide +kernel
theorem dX6_put_30 : decode cX6_put 30 = .ok (.iaload, 1) := by decide +kernel
theorem dX6_put_31 : decode cX6_put 31 = .ok (.istore_n 3, 1) := by decide +kernel
theorem dX6_put_32 : decode cX6_put 32 = .ok (.iload_n 2, 1) := by decide +kernel
theorem dX6_put_33 : decode cX6_put 33 = .ok (.iload_n 3, 1) := by decide +kernel
theorem dX6_put_34 : decode cX6_put 34 = .ok (.if_icmp .ne 6, 3) := by decide +kernel
theorem dX6_put_37 : decode cX6_put 37 = .ok (.bipush (-2), 2) := by decide +kernel
theorem dX6_put_39 : decode cX6_put 39 = .ok (.ireturn, 1) := by decide +kernel
theorem dX6_put_40 : decode cX6_put 40 = .ok (.aload_n 0, 1) := by decide +kernel
theorem dX6_put_41 : decode cX6_put 41 = .ok (.getfield 12, 3) := by decide +kernel
theorem dX6_put_44 : decode cX6_put 44 = .ok (.invokevirtual 148, 3) := by decide +kernel
theorem dX6_put_47 : decode cX6_put 47 = .ok (.aload_n 0, 1) := by decide +kernel
theorem dX6_put_48 : decode cX6_put 48 = .ok (.getfield 12, 3) := by decide +kernel
theorem dX6_put_51 : decode cX6_put 51 = .ok (.getfield 76, 3) := by decide +kernel
theorem dX6_put_54 : decode cX6_put 54 = .ok (.getfield 118, 3) := by decide +kernel
theorem dX6_put_57 : decode cX6_put 57 = .ok (.iload_n 1, 1) := by decide +kernel
theorem dX6_put_58 : decode cX6_put 58 = .ok (.iload_n 2, 1) := by decide +kernel
theorem dX6_put_59 : decode cX6_put 59 = .ok (.iastore, 1) := by decide +kernel
theorem dX6_put_60 : decode cX6_put 60 = .ok (.iload_n 3, 1) := by decide +kernel
theorem dX6_put_61 : decode cX6_put 61 = .ok (.ireturn, 1) := by decide +kernel
theorem dX6_shape_0 : decode cX6_shape 0 = .ok (.iload_n 1, 1) := by decide +kernel
theorem dX6_shape_1 : decode cX6_shape 1 = .ok (.ifCond .lt 8, 3) := by decide +kernel
theorem dX6_shape_4 : decode cX6_shape 4 = .ok (.iload_n 1, 1) := by decide +kernel
theorem dX6_shape_5 : decode cX6_shape 5 = .ok (.iconst 5, 1) := by decide +kernel
theorem dX6_shape_6 : decode cX6_shape 6 = .ok (.if_icmp .lt 5, 3) := by decide +kernel
theorem dX6_shape_9 : decode cX6_shape 9 = .ok (.iconst (-1), 1) := by decide +kernel
theorem dX6_shape_10 : decode cX6_shape 10 = .ok (.ireturn, 1) := by decide +kernel
theorem dX6_shape_11 : decode cX6_shape 11 = .ok (.aload_n 0, 1) := by decide +kernel
theorem dX6_shape_12 : decode cX6_shape 12 = .ok (.getfield 12, 3) := by decide +kernel
theorem dX6_shape_15 : decode cX6_shape 15 = .ok (.getfield 76, 3) := by decide +kernel
theorem dX6_shape_18 : decode cX6_shape 18 = .ok (.getfield 121, 3) := by decide +kernel
theorem dX6_shape_21 : decode cX6_shape 21 = .ok (.istore_n 2, 1) := by decide +kernel
theorem dX6_shape_22 : decode cX6_shape 22 = .ok (.iload_n 1, 1) := by decide +kernel
theorem dX6_shape_23 : decode cX6_shape 23 = .ok (.iload_n 2, 1) := by decide +kernel
theorem dX6_shape_24 : decode cX6_shape 24 = .ok (.if_icmp .ne 6, 3) := by decide +kernel
theorem dX6_shape_27 : decode cX6_shape 27 = .ok (.bipush (-2), 2) := by decide +kernel
theorem dX6_shape_29 : decode cX6_shape 29 = .ok (.ireturn, 1) := by decide +kernel
theorem dX6_shape_30 : decode cX6_shape 30 = .ok (.aload_n 0, 1) := by decide +kernel
theorem dX6_shape_31 : decode cX6_shape 31 = .ok (.getfield 12, 3) := by decide +kernel
theorem dX6_shape_34 : decode cX6_shape 34 = .ok (.invokevirtual 148, 3) := by decide +kernel
theorem dX6_shape_37 : decode cX6_shape 37 = .ok (.aload_n 0, 1) := by decide +kernel
theorem dX6_shape_38 : decode cX6_shape 38 = .ok (.getfield 12, 3) := by decide +kernel
theorem dX6_shape_41 : decode cX6_shape 41 = .ok (.getfield 76, 3) := by decide +kernel
theorem dX6_shape_44 : decode cX6_shape 44 = .ok (.iload_n 1, 1) := by decide +kernel
theorem dX6_shape_45 : decode cX6_shape 45 = .ok (.putfield 121, 3) := by decide +kernel
theorem dX6_shape_48 : decode cX6_shape 48 = .ok (.iload_n 2, 1) := by decide +kernel
theorem dX6_shape_49 : decode cX6_shape 49 = .ok (.ireturn, 1) := by decide +kernel
theorem dX6_widen_0 : decode cX6_widen 0 = .ok (.aload_n 0, 1) := by decide +kernel
theorem dX6_widen_1 : decode cX6_widen 1 = .ok (.getfield 12, 3) := by decide +kernel
theorem dX6_widen_4 : decode cX6_widen 4 = .ok (.getfield 76, 3) := by decide +kernel
theorem dX6_widen_7 : decode cX6_widen 7 = .ok (.getfield 106, 3) := by decide +kernel
theorem dX6_widen_10 : decode cX6_widen 10 = .ok (.bipush 6, 2) := by decide +kernel
theorem dX6_widen_12 : decode cX6_widen 12 = .ok (.if_icmp .lt 6, 3) := by decide +kernel
theorem dX6_widen_15 : decode cX6_widen 15 = .ok (.bipush (-3), 2) := by decide +kernel
theorem dX6_widen_17 : decode cX6_widen 17 = .ok (.ireturn, 1) := by decide +kernel
theorem dX6_widen_18 : decode cX6_widen 18 = .ok (.aload_n 0, 1) := by decide +kernel
theorem dX6_widen_19 : decode cX6_widen 19 = .ok (.getfield 12, 3) := by decide +kernel
theorem dX6_widen_22 : decode cX6_widen 22 = .ok (.invokevirtual 148, 3) := by decide +kernel
theorem dX6_widen_25 : decode cX6_widen 25 = .ok (.aload_n 0, 1) := by decide +kernel
theorem dX6_widen_26 : decode cX6_widen 26 = .ok (.getfield 12, 3) := by decide +kernel
theorem dX6_widen_29 : decode cX6_widen 29 = .ok (.getfield 76, 3) := by decide +kernel
theorem dX6_widen_32 : decode cX6_widen 32 = .ok (.invokevirtual 151, 3) := by decide +kernel
theorem dX6_widen_35 : decode cX6_widen 35 = .ok (.aload_n 0, 1) := by decide +kernel
theorem dX6_widen_36 : decode cX6_widen 36 = .ok (.getfield 12, 3) := by decide +kernel
theorem dX6_widen_39 : decode cX6_widen 39 = .ok (.getfield 76, 3) := by decide +kernel
theorem dX6_widen_42 : decode cX6_widen 42 = .ok (.getfield 106, 3) := by decide +kernel
theorem dX6_widen_45 : decode cX6_widen 45 = .ok (.ireturn, 1) := by decide +kernel
theorem dX6_cut_0 : decode cX6_cut 0 = .ok (.aload_n 0, 1) := by decide +kernel
theorem dX6_cut_1 : decode cX6_cut 1 = .ok (.getfield 12, 3) := by decide +kernel
theorem dX6_cut_4 : decode cX6_cut 4 = .ok (.getfield 76, 3) := by decide +kernel
theorem dX6_cut_7 : decode cX6_cut 7 = .ok (.getfield 106, 3) := by decide +kernel
theorem dX6_cut_10 : decode cX6_cut 10 = .ok (.iconst 1, 1) := by decide +kernel
theorem dX6_cut_11 : decode cX6_cut 11 = .ok (.if_icmp .gt 6, 3) := by decide +kernel
theorem dX6_cut_14 : decode cX6_cut 14 = .ok (.bipush (-2), 2) := by decide +kernel
theorem dX6_cut_16 : decode cX6_cut 16 = .ok (.ireturn, 1) := by decide +kernel
theorem dX6_cut_17 : decode cX6_cut 17 = .ok (.aload_n 0, 1) := by decide +kernel
theorem dX6_cut_18 : decode cX6_cut 18 = .ok (.getfield 12, 3) := by decide +kernel
theorem dX6_cut_21 : decode cX6_cut 21 = .ok (.invokevirtual 148, 3) := by decide +kernel
theorem dX6_cut_24 : decode cX6_cut 24 = .ok (.aload_n 0, 1) := by decide +kernel
theorem dX6_cut_25 : decode cX6_cut 25 = .ok (.getfield 12, 3) := by decide +kernel
theorem dX6_cut_28 : decode cX6_cut 28 = .ok (.getfield 76, 3) := by decide +kernel
theorem dX6_cut_31 : decode cX6_cut 31 = .ok (.invokevirtual 154, 3) := by decide +kernel
theorem dX6_cut_34 : decode cX6_cut 34 = .ok (.aload_n 0, 1) := by decide +kernel
theorem dX6_cut_35 : decode cX6_cut 35 = .ok (.getfield 12, 3) := by decide +kernel
theorem dX6_cut_38 : decode cX6_cut 38 = .ok (.getfield 76, 3) := by decide +kernel
theorem dX6_cut_41 : decode cX6_cut 41 = .ok (.getfield 106, 3) := by decide +kernel
theorem dX6_cut_44 : decode cX6_cut 44 = .ok (.ireturn, 1) := by decide +kernel
theorem dX6_turn_0 : decode cX6_turn 0 = .ok (.aload_n 0, 1) := by decide +kernel
theorem dX6_turn_1 : decode cX6_turn 1 = .ok (.getfield 12, 3) := by decide +kernel
theorem dX6_turn_4 : decode cX6_turn 4 = .ok (.invokevirtual 148, 3) := by decide +kernel
theorem dX6_turn_7 : decode cX6_turn 7 = .ok (.aload_n 0, 1) := by decide +kernel
theorem dX6_turn_8 : decode cX6_turn 8 = .ok (.getfield 12, 3) := by decide +kernel
theorem dX6_turn_11 : decode cX6_turn 11 = .ok (.getfield 76, 3) := by decide +kernel
theorem dX6_turn_14 : decode cX6_turn 14 = .ok (.invokevirtual 157, 3) := by decide +kernel
theorem dX6_turn_17 : decode cX6_turn 17 = .ok (.aload_n 0, 1) := by decide +kernel
theorem dX6_turn_18 : decode cX6_turn 18 = .ok (.invokevirtual 135, 3) := by decide +kernel
theorem dX6_turn_21 : decode cX6_turn 21 = .ok (.ireturn, 1) := by decide +kernel
theorem dX6_drift_0 : decode cX6_drift 0 = .ok (.iload_n 1, 1) := by decide +kernel
theorem dX6_drift_1 : decode cX6_drift 1 = .ok (.iconst 1, 1) := by decide +kernel
theorem dX6_drift_2 : decode cX6_drift 2 = .ok (.if_icmp .lt 9, 3) := by decide +kernel
theorem dX6_drift_5 : decode cX6_drift 5 = .ok (.iload_n 1, 1) := by decide +kernel
theorem dX6_drift_6 : decode cX6_drift 6 = .ok (.bipush 40, 2) := by decide +kernel
theorem dX6_drift_8 : decode cX6_drift 8 = .ok (.if_icmp .le 5, 3) := by decide +kernel
theorem dX6_drift_11 : decode cX6_drift 11 = .ok (.iconst (-1), 1) := by decide +kernel
theorem dX6_drift_12 : decode cX6_drift 12 = .ok (.ireturn, 1) := by decide +kernel
theorem dX6_drift_13 : decode cX6_drift 13 = .ok (.iconst 0, 1) := by decide +kernel
theorem dX6_drift_14 : decode cX6_drift 14 = .ok (.istore_n 2, 1) := by decide +kernel
theorem dX6_drift_15 : decode cX6_drift 15 = .ok (.iload_n 2, 1) := by decide +kernel
theorem dX6_drift_16 : decode cX6_drift 16 = .ok (.iload_n 1, 1) := by decide +kernel
theorem dX6_drift_17 : decode cX6_drift 17 = .ok (.if_icmp .ge 33, 3) := by decide +kernel
theorem dX6_drift_20 : decode cX6_drift 20 = .ok (.aload_n 0, 1) := by decide +kernel
theorem dX6_drift_21 : decode cX6_drift 21 = .ok (.getfield 12, 3) := by decide +kernel
theorem dX6_drift_24 : decode cX6_drift 24 = .ok (.invokevirtual 148, 3) := by decide +kernel
theorem dX6_drift_27 : decode cX6_drift 27 = .ok (.aload_n 0, 1) := by decide +kernel
theorem dX6_drift_28 : decode cX6_drift 28 = .ok (.getfield 12, 3) := by decide +kernel
theorem dX6_drift_31 : decode cX6_drift 31 = .ok (.getfield 76, 3) := by decide +kernel
theorem dX6_drift_34 : decode cX6_drift 34 = .ok (.aload_n 0, 1) := by decide +kernel
theorem dX6_drift_35 : decode cX6_drift 35 = .ok (.getfield 12, 3) := by decide +kernel
theorem dX6_drift_38 : decode cX6_drift 38 = .ok (.getfield 72, 3) := by decide +kernel
theorem dX6_drift_41 : decode cX6_drift 41 = .ok (.invokevirtual 160, 3) := by decide +kernel
theorem dX6_drift_44 : decode cX6_drift 44 = .ok (.iinc 2 1, 3) := by decide +kernel
theorem dX6_drift_47 : decode cX6_drift 47 = .ok (.goto (-32), 3) := by decide +kernel
theorem dX6_drift_50 : decode cX6_drift 50 = .ok (.aload_n 0, 1) := by decide +kernel
theorem dX6_drift_51 : decode cX6_drift 51 = .ok (.invokevirtual 135, 3) := by decide +kernel
theorem dX6_drift_54 : decode cX6_drift 54 = .ok (.ireturn, 1) := by decide +kernel
theorem dX6_undo_0 : decode cX6_undo 0 = .ok (.aload_n 0, 1) := by decide +kernel
theorem dX6_undo_1 : decode cX6_undo 1 = .ok (.getfield 12, 3) := by decide +kernel
theorem dX6_undo_4 : decode cX6_undo 4 = .ok (.invokevirtual 163, 3) := by decide +kernel
theorem dX6_undo_7 : decode cX6_undo 7 = .ok (.ifCond .eq 13, 3) := by decide +kernel
theorem dX6_undo_10 : decode cX6_undo 10 = .ok (.aload_n 0, 1) := by decide +kernel
theorem dX6_undo_11 : decode cX6_undo 11 = .ok (.getfield 12, 3) := by decide +kernel
theorem dX6_undo_14 : decode cX6_undo 14 = .ok (.getfield 141, 3) := by decide +kernel
theorem dX6_undo_17 : decode cX6_undo 17 = .ok (.goto 5, 3) := by decide +kernel
theorem dX6_undo_20 : decode cX6_undo 20 = .ok (.bipush (-4), 2) := by decide +kernel
theorem dX6_undo_22 : decode cX6_undo 22 = .ok (.ireturn, 1) := by decide +kernel
theorem dX6_seed_0 : decode cX6_seed 0 = .ok (.iload_n 1, 1) := by decide +kernel
theorem dX6_seed_1 : decode cX6_seed 1 = .ok (.ifCond .ge 5, 3) := by decide +kernel
theorem dX6_seed_4 : decode cX6_seed 4 = .ok (.iconst (-1), 1) := by decide +kernel
theorem dX6_seed_5 : decode cX6_seed 5 = .ok (.ireturn, 1) := by decide +kernel
theorem dX6_seed_6 : decode cX6_seed 6 = .ok (.aload_n 0, 1) := by decide +kernel
theorem dX6_seed_7 : decode cX6_seed 7 = .ok (.getfield 12, 3) := by decide +kernel
theorem dX6_seed_10 : decode cX6_seed 10 = .ok (.getfield 76, 3) := by decide +kernel
theorem dX6_seed_13 : decode cX6_seed 13 = .ok (.getfield 96, 3) := by decide +kernel
theorem dX6_seed_16 : decode cX6_seed 16 = .ok (.istore_n 2, 1) := by decide +kernel
theorem dX6_seed_17 : decode cX6_seed 17 = .ok (.aload_n 0, 1) := by decide +kernel
theorem dX6_seed_18 : decode cX6_seed 18 = .ok (.getfield 12, 3) := by decide +kernel
theorem dX6_seed_21 : decode cX6_seed 21 = .ok (.getfield 76, 3) := by decide +kernel
theorem dX6_seed_24 : decode cX6_seed 24 = .ok (.iload_n 1, 1) := by decide +kernel
theorem dX6_seed_25 : decode cX6_seed 25 = .ok (.putfield 96, 3) := by decide +kernel
theorem dX6_seed_28 : decode cX6_seed 28 = .ok (.iload_n 2, 1) := by decide +kernel
theorem dX6_seed_29 : decode cX6_seed 29 = .ok (.ireturn, 1) := by decide +kernel
theorem dX6_corner_0 : decode cX6_corner 0 = .ok (.iload_n 1, 1) := by decide +kernel
theorem dX6_corner_1 : decode cX6_corner 1 = .ok (.ifCond .lt 17, 3) := by decide +kernel
theorem dX6_corner_4 : decode cX6_corner 4 = .ok (.iload_n 1, 1) := by decide +kernel
theorem dX6_corner_5 : decode cX6_corner 5 = .ok (.aload_n 0, 1) := by decide +kernel
theorem dX6_corner_6 : decode cX6_corner 6 = .ok (.getfield 12, 3) := by decide +kernel
theorem dX6_corner_9 : decode cX6_corner 9 = .ok (.getfield 76, 3) := by decide +kernel
theorem dX6_corner_12 : decode cX6_corner 12 = .ok (.getfield 106, 3) := by decide +kernel
theorem dX6_corner_15 : decode cX6_corner 15 = .ok (.if_icmp .le 5, 3) := by decide +kernel
theorem dX6_corner_18 : decode cX6_corner 18 = .ok (.iconst (-1), 1) := by decide +kernel
theorem dX6_corner_19 : decode cX6_corner 19 = .ok (.ireturn, 1) := by decide +kernel
theorem dX6_corner_20 : decode cX6_corner 20 = .ok (.aload_n 0, 1) := by decide +kernel
theorem dX6_corner_21 : decode cX6_corner 21 = .ok (.aload_n 0, 1) := by decide +kernel
theorem dX6_corner_22 : decode cX6_corner 22 = .ok (.getfield 12, 3) := by decide +kernel
theorem dX6_corner_25 : decode cX6_corner 25 = .ok (.getfield 76, 3) := by decide +kernel
theorem dX6_corner_28 : decode cX6_corner 28 = .ok (.iload_n 1, 1) := by decide +kernel
theorem dX6_corner_29 : decode cX6_corner 29 = .ok (.invokevirtual 167, 3) := by decide +kernel
theorem dX6_corner_32 : decode cX6_corner 32 = .ok (.ireturn, 1) := by decide +kernel
theorem dX6_leap_0 : decode cX6_leap 0 = .ok (.aload_n 0, 1) := by decide +kernel
theorem dX6_leap_1 : decode cX6_leap 1 = .ok (.iload_n 1, 1) := by decide +kernel
theorem dX6_leap_2 : decode cX6_leap 2 = .ok (.invokevirtual 115, 3) := by decide +kernel
theorem dX6_leap_5 : decode cX6_leap 5 = .ok (.ifCond .ne 5, 3) := by decide +kernel
theorem dX6_leap_8 : decode cX6_leap 8 = .ok (.iconst (-1), 1) := by decide +kernel
theorem dX6_leap_9 : decode cX6_leap 9 = .ok (.ireturn, 1) := by decide +kernel
theorem dX6_leap_10 : decode cX6_leap 10 = .ok (.iload_n 1, 1) := by decide +kernel
theorem dX6_leap_11 : decode cX6_leap 11 = .ok (.iconst 1, 1) := by decide +kernel
theorem dX6_leap_12 : decode cX6_leap 12 = .ok (.iadd, 1) := by decide +kernel
theorem dX6_leap_13 : decode cX6_leap 13 = .ok (.istore_n 2, 1) := by decide +kernel
theorem dX6_leap_14 : decode cX6_leap 14 = .ok (.iload_n 2, 1) := by decide +kernel
theorem dX6_leap_15 : decode cX6_leap 15 = .ok (.aload_n 0, 1) := by decide +kernel
theorem dX6_leap_16 : decode cX6_leap 16 = .ok (.getfield 12, 3) := by decide +kernel
theorem dX6_leap_19 : decode cX6_leap 19 = .ok (.getfield 76, 3) := by decide +kernel
theorem dX6_leap_22 : decode cX6_leap 22 = .ok (.getfield 106, 3) := by decide +kernel
theorem dX6_leap_25 : decode cX6_leap 25 = .ok (.if_icmp .gt 28, 3) := by decide +kernel
theorem dX6_leap_28 : decode cX6_leap 28 = .ok (.aload_n 0, 1) := by decide +kernel
theorem dX6_leap_29 : decode cX6_leap 29 = .ok (.aload_n 0, 1) := by decide +kernel
theorem dX6_leap_30 : decode cX6_leap 30 = .ok (.getfield 12, 3) := by decide +kernel
theorem dX6_leap_33 : decode cX6_leap 33 = .ok (.getfield 76, 3) := by decide +kernel
theorem dX6_leap_36 : decode cX6_leap 36 = .ok (.iload_n 2, 1) := by decide +kernel
theorem dX6_leap_37 : decode cX6_leap 37 = .ok (.invokevirtual 167, 3) := by decide +kernel
theorem dX6_leap_40 : decode cX6_leap 40 = .ok (.ifCond .eq 7, 3) := by decide +kernel
theorem dX6_leap_43 : decode cX6_leap 43 = .ok (.iload_n 2, 1) := by decide +kernel
theorem dX6_leap_44 : decode cX6_leap 44 = .ok (.iload_n 1, 1) := by decide +kernel
theorem dX6_leap_45 : decode cX6_leap 45 = .ok (.isub, 1) := by decide +kernel
theorem dX6_leap_46 : decode cX6_leap 46 = .ok (.ireturn, 1) := by decide +kernel
theorem dX6_leap_47 : decode cX6_leap 47 = .ok (.iinc 2 1, 3) := by decide +kernel
theorem dX6_leap_50 : decode cX6_leap 50 = .ok (.goto (-36), 3) := by decide +kernel
theorem dX6_leap_53 : decode cX6_leap 53 = .ok (.bipush (-4), 2) := by decide +kernel
theorem dX6_leap_55 : decode cX6_leap 55 = .ok (.ireturn, 1) := by decide +kernel
theorem dX6_solved_0 : decode cX6_solved 0 = .ok (.iload_n 1, 1) := by decide +kernel
theorem dX6_solved_1 : decode cX6_solved 1 = .ok (.iconst (-1), 1) := by decide +kernel
theorem dX6_solved_2 : decode cX6_solved 2 = .ok (.if_icmp .eq 15, 3) := by decide +kernel
theorem dX6_solved_5 : decode cX6_solved 5 = .ok (.aload_n 0, 1) := by decide +kernel
theorem dX6_solved_6 : decode cX6_solved 6 = .ok (.iload_n 1, 1) := by decide +kernel
theorem dX6_solved_7 : decode cX6_solved 7 = .ok (.invokevirtual 115, 3) := by decide +kernel
theorem dX6_solved_10 : decode cX6_solved 10 = .ok (.ifCond .ne 7, 3) := by decide +kernel
theorem dX6_solved_13 : decode cX6_solved 13 = .ok (.ldc2_w 171, 3) := by decide +kernel
theorem dX6_solved_16 : decode cX6_solved 16 = .ok (.lreturn, 1) := by decide +kernel
theorem dX6_solved_17 : decode cX6_solved 17 = .ok (.aload_n 0, 1) := by decide +kernel
theorem dX6_solved_18 : decode cX6_solved 18 = .ok (.invokevirtual 173, 3) := by decide +kernel
theorem dX6_solved_21 : decode cX6_solved 21 = .ok (.lstore_n 2, 1) := by decide +kernel
theorem dX6_solved_22 : decode cX6_solved 22 = .ok (.iload_n 1, 1) := by decide +kernel
theorem dX6_solved_23 : decode cX6_solved 23 = .ok (.iconst (-1), 1) := by decide +kernel
theorem dX6_solved_24 : decode cX6_solved 24 = .ok (.if_icmp .ne 5, 3) := by decide +kernel
theorem dX6_solved_27 : decode cX6_solved 27 = .ok (.lload_n 2, 1) := by decide +kernel
theorem dX6_solved_28 : decode cX6_solved 28 = .ok (.lreturn, 1) := by decide +kernel
theorem dX6_solved_29 : decode cX6_solved 29 = .ok (.lload_n 2, 1) := by decide +kernel
theorem dX6_solved_30 : decode cX6_solved 30 = .ok (.lconst 0, 1) := by decide +kernel
theorem dX6_solved_31 : decode cX6_solved 31 = .ok (.lcmp, 1) := by decide +kernel
theorem dX6_solved_32 : decode cX6_solved 32 = .ok (.ifCond .ne 9, 3) := by decide +kernel
theorem dX6_solved_35 : decode cX6_solved 35 = .ok (.ldc2_w 177, 3) := by decide +kernel
theorem dX6_solved_38 : decode cX6_solved 38 = .ok (.goto 13, 3) := by decide +kernel
theorem dX6_solved_41 : decode cX6_solved 41 = .ok (.aload_n 0, 1) := by decide +kernel
theorem dX6_solved_42 : decode cX6_solved 42 = .ok (.getfield 33, 3) := by decide +kernel
theorem dX6_solved_45 : decode cX6_solved 45 = .ok (.getfield 179, 3) := by decide +kernel
theorem dX6_solved_48 : decode cX6_solved 48 = .ok (.iload_n 1, 1) := by decide +kernel
theorem dX6_solved_49 : decode cX6_solved 49 = .ok (.iaload, 1) := by decide +kernel
theorem dX6_solved_50 : decode cX6_solved 50 = .ok (.i2l, 1) := by decide +kernel
theorem dX6_solved_51 : decode cX6_solved 51 = .ok (.lreturn, 1) := by decide +kernel
theorem dX6_inverse_0 : decode cX6_inverse 0 = .ok (.aload_n 0, 1) := by decide +kernel
theorem dX6_inverse_1 : decode cX6_inverse 1 = .ok (.iload_n 1, 1) := by decide +kernel
theorem dX6_inverse_2 : decode cX6_inverse 2 = .ok (.invokevirtual 115, 3) := by decide +kernel
theorem dX6_inverse_5 : decode cX6_inverse 5 = .ok (.ifCond .eq 11, 3) := by decide +kernel
theorem dX6_inverse_8 : decode cX6_inverse 8 = .ok (.aload_n 0, 1) := by decide +kernel
theorem dX6_inverse_9 : decode cX6_inverse 9 = .ok (.iload_n 2, 1) := by decide +kernel
theorem dX6_inverse_10 : decode cX6_inverse 10 = .ok (.invokevirtual 115, 3) := by decide +kernel
theorem dX6_inverse_13 : decode cX6_inverse 13 = .ok (.ifCond .ne 5, 3) := by decide +kernel
theorem dX6_inverse_16 : decode cX6_inverse 16 = .ok (.iconst (-1), 1) := by decide +kernel
theorem dX6_inverse_17 : decode cX6_inverse 17 = .ok (.ireturn, 1) := by decide +kernel
theorem dX6_inverse_18 : decode cX6_inverse 18 = .ok (.aload_n 0, 1) := by decide +kernel
theorem dX6_inverse_19 : decode cX6_inverse 19 = .ok (.invokevirtual 135, 3) := by decide +kernel
theorem dX6_inverse_22 : decode cX6_inverse 22 = .ok (.ifCond .ne 6, 3) := by decide +kernel
theorem dX6_inverse_25 : decode cX6_inverse 25 = .ok (.bipush (-4), 2) := by decide +kernel
theorem dX6_inverse_27 : decode cX6_inverse 27 = .ok (.ireturn, 1) := by decide +kernel
theorem dX6_inverse_28 : decode cX6_inverse 28 = .ok (.aload_n 0, 1) := by decide +kernel
theorem dX6_inverse_29 : decode cX6_inverse 29 = .ok (.getfield 12, 3) := by decide +kernel
theorem dX6_inverse_32 : decode cX6_inverse 32 = .ok (.getfield 76, 3) := by decide +kernel
theorem dX6_inverse_35 : decode cX6_inverse 35 = .ok (.getfield 106, 3) := by decide +kernel
theorem dX6_inverse_38 : decode cX6_inverse 38 = .ok (.istore_n 3, 1) := by decide +kernel
theorem dX6_inverse_39 : decode cX6_inverse 39 = .ok (.aload_n 0, 1) := by decide +kernel
theorem dX6_inverse_40 : decode cX6_inverse 40 = .ok (.getfield 33, 3) := by decide +kernel
theorem dX6_inverse_43 : decode cX6_inverse 43 = .ok (.aload_n 0, 1) := by decide +kernel
theorem dX6_inverse_44 : decode cX6_inverse 44 = .ok (.getfield 12, 3) := by decide +kernel
theorem dX6_inverse_47 : decode cX6_inverse 47 = .ok (.getfield 76, 3) := by decide +kernel
theorem dX6_inverse_50 : decode cX6_inverse 50 = .ok (.aload_n 0, 1) := by decide +kernel
theorem dX6_inverse_51 : decode cX6_inverse 51 = .ok (.getfield 12, 3) := by decide +kernel
theorem dX6_inverse_54 : decode cX6_inverse 54 = .ok (.getfield 72, 3) := by decide +kernel
theorem dX6_inverse_57 : decode cX6_inverse 57 = .ok (.iload_n 3, 1) := by decide +kernel
theorem dX6_inverse_58 : decode cX6_inverse 58 = .ok (.invokevirtual 182, 3) := by decide +kernel
theorem dX6_inverse_61 : decode cX6_inverse 61 = .ok (.iconst 0, 1) := by decide +kernel
theorem dX6_inverse_62 : decode cX6_inverse 62 = .ok (.istore 4, 2) := by decide +kernel
theorem dX6_inverse_64 : decode cX6_inverse 64 = .ok (.iload 4, 2) := by decide +kernel
theorem dX6_inverse_66 : decode cX6_inverse 66 = .ok (.iload_n 3, 1) := by decide +kernel
theorem dX6_inverse_67 : decode cX6_inverse 67 = .ok (.if_icmp .ge 32, 3) := by decide +kernel
theorem dX6_inverse_70 : decode cX6_inverse 70 = .ok (.aload_n 0, 1) := by decide +kernel
theorem dX6_inverse_71 : decode cX6_inverse 71 = .ok (.getfield 33, 3) := by decide +kernel
theorem dX6_inverse_74 : decode cX6_inverse 74 = .ok (.getfield 186, 3) := by decide +kernel
theorem dX6_inverse_77 : decode cX6_inverse 77 = .ok (.iload 4, 2) := by decide +kernel
theorem dX6_inverse_79 : decode cX6_inverse 79 = .ok (.aaload, 1) := by decide +kernel
theorem dX6_inverse_80 : decode cX6_inverse 80 = .ok (.iload_n 3, 1) := by decide +kernel
theorem dX6_inverse_81 : decode cX6_inverse 81 = .ok (.iload 4, 2) := by decide +kernel
theorem dX6_inverse_83 : decode cX6_inverse 83 = .ok (.iload_n 2, 1) := by decide +kernel
theorem dX6_inverse_84 : decode cX6_inverse 84 = .ok (.if_icmp .ne 7, 3) := by decide +kernel
theorem dX6_inverse_87 : decode cX6_inverse 87 = .ok (.iconst 1, 1) := by decide +kernel
theorem dX6_inverse_88 : decode cX6_inverse 88 = .ok (.goto 4, 3) := by decide +kernel
theorem dX6_inverse_91 : decode cX6_inverse 91 = .ok (.iconst 0, 1) := by decide +kernel
theorem dX6_inverse_92 : decode cX6_inverse 92 = .ok (.iastore, 1) := by decide +kernel
theorem dX6_inverse_93 : decode cX6_inverse 93 = .ok (.iinc 4 1, 3) := by decide +kernel
theorem dX6_inverse_96 : decode cX6_inverse 96 = .ok (.goto (-32), 3) := by decide +kernel
theorem dX6_inverse_99 : decode cX6_inverse 99 = .ok (.aload_n 0, 1) := by decide +kernel
theorem dX6_inverse_100 : decode cX6_inverse 100 = .ok (.getfield 33, 3) := by decide +kernel
theorem dX6_inverse_103 : decode cX6_inverse 103 = .ok (.iload_n 3, 1) := by decide +kernel
theorem dX6_inverse_104 : decode cX6_inverse 104 = .ok (.iload_n 3, 1) := by decide +kernel
theorem dX6_inverse_105 : decode cX6_inverse 105 = .ok (.invokevirtual 190, 3) := by decide +kernel
theorem dX6_inverse_108 : decode cX6_inverse 108 = .ok (.pop, 1) := by decide +kernel
theorem dX6_inverse_109 : decode cX6_inverse 109 = .ok (.aload_n 0, 1) := by decide +kernel
theorem dX6_inverse_110 : decode cX6_inverse 110 = .ok (.getfield 33, 3) := by decide +kernel
theorem dX6_inverse_113 : decode cX6_inverse 113 = .ok (.getfield 179, 3) := by decide +kernel
theorem dX6_inverse_116 : decode cX6_inverse 116 = .ok (.iload_n 1, 1) := by decide +kernel
theorem dX6_inverse_117 : decode cX6_inverse 117 = .ok (.iaload, 1) := by decide +kernel
theorem dX6_inverse_118 : decode cX6_inverse 118 = .ok (.ireturn, 1) := by decide +kernel
theorem dX6_weak_0 : decode cX6_weak 0 = .ok (.aload_n 0, 1) := by decide +kernel
theorem dX6_weak_1 : decode cX6_weak 1 = .ok (.iload_n 1, 1) := by decide +kernel
theorem dX6_weak_2 : decode cX6_weak 2 = .ok (.invokevirtual 109, 3) := by decide +kernel
theorem dX6_weak_5 : decode cX6_weak 5 = .ok (.ifCond .eq 10, 3) := by decide +kernel
theorem dX6_weak_8 : decode cX6_weak 8 = .ok (.iload_n 2, 1) := by decide +kernel
theorem dX6_weak_9 : decode cX6_weak 9 = .ok (.invokestatic 194, 3) := by decide +kernel
theorem dX6_weak_12 : decode cX6_weak 12 = .ok (.ifCond .ne 5, 3) := by decide +kernel
theorem dX6_weak_15 : decode cX6_weak 15 = .ok (.iconst (-1), 1) := by decide +kernel
theorem dX6_weak_16 : decode cX6_weak 16 = .ok (.ireturn, 1) := by decide +kernel
theorem dX6_weak_17 : decode cX6_weak 17 = .ok (.aload_n 0, 1) := by decide +kernel
theorem dX6_weak_18 : decode cX6_weak 18 = .ok (.getfield 40, 3) := by decide +kernel
theorem dX6_weak_21 : decode cX6_weak 21 = .ok (.aload_n 0, 1) := by decide +kernel
theorem dX6_weak_22 : decode cX6_weak 22 = .ok (.getfield 12, 3) := by decide +kernel
theorem dX6_weak_25 : decode cX6_weak 25 = .ok (.getfield 76, 3) := by decide +kernel
theorem dX6_weak_28 : decode cX6_weak 28 = .ok (.invokevirtual 102, 3) := by decide +kernel
theorem dX6_weak_31 : decode cX6_weak 31 = .ok (.iconst 0, 1) := by decide +kernel
theorem dX6_weak_32 : decode cX6_weak 32 = .ok (.istore_n 3, 1) := by decide +kernel
theorem dX6_weak_33 : decode cX6_weak 33 = .ok (.bipush (-4), 2) := by decide +kernel
theorem dX6_weak_35 : decode cX6_weak 35 = .ok (.istore 4, 2) := by decide +kernel
theorem dX6_weak_37 : decode cX6_weak 37 = .ok (.iconst 0, 1) := by decide +kernel
theorem dX6_weak_38 : decode cX6_weak 38 = .ok (.istore 5, 2) := by decide +kernel
theorem dX6_weak_40 : decode cX6_weak 40 = .ok (.iload 5, 2) := by decide +kernel
theorem dX6_weak_42 : decode cX6_weak 42 = .ok (.aload_n 0, 1) := by decide +kernel
theorem dX6_weak_43 : decode cX6_weak 43 = .ok (.getfield 12, 3) := by decide +kernel
theorem dX6_weak_46 : decode cX6_weak 46 = .ok (.getfield 72, 3) := by decide +kernel
theorem dX6_weak_49 : decode cX6_weak 49 = .ok (.if_icmp .ge 54, 3) := by decide +kernel
theorem dX6_weak_52 : decode cX6_weak 52 = .ok (.aload_n 0, 1) := by decide +kernel
theorem dX6_weak_53 : decode cX6_weak 53 = .ok (.getfield 40, 3) := by decide +kernel
theorem dX6_weak_56 : decode cX6_weak 56 = .ok (.getfield 112, 3) := by decide +kernel
theorem dX6_weak_59 : decode cX6_weak 59 = .ok (.iload_n 1, 1) := by decide +kernel
theorem dX6_weak_60 : decode cX6_weak 60 = .ok (.iload 5, 2) := by decide +kernel
theorem dX6_weak_62 : decode cX6_weak 62 = .ok (.iastore, 1) := by decide +kernel
theorem dX6_weak_63 : decode cX6_weak 63 = .ok (.aload_n 0, 1) := by decide +kernel
theorem dX6_weak_64 : decode cX6_weak 64 = .ok (.aload_n 0, 1) := by decide +kernel
theorem dX6_weak_65 : decode cX6_weak 65 = .ok (.getfield 40, 3) := by decide +kernel
theorem dX6_weak_68 : decode cX6_weak 68 = .ok (.aload_n 0, 1) := by decide +kernel
theorem dX6_weak_69 : decode cX6_weak 69 = .ok (.getfield 40, 3) := by decide +kernel
theorem dX6_weak_72 : decode cX6_weak 72 = .ok (.getfield 106, 3) := by decide +kernel
theorem dX6_weak_75 : decode cX6_weak 75 = .ok (.invokevirtual 167, 3) := by decide +kernel
theorem dX6_weak_78 : decode cX6_weak 78 = .ok (.ifCond .ne 19, 3) := by decide +kernel
theorem dX6_weak_81 : decode cX6_weak 81 = .ok (.iload_n 3, 1) := by decide +kernel
theorem dX6_weak_82 : decode cX6_weak 82 = .ok (.ifCond .ne 8, 3) := by decide +kernel
theorem dX6_weak_85 : decode cX6_weak 85 = .ok (.iload 5, 2) := by decide +kernel
theorem dX6_weak_87 : decode cX6_weak 87 = .ok (.goto 5, 3) := by decide +kernel
theorem dX6_weak_90 : decode cX6_weak 90 = .ok (.iload 4, 2) := by decide +kernel
theorem dX6_weak_92 : decode cX6_weak 92 = .ok (.istore 4, 2) := by decide +kernel
theorem dX6_weak_94 : decode cX6_weak 94 = .ok (.iinc 3 1, 3) := by decide +kernel
theorem dX6_weak_97 : decode cX6_weak 97 = .ok (.iinc 5 1, 3) := by decide +kernel
theorem dX6_weak_100 : decode cX6_weak 100 = .ok (.goto (-60), 3) := by decide +kernel
theorem dX6_weak_103 : decode cX6_weak 103 = .ok (.iload_n 2, 1) := by decide +kernel
theorem dX6_weak_104 : decode cX6_weak 104 = .ok (.ifCond .ne 7, 3) := by decide +kernel
theorem dX6_weak_107 : decode cX6_weak 107 = .ok (.iload_n 3, 1) := by decide +kernel
theorem dX6_weak_108 : decode cX6_weak 108 = .ok (.goto 5, 3) := by decide +kernel
theorem dX6_weak_111 : decode cX6_weak 111 = .ok (.iload 4, 2) := by decide +kernel
theorem dX6_weak_113 : decode cX6_weak 113 = .ok (.ireturn, 1) := by decide +kernel
theorem dX6_mend_0 : decode cX6_mend 0 = .ok (.iload_n 1, 1) := by decide +kernel
theorem dX6_mend_1 : decode cX6_mend 1 = .ok (.invokestatic 194, 3) := by decide +kernel
theorem dX6_mend_4 : decode cX6_mend 4 = .ok (.ifCond .ne 5, 3) := by decide +kernel
theorem dX6_mend_7 : decode cX6_mend 7 = .ok (.iconst (-1), 1) := by decide +kernel
theorem dX6_mend_8 : decode cX6_mend 8 = .ok (.ireturn, 1) := by decide +kernel
theorem dX6_mend_9 : decode cX6_mend 9 = .ok (.aload_n 0, 1) := by decide +kernel
theorem dX6_mend_10 : decode cX6_mend 10 = .ok (.invokevirtual 135, 3) := by decide +kernel
theorem dX6_mend_13 : decode cX6_mend 13 = .ok (.ifCond .eq 6, 3) := by decide +kernel
theorem dX6_mend_16 : decode cX6_mend 16 = .ok (.bipush (-2), 2) := by decide +kernel
theorem dX6_mend_18 : decode cX6_mend 18 = .ok (.ireturn, 1) := by decide +kernel
theorem dX6_mend_19 : decode cX6_mend 19 = .ok (.iconst 0, 1) := by decide +kernel
theorem dX6_mend_20 : decode cX6_mend 20 = .ok (.istore_n 2, 1) := by decide +kernel
theorem dX6_mend_21 : decode cX6_mend 21 = .ok (.iload_n 2, 1) := by decide +kernel
theorem dX6_mend_22 : decode cX6_mend 22 = .ok (.aload_n 0, 1) := by decide +kernel
theorem dX6_mend_23 : decode cX6_mend 23 = .ok (.getfield 12, 3) := by decide +kernel
theorem dX6_mend_26 : decode cX6_mend 26 = .ok (.getfield 76, 3) := by decide +kernel
theorem dX6_mend_29 : decode cX6_mend 29 = .ok (.invokevirtual 197, 3) := by decide +kernel
theorem dX6_mend_32 : decode cX6_mend 32 = .ok (.if_icmp .ge 31, 3) := by decide +kernel
theorem dX6_mend_35 : decode cX6_mend 35 = .ok (.aload_n 0, 1) := by decide +kernel
theorem dX6_mend_36 : decode cX6_mend 36 = .ok (.iload_n 2, 1) := by decide +kernel
theorem dX6_mend_37 : decode cX6_mend 37 = .ok (.invokevirtual 200, 3) := by decide +kernel
theorem dX6_mend_40 : decode cX6_mend 40 = .ok (.istore_n 3, 1) := by decide +kernel
theorem dX6_mend_41 : decode cX6_mend 41 = .ok (.iload_n 3, 1) := by decide +kernel
theorem dX6_mend_42 : decode cX6_mend 42 = .ok (.bipush (-4), 2) := by decide +kernel
theorem dX6_mend_44 : decode cX6_mend 44 = .ok (.if_icmp .eq 13, 3) := by decide +kernel
theorem dX6_mend_47 : decode cX6_mend 47 = .ok (.iload_n 1, 1) := by decide +kernel
theorem dX6_mend_48 : decode cX6_mend 48 = .ok (.ifCond .ne 7, 3) := by decide +kernel
theorem dX6_mend_51 : decode cX6_mend 51 = .ok (.iload_n 2, 1) := by decide +kernel
theorem dX6_mend_52 : decode cX6_mend 52 = .ok (.goto 4, 3) := by decide +kernel
theorem dX6_mend_55 : decode cX6_mend 55 = .ok (.iload_n 3, 1) := by decide +kernel
theorem dX6_mend_56 : decode cX6_mend 56 = .ok (.ireturn, 1) := by decide +kernel
theorem dX6_mend_57 : decode cX6_mend 57 = .ok (.iinc 2 1, 3) := by decide +kernel
theorem dX6_mend_60 : decode cX6_mend 60 = .ok (.goto (-39), 3) := by decide +kernel
theorem dX6_mend_63 : decode cX6_mend 63 = .ok (.bipush (-4), 2) := by decide +kernel
theorem dX6_mend_65 : decode cX6_mend 65 = .ok (.ireturn, 1) := by decide +kernel
theorem dX6_term_0 : decode cX6_term 0 = .ok (.aload_n 0, 1) := by decide +kernel
theorem dX6_term_1 : decode cX6_term 1 = .ok (.invokevirtual 138, 3) := by decide +kernel
theorem dX6_term_4 : decode cX6_term 4 = .ok (.istore_n 2, 1) := by decide +kernel
theorem dX6_term_5 : decode cX6_term 5 = .ok (.iload_n 1, 1) := by decide +kernel
theorem dX6_term_6 : decode cX6_term 6 = .ok (.iconst 1, 1) := by decide +kernel
theorem dX6_term_7 : decode cX6_term 7 = .ok (.if_icmp .lt 8, 3) := by decide +kernel
theorem dX6_term_10 : decode cX6_term 10 = .ok (.iload_n 1, 1) := by decide +kernel
theorem dX6_term_11 : decode cX6_term 11 = .ok (.iload_n 2, 1) := by decide +kernel
theorem dX6_term_12 : decode cX6_term 12 = .ok (.if_icmp .le 7, 3) := by decide +kernel
theorem dX6_term_15 : decode cX6_term 15 = .ok (.iconst (-1), 1) := by decide +kernel
theorem dX6_term_16 : decode cX6_term 16 = .ok (.goto 14, 3) := by decide +kernel
theorem dX6_term_19 : decode cX6_term 19 = .ok (.aload_n 0, 1) := by decide +kernel
theorem dX6_term_20 : decode cX6_term 20 = .ok (.getfield 33, 3) := by decide +kernel
theorem dX6_term_23 : decode cX6_term 23 = .ok (.getfield 179, 3) := by decide +kernel
theorem dX6_term_26 : decode cX6_term 26 = .ok (.iload_n 1, 1) := by decide +kernel
theorem dX6_term_27 : decode cX6_term 27 = .ok (.iconst 1, 1) := by decide +kernel
theorem dX6_term_28 : decode cX6_term 28 = .ok (.isub, 1) := by decide +kernel
theorem dX6_term_29 : decode cX6_term 29 = .ok (.iaload, 1) := by decide +kernel
theorem dX6_term_30 : decode cX6_term 30 = .ok (.ireturn, 1) := by decide +kernel
theorem dX6_next_0 : decode cX6_next 0 = .ok (.iload_n 1, 1) := by decide +kernel
theorem dX6_next_1 : decode cX6_next 1 = .ok (.ifCond .lt 9, 3) := by decide +kernel
theorem dX6_next_4 : decode cX6_next 4 = .ok (.iload_n 1, 1) := by decide +kernel
theorem dX6_next_5 : decode cX6_next 5 = .ok (.bipush 20, 2) := by decide +kernel
theorem dX6_next_7 : decode cX6_next 7 = .ok (.if_icmp .le 5, 3) := by decide +kernel
theorem dX6_next_10 : decode cX6_next 10 = .ok (.iconst (-1), 1) := by decide +kernel
theorem dX6_next_11 : decode cX6_next 11 = .ok (.ireturn, 1) := by decide +kernel
theorem dX6_next_12 : decode cX6_next 12 = .ok (.aload_n 0, 1) := by decide +kernel
theorem dX6_next_13 : decode cX6_next 13 = .ok (.invokevirtual 138, 3) := by decide +kernel
theorem dX6_next_16 : decode cX6_next 16 = .ok (.istore_n 2, 1) := by decide +kernel
theorem dX6_next_17 : decode cX6_next 17 = .ok (.aload_n 0, 1) := by decide +kernel
theorem dX6_next_18 : decode cX6_next 18 = .ok (.getfield 12, 3) := by decide +kernel
theorem dX6_next_21 : decode cX6_next 21 = .ok (.getfield 76, 3) := by decide +kernel
theorem dX6_next_24 : decode cX6_next 24 = .ok (.invokevirtual 197, 3) := by decide +kernel
theorem dX6_next_27 : decode cX6_next 27 = .ok (.istore_n 3, 1) := by decide +kernel
theorem dX6_next_28 : decode cX6_next 28 = .ok (.aload_n 0, 1) := by decide +kernel
theorem dX6_next_29 : decode cX6_next 29 = .ok (.getfield 12, 3) := by decide +kernel
theorem dX6_next_32 : decode cX6_next 32 = .ok (.getfield 76, 3) := by decide +kernel
theorem dX6_next_35 : decode cX6_next 35 = .ok (.getfield 112, 3) := by decide +kernel
theorem dX6_next_38 : decode cX6_next 38 = .ok (.iconst 0, 1) := by decide +kernel
theorem dX6_next_39 : decode cX6_next 39 = .ok (.aload_n 0, 1) := by decide +kernel
theorem dX6_next_40 : decode cX6_next 40 = .ok (.getfield 51, 3) := by decide +kernel
theorem dX6_next_43 : decode cX6_next 43 = .ok (.iconst 0, 1) := by decide +kernel
theorem dX6_next_44 : decode cX6_next 44 = .ok (.iload_n 3, 1) := by decide +kernel
theorem dX6_next_45 : decode cX6_next 45 = .ok (.invokestatic 203, 3) := by decide +kernel
theorem dX6_next_48 : decode cX6_next 48 = .ok (.iload_n 3, 1) := by decide +kernel
theorem dX6_next_49 : decode cX6_next 49 = .ok (.istore 4, 2) := by decide +kernel
theorem dX6_next_51 : decode cX6_next 51 = .ok (.iload 4, 2) := by decide +kernel
theorem dX6_next_53 : decode cX6_next 53 = .ok (.iload_n 3, 1) := by decide +kernel
theorem dX6_next_54 : decode cX6_next 54 = .ok (.iload_n 1, 1) := by decide +kernel
theorem dX6_next_55 : decode cX6_next 55 = .ok (.iadd, 1) := by decide +kernel
theorem dX6_next_56 : decode cX6_next 56 = .ok (.if_icmp .gt 72, 3) := by decide +kernel
theorem dX6_next_59 : decode cX6_next 59 = .ok (.iconst 0, 1) := by decide +kernel
theorem dX6_next_60 : decode cX6_next 60 = .ok (.istore 5, 2) := by decide +kernel
theorem dX6_next_62 : decode cX6_next 62 = .ok (.iconst 1, 1) := by decide +kernel
theorem dX6_next_63 : decode cX6_next 63 = .ok (.istore 6, 2) := by decide +kernel
theorem dX6_next_65 : decode cX6_next 65 = .ok (.iload 6, 2) := by decide +kernel
theorem dX6_next_67 : decode cX6_next 67 = .ok (.iload_n 2, 1) := by decide +kernel
theorem dX6_next_68 : decode cX6_next 68 = .ok (.if_icmp .gt 37, 3) := by decide +kernel
theorem dX6_next_71 : decode cX6_next 71 = .ok (.iload 5, 2) := by decide +kernel
theorem dX6_next_73 : decode cX6_next 73 = .ok (.aload_n 0, 1) := by decide +kernel
theorem dX6_next_74 : decode cX6_next 74 = .ok (.getfield 33, 3) := by decide +kernel
theorem dX6_next_77 : decode cX6_next 77 = .ok (.getfield 179, 3) := by decide +kernel
theorem dX6_next_80 : decode cX6_next 80 = .ok (.iload 6, 2) := by decide +kernel
theorem dX6_next_82 : decode cX6_next 82 = .ok (.iconst 1, 1) := by decide +kernel
theorem dX6_next_83 : decode cX6_next 83 = .ok (.isub, 1) := by decide +kernel
theorem dX6_next_84 : decode cX6_next 84 = .ok (.iaload, 1) := by decide +kernel
theorem dX6_next_85 : decode cX6_next 85 = .ok (.aload_n 0, 1) := by decide +kernel
theorem dX6_next_86 : decode cX6_next 86 = .ok (.getfield 51, 3) := by decide +kernel
theorem dX6_next_89 : decode cX6_next 89 = .ok (.iload 4, 2) := by decide +kernel
theorem dX6_next_91 : decode cX6_next 91 = .ok (.iload 6, 2) := by decide +kernel
theorem dX6_next_93 : decode cX6_next 93 = .ok (.isub, 1) := by decide +kernel
theorem dX6_next_94 : decode cX6_next 94 = .ok (.iaload, 1) := by decide +kernel
theorem dX6_next_95 : decode cX6_next 95 = .ok (.imul, 1) := by decide +kernel
theorem dX6_next_96 : decode cX6_next 96 = .ok (.iadd, 1) := by decide +kernel
theorem dX6_next_97 : decode cX6_next 97 = .ok (.istore 5, 2) := by decide +kernel
theorem dX6_next_99 : decode cX6_next 99 = .ok (.iinc 6 1, 3) := by decide +kernel
theorem dX6_next_102 : decode cX6_next 102 = .ok (.goto (-37), 3) := by decide +kernel
theorem dX6_next_105 : decode cX6_next 105 = .ok (.aload_n 0, 1) := by decide +kernel
theorem dX6_next_106 : decode cX6_next 106 = .ok (.getfield 51, 3) := by decide +kernel
theorem dX6_next_109 : decode cX6_next 109 = .ok (.iload 4, 2) := by decide +kernel
theorem dX6_next_111 : decode cX6_next 111 = .ok (.iload 5, 2) := by decide +kernel
theorem dX6_next_113 : decode cX6_next 113 = .ok (.aload_n 0, 1) := by decide +kernel
theorem dX6_next_114 : decode cX6_next 114 = .ok (.getfield 12, 3) := by decide +kernel
theorem dX6_next_117 : decode cX6_next 117 = .ok (.getfield 72, 3) := by decide +kernel
theorem dX6_next_120 : decode cX6_next 120 = .ok (.irem, 1) := by decide +kernel
theorem dX6_next_121 : decode cX6_next 121 = .ok (.iastore, 1) := by decide +kernel
theorem dX6_next_122 : decode cX6_next 122 = .ok (.iinc 4 1, 3) := by decide +kernel
theorem dX6_next_125 : decode cX6_next 125 = .ok (.goto (-74), 3) := by decide +kernel
theorem dX6_next_128 : decode cX6_next 128 = .ok (.aload_n 0, 1) := by decide +kernel
theorem dX6_next_129 : decode cX6_next 129 = .ok (.getfield 51, 3) := by decide +kernel
theorem dX6_next_132 : decode cX6_next 132 = .ok (.iload_n 3, 1) := by decide +kernel
theorem dX6_next_133 : decode cX6_next 133 = .ok (.iload_n 1, 1) := by decide +kernel
theorem dX6_next_134 : decode cX6_next 134 = .ok (.iadd, 1) := by decide +kernel
theorem dX6_next_135 : decode cX6_next 135 = .ok (.iaload, 1) := by decide +kernel
theorem dX6_next_136 : decode cX6_next 136 = .ok (.ireturn, 1) := by decide +kernel
theorem dX6_wiped_0 : decode cX6_wiped 0 = .ok (.iload_n 1, 1) := by decide +kernel
theorem dX6_wiped_1 : decode cX6_wiped 1 = .ok (.ifCond .lt 16, 3) := by decide +kernel
theorem dX6_wiped_4 : decode cX6_wiped 4 = .ok (.iload_n 1, 1) := by decide +kernel
theorem dX6_wiped_5 : decode cX6_wiped 5 = .ok (.bipush 10, 2) := by decide +kernel
theorem dX6_wiped_7 : decode cX6_wiped 7 = .ok (.if_icmp .gt 10, 3) := by decide +kernel
theorem dX6_wiped_10 : decode cX6_wiped 10 = .ok (.iload_n 2, 1) := by decide +kernel
theorem dX6_wiped_11 : decode cX6_wiped 11 = .ok (.invokestatic 194, 3) := by decide +kernel
theorem dX6_wiped_14 : decode cX6_wiped 14 = .ok (.ifCond .ne 7, 3) := by decide +kernel
theorem dX6_wiped_17 : decode cX6_wiped 17 = .ok (.ldc2_w 171, 3) := by decide +kernel
theorem dX6_wiped_20 : decode cX6_wiped 20 = .ok (.lreturn, 1) := by decide +kernel
theorem dX6_wiped_21 : decode cX6_wiped 21 = .ok (.aload_n 0, 1) := by decide +kernel
theorem dX6_wiped_22 : decode cX6_wiped 22 = .ok (.getfield 47, 3) := by decide +kernel
theorem dX6_wiped_25 : decode cX6_wiped 25 = .ok (.aload_n 0, 1) := by decide +kernel
theorem dX6_wiped_26 : decode cX6_wiped 26 = .ok (.getfield 12, 3) := by decide +kernel
theorem dX6_wiped_29 : decode cX6_wiped 29 = .ok (.getfield 76, 3) := by decide +kernel
theorem dX6_wiped_32 : decode cX6_wiped 32 = .ok (.aload_n 0, 1) := by decide +kernel
theorem dX6_wiped_33 : decode cX6_wiped 33 = .ok (.getfield 12, 3) := by decide +kernel
theorem dX6_wiped_36 : decode cX6_wiped 36 = .ok (.getfield 72, 3) := by decide +kernel
theorem dX6_wiped_39 : decode cX6_wiped 39 = .ok (.invokevirtual 209, 3) := by decide +kernel
theorem dX6_wiped_42 : decode cX6_wiped 42 = .ok (.ifCond .ne 7, 3) := by decide +kernel
theorem dX6_wiped_45 : decode cX6_wiped 45 = .ok (.aload_n 0, 1) := by decide +kernel
theorem dX6_wiped_46 : decode cX6_wiped 46 = .ok (.invokevirtual 213, 3) := by decide +kernel
theorem dX6_wiped_49 : decode cX6_wiped 49 = .ok (.aload_n 0, 1) := by decide +kernel
theorem dX6_wiped_50 : decode cX6_wiped 50 = .ok (.getfield 47, 3) := by decide +kernel
theorem dX6_wiped_53 : decode cX6_wiped 53 = .ok (.iload_n 1, 1) := by decide +kernel
theorem dX6_wiped_54 : decode cX6_wiped 54 = .ok (.invokevirtual 216, 3) := by decide +kernel
theorem dX6_wiped_57 : decode cX6_wiped 57 = .ok (.lstore_n 3, 1) := by decide +kernel
theorem dX6_wiped_58 : decode cX6_wiped 58 = .ok (.ldc2_w 220, 3) := by decide +kernel
theorem dX6_wiped_61 : decode cX6_wiped 61 = .ok (.aload_n 0, 1) := by decide +kernel
theorem dX6_wiped_62 : decode cX6_wiped 62 = .ok (.getfield 47, 3) := by decide +kernel
theorem dX6_wiped_65 : decode cX6_wiped 65 = .ok (.getfield 222, 3) := by decide +kernel
theorem dX6_wiped_68 : decode cX6_wiped 68 = .ok (.invokestatic 225, 3) := by decide +kernel
theorem dX6_wiped_71 : decode cX6_wiped 71 = .ok (.lstore 5, 2) := by decide +kernel
theorem dX6_wiped_73 : decode cX6_wiped 73 = .ok (.lload_n 3, 1) := by decide +kernel
theorem dX6_wiped_74 : decode cX6_wiped 74 = .ok (.lload 5, 2) := by decide +kernel
theorem dX6_wiped_76 : decode cX6_wiped 76 = .ok (.invokestatic 229, 3) := by decide +kernel
theorem dX6_wiped_79 : decode cX6_wiped 79 = .ok (.lstore 7, 2) := by decide +kernel
theorem dX6_wiped_81 : decode cX6_wiped 81 = .ok (.iload_n 2, 1) := by decide +kernel
theorem dX6_wiped_82 : decode cX6_wiped 82 = .ok (.ifCond .ne 7, 3) := by decide +kernel
theorem dX6_wiped_85 : decode cX6_wiped 85 = .ok (.lload_n 3, 1) := by decide +kernel
theorem dX6_wiped_86 : decode cX6_wiped 86 = .ok (.goto 5, 3) := by decide +kernel
theorem dX6_wiped_89 : decode cX6_wiped 89 = .ok (.lload 5, 2) := by decide +kernel
theorem dX6_wiped_91 : decode cX6_wiped 91 = .ok (.lload 7, 2) := by decide +kernel
theorem dX6_wiped_93 : decode cX6_wiped 93 = .ok (.ldiv, 1) := by decide +kernel
theorem dX6_wiped_94 : decode cX6_wiped 94 = .ok (.lreturn, 1) := by decide +kernel
theorem dX6_image_0 : decode cX6_image 0 = .ok (.aload_n 0, 1) := by decide +kernel
theorem dX6_image_1 : decode cX6_image 1 = .ok (.getfield 16, 3) := by decide +kernel
theorem dX6_image_4 : decode cX6_image 4 = .ok (.aload_n 0, 1) := by decide +kernel
theorem dX6_image_5 : decode cX6_image 5 = .ok (.getfield 12, 3) := by decide +kernel
theorem dX6_image_8 : decode cX6_image 8 = .ok (.invokevirtual 233, 3) := by decide +kernel
theorem dX6_image_11 : decode cX6_image 11 = .ok (.aload_n 0, 1) := by decide +kernel
theorem dX6_image_12 : decode cX6_image 12 = .ok (.iconst 1, 1) := by decide +kernel
theorem dX6_image_13 : decode cX6_image 13 = .ok (.putfield 19, 3) := by decide +kernel
theorem dX6_image_16 : decode cX6_image 16 = .ok (.iconst 1, 1) := by decide +kernel
theorem dX6_image_17 : decode cX6_image 17 = .ok (.ireturn, 1) := by decide +kernel
theorem dX6_restore_0 : decode cX6_restore 0 = .ok (.aload_n 0, 1) := by decide +kernel
theorem dX6_restore_1 : decode cX6_restore 1 = .ok (.getfield 19, 3) := by decide +kernel
theorem dX6_restore_4 : decode cX6_restore 4 = .ok (.ifCond .ne 6, 3) := by decide +kernel
theorem dX6_restore_7 : decode cX6_restore 7 = .ok (.bipush (-4), 2) := by decide +kernel
theorem dX6_restore_9 : decode cX6_restore 9 = .ok (.ireturn, 1) := by decide +kernel
theorem dX6_restore_10 : decode cX6_restore 10 = .ok (.aload_n 0, 1) := by decide +kernel
theorem dX6_restore_11 : decode cX6_restore 11 = .ok (.getfield 12, 3) := by decide +kernel
theorem dX6_restore_14 : decode cX6_restore 14 = .ok (.aload_n 0, 1) := by decide +kernel
theorem dX6_restore_15 : decode cX6_restore 15 = .ok (.getfield 16, 3) := by decide +kernel
theorem dX6_restore_18 : decode cX6_restore 18 = .ok (.invokevirtual 233, 3) := by decide +kernel
theorem dX6_restore_21 : decode cX6_restore 21 = .ok (.iconst 1, 1) := by decide +kernel
theorem dX6_restore_22 : decode cX6_restore 22 = .ok (.ireturn, 1) := by decide +kernel
theorem dX6_came_0 : decode cX6_came 0 = .ok (.aload_n 0, 1) := by decide +kernel
theorem dX6_came_1 : decode cX6_came 1 = .ok (.getfield 12, 3) := by decide +kernel
theorem dX6_came_4 : decode cX6_came 4 = .ok (.getfield 76, 3) := by decide +kernel
theorem dX6_came_7 : decode cX6_came 7 = .ok (.getfield 106, 3) := by decide +kernel
theorem dX6_came_10 : decode cX6_came 10 = .ok (.istore 4, 2) := by decide +kernel
theorem dX6_came_12 : decode cX6_came 12 = .ok (.aload_n 0, 1) := by decide +kernel
theorem dX6_came_13 : decode cX6_came 13 = .ok (.iload_n 1, 1) := by decide +kernel
theorem dX6_came_14 : decode cX6_came 14 = .ok (.iload_n 2, 1) := by decide +kernel
theorem dX6_came_15 : decode cX6_came 15 = .ok (.iload_n 3, 1) := by decide +kernel
theorem dX6_came_16 : decode cX6_came 16 = .ok (.iconst 2, 1) := by decide +kernel
theorem dX6_came_17 : decode cX6_came 17 = .ok (.iload 4, 2) := by decide +kernel
theorem dX6_came_19 : decode cX6_came 19 = .ok (.imul, 1) := by decide +kernel
theorem dX6_came_20 : decode cX6_came 20 = .ok (.invokevirtual 236, 3) := by decide +kernel
theorem dX6_came_23 : decode cX6_came 23 = .ok (.istore 5, 2) := by decide +kernel
theorem dX6_came_25 : decode cX6_came 25 = .ok (.iload 5, 2) := by decide +kernel
theorem dX6_came_27 : decode cX6_came 27 = .ok (.ifCond .eq 6, 3) := by decide +kernel
theorem dX6_came_30 : decode cX6_came 30 = .ok (.iload 5, 2) := by decide +kernel
theorem dX6_came_32 : decode cX6_came 32 = .ok (.ireturn, 1) := by decide +kernel
theorem dX6_came_33 : decode cX6_came 33 = .ok (.aload_n 0, 1) := by decide +kernel
theorem dX6_came_34 : decode cX6_came 34 = .ok (.aload_n 0, 1) := by decide +kernel
theorem dX6_came_35 : decode cX6_came 35 = .ok (.getfield 63, 3) := by decide +kernel
theorem dX6_came_38 : decode cX6_came 38 = .ok (.iload_n 1, 1) := by decide +kernel
theorem dX6_came_39 : decode cX6_came 39 = .ok (.aaload, 1) := by decide +kernel
theorem dX6_came_40 : decode cX6_came 40 = .ok (.iload_n 3, 1) := by decide +kernel
theorem dX6_came_41 : decode cX6_came 41 = .ok (.aload_n 0, 1) := by decide +kernel
theorem dX6_came_42 : decode cX6_came 42 = .ok (.getfield 55, 3) := by decide +kernel
theorem dX6_came_45 : decode cX6_came 45 = .ok (.invokevirtual 239, 3) := by decide +kernel
theorem dX6_came_48 : decode cX6_came 48 = .ok (.ifCond .eq 24, 3) := by decide +kernel
theorem dX6_came_51 : decode cX6_came 51 = .ok (.aload_n 0, 1) := by decide +kernel
theorem dX6_came_52 : decode cX6_came 52 = .ok (.aload_n 0, 1) := by decide +kernel
theorem dX6_came_53 : decode cX6_came 53 = .ok (.getfield 63, 3) := by decide +kernel
theorem dX6_came_56 : decode cX6_came 56 = .ok (.iload_n 1, 1) := by decide +kernel
theorem dX6_came_57 : decode cX6_came 57 = .ok (.aaload, 1) := by decide +kernel
theorem dX6_came_58 : decode cX6_came 58 = .ok (.iload_n 3, 1) := by decide +kernel
theorem dX6_came_59 : decode cX6_came 59 = .ok (.iload 4, 2) := by decide +kernel
theorem dX6_came_61 : decode cX6_came 61 = .ok (.iadd, 1) := by decide +kernel
theorem dX6_came_62 : decode cX6_came 62 = .ok (.aload_n 0, 1) := by decide +kernel
theorem dX6_came_63 : decode cX6_came 63 = .ok (.getfield 58, 3) := by decide +kernel
theorem dX6_came_66 : decode cX6_came 66 = .ok (.invokevirtual 239, 3) := by decide +kernel
theorem dX6_came_69 : decode cX6_came 69 = .ok (.ifCond .ne 5, 3) := by decide +kernel
theorem dX6_came_72 : decode cX6_came 72 = .ok (.iconst 0, 1) := by decide +kernel
theorem dX6_came_73 : decode cX6_came 73 = .ok (.ireturn, 1) := by decide +kernel
theorem dX6_came_74 : decode cX6_came 74 = .ok (.iconst 0, 1) := by decide +kernel
theorem dX6_came_75 : decode cX6_came 75 = .ok (.istore 6, 2) := by decide +kernel
theorem dX6_came_77 : decode cX6_came 77 = .ok (.iconst 0, 1) := by decide +kernel
theorem dX6_came_78 : decode cX6_came 78 = .ok (.istore 7, 2) := by decide +kernel
theorem dX6_came_80 : decode cX6_came 80 = .ok (.iload 7, 2) := by decide +kernel
theorem dX6_came_82 : decode cX6_came 82 = .ok (.iconst 5, 1) := by decide +kernel
theorem dX6_came_83 : decode cX6_came 83 = .ok (.if_icmp .ge 31, 3) := by decide +kernel
theorem dX6_came_86 : decode cX6_came 86 = .ok (.iload 6, 2) := by decide +kernel
theorem dX6_came_88 : decode cX6_came 88 = .ok (.aload_n 0, 1) := by decide +kernel
theorem dX6_came_89 : decode cX6_came 89 = .ok (.iload 7, 2) := by decide +kernel
theorem dX6_came_91 : decode cX6_came 91 = .ok (.invokevirtual 243, 3) := by decide +kernel
theorem dX6_came_94 : decode cX6_came 94 = .ok (.ifCond .eq 10, 3) := by decide +kernel
theorem dX6_came_97 : decode cX6_came 97 = .ok (.iconst 1, 1) := by decide +kernel
theorem dX6_came_98 : decode cX6_came 98 = .ok (.iload 7, 2) := by decide +kernel
theorem dX6_came_100 : decode cX6_came 100 = .ok (.ishl, 1) := by decide +kernel
theorem dX6_came_101 : decode cX6_came 101 = .ok (.goto 4, 3) := by decide +kernel
theorem dX6_came_104 : decode cX6_came 104 = .ok (.iconst 0, 1) := by decide +kernel
theorem dX6_came_105 : decode cX6_came 105 = .ok (.ior, 1) := by decide +kernel
theorem dX6_came_106 : decode cX6_came 106 = .ok (.istore 6, 2) := by decide +kernel
theorem dX6_came_108 : decode cX6_came 108 = .ok (.iinc 7 1, 3) := by decide +kernel
theorem dX6_came_111 : decode cX6_came 111 = .ok (.goto (-31), 3) := by decide +kernel
theorem dX6_came_114 : decode cX6_came 114 = .ok (.iload 6, 2) := by decide +kernel
theorem dX6_came_116 : decode cX6_came 116 = .ok (.ireturn, 1) := by decide +kernel
theorem dX6_apply_0 : decode cX6_apply 0 = .ok (.aload_n 0, 1) := by decide +kernel
theorem dX6_apply_1 : decode cX6_apply 1 = .ok (.getfield 12, 3) := by decide +kernel
theorem dX6_apply_4 : decode cX6_apply 4 = .ok (.getfield 76, 3) := by decide +kernel
theorem dX6_apply_7 : decode cX6_apply 7 = .ok (.getfield 106, 3) := by decide +kernel
theorem dX6_apply_10 : decode cX6_apply 10 = .ok (.istore 4, 2) := by decide +kernel
theorem dX6_apply_12 : decode cX6_apply 12 = .ok (.aload_n 0, 1) := by decide +kernel
theorem dX6_apply_13 : decode cX6_apply 13 = .ok (.iload_n 1, 1) := by decide +kernel
theorem dX6_apply_14 : decode cX6_apply 14 = .ok (.iload_n 2, 1) := by decide +kernel
theorem dX6_apply_15 : decode cX6_apply 15 = .ok (.iload_n 3, 1) := by decide +kernel
theorem dX6_apply_16 : decode cX6_apply 16 = .ok (.iconst 2, 1) := by decide +kernel
theorem dX6_apply_17 : decode cX6_apply 17 = .ok (.iload 4, 2) := by decide +kernel
theorem dX6_apply_19 : decode cX6_apply 19 = .ok (.imul, 1) := by decide +kernel
theorem dX6_apply_20 : decode cX6_apply 20 = .ok (.invokevirtual 236, 3) := by decide +kernel
theorem dX6_apply_23 : decode cX6_apply 23 = .ok (.istore 5, 2) := by decide +kernel
theorem dX6_apply_25 : decode cX6_apply 25 = .ok (.iload 5, 2) := by decide +kernel
theorem dX6_apply_27 : decode cX6_apply 27 = .ok (.ifCond .eq 6, 3) := by decide +kernel
theorem dX6_apply_30 : decode cX6_apply 30 = .ok (.iload 5, 2) := by decide +kernel
theorem dX6_apply_32 : decode cX6_apply 32 = .ok (.ireturn, 1) := by decide +kernel
theorem dX6_apply_33 : decode cX6_apply 33 = .ok (.aload_n 0, 1) := by decide +kernel
theorem dX6_apply_34 : decode cX6_apply 34 = .ok (.aload_n 0, 1) := by decide +kernel
theorem dX6_apply_35 : decode cX6_apply 35 = .ok (.getfield 63, 3) := by decide +kernel
theorem dX6_apply_38 : decode cX6_apply 38 = .ok (.iload_n 1, 1) := by decide +kernel
theorem dX6_apply_39 : decode cX6_apply 39 = .ok (.aaload, 1) := by decide +kernel
theorem dX6_apply_40 : decode cX6_apply 40 = .ok (.iload_n 3, 1) := by decide +kernel
theorem dX6_apply_41 : decode cX6_apply 41 = .ok (.aload_n 0, 1) := by decide +kernel
theorem dX6_apply_42 : decode cX6_apply 42 = .ok (.getfield 55, 3) := by decide +kernel
theorem dX6_apply_45 : decode cX6_apply 45 = .ok (.invokevirtual 239, 3) := by decide +kernel
theorem dX6_apply_48 : decode cX6_apply 48 = .ok (.ifCond .ne 6, 3) := by decide +kernel
theorem dX6_apply_51 : decode cX6_apply 51 = .ok (.bipush (-2), 2) := by decide +kernel
theorem dX6_apply_53 : decode cX6_apply 53 = .ok (.ireturn, 1) := by decide +kernel
theorem dX6_apply_54 : decode cX6_apply 54 = .ok (.iconst 0, 1) := by decide +kernel
theorem dX6_apply_55 : decode cX6_apply 55 = .ok (.istore 6, 2) := by decide +kernel
theorem dX6_apply_57 : decode cX6_apply 57 = .ok (.iload 6, 2) := by decide +kernel
theorem dX6_apply_59 : decode cX6_apply 59 = .ok (.iload 4, 2) := by decide +kernel
theorem dX6_apply_61 : decode cX6_apply 61 = .ok (.if_icmp .ge 43, 3) := by decide +kernel
theorem dX6_apply_64 : decode cX6_apply 64 = .ok (.aload_n 0, 1) := by decide +kernel
theorem dX6_apply_65 : decode cX6_apply 65 = .ok (.getfield 63, 3) := by decide +kernel
theorem dX6_apply_68 : decode cX6_apply 68 = .ok (.iload_n 1, 1) := by decide +kernel
theorem dX6_apply_69 : decode cX6_apply 69 = .ok (.aaload, 1) := by decide +kernel
theorem dX6_apply_70 : decode cX6_apply 70 = .ok (.getfield 246, 3) := by decide +kernel
theorem dX6_apply_73 : decode cX6_apply 73 = .ok (.iload_n 3, 1) := by decide +kernel
theorem dX6_apply_74 : decode cX6_apply 74 = .ok (.iload 4, 2) := by decide +kernel
theorem dX6_apply_76 : decode cX6_apply 76 = .ok (.iadd, 1) := by decide +kernel
theorem dX6_apply_77 : decode cX6_apply 77 = .ok (.iload 6, 2) := by decide +kernel
theorem dX6_apply_79 : decode cX6_apply 79 = .ok (.iadd, 1) := by decide +kernel
theorem dX6_apply_80 : decode cX6_apply 80 = .ok (.aload_n 0, 1) := by decide +kernel
theorem dX6_apply_81 : decode cX6_apply 81 = .ok (.aload_n 0, 1) := by decide +kernel
theorem dX6_apply_82 : decode cX6_apply 82 = .ok (.getfield 12, 3) := by decide +kernel
theorem dX6_apply_85 : decode cX6_apply 85 = .ok (.getfield 76, 3) := by decide +kernel
theorem dX6_apply_88 : decode cX6_apply 88 = .ok (.getfield 121, 3) := by decide +kernel
theorem dX6_apply_91 : decode cX6_apply 91 = .ok (.iload 6, 2) := by decide +kernel
theorem dX6_apply_93 : decode cX6_apply 93 = .ok (.invokevirtual 250, 3) := by decide +kernel
theorem dX6_apply_96 : decode cX6_apply 96 = .ok (.i2l, 1) := by decide +kernel
theorem dX6_apply_97 : decode cX6_apply 97 = .ok (.lastore, 1) := by decide +kernel
theorem dX6_apply_98 : decode cX6_apply 98 = .ok (.iinc 6 1, 3) := by decide +kernel
theorem dX6_apply_101 : decode cX6_apply 101 = .ok (.goto (-44), 3) := by decide +kernel
theorem dX6_apply_104 : decode cX6_apply 104 = .ok (.iconst 1, 1) := by decide +kernel
theorem dX6_apply_105 : decode cX6_apply 105 = .ok (.ireturn, 1) := by decide +kernel
theorem dX6_film_0 : decode cX6_film 0 = .ok (.aload_n 0, 1) := by decide +kernel
theorem dX6_film_1 : decode cX6_film 1 = .ok (.getfield 12, 3) := by decide +kernel
theorem dX6_film_4 : decode cX6_film 4 = .ok (.getfield 76, 3) := by decide +kernel
theorem dX6_film_7 : decode cX6_film 7 = .ok (.getfield 106, 3) := by decide +kernel
theorem dX6_film_10 : decode cX6_film 10 = .ok (.istore 4, 2) := by decide +kernel
theorem dX6_film_12 : decode cX6_film 12 = .ok (.aload_n 0, 1) := by decide +kernel
theorem dX6_film_13 : decode cX6_film 13 = .ok (.iload_n 1, 1) := by decide +kernel
theorem dX6_film_14 : decode cX6_film 14 = .ok (.iload_n 2, 1) := by decide +kernel
theorem dX6_film_15 : decode cX6_film 15 = .ok (.iload_n 3, 1) := by decide +kernel
theorem dX6_film_16 : decode cX6_film 16 = .ok (.iload 4, 2) := by decide +kernel
theorem dX6_film_18 : decode cX6_film 18 = .ok (.invokevirtual 236, 3) := by decide +kernel
theorem dX6_film_21 : decode cX6_film 21 = .ok (.istore 5, 2) := by decide +kernel
theorem dX6_film_23 : decode cX6_film 23 = .ok (.iload 5, 2) := by decide +kernel
theorem dX6_film_25 : decode cX6_film 25 = .ok (.ifCond .eq 6, 3) := by decide +kernel
theorem dX6_film_28 : decode cX6_film 28 = .ok (.iload 5, 2) := by decide +kernel
theorem dX6_film_30 : decode cX6_film 30 = .ok (.ireturn, 1) := by decide +kernel
theorem dX6_film_31 : decode cX6_film 31 = .ok (.aload_n 0, 1) := by decide +kernel
theorem dX6_film_32 : decode cX6_film 32 = .ok (.invokevirtual 173, 3) := by decide +kernel
theorem dX6_film_35 : decode cX6_film 35 = .ok (.lstore 6, 2) := by decide +kernel
theorem dX6_film_37 : decode cX6_film 37 = .ok (.lload 6, 2) := by decide +kernel
theorem dX6_film_39 : decode cX6_film 39 = .ok (.lconst 0, 1) := by decide +kernel
theorem dX6_film_40 : decode cX6_film 40 = .ok (.lcmp, 1) := by decide +kernel
theorem dX6_film_41 : decode cX6_film 41 = .ok (.ifCond .ne 6, 3) := by decide +kernel
theorem dX6_film_44 : decode cX6_film 44 = .ok (.bipush (-4), 2) := by decide +kernel
theorem dX6_film_46 : decode cX6_film 46 = .ok (.ireturn, 1) := by decide +kernel
theorem dX6_film_47 : decode cX6_film 47 = .ok (.iconst 0, 1) := by decide +kernel
theorem dX6_film_48 : decode cX6_film 48 = .ok (.istore 8, 2) := by decide +kernel
theorem dX6_film_50 : decode cX6_film 50 = .ok (.iload 8, 2) := by decide +kernel
theorem dX6_film_52 : decode cX6_film 52 = .ok (.iload 4, 2) := by decide +kernel
theorem dX6_film_54 : decode cX6_film 54 = .ok (.if_icmp .ge 34, 3) := by decide +kernel
theorem dX6_film_57 : decode cX6_film 57 = .ok (.aload_n 0, 1) := by decide +kernel
theorem dX6_film_58 : decode cX6_film 58 = .ok (.getfield 63, 3) := by decide +kernel
theorem dX6_film_61 : decode cX6_film 61 = .ok (.iload_n 1, 1) := by decide +kernel
theorem dX6_film_62 : decode cX6_film 62 = .ok (.aaload, 1) := by decide +kernel
theorem dX6_film_63 : decode cX6_film 63 = .ok (.getfield 246, 3) := by decide +kernel
theorem dX6_film_66 : decode cX6_film 66 = .ok (.iload_n 3, 1) := by decide +kernel
theorem dX6_film_67 : decode cX6_film 67 = .ok (.iload 8, 2) := by decide +kernel
theorem dX6_film_69 : decode cX6_film 69 = .ok (.iadd, 1) := by decide +kernel
theorem dX6_film_70 : decode cX6_film 70 = .ok (.aload_n 0, 1) := by decide +kernel
theorem dX6_film_71 : decode cX6_film 71 = .ok (.getfield 33, 3) := by decide +kernel
theorem dX6_film_74 : decode cX6_film 74 = .ok (.getfield 179, 3) := by decide +kernel
theorem dX6_film_77 : decode cX6_film 77 = .ok (.iload 8, 2) := by decide +kernel
theorem dX6_film_79 : decode cX6_film 79 = .ok (.iaload, 1) := by decide +kernel
theorem dX6_film_80 : decode cX6_film 80 = .ok (.i2l, 1) := by decide +kernel
theorem dX6_film_81 : decode cX6_film 81 = .ok (.lastore, 1) := by decide +kernel
theorem dX6_film_82 : decode cX6_film 82 = .ok (.iinc 8 1, 3) := by decide +kernel
theorem dX6_film_85 : decode cX6_film 85 = .ok (.goto (-35), 3) := by decide +kernel
theorem dX6_film_88 : decode cX6_film 88 = .ok (.lload 6, 2) := by decide +kernel
theorem dX6_film_90 : decode cX6_film 90 = .ok (.ldc2_w 253, 3) := by decide +kernel
theorem dX6_film_93 : decode cX6_film 93 = .ok (.invokestatic 255, 3) := by decide +kernel
theorem dX6_film_96 : decode cX6_film 96 = .ok (.l2i, 1) := by decide +kernel
theorem dX6_film_97 : decode cX6_film 97 = .ok (.ireturn, 1) := by decide +kernel
theorem dX6_sheet_0 : decode cX6_sheet 0 = .ok (.iload_n 1, 1) := by decide +kernel
theorem dX6_sheet_1 : decode cX6_sheet 1 = .ok (.invokestatic 260, 3) := by decide +kernel
theorem dX6_sheet_4 : decode cX6_sheet 4 = .ok (.ifCond .eq 16, 3) := by decide +kernel
theorem dX6_sheet_7 : decode cX6_sheet 7 = .ok (.iload_n 2, 1) := by decide +kernel
theorem dX6_sheet_8 : decode cX6_sheet 8 = .ok (.invokestatic 263, 3) := by decide +kernel
theorem dX6_sheet_11 : decode cX6_sheet 11 = .ok (.ifCond .eq 9, 3) := by decide +kernel
theorem dX6_sheet_14 : decode cX6_sheet 14 = .ok (.iload_n 3, 1) := by decide +kernel
theorem dX6_sheet_15 : decode cX6_sheet 15 = .ok (.bipush 24, 2) := by decide +kernel
theorem dX6_sheet_17 : decode cX6_sheet 17 = .ok (.if_icmp .le 5, 3) := by decide +kernel
theorem dX6_sheet_20 : decode cX6_sheet 20 = .ok (.iconst (-1), 1) := by decide +kernel
theorem dX6_sheet_21 : decode cX6_sheet 21 = .ok (.ireturn, 1) := by decide +kernel
theorem dX6_sheet_22 : decode cX6_sheet 22 = .ok (.iload_n 3, 1) := by decide +kernel
theorem dX6_sheet_23 : decode cX6_sheet 23 = .ok (.ifCond .ge 6, 3) := by decide +kernel
theorem dX6_sheet_26 : decode cX6_sheet 26 = .ok (.bipush (-14), 2) := by decide +kernel
theorem dX6_sheet_28 : decode cX6_sheet 28 = .ok (.ireturn, 1) := by decide +kernel
theorem dX6_sheet_29 : decode cX6_sheet 29 = .ok (.aload_n 0, 1) := by decide +kernel
theorem dX6_sheet_30 : decode cX6_sheet 30 = .ok (.getfield 63, 3) := by decide +kernel
theorem dX6_sheet_33 : decode cX6_sheet 33 = .ok (.iload_n 1, 1) := by decide +kernel
theorem dX6_sheet_34 : decode cX6_sheet 34 = .ok (.aaload, 1) := by decide +kernel
theorem dX6_sheet_35 : decode cX6_sheet 35 = .ok (.iload_n 2, 1) := by decide +kernel
theorem dX6_sheet_36 : decode cX6_sheet 36 = .ok (.iload_n 3, 1) := by decide +kernel
theorem dX6_sheet_37 : decode cX6_sheet 37 = .ok (.invokevirtual 266, 3) := by decide +kernel
theorem dX6_sheet_40 : decode cX6_sheet 40 = .ok (.iload_n 3, 1) := by decide +kernel
theorem dX6_sheet_41 : decode cX6_sheet 41 = .ok (.ireturn, 1) := by decide +kernel
theorem dX6_drop_0 : decode cX6_drop 0 = .ok (.iload_n 1, 1) := by decide +kernel
theorem dX6_drop_1 : decode cX6_drop 1 = .ok (.invokestatic 260, 3) := by decide +kernel
theorem dX6_drop_4 : decode cX6_drop 4 = .ok (.ifCond .ne 5, 3) := by decide +kernel
theorem dX6_drop_7 : decode cX6_drop 7 = .ok (.iconst (-1), 1) := by decide +kernel
theorem dX6_drop_8 : decode cX6_drop 8 = .ok (.ireturn, 1) := by decide +kernel
theorem dX6_drop_9 : decode cX6_drop 9 = .ok (.aload_n 0, 1) := by decide +kernel
theorem dX6_drop_10 : decode cX6_drop 10 = .ok (.getfield 63, 3) := by decide +kernel
theorem dX6_drop_13 : decode cX6_drop 13 = .ok (.iload_n 1, 1) := by decide +kernel
theorem dX6_drop_14 : decode cX6_drop 14 = .ok (.aaload, 1) := by decide +kernel
theorem dX6_drop_15 : decode cX6_drop 15 = .ok (.invokevirtual 270, 3) := by decide +kernel
theorem dX6_drop_18 : decode cX6_drop 18 = .ok (.ifCond .eq 6, 3) := by decide +kernel
theorem dX6_drop_21 : decode cX6_drop 21 = .ok (.bipush (-11), 2) := by decide +kernel
theorem dX6_drop_23 : decode cX6_drop 23 = .ok (.ireturn, 1) := by decide +kernel
theorem dX6_drop_24 : decode cX6_drop 24 = .ok (.aload_n 0, 1) := by decide +kernel
theorem dX6_drop_25 : decode cX6_drop 25 = .ok (.getfield 63, 3) := by decide +kernel
theorem dX6_drop_28 : decode cX6_drop 28 = .ok (.iload_n 1, 1) := by decide +kernel
theorem dX6_drop_29 : decode cX6_drop 29 = .ok (.aaload, 1) := by decide +kernel
theorem dX6_drop_30 : decode cX6_drop 30 = .ok (.getfield 273, 3) := by decide +kernel
theorem dX6_drop_33 : decode cX6_drop 33 = .ok (.istore_n 2, 1) := by decide +kernel
theorem dX6_drop_34 : decode cX6_drop 34 = .ok (.aload_n 0, 1) := by decide +kernel
theorem dX6_drop_35 : decode cX6_drop 35 = .ok (.getfield 63, 3) := by decide +kernel
theorem dX6_drop_38 : decode cX6_drop 38 = .ok (.iload_n 1, 1) := by decide +kernel
theorem dX6_drop_39 : decode cX6_drop 39 = .ok (.aaload, 1) := by decide +kernel
theorem dX6_drop_40 : decode cX6_drop 40 = .ok (.invokevirtual 274, 3) := by decide +kernel
theorem dX6_drop_43 : decode cX6_drop 43 = .ok (.iload_n 2, 1) := by decide +kernel
theorem dX6_drop_44 : decode cX6_drop 44 = .ok (.ireturn, 1) := by decide +kernel
theorem dX6_item_0 : decode cX6_item 0 = .ok (.aload_n 0, 1) := by decide +kernel
theorem dX6_item_1 : decode cX6_item 1 = .ok (.iload_n 1, 1) := by decide +kernel
theorem dX6_item_2 : decode cX6_item 2 = .ok (.iload_n 2, 1) := by decide +kernel
theorem dX6_item_3 : decode cX6_item 3 = .ok (.iload_n 3, 1) := by decide +kernel
theorem dX6_item_4 : decode cX6_item 4 = .ok (.iconst 1, 1) := by decide +kernel
theorem dX6_item_5 : decode cX6_item 5 = .ok (.invokevirtual 236, 3) := by decide +kernel
theorem dX6_item_8 : decode cX6_item 8 = .ok (.istore 6, 2) := by decide +kernel
theorem dX6_item_10 : decode cX6_item 10 = .ok (.iload 6, 2) := by decide +kernel
theorem dX6_item_12 : decode cX6_item 12 = .ok (.ifCond .eq 6, 3) := by decide +kernel
theorem dX6_item_15 : decode cX6_item 15 = .ok (.iload 6, 2) := by decide +kernel
theorem dX6_item_17 : decode cX6_item 17 = .ok (.ireturn, 1) := by decide +kernel
theorem dX6_item_18 : decode cX6_item 18 = .ok (.aload_n 0, 1) := by decide +kernel
theorem dX6_item_19 : decode cX6_item 19 = .ok (.getfield 63, 3) := by decide +kernel
theorem dX6_item_22 : decode cX6_item 22 = .ok (.iload_n 1, 1) := by decide +kernel
theorem dX6_item_23 : decode cX6_item 23 = .ok (.aaload, 1) := by decide +kernel
theorem dX6_item_24 : decode cX6_item 24 = .ok (.getfield 246, 3) := by decide +kernel
theorem dX6_item_27 : decode cX6_item 27 = .ok (.iload_n 3, 1) := by decide +kernel
theorem dX6_item_28 : decode cX6_item 28 = .ok (.iload_n 2, 1) := by decide +kernel
theorem dX6_item_29 : decode cX6_item 29 = .ok (.lload 4, 2) := by decide +kernel
theorem dX6_item_31 : decode cX6_item 31 = .ok (.invokestatic 277, 3) := by decide +kernel
theorem dX6_item_34 : decode cX6_item 34 = .ok (.lastore, 1) := by decide +kernel
theorem dX6_item_35 : decode cX6_item 35 = .ok (.iconst 1, 1) := by decide +kernel
theorem dX6_item_36 : decode cX6_item 36 = .ok (.ireturn, 1) := by decide +kernel
theorem dX6_copy_0 : decode cX6_copy 0 = .ok (.iload_n 1, 1) := by decide +kernel
theorem dX6_copy_1 : decode cX6_copy 1 = .ok (.invokestatic 260, 3) := by decide +kernel
theorem dX6_copy_4 : decode cX6_copy 4 = .ok (.ifCond .eq 10, 3) := by decide +kernel
theorem dX6_copy_7 : decode cX6_copy 7 = .ok (.iload_n 3, 1) := by decide +kernel
theorem dX6_copy_8 : decode cX6_copy 8 = .ok (.invokestatic 260, 3) := by decide +kernel
theorem dX6_copy_11 : decode cX6_copy 11 = .ok (.ifCond .ne 5, 3) := by decide +kernel
theorem dX6_copy_14 : decode cX6_copy 14 = .ok (.iconst (-1), 1) := by decide +kernel
theorem dX6_copy_15 : decode cX6_copy 15 = .ok (.ireturn, 1) := by decide +kernel
theorem dX6_copy_16 : decode cX6_copy 16 = .ok (.aload_n 0, 1) := by decide +kernel
theorem dX6_copy_17 : decode cX6_copy 17 = .ok (.getfield 63, 3) := by decide +kernel
theorem dX6_copy_20 : decode cX6_copy 20 = .ok (.iload_n 1, 1) := by decide +kernel
theorem dX6_copy_21 : decode cX6_copy 21 = .ok (.aaload, 1) := by decide +kernel
theorem dX6_copy_22 : decode cX6_copy 22 = .ok (.astore 6, 2) := by decide +kernel
theorem dX6_copy_24 : decode cX6_copy 24 = .ok (.aload_n 0, 1) := by decide +kernel
theorem dX6_copy_25 : decode cX6_copy 25 = .ok (.getfield 63, 3) := by decide +kernel
theorem dX6_copy_28 : decode cX6_copy 28 = .ok (.iload_n 3, 1) := by decide +kernel
theorem dX6_copy_29 : decode cX6_copy 29 = .ok (.aaload, 1) := by decide +kernel
theorem dX6_copy_30 : decode cX6_copy 30 = .ok (.astore 7, 2) := by decide +kernel
theorem dX6_copy_32 : decode cX6_copy 32 = .ok (.aload 6, 2) := by decide +kernel
theorem dX6_copy_34 : decode cX6_copy 34 = .ok (.invokevirtual 270, 3) := by decide +kernel
theorem dX6_copy_37 : decode cX6_copy 37 = .ok (.ifCond .ne 11, 3) := by decide +kernel
theorem dX6_copy_40 : decode cX6_copy 40 = .ok (.aload 7, 2) := by decide +kernel
theorem dX6_copy_42 : decode cX6_copy 42 = .ok (.invokevirtual 270, 3) := by decide +kernel
theorem dX6_copy_45 : decode cX6_copy 45 = .ok (.ifCond .eq 6, 3) := by decide +kernel
theorem dX6_copy_48 : decode cX6_copy 48 = .ok (.bipush (-11), 2) := by decide +kernel
theorem dX6_copy_50 : decode cX6_copy 50 = .ok (.ireturn, 1) := by decide +kernel
theorem dX6_copy_51 : decode cX6_copy 51 = .ok (.aload 6, 2) := by decide +kernel
theorem dX6_copy_53 : decode cX6_copy 53 = .ok (.getfield 281, 3) := by decide +kernel
theorem dX6_copy_56 : decode cX6_copy 56 = .ok (.aload 7, 2) := by decide +kernel
theorem dX6_copy_58 : decode cX6_copy 58 = .ok (.getfield 281, 3) := by decide +kernel
theorem dX6_copy_61 : decode cX6_copy 61 = .ok (.if_icmp .eq 6, 3) := by decide +kernel
theorem dX6_copy_64 : decode cX6_copy 64 = .ok (.bipush (-12), 2) := by decide +kernel
theorem dX6_copy_66 : decode cX6_copy 66 = .ok (.ireturn, 1) := by decide +kernel
theorem dX6_copy_67 : decode cX6_copy 67 = .ok (.aload 6, 2) := by decide +kernel
theorem dX6_copy_69 : decode cX6_copy 69 = .ok (.iload_n 2, 1) := by decide +kernel
theorem dX6_copy_70 : decode cX6_copy 70 = .ok (.iload 5, 2) := by decide +kernel
theorem dX6_copy_72 : decode cX6_copy 72 = .ok (.invokevirtual 284, 3) := by decide +kernel
theorem dX6_copy_75 : decode cX6_copy 75 = .ok (.ifCond .eq 15, 3) := by decide +kernel
theorem dX6_copy_78 : decode cX6_copy 78 = .ok (.aload 7, 2) := by decide +kernel
theorem dX6_copy_80 : decode cX6_copy 80 = .ok (.iload 4, 2) := by decide +kernel
theorem dX6_copy_82 : decode cX6_copy 82 = .ok (.iload 5, 2) := by decide +kernel
theorem dX6_copy_84 : decode cX6_copy 84 = .ok (.invokevirtual 284, 3) := by decide +kernel
theorem dX6_copy_87 : decode cX6_copy 87 = .ok (.ifCond .ne 6, 3) := by decide +kernel
theorem dX6_copy_90 : decode cX6_copy 90 = .ok (.bipush (-13), 2) := by decide +kernel
theorem dX6_copy_92 : decode cX6_copy 92 = .ok (.ireturn, 1) := by decide +kernel
theorem dX6_copy_93 : decode cX6_copy 93 = .ok (.aload 6, 2) := by decide +kernel
theorem dX6_copy_95 : decode cX6_copy 95 = .ok (.getfield 246, 3) := by decide +kernel
theorem dX6_copy_98 : decode cX6_copy 98 = .ok (.iload_n 2, 1) := by decide +kernel
theorem dX6_copy_99 : decode cX6_copy 99 = .ok (.aload 7, 2) := by decide +kernel
theorem dX6_copy_101 : decode cX6_copy 101 = .ok (.getfield 246, 3) := by decide +kernel
theorem dX6_copy_104 : decode cX6_copy 104 = .ok (.iload 4, 2) := by decide +kernel
theorem dX6_copy_106 : decode cX6_copy 106 = .ok (.iload 5, 2) := by decide +kernel
theorem dX6_copy_108 : decode cX6_copy 108 = .ok (.invokestatic 203, 3) := by decide +kernel
theorem dX6_copy_111 : decode cX6_copy 111 = .ok (.iload 5, 2) := by decide +kernel
theorem dX6_copy_113 : decode cX6_copy 113 = .ok (.ireturn, 1) := by decide +kernel
theorem dX6_isPrime_0 : decode cX6_isPrime 0 = .ok (.iload_n 0, 1) := by decide +kernel
theorem dX6_isPrime_1 : decode cX6_isPrime 1 = .ok (.iconst 2, 1) := by decide +kernel
theorem dX6_isPrime_2 : decode cX6_isPrime 2 = .ok (.if_icmp .lt 9, 3) := by decide +kernel
theorem dX6_isPrime_5 : decode cX6_isPrime 5 = .ok (.iload_n 0, 1) := by decide +kernel
theorem dX6_isPrime_6 : decode cX6_isPrime 6 = .ok (.bipush 97, 2) := by decide +kernel
theorem dX6_isPrime_8 : decode cX6_isPrime 8 = .ok (.if_icmp .le 5, 3) := by decide +kernel
theorem dX6_isPrime_11 : decode cX6_isPrime 11 = .ok (.iconst 0, 1) := by decide +kernel
theorem dX6_isPrime_12 : decode cX6_isPrime 12 = .ok (.ireturn, 1) := by decide +kernel
theorem dX6_isPrime_13 : decode cX6_isPrime 13 = .ok (.iconst 2, 1) := by decide +kernel
theorem dX6_isPrime_14 : decode cX6_isPrime 14 = .ok (.istore_n 1, 1) := by decide +kernel
theorem dX6_isPrime_15 : decode cX6_isPrime 15 = .ok (.iload_n 1, 1) := by decide +kernel
theorem dX6_isPrime_16 : decode cX6_isPrime 16 = .ok (.iload_n 1, 1) := by decide +kernel
theorem dX6_isPrime_17 : decode cX6_isPrime 17 = .ok (.imul, 1) := by decide +kernel
theorem dX6_isPrime_18 : decode cX6_isPrime 18 = .ok (.iload_n 0, 1) := by decide +kernel
theorem dX6_isPrime_19 : decode cX6_isPrime 19 = .ok (.if_icmp .gt 17, 3) := by decide +kernel
theorem dX6_isPrime_22 : decode cX6_isPrime 22 = .ok (.iload_n 0, 1) := by decide +kernel
theorem dX6_isPrime_23 : decode cX6_isPrime 23 = .ok (.iload_n 1, 1) := by decide +kernel
theorem dX6_isPrime_24 : decode cX6_isPrime 24 = .ok (.irem, 1) := by decide +kernel
theorem dX6_isPrime_25 : decode cX6_isPrime 25 = .ok (.ifCond .ne 5, 3) := by decide +kernel
theorem dX6_isPrime_28 : decode cX6_isPrime 28 = .ok (.iconst 0, 1) := by decide +kernel
theorem dX6_isPrime_29 : decode cX6_isPrime 29 = .ok (.ireturn, 1) := by decide +kernel
theorem dX6_isPrime_30 : decode cX6_isPrime 30 = .ok (.iinc 1 1, 3) := by decide +kernel
theorem dX6_isPrime_33 : decode cX6_isPrime 33 = .ok (.goto (-18), 3) := by decide +kernel
theorem dX6_isPrime_36 : decode cX6_isPrime 36 = .ok (.iconst 1, 1) := by decide +kernel
theorem dX6_isPrime_37 : decode cX6_isPrime 37 = .ok (.ireturn, 1) := by decide +kernel
theorem dX6_isPlace_0 : decode cX6_isPlace 0 = .ok (.iload_n 1, 1) := by decide +kernel
theorem dX6_isPlace_1 : decode cX6_isPlace 1 = .ok (.ifCond .lt 21, 3) := by decide +kernel
theorem dX6_isPlace_4 : decode cX6_isPlace 4 = .ok (.iload_n 1, 1) := by decide +kernel
theorem dX6_isPlace_5 : decode cX6_isPlace 5 = .ok (.aload_n 0, 1) := by decide +kernel
theorem dX6_isPlace_6 : decode cX6_isPlace 6 = .ok (.getfield 12, 3) := by decide +kernel
theorem dX6_isPlace_9 : decode cX6_isPlace 9 = .ok (.getfield 76, 3) := by decide +kernel
theorem dX6_isPlace_12 : decode cX6_isPlace 12 = .ok (.invokevirtual 197, 3) := by decide +kernel
theorem dX6_isPlace_15 : decode cX6_isPlace 15 = .ok (.if_icmp .ge 7, 3) := by decide +kernel
theorem dX6_isPlace_18 : decode cX6_isPlace 18 = .ok (.iconst 1, 1) := by decide +kernel
theorem dX6_isPlace_19 : decode cX6_isPlace 19 = .ok (.goto 4, 3) := by decide +kernel
theorem dX6_isPlace_22 : decode cX6_isPlace 22 = .ok (.iconst 0, 1) := by decide +kernel
theorem dX6_isPlace_23 : decode cX6_isPlace 23 = .ok (.ireturn, 1) := by decide +kernel
theorem dX6_isWithin_0 : decode cX6_isWithin 0 = .ok (.iload_n 1, 1) := by decide +kernel
theorem dX6_isWithin_1 : decode cX6_isWithin 1 = .ok (.ifCond .lt 21, 3) := by decide +kernel
theorem dX6_isWithin_4 : decode cX6_isWithin 4 = .ok (.iload_n 1, 1) := by decide +kernel
theorem dX6_isWithin_5 : decode cX6_isWithin 5 = .ok (.aload_n 0, 1) := by decide +kernel
theorem dX6_isWithin_6 : decode cX6_isWithin 6 = .ok (.getfield 12, 3) := by decide +kernel
theorem dX6_isWithin_9 : decode cX6_isWithin 9 = .ok (.getfield 76, 3) := by decide +kernel
theorem dX6_isWithin_12 : decode cX6_isWithin 12 = .ok (.getfield 106, 3) := by decide +kernel
theorem dX6_isWithin_15 : decode cX6_isWithin 15 = .ok (.if_icmp .ge 7, 3) := by decide +kernel
theorem dX6_isWithin_18 : decode cX6_isWithin 18 = .ok (.iconst 1, 1) := by decide +kernel
theorem dX6_isWithin_19 : decode cX6_isWithin 19 = .ok (.goto 4, 3) := by decide +kernel
theorem dX6_isWithin_22 : decode cX6_isWithin 22 = .ok (.iconst 0, 1) := by decide +kernel
theorem dX6_isWithin_23 : decode cX6_isWithin 23 = .ok (.ireturn, 1) := by decide +kernel
theorem dX6_isNumber_0 : decode cX6_isNumber 0 = .ok (.lload_n 1, 1) := by decide +kernel
theorem dX6_isNumber_1 : decode cX6_isNumber 1 = .ok (.lconst 0, 1) := by decide +kernel
theorem dX6_isNumber_2 : decode cX6_isNumber 2 = .ok (.lcmp, 1) := by decide +kernel
theorem dX6_isNumber_3 : decode cX6_isNumber 3 = .ok (.ifCond .lt 20, 3) := by decide +kernel
theorem dX6_isNumber_6 : decode cX6_isNumber 6 = .ok (.lload_n 1, 1) := by decide +kernel
theorem dX6_isNumber_7 : decode cX6_isNumber 7 = .ok (.aload_n 0, 1) := by decide +kernel
theorem dX6_isNumber_8 : decode cX6_isNumber 8 = .ok (.getfield 12, 3) := by decide +kernel
theorem dX6_isNumber_11 : decode cX6_isNumber 11 = .ok (.getfield 72, 3) := by decide +kernel
theorem dX6_isNumber_14 : decode cX6_isNumber 14 = .ok (.i2l, 1) := by decide +kernel
theorem dX6_isNumber_15 : decode cX6_isNumber 15 = .ok (.lcmp, 1) := by decide +kernel
theorem dX6_isNumber_16 : decode cX6_isNumber 16 = .ok (.ifCond .ge 7, 3) := by decide +kernel
theorem dX6_isNumber_19 : decode cX6_isNumber 19 = .ok (.iconst 1, 1) := by decide +kernel
theorem dX6_isNumber_20 : decode cX6_isNumber 20 = .ok (.goto 4, 3) := by decide +kernel
theorem dX6_isNumber_23 : decode cX6_isNumber 23 = .ok (.iconst 0, 1) := by decide +kernel
theorem dX6_isNumber_24 : decode cX6_isNumber 24 = .ok (.ireturn, 1) := by decide +kernel
theorem dX6_isHalf_0 : decode cX6_isHalf 0 = .ok (.iload_n 0, 1) := by decide +kernel
theorem dX6_isHalf_1 : decode cX6_isHalf 1 = .ok (.ifCond .eq 8, 3) := by decide +kernel
theorem dX6_isHalf_4 : decode cX6_isHalf 4 = .ok (.iload_n 0, 1) := by decide +kernel
theorem dX6_isHalf_5 : decode cX6_isHalf 5 = .ok (.iconst 1, 1) := by decide +kernel
theorem dX6_isHalf_6 : decode cX6_isHalf 6 = .ok (.if_icmp .ne 7, 3) := by decide +kernel
theorem dX6_isHalf_9 : decode cX6_isHalf 9 = .ok (.iconst 1, 1) := by decide +kernel
theorem dX6_isHalf_10 : decode cX6_isHalf 10 = .ok (.goto 4, 3) := by decide +kernel
theorem dX6_isHalf_13 : decode cX6_isHalf 13 = .ok (.iconst 0, 1) := by decide +kernel
theorem dX6_isHalf_14 : decode cX6_isHalf 14 = .ok (.ireturn, 1) := by decide +kernel
theorem dX6_isSheet_0 : decode cX6_isSheet 0 = .ok (.iload_n 0, 1) := by decide +kernel
theorem dX6_isSheet_1 : decode cX6_isSheet 1 = .ok (.ifCond .lt 12, 3) := by decide +kernel
theorem dX6_isSheet_4 : decode cX6_isSheet 4 = .ok (.iload_n 0, 1) := by decide +kernel
theorem dX6_isSheet_5 : decode cX6_isSheet 5 = .ok (.iconst 4, 1) := by decide +kernel
theorem dX6_isSheet_6 : decode cX6_isSheet 6 = .ok (.if_icmp .ge 7, 3) := by decide +kernel
theorem dX6_isSheet_9 : decode cX6_isSheet 9 = .ok (.iconst 1, 1) := by decide +kernel
theorem dX6_isSheet_10 : decode cX6_isSheet 10 = .ok (.goto 4, 3) := by decide +kernel
theorem dX6_isSheet_13 : decode cX6_isSheet 13 = .ok (.iconst 0, 1) := by decide +kernel
theorem dX6_isSheet_14 : decode cX6_isSheet 14 = .ok (.ireturn, 1) := by decide +kernel
theorem dX6_isLane_0 : decode cX6_isLane 0 = .ok (.iload_n 0, 1) := by decide +kernel
theorem dX6_isLane_1 : decode cX6_isLane 1 = .ok (.ifCond .lt 12, 3) := by decide +kernel
theorem dX6_isLane_4 : decode cX6_isLane 4 = .ok (.iload_n 0, 1) := by decide +kernel
theorem dX6_isLane_5 : decode cX6_isLane 5 = .ok (.iconst 4, 1) := by decide +kernel
theorem dX6_isLane_6 : decode cX6_isLane 6 = .ok (.if_icmp .ge 7, 3) := by decide +kernel
theorem dX6_isLane_9 : decode cX6_isLane 9 = .ok (.iconst 1, 1) := by decide +kernel
theorem dX6_isLane_10 : decode cX6_isLane 10 = .ok (.goto 4, 3) := by decide +kernel
theorem dX6_isLane_13 : decode cX6_isLane 13 = .ok (.iconst 0, 1) := by decide +kernel
theorem dX6_isLane_14 : decode cX6_isLane 14 = .ok (.ireturn, 1) := by decide +kernel
theorem dX6_refusalOf_0 : decode cX6_refusalOf 0 = .ok (.iload_n 1, 1) := by decide +kernel
theorem dX6_refusalOf_1 : decode cX6_refusalOf 1 = .ok (.invokestatic 260, 3) := by decide +kernel
theorem dX6_refusalOf_4 : decode cX6_refusalOf 4 = .ok (.ifCond .eq 10, 3) := by decide +kernel
theorem dX6_refusalOf_7 : decode cX6_refusalOf 7 = .ok (.iload_n 2, 1) := by decide +kernel
theorem dX6_refusalOf_8 : decode cX6_refusalOf 8 = .ok (.invokestatic 263, 3) := by decide +kernel
theorem dX6_refusalOf_11 : decode cX6_refusalOf 11 = .ok (.ifCond .ne 5, 3) := by decide +kernel
theorem dX6_refusalOf_14 : decode cX6_refusalOf 14 = .ok (.iconst (-1), 1) := by decide +kernel
theorem dX6_refusalOf_15 : decode cX6_refusalOf 15 = .ok (.ireturn, 1) := by decide +kernel
theorem dX6_refusalOf_16 : decode cX6_refusalOf 16 = .ok (.aload_n 0, 1) := by decide +kernel
theorem dX6_refusalOf_17 : decode cX6_refusalOf 17 = .ok (.getfield 63, 3) := by decide +kernel
theorem dX6_refusalOf_20 : decode cX6_refusalOf 20 = .ok (.iload_n 1, 1) := by decide +kernel
theorem dX6_refusalOf_21 : decode cX6_refusalOf 21 = .ok (.aaload, 1) := by decide +kernel
theorem dX6_refusalOf_22 : decode cX6_refusalOf 22 = .ok (.invokevirtual 270, 3) := by decide +kernel
theorem dX6_refusalOf_25 : decode cX6_refusalOf 25 = .ok (.ifCond .eq 6, 3) := by decide +kernel
theorem dX6_refusalOf_28 : decode cX6_refusalOf 28 = .ok (.bipush (-11), 2) := by decide +kernel
theorem dX6_refusalOf_30 : decode cX6_refusalOf 30 = .ok (.ireturn, 1) := by decide +kernel
theorem dX6_refusalOf_31 : decode cX6_refusalOf 31 = .ok (.aload_n 0, 1) := by decide +kernel
theorem dX6_refusalOf_32 : decode cX6_refusalOf 32 = .ok (.getfield 63, 3) := by decide +kernel
theorem dX6_refusalOf_35 : decode cX6_refusalOf 35 = .ok (.iload_n 1, 1) := by decide +kernel
theorem dX6_refusalOf_36 : decode cX6_refusalOf 36 = .ok (.aaload, 1) := by decide +kernel
theorem dX6_refusalOf_37 : decode cX6_refusalOf 37 = .ok (.getfield 281, 3) := by decide +kernel
theorem dX6_refusalOf_40 : decode cX6_refusalOf 40 = .ok (.iload_n 2, 1) := by decide +kernel
theorem dX6_refusalOf_41 : decode cX6_refusalOf 41 = .ok (.if_icmp .eq 6, 3) := by decide +kernel
theorem dX6_refusalOf_44 : decode cX6_refusalOf 44 = .ok (.bipush (-12), 2) := by decide +kernel
theorem dX6_refusalOf_46 : decode cX6_refusalOf 46 = .ok (.ireturn, 1) := by decide +kernel
theorem dX6_refusalOf_47 : decode cX6_refusalOf 47 = .ok (.aload_n 0, 1) := by decide +kernel
theorem dX6_refusalOf_48 : decode cX6_refusalOf 48 = .ok (.getfield 63, 3) := by decide +kernel
theorem dX6_refusalOf_51 : decode cX6_refusalOf 51 = .ok (.iload_n 1, 1) := by decide +kernel
theorem dX6_refusalOf_52 : decode cX6_refusalOf 52 = .ok (.aaload, 1) := by decide +kernel
theorem dX6_refusalOf_53 : decode cX6_refusalOf 53 = .ok (.iload_n 3, 1) := by decide +kernel
theorem dX6_refusalOf_54 : decode cX6_refusalOf 54 = .ok (.iload 4, 2) := by decide +kernel
theorem dX6_refusalOf_56 : decode cX6_refusalOf 56 = .ok (.invokevirtual 284, 3) := by decide +kernel
theorem dX6_refusalOf_59 : decode cX6_refusalOf 59 = .ok (.ifCond .eq 7, 3) := by decide +kernel
theorem dX6_refusalOf_62 : decode cX6_refusalOf 62 = .ok (.iconst 0, 1) := by decide +kernel
theorem dX6_refusalOf_63 : decode cX6_refusalOf 63 = .ok (.goto 5, 3) := by decide +kernel
theorem dX6_refusalOf_66 : decode cX6_refusalOf 66 = .ok (.bipush (-13), 2) := by decide +kernel
theorem dX6_refusalOf_68 : decode cX6_refusalOf 68 = .ok (.ireturn, 1) := by decide +kernel
theorem dX6_cornerOf_0 : decode cX6_cornerOf 0 = .ok (.aload_n 0, 1) := by decide +kernel
theorem dX6_cornerOf_1 : decode cX6_cornerOf 1 = .ok (.getfield 33, 3) := by decide +kernel
theorem dX6_cornerOf_4 : decode cX6_cornerOf 4 = .ok (.aload_n 1, 1) := by decide +kernel
theorem dX6_cornerOf_5 : decode cX6_cornerOf 5 = .ok (.aload_n 0, 1) := by decide +kernel
theorem dX6_cornerOf_6 : decode cX6_cornerOf 6 = .ok (.getfield 12, 3) := by decide +kernel
theorem dX6_cornerOf_9 : decode cX6_cornerOf 9 = .ok (.getfield 72, 3) := by decide +kernel
theorem dX6_cornerOf_12 : decode cX6_cornerOf 12 = .ok (.iload_n 2, 1) := by decide +kernel
theorem dX6_cornerOf_13 : decode cX6_cornerOf 13 = .ok (.invokevirtual 182, 3) := by decide +kernel
theorem dX6_cornerOf_16 : decode cX6_cornerOf 16 = .ok (.aload_n 0, 1) := by decide +kernel
theorem dX6_cornerOf_17 : decode cX6_cornerOf 17 = .ok (.getfield 33, 3) := by decide +kernel
theorem dX6_cornerOf_20 : decode cX6_cornerOf 20 = .ok (.iload_n 2, 1) := by decide +kernel
theorem dX6_cornerOf_21 : decode cX6_cornerOf 21 = .ok (.invokevirtual 288, 3) := by decide +kernel
theorem dX6_cornerOf_24 : decode cX6_cornerOf 24 = .ok (.ireturn, 1) := by decide +kernel
theorem dX6_wholeCorner_0 : decode cX6_wholeCorner 0 = .ok (.aload_n 0, 1) := by decide +kernel
theorem dX6_wholeCorner_1 : decode cX6_wholeCorner 1 = .ok (.aload_n 0, 1) := by decide +kernel
theorem dX6_wholeCorner_2 : decode cX6_wholeCorner 2 = .ok (.getfield 12, 3) := by decide +kernel
theorem dX6_wholeCorner_5 : decode cX6_wholeCorner 5 = .ok (.getfield 76, 3) := by decide +kernel
theorem dX6_wholeCorner_8 : decode cX6_wholeCorner 8 = .ok (.aload_n 0, 1) := by decide +kernel
theorem dX6_wholeCorner_9 : decode cX6_wholeCorner 9 = .ok (.getfield 12, 3) := by decide +kernel
theorem dX6_wholeCorner_12 : decode cX6_wholeCorner 12 = .ok (.getfield 76, 3) := by decide +kernel
theorem dX6_wholeCorner_15 : decode cX6_wholeCorner 15 = .ok (.getfield 106, 3) := by decide +kernel
theorem dX6_wholeCorner_18 : decode cX6_wholeCorner 18 = .ok (.invokevirtual 167, 3) := by decide +kernel
theorem dX6_wholeCorner_21 : decode cX6_wholeCorner 21 = .ok (.ireturn, 1) := by decide +kernel
theorem dX6_singularCorners_0 : decode cX6_singularCorners 0 = .ok (.iconst 0, 1) := by decide +kernel
theorem dX6_singularCorners_1 : decode cX6_singularCorners 1 = .ok (.istore_n 1, 1) := by decide +kernel
theorem dX6_singularCorners_2 : decode cX6_singularCorners 2 = .ok (.iconst 1, 1) := by decide +kernel
theorem dX6_singularCorners_3 : decode cX6_singularCorners 3 = .ok (.istore_n 2, 1) := by decide +kernel
theorem dX6_singularCorners_4 : decode cX6_singularCorners 4 = .ok (.iload_n 2, 1) := by decide +kernel
theorem dX6_singularCorners_5 : decode cX6_singularCorners 5 = .ok (.aload_n 0, 1) := by decide +kernel
theorem dX6_singularCorners_6 : decode cX6_singularCorners 6 = .ok (.getfield 12, 3) := by decide +kernel
theorem dX6_singularCorners_9 : decode cX6_singularCorners 9 = .ok (.getfield 76, 3) := by decide +kernel
theorem dX6_singularCorners_12 : decode cX6_singularCorners 12 = .ok (.getfield 106, 3) := by decide +kernel
theorem dX6_singularCorners_15 : decode cX6_singularCorners 15 = .ok (.if_icmp .gt 34, 3) := by decide +kernel
theorem dX6_singularCorners_18 : decode cX6_singularCorners 18 = .ok (.iload_n 1, 1) := by decide +kernel
theorem dX6_singularCorners_19 : decode cX6_singularCorners 19 = .ok (.aload_n 0, 1) := by decide +kernel
theorem dX6_singularCorners_20 : decode cX6_singularCorners 20 = .ok (.aload_n 0, 1) := by decide +kernel
theorem dX6_singularCorners_21 : decode cX6_singularCorners 21 = .ok (.getfield 12, 3) := by decide +kernel
theorem dX6_singularCorners_24 : decode cX6_singularCorners 24 = .ok (.getfield 76, 3) := by decide +kernel
theorem dX6_singularCorners_27 : decode cX6_singularCorners 27 = .ok (.iload_n 2, 1) := by decide +kernel
theorem dX6_singularCorners_28 : decode cX6_singularCorners 28 = .ok (.invokevirtual 167, 3) := by decide +kernel
theorem dX6_singularCorners_31 : decode cX6_singularCorners 31 = .ok (.ifCond .ne 9, 3) := by decide +kernel
theorem dX6_singularCorners_34 : decode cX6_singularCorners 34 = .ok (.iconst 1, 1) := by decide +kernel
theorem dX6_singularCorners_35 : decode cX6_singularCorners 35 = .ok (.iload_n 2, 1) := by decide +kernel
theorem dX6_singularCorners_36 : decode cX6_singularCorners 36 = .ok (.ishl, 1) := by decide +kernel
theorem dX6_singularCorners_37 : decode cX6_singularCorners 37 = .ok (.goto 4, 3) := by decide +kernel
theorem dX6_singularCorners_40 : decode cX6_singularCorners 40 = .ok (.iconst 0, 1) := by decide +kernel
theorem dX6_singularCorners_41 : decode cX6_singularCorners 41 = .ok (.ior, 1) := by decide +kernel
theorem dX6_singularCorners_42 : decode cX6_singularCorners 42 = .ok (.istore_n 1, 1) := by decide +kernel
theorem dX6_singularCorners_43 : decode cX6_singularCorners 43 = .ok (.iinc 2 1, 3) := by decide +kernel
theorem dX6_singularCorners_46 : decode cX6_singularCorners 46 = .ok (.goto (-42), 3) := by decide +kernel
theorem dX6_singularCorners_49 : decode cX6_singularCorners 49 = .ok (.iload_n 1, 1) := by decide +kernel
theorem dX6_singularCorners_50 : decode cX6_singularCorners 50 = .ok (.ireturn, 1) := by decide +kernel
theorem dX6_rankOfMatrix_0 : decode cX6_rankOfMatrix 0 = .ok (.aload_n 0, 1) := by decide +kernel
theorem dX6_rankOfMatrix_1 : decode cX6_rankOfMatrix 1 = .ok (.getfield 12, 3) := by decide +kernel
theorem dX6_rankOfMatrix_4 : decode cX6_rankOfMatrix 4 = .ok (.getfield 76, 3) := by decide +kernel
theorem dX6_rankOfMatrix_7 : decode cX6_rankOfMatrix 7 = .ok (.getfield 106, 3) := by decide +kernel
theorem dX6_rankOfMatrix_10 : decode cX6_rankOfMatrix 10 = .ok (.istore_n 1, 1) := by decide +kernel
theorem dX6_rankOfMatrix_11 : decode cX6_rankOfMatrix 11 = .ok (.aload_n 0, 1) := by decide +kernel
theorem dX6_rankOfMatrix_12 : decode cX6_rankOfMatrix 12 = .ok (.getfield 33, 3) := by decide +kernel
theorem dX6_rankOfMatrix_15 : decode cX6_rankOfMatrix 15 = .ok (.aload_n 0, 1) := by decide +kernel
theorem dX6_rankOfMatrix_16 : decode cX6_rankOfMatrix 16 = .ok (.getfield 12, 3) := by decide +kernel
theorem dX6_rankOfMatrix_19 : decode cX6_rankOfMatrix 19 = .ok (.getfield 76, 3) := by decide +kernel
theorem dX6_rankOfMatrix_22 : decode cX6_rankOfMatrix 22 = .ok (.aload_n 0, 1) := by decide +kernel
theorem dX6_rankOfMatrix_23 : decode cX6_rankOfMatrix 23 = .ok (.getfield 12, 3) := by decide +kernel
theorem dX6_rankOfMatrix_26 : decode cX6_rankOfMatrix 26 = .ok (.getfield 72, 3) := by decide +kernel
theorem dX6_rankOfMatrix_29 : decode cX6_rankOfMatrix 29 = .ok (.iload_n 1, 1) := by decide +kernel
theorem dX6_rankOfMatrix_30 : decode cX6_rankOfMatrix 30 = .ok (.invokevirtual 182, 3) := by decide +kernel
theorem dX6_rankOfMatrix_33 : decode cX6_rankOfMatrix 33 = .ok (.aload_n 0, 1) := by decide +kernel
theorem dX6_rankOfMatrix_34 : decode cX6_rankOfMatrix 34 = .ok (.getfield 33, 3) := by decide +kernel
theorem dX6_rankOfMatrix_37 : decode cX6_rankOfMatrix 37 = .ok (.iload_n 1, 1) := by decide +kernel
theorem dX6_rankOfMatrix_38 : decode cX6_rankOfMatrix 38 = .ok (.iload_n 1, 1) := by decide +kernel
theorem dX6_rankOfMatrix_39 : decode cX6_rankOfMatrix 39 = .ok (.invokevirtual 291, 3) := by decide +kernel
theorem dX6_rankOfMatrix_42 : decode cX6_rankOfMatrix 42 = .ok (.aload_n 0, 1) := by decide +kernel
theorem dX6_rankOfMatrix_43 : decode cX6_rankOfMatrix 43 = .ok (.getfield 33, 3) := by decide +kernel
theorem dX6_rankOfMatrix_46 : decode cX6_rankOfMatrix 46 = .ok (.iload_n 1, 1) := by decide +kernel
theorem dX6_rankOfMatrix_47 : decode cX6_rankOfMatrix 47 = .ok (.iload_n 1, 1) := by decide +kernel
theorem dX6_rankOfMatrix_48 : decode cX6_rankOfMatrix 48 = .ok (.invokevirtual 190, 3) := by decide +kernel
theorem dX6_rankOfMatrix_51 : decode cX6_rankOfMatrix 51 = .ok (.ireturn, 1) := by decide +kernel
theorem dX6_solveMatrix_0 : decode cX6_solveMatrix 0 = .ok (.aload_n 0, 1) := by decide +kernel
theorem dX6_solveMatrix_1 : decode cX6_solveMatrix 1 = .ok (.getfield 12, 3) := by decide +kernel
theorem dX6_solveMatrix_4 : decode cX6_solveMatrix 4 = .ok (.getfield 76, 3) := by decide +kernel
theorem dX6_solveMatrix_7 : decode cX6_solveMatrix 7 = .ok (.getfield 106, 3) := by decide +kernel
theorem dX6_solveMatrix_10 : decode cX6_solveMatrix 10 = .ok (.istore_n 1, 1) := by decide +kernel
theorem dX6_solveMatrix_11 : decode cX6_solveMatrix 11 = .ok (.aload_n 0, 1) := by decide +kernel
theorem dX6_solveMatrix_12 : decode cX6_solveMatrix 12 = .ok (.getfield 33, 3) := by decide +kernel
theorem dX6_solveMatrix_15 : decode cX6_solveMatrix 15 = .ok (.aload_n 0, 1) := by decide +kernel
theorem dX6_solveMatrix_16 : decode cX6_solveMatrix 16 = .ok (.getfield 12, 3) := by decide +kernel
theorem dX6_solveMatrix_19 : decode cX6_solveMatrix 19 = .ok (.getfield 76, 3) := by decide +kernel
theorem dX6_solveMatrix_22 : decode cX6_solveMatrix 22 = .ok (.aload_n 0, 1) := by decide +kernel
theorem dX6_solveMatrix_23 : decode cX6_solveMatrix 23 = .ok (.getfield 12, 3) := by decide +kernel
theorem dX6_solveMatrix_26 : decode cX6_solveMatrix 26 = .ok (.getfield 72, 3) := by decide +kernel
theorem dX6_solveMatrix_29 : decode cX6_solveMatrix 29 = .ok (.iload_n 1, 1) := by decide +kernel
theorem dX6_solveMatrix_30 : decode cX6_solveMatrix 30 = .ok (.invokevirtual 182, 3) := by decide +kernel
theorem dX6_solveMatrix_33 : decode cX6_solveMatrix 33 = .ok (.iconst 0, 1) := by decide +kernel
theorem dX6_solveMatrix_34 : decode cX6_solveMatrix 34 = .ok (.istore_n 2, 1) := by decide +kernel
theorem dX6_solveMatrix_35 : decode cX6_solveMatrix 35 = .ok (.iload_n 2, 1) := by decide +kernel
theorem dX6_solveMatrix_36 : decode cX6_solveMatrix 36 = .ok (.iload_n 1, 1) := by decide +kernel
theorem dX6_solveMatrix_37 : decode cX6_solveMatrix 37 = .ok (.if_icmp .ge 32, 3) := by decide +kernel
theorem dX6_solveMatrix_40 : decode cX6_solveMatrix 40 = .ok (.aload_n 0, 1) := by decide +kernel
theorem dX6_solveMatrix_41 : decode cX6_solveMatrix 41 = .ok (.getfield 33, 3) := by decide +kernel
theorem dX6_solveMatrix_44 : decode cX6_solveMatrix 44 = .ok (.getfield 186, 3) := by decide +kernel
theorem dX6_solveMatrix_47 : decode cX6_solveMatrix 47 = .ok (.iload_n 2, 1) := by decide +kernel
theorem dX6_solveMatrix_48 : decode cX6_solveMatrix 48 = .ok (.aaload, 1) := by decide +kernel
theorem dX6_solveMatrix_49 : decode cX6_solveMatrix 49 = .ok (.iload_n 1, 1) := by decide +kernel
theorem dX6_solveMatrix_50 : decode cX6_solveMatrix 50 = .ok (.aload_n 0, 1) := by decide +kernel
theorem dX6_solveMatrix_51 : decode cX6_solveMatrix 51 = .ok (.getfield 12, 3) := by decide +kernel
theorem dX6_solveMatrix_54 : decode cX6_solveMatrix 54 = .ok (.getfield 76, 3) := by decide +kernel
theorem dX6_solveMatrix_57 : decode cX6_solveMatrix 57 = .ok (.getfield 118, 3) := by decide +kernel
theorem dX6_solveMatrix_60 : decode cX6_solveMatrix 60 = .ok (.iload_n 2, 1) := by decide +kernel
theorem dX6_solveMatrix_61 : decode cX6_solveMatrix 61 = .ok (.iaload, 1) := by decide +kernel
theorem dX6_solveMatrix_62 : decode cX6_solveMatrix 62 = .ok (.iastore, 1) := by decide +kernel
theorem dX6_solveMatrix_63 : decode cX6_solveMatrix 63 = .ok (.iinc 2 1, 3) := by decide +kernel
theorem dX6_solveMatrix_66 : decode cX6_solveMatrix 66 = .ok (.goto (-31), 3) := by decide +kernel
theorem dX6_solveMatrix_69 : decode cX6_solveMatrix 69 = .ok (.aload_n 0, 1) := by decide +kernel
theorem dX6_solveMatrix_70 : decode cX6_solveMatrix 70 = .ok (.getfield 33, 3) := by decide +kernel
theorem dX6_solveMatrix_73 : decode cX6_solveMatrix 73 = .ok (.iload_n 1, 1) := by decide +kernel
theorem dX6_solveMatrix_74 : decode cX6_solveMatrix 74 = .ok (.iload_n 1, 1) := by decide +kernel
theorem dX6_solveMatrix_75 : decode cX6_solveMatrix 75 = .ok (.invokevirtual 190, 3) := by decide +kernel
theorem dX6_solveMatrix_78 : decode cX6_solveMatrix 78 = .ok (.istore_n 2, 1) := by decide +kernel
theorem dX6_solveMatrix_79 : decode cX6_solveMatrix 79 = .ok (.iload_n 2, 1) := by decide +kernel
theorem dX6_solveMatrix_80 : decode cX6_solveMatrix 80 = .ok (.ifCond .ge 7, 3) := by decide +kernel
theorem dX6_solveMatrix_83 : decode cX6_solveMatrix 83 = .ok (.lconst 0, 1) := by decide +kernel
theorem dX6_solveMatrix_84 : decode cX6_solveMatrix 84 = .ok (.goto 17, 3) := by decide +kernel
theorem dX6_solveMatrix_87 : decode cX6_solveMatrix 87 = .ok (.aload_n 0, 1) := by decide +kernel
theorem dX6_solveMatrix_88 : decode cX6_solveMatrix 88 = .ok (.getfield 12, 3) := by decide +kernel
theorem dX6_solveMatrix_91 : decode cX6_solveMatrix 91 = .ok (.getfield 72, 3) := by decide +kernel
theorem dX6_solveMatrix_94 : decode cX6_solveMatrix 94 = .ok (.i2l, 1) := by decide +kernel
theorem dX6_solveMatrix_95 : decode cX6_solveMatrix 95 = .ok (.iload_n 1, 1) := by decide +kernel
theorem dX6_solveMatrix_96 : decode cX6_solveMatrix 96 = .ok (.iload_n 2, 1) := by decide +kernel
theorem dX6_solveMatrix_97 : decode cX6_solveMatrix 97 = .ok (.isub, 1) := by decide +kernel
theorem dX6_solveMatrix_98 : decode cX6_solveMatrix 98 = .ok (.invokestatic 225, 3) := by decide +kernel
theorem dX6_solveMatrix_101 : decode cX6_solveMatrix 101 = .ok (.lreturn, 1) := by decide +kernel
theorem dX6_leastMender_0 : decode cX6_leastMender 0 = .ok (.aload_n 0, 1) := by decide +kernel
theorem dX6_leastMender_1 : decode cX6_leastMender 1 = .ok (.getfield 40, 3) := by decide +kernel
theorem dX6_leastMender_4 : decode cX6_leastMender 4 = .ok (.aload_n 0, 1) := by decide +kernel
theorem dX6_leastMender_5 : decode cX6_leastMender 5 = .ok (.getfield 12, 3) := by decide +kernel
theorem dX6_leastMender_8 : decode cX6_leastMender 8 = .ok (.getfield 76, 3) := by decide +kernel
theorem dX6_leastMender_11 : decode cX6_leastMender 11 = .ok (.invokevirtual 102, 3) := by decide +kernel
theorem dX6_leastMender_14 : decode cX6_leastMender 14 = .ok (.iconst 0, 1) := by decide +kernel
theorem dX6_leastMender_15 : decode cX6_leastMender 15 = .ok (.istore_n 2, 1) := by decide +kernel
theorem dX6_leastMender_16 : decode cX6_leastMender 16 = .ok (.iload_n 2, 1) := by decide +kernel
theorem dX6_leastMender_17 : decode cX6_leastMender 17 = .ok (.aload_n 0, 1) := by decide +kernel
theorem dX6_leastMender_18 : decode cX6_leastMender 18 = .ok (.getfield 12, 3) := by decide +kernel
theorem dX6_leastMender_21 : decode cX6_leastMender 21 = .ok (.getfield 72, 3) := by decide +kernel
theorem dX6_leastMender_24 : decode cX6_leastMender 24 = .ok (.if_icmp .ge 39, 3) := by decide +kernel
theorem dX6_leastMender_27 : decode cX6_leastMender 27 = .ok (.aload_n 0, 1) := by decide +kernel
theorem dX6_leastMender_28 : decode cX6_leastMender 28 = .ok (.getfield 40, 3) := by decide +kernel
theorem dX6_leastMender_31 : decode cX6_leastMender 31 = .ok (.getfield 112, 3) := by decide +kernel
theorem dX6_leastMender_34 : decode cX6_leastMender 34 = .ok (.iload_n 1, 1) := by decide +kernel
theorem dX6_leastMender_35 : decode cX6_leastMender 35 = .ok (.iload_n 2, 1) := by decide +kernel
theorem dX6_leastMender_36 : decode cX6_leastMender 36 = .ok (.iastore, 1) := by decide +kernel
theorem dX6_leastMender_37 : decode cX6_leastMender 37 = .ok (.aload_n 0, 1) := by decide +kernel
theorem dX6_leastMender_38 : decode cX6_leastMender 38 = .ok (.aload_n 0, 1) := by decide +kernel
theorem dX6_leastMender_39 : decode cX6_leastMender 39 = .ok (.getfield 40, 3) := by decide +kernel
theorem dX6_leastMender_42 : decode cX6_leastMender 42 = .ok (.aload_n 0, 1) := by decide +kernel
theorem dX6_leastMender_43 : decode cX6_leastMender 43 = .ok (.getfield 40, 3) := by decide +kernel
theorem dX6_leastMender_46 : decode cX6_leastMender 46 = .ok (.getfield 106, 3) := by decide +kernel
theorem dX6_leastMender_49 : decode cX6_leastMender 49 = .ok (.invokevirtual 167, 3) := by decide +kernel
theorem dX6_leastMender_52 : decode cX6_leastMender 52 = .ok (.ifCond .eq 5, 3) := by decide +kernel
theorem dX6_leastMender_55 : decode cX6_leastMender 55 = .ok (.iload_n 2, 1) := by decide +kernel
theorem dX6_leastMender_56 : decode cX6_leastMender 56 = .ok (.ireturn, 1) := by decide +kernel
theorem dX6_leastMender_57 : decode cX6_leastMender 57 = .ok (.iinc 2 1, 3) := by decide +kernel
theorem dX6_leastMender_60 : decode cX6_leastMender 60 = .ok (.goto (-44), 3) := by decide +kernel
theorem dX6_leastMender_63 : decode cX6_leastMender 63 = .ok (.bipush (-4), 2) := by decide +kernel
theorem dX6_leastMender_65 : decode cX6_leastMender 65 = .ok (.ireturn, 1) := by decide +kernel
theorem dX6_findLaw_0 : decode cX6_findLaw 0 = .ok (.aload_n 0, 1) := by decide +kernel
theorem dX6_findLaw_1 : decode cX6_findLaw 1 = .ok (.getfield 12, 3) := by decide +kernel
theorem dX6_findLaw_4 : decode cX6_findLaw 4 = .ok (.getfield 76, 3) := by decide +kernel
theorem dX6_findLaw_7 : decode cX6_findLaw 7 = .ok (.invokevirtual 197, 3) := by decide +kernel
theorem dX6_findLaw_10 : decode cX6_findLaw 10 = .ok (.istore_n 1, 1) := by decide +kernel
theorem dX6_findLaw_11 : decode cX6_findLaw 11 = .ok (.iconst 0, 1) := by decide +kernel
theorem dX6_findLaw_12 : decode cX6_findLaw 12 = .ok (.istore_n 2, 1) := by decide +kernel
theorem dX6_findLaw_13 : decode cX6_findLaw 13 = .ok (.iload_n 2, 1) := by decide +kernel
theorem dX6_findLaw_14 : decode cX6_findLaw 14 = .ok (.iload_n 1, 1) := by decide +kernel
theorem dX6_findLaw_15 : decode cX6_findLaw 15 = .ok (.if_icmp .ge 19, 3) := by decide +kernel
theorem dX6_findLaw_18 : decode cX6_findLaw 18 = .ok (.aload_n 0, 1) := by decide +kernel
theorem dX6_findLaw_19 : decode cX6_findLaw 19 = .ok (.iload_n 2, 1) := by decide +kernel
theorem dX6_findLaw_20 : decode cX6_findLaw 20 = .ok (.invokevirtual 294, 3) := by decide +kernel
theorem dX6_findLaw_23 : decode cX6_findLaw 23 = .ok (.ifCond .eq 5, 3) := by decide +kernel
theorem dX6_findLaw_26 : decode cX6_findLaw 26 = .ok (.iload_n 2, 1) := by decide +kernel
theorem dX6_findLaw_27 : decode cX6_findLaw 27 = .ok (.ireturn, 1) := by decide +kernel
theorem dX6_findLaw_28 : decode cX6_findLaw 28 = .ok (.iinc 2 1, 3) := by decide +kernel
theorem dX6_findLaw_31 : decode cX6_findLaw 31 = .ok (.goto (-18), 3) := by decide +kernel
theorem dX6_findLaw_34 : decode cX6_findLaw 34 = .ok (.iconst 0, 1) := by decide +kernel
theorem dX6_findLaw_35 : decode cX6_findLaw 35 = .ok (.istore_n 2, 1) := by decide +kernel
theorem dX6_findLaw_36 : decode cX6_findLaw 36 = .ok (.iload_n 2, 1) := by decide +kernel
theorem dX6_findLaw_37 : decode cX6_findLaw 37 = .ok (.iload_n 1, 1) := by decide +kernel
theorem dX6_findLaw_38 : decode cX6_findLaw 38 = .ok (.if_icmp .ge 19, 3) := by decide +kernel
theorem dX6_findLaw_41 : decode cX6_findLaw 41 = .ok (.aload_n 0, 1) := by decide +kernel
theorem dX6_findLaw_42 : decode cX6_findLaw 42 = .ok (.getfield 33, 3) := by decide +kernel
theorem dX6_findLaw_45 : decode cX6_findLaw 45 = .ok (.getfield 179, 3) := by decide +kernel
theorem dX6_findLaw_48 : decode cX6_findLaw 48 = .ok (.iload_n 2, 1) := by decide +kernel
theorem dX6_findLaw_49 : decode cX6_findLaw 49 = .ok (.iconst 0, 1) := by decide +kernel
theorem dX6_findLaw_50 : decode cX6_findLaw 50 = .ok (.iastore, 1) := by decide +kernel
theorem dX6_findLaw_51 : decode cX6_findLaw 51 = .ok (.iinc 2 1, 3) := by decide +kernel
theorem dX6_findLaw_54 : decode cX6_findLaw 54 = .ok (.goto (-18), 3) := by decide +kernel
theorem dX6_findLaw_57 : decode cX6_findLaw 57 = .ok (.iload_n 1, 1) := by decide +kernel
theorem dX6_findLaw_58 : decode cX6_findLaw 58 = .ok (.ireturn, 1) := by decide +kernel
theorem dX6_fitsLaw_0 : decode cX6_fitsLaw 0 = .ok (.aload_n 0, 1) := by decide +kernel
theorem dX6_fitsLaw_1 : decode cX6_fitsLaw 1 = .ok (.getfield 12, 3) := by decide +kernel
theorem dX6_fitsLaw_4 : decode cX6_fitsLaw 4 = .ok (.getfield 76, 3) := by decide +kernel
theorem dX6_fitsLaw_7 : decode cX6_fitsLaw 7 = .ok (.getfield 112, 3) := by decide +kernel
theorem dX6_fitsLaw_10 : decode cX6_fitsLaw 10 = .ok (.astore_n 2, 1) := by decide +kernel
theorem dX6_fitsLaw_11 : decode cX6_fitsLaw 11 = .ok (.aload_n 0, 1) := by decide +kernel
theorem dX6_fitsLaw_12 : decode cX6_fitsLaw 12 = .ok (.getfield 12, 3) := by decide +kernel
theorem dX6_fitsLaw_15 : decode cX6_fitsLaw 15 = .ok (.getfield 76, 3) := by decide +kernel
theorem dX6_fitsLaw_18 : decode cX6_fitsLaw 18 = .ok (.invokevirtual 197, 3) := by decide +kernel
theorem dX6_fitsLaw_21 : decode cX6_fitsLaw 21 = .ok (.iload_n 1, 1) := by decide +kernel
theorem dX6_fitsLaw_22 : decode cX6_fitsLaw 22 = .ok (.isub, 1) := by decide +kernel
theorem dX6_fitsLaw_23 : decode cX6_fitsLaw 23 = .ok (.istore_n 3, 1) := by decide +kernel
theorem dX6_fitsLaw_24 : decode cX6_fitsLaw 24 = .ok (.aload_n 0, 1) := by decide +kernel
theorem dX6_fitsLaw_25 : decode cX6_fitsLaw 25 = .ok (.getfield 33, 3) := by decide +kernel
theorem dX6_fitsLaw_28 : decode cX6_fitsLaw 28 = .ok (.aload_n 0, 1) := by decide +kernel
theorem dX6_fitsLaw_29 : decode cX6_fitsLaw 29 = .ok (.getfield 12, 3) := by decide +kernel
theorem dX6_fitsLaw_32 : decode cX6_fitsLaw 32 = .ok (.getfield 72, 3) := by decide +kernel
theorem dX6_fitsLaw_35 : decode cX6_fitsLaw 35 = .ok (.invokevirtual 297, 3) := by decide +kernel
theorem dX6_fitsLaw_38 : decode cX6_fitsLaw 38 = .ok (.iconst 0, 1) := by decide +kernel
theorem dX6_fitsLaw_39 : decode cX6_fitsLaw 39 = .ok (.istore 4, 2) := by decide +kernel
theorem dX6_fitsLaw_41 : decode cX6_fitsLaw 41 = .ok (.iload 4, 2) := by decide +kernel
theorem dX6_fitsLaw_43 : decode cX6_fitsLaw 43 = .ok (.iload_n 3, 1) := by decide +kernel
theorem dX6_fitsLaw_44 : decode cX6_fitsLaw 44 = .ok (.if_icmp .ge 66, 3) := by decide +kernel
theorem dX6_fitsLaw_47 : decode cX6_fitsLaw 47 = .ok (.iconst 0, 1) := by decide +kernel
theorem dX6_fitsLaw_48 : decode cX6_fitsLaw 48 = .ok (.istore 5, 2) := by decide +kernel
theorem dX6_fitsLaw_50 : decode cX6_fitsLaw 50 = .ok (.iload 5, 2) := by decide +kernel
theorem dX6_fitsLaw_52 : decode cX6_fitsLaw 52 = .ok (.iload_n 1, 1) := by decide +kernel
theorem dX6_fitsLaw_53 : decode cX6_fitsLaw 53 = .ok (.if_icmp .ge 33, 3) := by decide +kernel
theorem dX6_fitsLaw_56 : decode cX6_fitsLaw 56 = .ok (.aload_n 0, 1) := by decide +kernel
theorem dX6_fitsLaw_57 : decode cX6_fitsLaw 57 = .ok (.getfield 33, 3) := by decide +kernel
theorem dX6_fitsLaw_60 : decode cX6_fitsLaw 60 = .ok (.getfield 186, 3) := by decide +kernel
theorem dX6_fitsLaw_63 : decode cX6_fitsLaw 63 = .ok (.iload 4, 2) := by decide +kernel
theorem dX6_fitsLaw_65 : decode cX6_fitsLaw 65 = .ok (.aaload, 1) := by decide +kernel
theorem dX6_fitsLaw_66 : decode cX6_fitsLaw 66 = .ok (.iload 5, 2) := by decide +kernel
theorem dX6_fitsLaw_68 : decode cX6_fitsLaw 68 = .ok (.aload_n 2, 1) := by decide +kernel
theorem dX6_fitsLaw_69 : decode cX6_fitsLaw 69 = .ok (.iload 4, 2) := by decide +kernel
theorem dX6_fitsLaw_71 : decode cX6_fitsLaw 71 = .ok (.iload_n 1, 1) := by decide +kernel
theorem dX6_fitsLaw_72 : decode cX6_fitsLaw 72 = .ok (.iadd, 1) := by decide +kernel
theorem dX6_fitsLaw_73 : decode cX6_fitsLaw 73 = .ok (.iconst 1, 1) := by decide +kernel
theorem dX6_fitsLaw_74 : decode cX6_fitsLaw 74 = .ok (.isub, 1) := by decide +kernel
theorem dX6_fitsLaw_75 : decode cX6_fitsLaw 75 = .ok (.iload 5, 2) := by decide +kernel
theorem dX6_fitsLaw_77 : decode cX6_fitsLaw 77 = .ok (.isub, 1) := by decide +kernel
theorem dX6_fitsLaw_78 : decode cX6_fitsLaw 78 = .ok (.iaload, 1) := by decide +kernel
theorem dX6_fitsLaw_79 : decode cX6_fitsLaw 79 = .ok (.iastore, 1) := by decide +kernel
theorem dX6_fitsLaw_80 : decode cX6_fitsLaw 80 = .ok (.iinc 5 1, 3) := by decide +kernel
theorem dX6_fitsLaw_83 : decode cX6_fitsLaw 83 = .ok (.goto (-33), 3) := by decide +kernel
theorem dX6_fitsLaw_86 : decode cX6_fitsLaw 86 = .ok (.aload_n 0, 1) := by decide +kernel
theorem dX6_fitsLaw_87 : decode cX6_fitsLaw 87 = .ok (.getfield 33, 3) := by decide +kernel
theorem dX6_fitsLaw_90 : decode cX6_fitsLaw 90 = .ok (.getfield 186, 3) := by decide +kernel
theorem dX6_fitsLaw_93 : decode cX6_fitsLaw 93 = .ok (.iload 4, 2) := by decide +kernel
theorem dX6_fitsLaw_95 : decode cX6_fitsLaw 95 = .ok (.aaload, 1) := by decide +kernel
theorem dX6_fitsLaw_96 : decode cX6_fitsLaw 96 = .ok (.iload_n 1, 1) := by decide +kernel
theorem dX6_fitsLaw_97 : decode cX6_fitsLaw 97 = .ok (.aload_n 2, 1) := by decide +kernel
theorem dX6_fitsLaw_98 : decode cX6_fitsLaw 98 = .ok (.iload 4, 2) := by decide +kernel
theorem dX6_fitsLaw_100 : decode cX6_fitsLaw 100 = .ok (.iload_n 1, 1) := by decide +kernel
theorem dX6_fitsLaw_101 : decode cX6_fitsLaw 101 = .ok (.iadd, 1) := by decide +kernel
theorem dX6_fitsLaw_102 : decode cX6_fitsLaw 102 = .ok (.iaload, 1) := by decide +kernel
theorem dX6_fitsLaw_103 : decode cX6_fitsLaw 103 = .ok (.iastore, 1) := by decide +kernel
theorem dX6_fitsLaw_104 : decode cX6_fitsLaw 104 = .ok (.iinc 4 1, 3) := by decide +kernel
theorem dX6_fitsLaw_107 : decode cX6_fitsLaw 107 = .ok (.goto (-66), 3) := by decide +kernel
theorem dX6_fitsLaw_110 : decode cX6_fitsLaw 110 = .ok (.aload_n 0, 1) := by decide +kernel
theorem dX6_fitsLaw_111 : decode cX6_fitsLaw 111 = .ok (.getfield 33, 3) := by decide +kernel
theorem dX6_fitsLaw_114 : decode cX6_fitsLaw 114 = .ok (.iload_n 3, 1) := by decide +kernel
theorem dX6_fitsLaw_115 : decode cX6_fitsLaw 115 = .ok (.iload_n 1, 1) := by decide +kernel
theorem dX6_fitsLaw_116 : decode cX6_fitsLaw 116 = .ok (.invokevirtual 190, 3) := by decide +kernel
theorem dX6_fitsLaw_119 : decode cX6_fitsLaw 119 = .ok (.ifCond .lt 7, 3) := by decide +kernel
theorem dX6_fitsLaw_122 : decode cX6_fitsLaw 122 = .ok (.iconst 1, 1) := by decide +kernel
theorem dX6_fitsLaw_123 : decode cX6_fitsLaw 123 = .ok (.goto 4, 3) := by decide +kernel
theorem dX6_fitsLaw_126 : decode cX6_fitsLaw 126 = .ok (.iconst 0, 1) := by decide +kernel
theorem dX6_fitsLaw_127 : decode cX6_fitsLaw 127 = .ok (.ireturn, 1) := by decide +kernel
theorem dX6_countWipes_0 : decode cX6_countWipes 0 = .ok (.aload_n 0, 1) := by decide +kernel
theorem dX6_countWipes_1 : decode cX6_countWipes 1 = .ok (.getfield 40, 3) := by decide +kernel
theorem dX6_countWipes_4 : decode cX6_countWipes 4 = .ok (.aload_n 0, 1) := by decide +kernel
theorem dX6_countWipes_5 : decode cX6_countWipes 5 = .ok (.getfield 12, 3) := by decide +kernel
theorem dX6_countWipes_8 : decode cX6_countWipes 8 = .ok (.getfield 76, 3) := by decide +kernel
theorem dX6_countWipes_11 : decode cX6_countWipes 11 = .ok (.invokevirtual 102, 3) := by decide +kernel
theorem dX6_countWipes_14 : decode cX6_countWipes 14 = .ok (.aload_n 0, 1) := by decide +kernel
theorem dX6_countWipes_15 : decode cX6_countWipes 15 = .ok (.getfield 47, 3) := by decide +kernel
theorem dX6_countWipes_18 : decode cX6_countWipes 18 = .ok (.aload_n 0, 1) := by decide +kernel
theorem dX6_countWipes_19 : decode cX6_countWipes 19 = .ok (.getfield 12, 3) := by decide +kernel
theorem dX6_countWipes_22 : decode cX6_countWipes 22 = .ok (.getfield 76, 3) := by decide +kernel
theorem dX6_countWipes_25 : decode cX6_countWipes 25 = .ok (.aload_n 0, 1) := by decide +kernel
theorem dX6_countWipes_26 : decode cX6_countWipes 26 = .ok (.getfield 12, 3) := by decide +kernel
theorem dX6_countWipes_29 : decode cX6_countWipes 29 = .ok (.getfield 72, 3) := by decide +kernel
theorem dX6_countWipes_32 : decode cX6_countWipes 32 = .ok (.invokevirtual 300, 3) := by decide +kernel
theorem dX6_countWipes_35 : decode cX6_countWipes 35 = .ok (.iconst 0, 1) := by decide +kernel
theorem dX6_countWipes_36 : decode cX6_countWipes 36 = .ok (.istore_n 1, 1) := by decide +kernel
theorem dX6_countWipes_37 : decode cX6_countWipes 37 = .ok (.iload_n 1, 1) := by decide +kernel
theorem dX6_countWipes_38 : decode cX6_countWipes 38 = .ok (.iconst 1, 1) := by decide +kernel
theorem dX6_countWipes_39 : decode cX6_countWipes 39 = .ok (.aload_n 0, 1) := by decide +kernel
theorem dX6_countWipes_40 : decode cX6_countWipes 40 = .ok (.getfield 47, 3) := by decide +kernel
theorem dX6_countWipes_43 : decode cX6_countWipes 43 = .ok (.getfield 222, 3) := by decide +kernel
theorem dX6_countWipes_46 : decode cX6_countWipes 46 = .ok (.ishl, 1) := by decide +kernel
theorem dX6_countWipes_47 : decode cX6_countWipes 47 = .ok (.if_icmp .ge 106, 3) := by decide +kernel
theorem dX6_countWipes_50 : decode cX6_countWipes 50 = .ok (.iconst 0, 1) := by decide +kernel
theorem dX6_countWipes_51 : decode cX6_countWipes 51 = .ok (.istore_n 2, 1) := by decide +kernel
theorem dX6_countWipes_52 : decode cX6_countWipes 52 = .ok (.iload_n 2, 1) := by decide +kernel
theorem dX6_countWipes_53 : decode cX6_countWipes 53 = .ok (.aload_n 0, 1) := by decide +kernel
theorem dX6_countWipes_54 : decode cX6_countWipes 54 = .ok (.getfield 47, 3) := by decide +kernel
theorem dX6_countWipes_57 : decode cX6_countWipes 57 = .ok (.getfield 222, 3) := by decide +kernel
theorem dX6_countWipes_60 : decode cX6_countWipes 60 = .ok (.if_icmp .ge 53, 3) := by decide +kernel
theorem dX6_countWipes_63 : decode cX6_countWipes 63 = .ok (.aload_n 0, 1) := by decide +kernel
theorem dX6_countWipes_64 : decode cX6_countWipes 64 = .ok (.getfield 47, 3) := by decide +kernel
theorem dX6_countWipes_67 : decode cX6_countWipes 67 = .ok (.getfield 303, 3) := by decide +kernel
theorem dX6_countWipes_70 : decode cX6_countWipes 70 = .ok (.iload_n 2, 1) := by decide +kernel
theorem dX6_countWipes_71 : decode cX6_countWipes 71 = .ok (.iaload, 1) := by decide +kernel
theorem dX6_countWipes_72 : decode cX6_countWipes 72 = .ok (.istore_n 3, 1) := by decide +kernel
theorem dX6_countWipes_73 : decode cX6_countWipes 73 = .ok (.aload_n 0, 1) := by decide +kernel
theorem dX6_countWipes_74 : decode cX6_countWipes 74 = .ok (.getfield 40, 3) := by decide +kernel
theorem dX6_countWipes_77 : decode cX6_countWipes 77 = .ok (.getfield 112, 3) := by decide +kernel
theorem dX6_countWipes_80 : decode cX6_countWipes 80 = .ok (.iload_n 3, 1) := by decide +kernel
theorem dX6_countWipes_81 : decode cX6_countWipes 81 = .ok (.iload_n 1, 1) := by decide +kernel
theorem dX6_countWipes_82 : decode cX6_countWipes 82 = .ok (.iload_n 2, 1) := by decide +kernel
theorem dX6_countWipes_83 : decode cX6_countWipes 83 = .ok (.ishr, 1) := by decide +kernel
theorem dX6_countWipes_84 : decode cX6_countWipes 84 = .ok (.iconst 1, 1) := by decide +kernel
theorem dX6_countWipes_85 : decode cX6_countWipes 85 = .ok (.iand, 1) := by decide +kernel
theorem dX6_countWipes_86 : decode cX6_countWipes 86 = .ok (.iconst 1, 1) := by decide +kernel
theorem dX6_countWipes_87 : decode cX6_countWipes 87 = .ok (.if_icmp .ne 7, 3) := by decide +kernel
theorem dX6_countWipes_90 : decode cX6_countWipes 90 = .ok (.iconst 0, 1) := by decide +kernel
theorem dX6_countWipes_91 : decode cX6_countWipes 91 = .ok (.goto 15, 3) := by decide +kernel
theorem dX6_countWipes_94 : decode cX6_countWipes 94 = .ok (.aload_n 0, 1) := by decide +kernel
theorem dX6_countWipes_95 : decode cX6_countWipes 95 = .ok (.getfield 12, 3) := by decide +kernel
theorem dX6_countWipes_98 : decode cX6_countWipes 98 = .ok (.getfield 76, 3) := by decide +kernel
theorem dX6_countWipes_101 : decode cX6_countWipes 101 = .ok (.getfield 112, 3) := by decide +kernel
theorem dX6_countWipes_104 : decode cX6_countWipes 104 = .ok (.iload_n 3, 1) := by decide +kernel
theorem dX6_countWipes_105 : decode cX6_countWipes 105 = .ok (.iaload, 1) := by decide +kernel
theorem dX6_countWipes_106 : decode cX6_countWipes 106 = .ok (.iastore, 1) := by decide +kernel
theorem dX6_countWipes_107 : decode cX6_countWipes 107 = .ok (.iinc 2 1, 3) := by decide +kernel
theorem dX6_countWipes_110 : decode cX6_countWipes 110 = .ok (.goto (-58), 3) := by decide +kernel
theorem dX6_countWipes_113 : decode cX6_countWipes 113 = .ok (.aload_n 0, 1) := by decide +kernel
theorem dX6_countWipes_114 : decode cX6_countWipes 114 = .ok (.aload_n 0, 1) := by decide +kernel
theorem dX6_countWipes_115 : decode cX6_countWipes 115 = .ok (.getfield 40, 3) := by decide +kernel
theorem dX6_countWipes_118 : decode cX6_countWipes 118 = .ok (.aload_n 0, 1) := by decide +kernel
theorem dX6_countWipes_119 : decode cX6_countWipes 119 = .ok (.getfield 40, 3) := by decide +kernel
theorem dX6_countWipes_122 : decode cX6_countWipes 122 = .ok (.getfield 106, 3) := by decide +kernel
theorem dX6_countWipes_125 : decode cX6_countWipes 125 = .ok (.invokevirtual 167, 3) := by decide +kernel
theorem dX6_countWipes_128 : decode cX6_countWipes 128 = .ok (.ifCond .ne 19, 3) := by decide +kernel
theorem dX6_countWipes_131 : decode cX6_countWipes 131 = .ok (.aload_n 0, 1) := by decide +kernel
theorem dX6_countWipes_132 : decode cX6_countWipes 132 = .ok (.getfield 47, 3) := by decide +kernel
theorem dX6_countWipes_135 : decode cX6_countWipes 135 = .ok (.getfield 306, 3) := by decide +kernel
theorem dX6_countWipes_138 : decode cX6_countWipes 138 = .ok (.iload_n 1, 1) := by decide +kernel
theorem dX6_countWipes_139 : decode cX6_countWipes 139 = .ok (.invokestatic 309, 3) := by decide +kernel
theorem dX6_countWipes_142 : decode cX6_countWipes 142 = .ok (.dup2, 1) := by decide +kernel
theorem dX6_countWipes_143 : decode cX6_countWipes 143 = .ok (.laload, 1) := by decide +kernel
theorem dX6_countWipes_144 : decode cX6_countWipes 144 = .ok (.lconst 1, 1) := by decide +kernel
theorem dX6_countWipes_145 : decode cX6_countWipes 145 = .ok (.ladd, 1) := by decide +kernel
theorem dX6_countWipes_146 : decode cX6_countWipes 146 = .ok (.lastore, 1) := by decide +kernel
theorem dX6_countWipes_147 : decode cX6_countWipes 147 = .ok (.iinc 1 1, 3) := by decide +kernel
theorem dX6_countWipes_150 : decode cX6_countWipes 150 = .ok (.goto (-113), 3) := by decide +kernel
theorem dX6_countWipes_153 : decode cX6_countWipes 153 = .ok (.return_, 1) := by decide +kernel
theorem dX6_power_0 : decode cX6_power 0 = .ok (.lconst 1, 1) := by decide +kernel
theorem dX6_power_1 : decode cX6_power 1 = .ok (.lstore_n 3, 1) := by decide +kernel
theorem dX6_power_2 : decode cX6_power 2 = .ok (.iconst 0, 1) := by decide +kernel
theorem dX6_power_3 : decode cX6_power 3 = .ok (.istore 5, 2) := by decide +kernel
theorem dX6_power_5 : decode cX6_power 5 = .ok (.iload 5, 2) := by decide +kernel
theorem dX6_power_7 : decode cX6_power 7 = .ok (.iload_n 2, 1) := by decide +kernel
theorem dX6_power_8 : decode cX6_power 8 = .ok (.if_icmp .ge 13, 3) := by decide +kernel
theorem dX6_power_11 : decode cX6_power 11 = .ok (.lload_n 3, 1) := by decide +kernel
theorem dX6_power_12 : decode cX6_power 12 = .ok (.lload_n 0, 1) := by decide +kernel
theorem dX6_power_13 : decode cX6_power 13 = .ok (.lmul, 1) := by decide +kernel
theorem dX6_power_14 : decode cX6_power 14 = .ok (.lstore_n 3, 1) := by decide +kernel
theorem dX6_power_15 : decode cX6_power 15 = .ok (.iinc 5 1, 3) := by decide +kernel
theorem dX6_power_18 : decode cX6_power 18 = .ok (.goto (-13), 3) := by decide +kernel
theorem dX6_power_21 : decode cX6_power 21 = .ok (.lload_n 3, 1) := by decide +kernel
theorem dX6_power_22 : decode cX6_power 22 = .ok (.lreturn, 1) := by decide +kernel
theorem dX6_greatestShared_0 : decode cX6_greatestShared 0 = .ok (.lload_n 2, 1) := by decide +kernel
theorem dX6_greatestShared_1 : decode cX6_greatestShared 1 = .ok (.lstore 4, 2) := by decide +kernel
theorem dX6_greatestShared_3 : decode cX6_greatestShared 3 = .ok (.lload_n 0, 1) := by decide +kernel
theorem dX6_greatestShared_4 : decode cX6_greatestShared 4 = .ok (.lstore 6, 2) := by decide +kernel
theorem dX6_greatestShared_6 : decode cX6_greatestShared 6 = .ok (.iconst 0, 1) := by decide +kernel
theorem dX6_greatestShared_7 : decode cX6_greatestShared 7 = .ok (.istore 8, 2) := by decide +kernel
theorem dX6_greatestShared_9 : decode cX6_greatestShared 9 = .ok (.iload 8, 2) := by decide +kernel
theorem dX6_greatestShared_11 : decode cX6_greatestShared 11 = .ok (.bipush 100, 2) := by decide +kernel
theorem dX6_greatestShared_13 : decode cX6_greatestShared 13 = .ok (.if_icmp .ge 31, 3) := by decide +kernel
theorem dX6_greatestShared_16 : decode cX6_greatestShared 16 = .ok (.lload 6, 2) := by decide +kernel
theorem dX6_greatestShared_18 : decode cX6_greatestShared 18 = .ok (.lconst 0, 1) := by decide +kernel
theorem dX6_greatestShared_19 : decode cX6_greatestShared 19 = .ok (.lcmp, 1) := by decide +kernel
theorem dX6_greatestShared_20 : decode cX6_greatestShared 20 = .ok (.ifCond .eq 24, 3) := by decide +kernel
theorem dX6_greatestShared_23 : decode cX6_greatestShared 23 = .ok (.lload 4, 2) := by decide +kernel
theorem dX6_greatestShared_25 : decode cX6_greatestShared 25 = .ok (.lload 6, 2) := by decide +kernel
theorem dX6_greatestShared_27 : decode cX6_greatestShared 27 = .ok (.lrem, 1) := by decide +kernel
theorem dX6_greatestShared_28 : decode cX6_greatestShared 28 = .ok (.lstore 9, 2) := by decide +kernel
theorem dX6_greatestShared_30 : decode cX6_greatestShared 30 = .ok (.lload 6, 2) := by decide +kernel
theorem dX6_greatestShared_32 : decode cX6_greatestShared 32 = .ok (.lstore 4, 2) := by decide +kernel
theorem dX6_greatestShared_34 : decode cX6_greatestShared 34 = .ok (.lload 9, 2) := by decide +kernel
theorem dX6_greatestShared_36 : decode cX6_greatestShared 36 = .ok (.lstore 6, 2) := by decide +kernel
theorem dX6_greatestShared_38 : decode cX6_greatestShared 38 = .ok (.iinc 8 1, 3) := by decide +kernel
theorem dX6_greatestShared_41 : decode cX6_greatestShared 41 = .ok (.goto (-32), 3) := by decide +kernel
theorem dX6_greatestShared_44 : decode cX6_greatestShared 44 = .ok (.lload 4, 2) := by decide +kernel
theorem dX6_greatestShared_46 : decode cX6_greatestShared 46 = .ok (.lreturn, 1) := by decide +kernel
theorem dX6_readNumbers_0 : decode cX6_readNumbers 0 = .ok (.iconst 0, 1) := by decide +kernel
theorem dX6_readNumbers_1 : decode cX6_readNumbers 1 = .ok (.istore 4, 2) := by decide +kernel
theorem dX6_readNumbers_3 : decode cX6_readNumbers 3 = .ok (.iload 4, 2) := by decide +kernel
theorem dX6_readNumbers_5 : decode cX6_readNumbers 5 = .ok (.aload_n 0, 1) := by decide +kernel
theorem dX6_readNumbers_6 : decode cX6_readNumbers 6 = .ok (.getfield 12, 3) := by decide +kernel
theorem dX6_readNumbers_9 : decode cX6_readNumbers 9 = .ok (.getfield 76, 3) := by decide +kernel
theorem dX6_readNumbers_12 : decode cX6_readNumbers 12 = .ok (.getfield 106, 3) := by decide +kernel
theorem dX6_readNumbers_15 : decode cX6_readNumbers 15 = .ok (.if_icmp .ge 41, 3) := by decide +kernel
theorem dX6_readNumbers_18 : decode cX6_readNumbers 18 = .ok (.aload_n 0, 1) := by decide +kernel
theorem dX6_readNumbers_19 : decode cX6_readNumbers 19 = .ok (.aload_n 1, 1) := by decide +kernel
theorem dX6_readNumbers_20 : decode cX6_readNumbers 20 = .ok (.getfield 246, 3) := by decide +kernel
theorem dX6_readNumbers_23 : decode cX6_readNumbers 23 = .ok (.iload_n 2, 1) := by decide +kernel
theorem dX6_readNumbers_24 : decode cX6_readNumbers 24 = .ok (.iload 4, 2) := by decide +kernel
theorem dX6_readNumbers_26 : decode cX6_readNumbers 26 = .ok (.iadd, 1) := by decide +kernel
theorem dX6_readNumbers_27 : decode cX6_readNumbers 27 = .ok (.laload, 1) := by decide +kernel
theorem dX6_readNumbers_28 : decode cX6_readNumbers 28 = .ok (.invokevirtual 144, 3) := by decide +kernel
theorem dX6_readNumbers_31 : decode cX6_readNumbers 31 = .ok (.ifCond .ne 5, 3) := by decide +kernel
theorem dX6_readNumbers_34 : decode cX6_readNumbers 34 = .ok (.iconst 0, 1) := by decide +kernel
theorem dX6_readNumbers_35 : decode cX6_readNumbers 35 = .ok (.ireturn, 1) := by decide +kernel
theorem dX6_readNumbers_36 : decode cX6_readNumbers 36 = .ok (.aload_n 3, 1) := by decide +kernel
theorem dX6_readNumbers_37 : decode cX6_readNumbers 37 = .ok (.iload 4, 2) := by decide +kernel
theorem dX6_readNumbers_39 : decode cX6_readNumbers 39 = .ok (.aload_n 1, 1) := by decide +kernel
theorem dX6_readNumbers_40 : decode cX6_readNumbers 40 = .ok (.getfield 246, 3) := by decide +kernel
theorem dX6_readNumbers_43 : decode cX6_readNumbers 43 = .ok (.iload_n 2, 1) := by decide +kernel
theorem dX6_readNumbers_44 : decode cX6_readNumbers 44 = .ok (.iload 4, 2) := by decide +kernel
theorem dX6_readNumbers_46 : decode cX6_readNumbers 46 = .ok (.iadd, 1) := by decide +kernel
theorem dX6_readNumbers_47 : decode cX6_readNumbers 47 = .ok (.laload, 1) := by decide +kernel
theorem dX6_readNumbers_48 : decode cX6_readNumbers 48 = .ok (.l2i, 1) := by decide +kernel
theorem dX6_readNumbers_49 : decode cX6_readNumbers 49 = .ok (.iastore, 1) := by decide +kernel
theorem dX6_readNumbers_50 : decode cX6_readNumbers 50 = .ok (.iinc 4 1, 3) := by decide +kernel
theorem dX6_readNumbers_53 : decode cX6_readNumbers 53 = .ok (.goto (-50), 3) := by decide +kernel
theorem dX6_readNumbers_56 : decode cX6_readNumbers 56 = .ok (.iconst 1, 1) := by decide +kernel
theorem dX6_readNumbers_57 : decode cX6_readNumbers 57 = .ok (.ireturn, 1) := by decide +kernel
theorem dX6_rowTimesGiven_0 : decode cX6_rowTimesGiven 0 = .ok (.iconst 0, 1) := by decide +kernel
theorem dX6_rowTimesGiven_1 : decode cX6_rowTimesGiven 1 = .ok (.istore_n 3, 1) := by decide +kernel
theorem dX6_rowTimesGiven_2 : decode cX6_rowTimesGiven 2 = .ok (.iconst 0, 1) := by decide +kernel
theorem dX6_rowTimesGiven_3 : decode cX6_rowTimesGiven 3 = .ok (.istore 4, 2) := by decide +kernel
theorem dX6_rowTimesGiven_5 : decode cX6_rowTimesGiven 5 = .ok (.iload 4, 2) := by decide +kernel
theorem dX6_rowTimesGiven_7 : decode cX6_rowTimesGiven 7 = .ok (.aload_n 0, 1) := by decide +kernel
theorem dX6_rowTimesGiven_8 : decode cX6_rowTimesGiven 8 = .ok (.getfield 12, 3) := by decide +kernel
theorem dX6_rowTimesGiven_11 : decode cX6_rowTimesGiven 11 = .ok (.getfield 76, 3) := by decide +kernel
theorem dX6_rowTimesGiven_14 : decode cX6_rowTimesGiven 14 = .ok (.getfield 106, 3) := by decide +kernel
theorem dX6_rowTimesGiven_17 : decode cX6_rowTimesGiven 17 = .ok (.if_icmp .ge 41, 3) := by decide +kernel
theorem dX6_rowTimesGiven_20 : decode cX6_rowTimesGiven 20 = .ok (.iload_n 3, 1) := by decide +kernel
theorem dX6_rowTimesGiven_21 : decode cX6_rowTimesGiven 21 = .ok (.aload_n 0, 1) := by decide +kernel
theorem dX6_rowTimesGiven_22 : decode cX6_rowTimesGiven 22 = .ok (.getfield 12, 3) := by decide +kernel
theorem dX6_rowTimesGiven_25 : decode cX6_rowTimesGiven 25 = .ok (.getfield 76, 3) := by decide +kernel
theorem dX6_rowTimesGiven_28 : decode cX6_rowTimesGiven 28 = .ok (.iload_n 1, 1) := by decide +kernel
theorem dX6_rowTimesGiven_29 : decode cX6_rowTimesGiven 29 = .ok (.iload_n 2, 1) := by decide +kernel
theorem dX6_rowTimesGiven_30 : decode cX6_rowTimesGiven 30 = .ok (.iload 4, 2) := by decide +kernel
theorem dX6_rowTimesGiven_32 : decode cX6_rowTimesGiven 32 = .ok (.aload_n 0, 1) := by decide +kernel
theorem dX6_rowTimesGiven_33 : decode cX6_rowTimesGiven 33 = .ok (.getfield 12, 3) := by decide +kernel
theorem dX6_rowTimesGiven_36 : decode cX6_rowTimesGiven 36 = .ok (.getfield 72, 3) := by decide +kernel
theorem dX6_rowTimesGiven_39 : decode cX6_rowTimesGiven 39 = .ok (.invokevirtual 124, 3) := by decide +kernel
theorem dX6_rowTimesGiven_42 : decode cX6_rowTimesGiven 42 = .ok (.aload_n 0, 1) := by decide +kernel
theorem dX6_rowTimesGiven_43 : decode cX6_rowTimesGiven 43 = .ok (.getfield 55, 3) := by decide +kernel
theorem dX6_rowTimesGiven_46 : decode cX6_rowTimesGiven 46 = .ok (.iload 4, 2) := by decide +kernel
theorem dX6_rowTimesGiven_48 : decode cX6_rowTimesGiven 48 = .ok (.iaload, 1) := by decide +kernel
theorem dX6_rowTimesGiven_49 : decode cX6_rowTimesGiven 49 = .ok (.imul, 1) := by decide +kernel
theorem dX6_rowTimesGiven_50 : decode cX6_rowTimesGiven 50 = .ok (.iadd, 1) := by decide +kernel
theorem dX6_rowTimesGiven_51 : decode cX6_rowTimesGiven 51 = .ok (.istore_n 3, 1) := by decide +kernel
theorem dX6_rowTimesGiven_52 : decode cX6_rowTimesGiven 52 = .ok (.iinc 4 1, 3) := by decide +kernel
theorem dX6_rowTimesGiven_55 : decode cX6_rowTimesGiven 55 = .ok (.goto (-50), 3) := by decide +kernel
theorem dX6_rowTimesGiven_58 : decode cX6_rowTimesGiven 58 = .ok (.iload_n 3, 1) := by decide +kernel
theorem dX6_rowTimesGiven_59 : decode cX6_rowTimesGiven 59 = .ok (.aload_n 0, 1) := by decide +kernel
theorem dX6_rowTimesGiven_60 : decode cX6_rowTimesGiven 60 = .ok (.getfield 12, 3) := by decide +kernel
theorem dX6_rowTimesGiven_63 : decode cX6_rowTimesGiven 63 = .ok (.getfield 72, 3) := by decide +kernel
theorem dX6_rowTimesGiven_66 : decode cX6_rowTimesGiven 66 = .ok (.irem, 1) := by decide +kernel
theorem dX6_rowTimesGiven_67 : decode cX6_rowTimesGiven 67 = .ok (.ireturn, 1) := by decide +kernel
theorem dX6_comesBy_0 : decode cX6_comesBy 0 = .ok (.iconst 0, 1) := by decide +kernel
theorem dX6_comesBy_1 : decode cX6_comesBy 1 = .ok (.istore_n 2, 1) := by decide +kernel
theorem dX6_comesBy_2 : decode cX6_comesBy 2 = .ok (.iload_n 2, 1) := by decide +kernel
theorem dX6_comesBy_3 : decode cX6_comesBy 3 = .ok (.aload_n 0, 1) := by decide +kernel
theorem dX6_comesBy_4 : decode cX6_comesBy 4 = .ok (.getfield 12, 3) := by decide +kernel
theorem dX6_comesBy_7 : decode cX6_comesBy 7 = .ok (.getfield 76, 3) := by decide +kernel
theorem dX6_comesBy_10 : decode cX6_comesBy 10 = .ok (.getfield 106, 3) := by decide +kernel
theorem dX6_comesBy_13 : decode cX6_comesBy 13 = .ok (.if_icmp .ge 26, 3) := by decide +kernel
theorem dX6_comesBy_16 : decode cX6_comesBy 16 = .ok (.aload_n 0, 1) := by decide +kernel
theorem dX6_comesBy_17 : decode cX6_comesBy 17 = .ok (.iload_n 1, 1) := by decide +kernel
theorem dX6_comesBy_18 : decode cX6_comesBy 18 = .ok (.iload_n 2, 1) := by decide +kernel
theorem dX6_comesBy_19 : decode cX6_comesBy 19 = .ok (.invokevirtual 250, 3) := by decide +kernel
theorem dX6_comesBy_22 : decode cX6_comesBy 22 = .ok (.aload_n 0, 1) := by decide +kernel
theorem dX6_comesBy_23 : decode cX6_comesBy 23 = .ok (.getfield 58, 3) := by decide +kernel
theorem dX6_comesBy_26 : decode cX6_comesBy 26 = .ok (.iload_n 2, 1) := by decide +kernel
theorem dX6_comesBy_27 : decode cX6_comesBy 27 = .ok (.iaload, 1) := by decide +kernel
theorem dX6_comesBy_28 : decode cX6_comesBy 28 = .ok (.if_icmp .eq 5, 3) := by decide +kernel
theorem dX6_comesBy_31 : decode cX6_comesBy 31 = .ok (.iconst 0, 1) := by decide +kernel
theorem dX6_comesBy_32 : decode cX6_comesBy 32 = .ok (.ireturn, 1) := by decide +kernel
theorem dX6_comesBy_33 : decode cX6_comesBy 33 = .ok (.iinc 2 1, 3) := by decide +kernel
theorem dX6_comesBy_36 : decode cX6_comesBy 36 = .ok (.goto (-34), 3) := by decide +kernel
theorem dX6_comesBy_39 : decode cX6_comesBy 39 = .ok (.iconst 1, 1) := by decide +kernel
theorem dX6_comesBy_40 : decode cX6_comesBy 40 = .ok (.ireturn, 1) := by decide +kernel
theorem dX6_lowestBits_0 : decode cX6_lowestBits 0 = .ok (.iload_n 0, 1) := by decide +kernel
theorem dX6_lowestBits_1 : decode cX6_lowestBits 1 = .ok (.tableswitch 41 0 2 #[27, 32, 37], 27) := by decide +kernel
theorem dX6_lowestBits_28 : decode cX6_lowestBits 28 = .ok (.lload_n 1, 1) := by decide +kernel
theorem dX6_lowestBits_29 : decode cX6_lowestBits 29 = .ok (.l2i, 1) := by decide +kernel
theorem dX6_lowestBits_30 : decode cX6_lowestBits 30 = .ok (.i2b, 1) := by decide +kernel
theorem dX6_lowestBits_31 : decode cX6_lowestBits 31 = .ok (.i2l, 1) := by decide +kernel
theorem dX6_lowestBits_32 : decode cX6_lowestBits 32 = .ok (.lreturn, 1) := by decide +kernel
theorem dX6_lowestBits_33 : decode cX6_lowestBits 33 = .ok (.lload_n 1, 1) := by decide +kernel
theorem dX6_lowestBits_34 : decode cX6_lowestBits 34 = .ok (.l2i, 1) := by decide +kernel
theorem dX6_lowestBits_35 : decode cX6_lowestBits 35 = .ok (.i2s, 1) := by decide +kernel
theorem dX6_lowestBits_36 : decode cX6_lowestBits 36 = .ok (.i2l, 1) := by decide +kernel
theorem dX6_lowestBits_37 : decode cX6_lowestBits 37 = .ok (.lreturn, 1) := by decide +kernel
theorem dX6_lowestBits_38 : decode cX6_lowestBits 38 = .ok (.lload_n 1, 1) := by decide +kernel
theorem dX6_lowestBits_39 : decode cX6_lowestBits 39 = .ok (.l2i, 1) := by decide +kernel
theorem dX6_lowestBits_40 : decode cX6_lowestBits 40 = .ok (.i2l, 1) := by decide +kernel
theorem dX6_lowestBits_41 : decode cX6_lowestBits 41 = .ok (.lreturn, 1) := by decide +kernel
theorem dX6_lowestBits_42 : decode cX6_lowestBits 42 = .ok (.lload_n 1, 1) := by decide +kernel
theorem dX6_lowestBits_43 : decode cX6_lowestBits 43 = .ok (.lreturn, 1) := by decide +kernel
end
section
theorem dX7_in_0 : decode cX7_in 0 = .ok (.lload_n 0, 1) := by decide +kernel
theorem dX7_in_1 : decode cX7_in 1 = .ok (.lload_n 2, 1) := by decide +kernel
theorem dX7_in_2 : decode cX7_in 2 = .ok (.lcmp, 1) := by decide +kernel
theorem dX7_in_3 : decode cX7_in 3 = .ok (.ifCond .lt 14, 3) := by decide +kernel
theorem dX7_in_6 : decode cX7_in 6 = .ok (.lload_n 0, 1) := by decide +kernel
theorem dX7_in_7 : decode cX7_in 7 = .ok (.lload 4, 2) := by decide +kernel
theorem dX7_in_9 : decode cX7_in 9 = .ok (.lcmp, 1) := by decide +kernel
theorem dX7_in_10 : decode cX7_in 10 = .ok (.ifCond .gt 7, 3) := by decide +kernel
theorem dX7_in_13 : decode cX7_in 13 = .ok (.iconst 1, 1) := by decide +kernel
theorem dX7_in_14 : decode cX7_in 14 = .ok (.goto 4, 3) := by decide +kernel
theorem dX7_in_17 : decode cX7_in 17 = .ok (.iconst 0, 1) := by decide +kernel
theorem dX7_in_18 : decode cX7_in 18 = .ok (.ireturn, 1) := by decide +kernel
theorem dX7_init_0 : decode cX7_init 0 = .ok (.aload_n 0, 1) := by decide +kernel
theorem dX7_init_1 : decode cX7_init 1 = .ok (.invokespecial 1, 3) := by decide +kernel
theorem dX7_init_4 : decode cX7_init 4 = .ok (.aload_n 0, 1) := by decide +kernel
theorem dX7_init_5 : decode cX7_init 5 = .ok (.bipush 21, 2) := by decide +kernel
theorem dX7_init_7 : decode cX7_init 7 = .ok (.newarray .int, 2) := by decide +kernel
theorem dX7_init_9 : decode cX7_init 9 = .ok (.putfield 7, 3) := by decide +kernel
theorem dX7_init_12 : decode cX7_init 12 = .ok (.aload_n 0, 1) := by decide +kernel
theorem dX7_init_13 : decode cX7_init 13 = .ok (.sipush 156, 3) := by decide +kernel
theorem dX7_init_16 : decode cX7_init 16 = .ok (.newarray .int, 2) := by decide +kernel
theorem dX7_init_18 : decode cX7_init 18 = .ok (.putfield 13, 3) := by decide +kernel
theorem dX7_init_21 : decode cX7_init 21 = .ok (.aload_n 0, 1) := by decide +kernel
theorem dX7_init_22 : decode cX7_init 22 = .ok (.bipush 12, 2) := by decide +kernel
theorem dX7_init_24 : decode cX7_init 24 = .ok (.newarray .int, 2) := by decide +kernel
theorem dX7_init_26 : decode cX7_init 26 = .ok (.putfield 16, 3) := by decide +kernel
theorem dX7_init_29 : decode cX7_init 29 = .ok (.aload_n 0, 1) := by decide +kernel
theorem dX7_init_30 : decode cX7_init 30 = .ok (.bipush 70, 2) := by decide +kernel
theorem dX7_init_32 : decode cX7_init 32 = .ok (.newarray .int, 2) := by decide +kernel
theorem dX7_init_34 : decode cX7_init 34 = .ok (.putfield 19, 3) := by decide +kernel
theorem dX7_init_37 : decode cX7_init 37 = .ok (.aload_n 0, 1) := by decide +kernel
theorem dX7_init_38 : decode cX7_init 38 = .ok (.bipush 17, 2) := by decide +kernel
theorem dX7_init_40 : decode cX7_init 40 = .ok (.newarray .int, 2) := by decide +kernel
theorem dX7_init_42 : decode cX7_init 42 = .ok (.putfield 22, 3) := by decide +kernel
theorem dX7_init_45 : decode cX7_init 45 = .ok (.aload_n 0, 1) := by decide +kernel
theorem dX7_init_46 : decode cX7_init 46 = .ok (.sipush 168, 3) := by decide +kernel
theorem dX7_init_49 : decode cX7_init 49 = .ok (.newarray .int, 2) := by decide +kernel
theorem dX7_init_51 : decode cX7_init 51 = .ok (.putfield 25, 3) := by decide +kernel
theorem dX7_init_54 : decode cX7_init 54 = .ok (.aload_n 0, 1) := by decide +kernel
theorem dX7_init_55 : decode cX7_init 55 = .ok (.bipush 12, 2) := by decide +kernel
theorem dX7_init_57 : decode cX7_init 57 = .ok (.newarray .int, 2) := by decide +kernel
theorem dX7_init_59 : decode cX7_init 59 = .ok (.putfield 28, 3) := by decide +kernel
theorem dX7_init_62 : decode cX7_init 62 = .ok (.aload_n 0, 1) := by decide +kernel
theorem dX7_init_63 : decode cX7_init 63 = .ok (.bipush 32, 2) := by decide +kernel
theorem dX7_init_65 : decode cX7_init 65 = .ok (.newarray .int, 2) := by decide +kernel
theorem dX7_init_67 : decode cX7_init 67 = .ok (.putfield 31, 3) := by decide +kernel
theorem dX7_init_70 : decode cX7_init 70 = .ok (.aload_n 0, 1) := by decide +kernel
theorem dX7_init_71 : decode cX7_init 71 = .ok (.bipush 21, 2) := by decide +kernel
theorem dX7_init_73 : decode cX7_init 73 = .ok (.newarray .int, 2) := by decide +kernel
theorem dX7_init_75 : decode cX7_init 75 = .ok (.putfield 34, 3) := by decide +kernel
theorem dX7_init_78 : decode cX7_init 78 = .ok (.aload_n 0, 1) := by decide +kernel
theorem dX7_init_79 : decode cX7_init 79 = .ok (.sipush 168, 3) := by decide +kernel
theorem dX7_init_82 : decode cX7_init 82 = .ok (.newarray .int, 2) := by decide +kernel
theorem dX7_init_84 : decode cX7_init 84 = .ok (.putfield 37, 3) := by decide +kernel
theorem dX7_init_87 : decode cX7_init 87 = .ok (.aload_n 0, 1) := by decide +kernel
theorem dX7_init_88 : decode cX7_init 88 = .ok (.iconst (-1), 1) := by decide +kernel
theorem dX7_init_89 : decode cX7_init 89 = .ok (.putfield 40, 3) := by decide +kernel
theorem dX7_init_92 : decode cX7_init 92 = .ok (.aload_n 0, 1) := by decide +kernel
theorem dX7_init_93 : decode cX7_init 93 = .ok (.iconst 4, 1) := by decide +kernel
theorem dX7_init_94 : decode cX7_init 94 = .ok (.newarray .int, 2) := by decide +kernel
theorem dX7_init_96 : decode cX7_init 96 = .ok (.putfield 44, 3) := by decide +kernel
theorem dX7_init_99 : decode cX7_init 99 = .ok (.aload_n 0, 1) := by decide +kernel
theorem dX7_init_100 : decode cX7_init 100 = .ok (.iconst 4, 1) := by decide +kernel
theorem dX7_init_101 : decode cX7_init 101 = .ok (.newarray .int, 2) := by decide +kernel
theorem dX7_init_103 : decode cX7_init 103 = .ok (.putfield 47, 3) := by decide +kernel
theorem dX7_init_106 : decode cX7_init 106 = .ok (.aload_n 0, 1) := by decide +kernel
theorem dX7_init_107 : decode cX7_init 107 = .ok (.bipush 96, 2) := by decide +kernel
theorem dX7_init_109 : decode cX7_init 109 = .ok (.newarray .long, 2) := by decide +kernel
theorem dX7_init_111 : decode cX7_init 111 = .ok (.putfield 50, 3) := by decide +kernel
theorem dX7_init_114 : decode cX7_init 114 = .ok (.aload_n 0, 1) := by decide +kernel
theorem dX7_init_115 : decode cX7_init 115 = .ok (.bipush 24, 2) := by decide +kernel
theorem dX7_init_117 : decode cX7_init 117 = .ok (.newarray .long, 2) := by decide +kernel
theorem dX7_init_119 : decode cX7_init 119 = .ok (.putfield 54, 3) := by decide +kernel
theorem dX7_init_122 : decode cX7_init 122 = .ok (.aload_n 0, 1) := by decide +kernel
theorem dX7_init_123 : decode cX7_init 123 = .ok (.getfield 7, 3) := by decide +kernel
theorem dX7_init_126 : decode cX7_init 126 = .ok (.iconst 0, 1) := by decide +kernel
theorem dX7_init_127 : decode cX7_init 127 = .ok (.iconst 1, 1) := by decide +kernel
theorem dX7_init_128 : decode cX7_init 128 = .ok (.iastore, 1) := by decide +kernel
theorem dX7_init_129 : decode cX7_init 129 = .ok (.aload_n 0, 1) := by decide +kernel
theorem dX7_init_130 : decode cX7_init 130 = .ok (.getfield 7, 3) := by decide +kernel
theorem dX7_init_133 : decode cX7_init 133 = .ok (.iconst 2, 1) := by decide +kernel
theorem dX7_init_134 : decode cX7_init 134 = .ok (.bipush 7, 2) := by decide +kernel
theorem dX7_init_136 : decode cX7_init 136 = .ok (.iastore, 1) := by decide +kernel
theorem dX7_init_137 : decode cX7_init 137 = .ok (.aload_n 0, 1) := by decide +kernel
theorem dX7_init_138 : decode cX7_init 138 = .ok (.getfield 7, 3) := by decide +kernel
theorem dX7_init_141 : decode cX7_init 141 = .ok (.iconst 3, 1) := by decide +kernel
theorem dX7_init_142 : decode cX7_init 142 = .ok (.iconst 1, 1) := by decide +kernel
theorem dX7_init_143 : decode cX7_init 143 = .ok (.iastore, 1) := by decide +kernel
theorem dX7_init_144 : decode cX7_init 144 = .ok (.iconst 0, 1) := by decide +kernel
theorem dX7_init_145 : decode cX7_init 145 = .ok (.istore_n 1, 1) := by decide +kernel
theorem dX7_init_146 : decode cX7_init 146 = .ok (.iload_n 1, 1) := by decide +kernel
theorem dX7_init_147 : decode cX7_init 147 = .ok (.iconst 4, 1) := by decide +kernel
theorem dX7_init_148 : decode cX7_init 148 = .ok (.if_icmp .ge 16, 3) := by decide +kernel
theorem dX7_init_151 : decode cX7_init 151 = .ok (.aload_n 0, 1) := by decide +kernel
theorem dX7_init_152 : decode cX7_init 152 = .ok (.getfield 44, 3) := by decide +kernel
theorem dX7_init_155 : decode cX7_init 155 = .ok (.iload_n 1, 1) := by decide +kernel
theorem dX7_init_156 : decode cX7_init 156 = .ok (.iconst (-1), 1) := by decide +kernel
theorem dX7_init_157 : decode cX7_init 157 = .ok (.iastore, 1) := by decide +kernel
theorem dX7_init_158 : decode cX7_init 158 = .ok (.iinc 1 1, 3) := by decide +kernel
theorem dX7_init_161 : decode cX7_init 161 = .ok (.goto (-15), 3) := by decide +kernel
theorem dX7_init_164 : decode cX7_init 164 = .ok (.return_, 1) := by decide +kernel
theorem dX7_lines_0 : decode cX7_lines 0 = .ok (.iconst 2, 1) := by decide +kernel
theorem dX7_lines_1 : decode cX7_lines 1 = .ok (.aload_n 0, 1) := by decide +kernel
theorem dX7_lines_2 : decode cX7_lines 2 = .ok (.getfield 7, 3) := by decide +kernel
theorem dX7_lines_5 : decode cX7_lines 5 = .ok (.iconst 0, 1) := by decide +kernel
theorem dX7_lines_6 : decode cX7_lines 6 = .ok (.iaload, 1) := by decide +kernel
theorem dX7_lines_7 : decode cX7_lines 7 = .ok (.imul, 1) := by decide +kernel
theorem dX7_lines_8 : decode cX7_lines 8 = .ok (.iconst 1, 1) := by decide +kernel
theorem dX7_lines_9 : decode cX7_lines 9 = .ok (.isub, 1) := by decide +kernel
theorem dX7_lines_10 : decode cX7_lines 10 = .ok (.ireturn, 1) := by decide +kernel
theorem dX7_isNumber_0 : decode cX7_isNumber 0 = .ok (.lload_n 1, 1) := by decide +kernel
theorem dX7_isNumber_1 : decode cX7_isNumber 1 = .ok (.lconst 0, 1) := by decide +kernel
theorem dX7_isNumber_2 : decode cX7_isNumber 2 = .ok (.aload_n 0, 1) := by decide +kernel
theorem dX7_isNumber_3 : decode cX7_isNumber 3 = .ok (.getfield 7, 3) := by decide +kernel
theorem dX7_isNumber_6 : decode cX7_isNumber 6 = .ok (.iconst 2, 1) := by decide +kernel
theorem dX7_isNumber_7 : decode cX7_isNumber 7 = .ok (.iaload, 1) := by decide +kernel
theorem dX7_isNumber_8 : decode cX7_isNumber 8 = .ok (.iconst 1, 1) := by decide +kernel
theorem dX7_isNumber_9 : decode cX7_isNumber 9 = .ok (.isub, 1) := by decide +kernel
theorem dX7_isNumber_10 : decode cX7_isNumber 10 = .ok (.i2l, 1) := by decide +kernel
theorem dX7_isNumber_11 : decode cX7_isNumber 11 = .ok (.invokestatic 57, 3) := by decide +kernel
theorem dX7_isNumber_14 : decode cX7_isNumber 14 = .ok (.ireturn, 1) := by decide +kernel
theorem dX7_isLine_0 : decode cX7_isLine 0 = .ok (.iload_n 1, 1) := by decide +kernel
theorem dX7_isLine_1 : decode cX7_isLine 1 = .ok (.i2l, 1) := by decide +kernel
theorem dX7_isLine_2 : decode cX7_isLine 2 = .ok (.lconst 0, 1) := by decide +kernel
theorem dX7_isLine_3 : decode cX7_isLine 3 = .ok (.aload_n 0, 1) := by decide +kernel
theorem dX7_isLine_4 : decode cX7_isLine 4 = .ok (.invokevirtual 61, 3) := by decide +kernel
theorem dX7_isLine_7 : decode cX7_isLine 7 = .ok (.iconst 1, 1) := by decide +kernel
theorem dX7_isLine_8 : decode cX7_isLine 8 = .ok (.isub, 1) := by decide +kernel
theorem dX7_isLine_9 : decode cX7_isLine 9 = .ok (.i2l, 1) := by decide +kernel
theorem dX7_isLine_10 : decode cX7_isLine 10 = .ok (.invokestatic 57, 3) := by decide +kernel
theorem dX7_isLine_13 : decode cX7_isLine 13 = .ok (.ireturn, 1) := by decide +kernel
theorem dX7_isRow_0 : decode cX7_isRow 0 = .ok (.iload_n 1, 1) := by decide +kernel
theorem dX7_isRow_1 : decode cX7_isRow 1 = .ok (.i2l, 1) := by decide +kernel
theorem dX7_isRow_2 : decode cX7_isRow 2 = .ok (.lconst 0, 1) := by decide +kernel
theorem dX7_isRow_3 : decode cX7_isRow 3 = .ok (.aload_n 0, 1) := by decide +kernel
theorem dX7_isRow_4 : decode cX7_isRow 4 = .ok (.getfield 7, 3) := by decide +kernel
theorem dX7_isRow_7 : decode cX7_isRow 7 = .ok (.iconst 0, 1) := by decide +kernel
theorem dX7_isRow_8 : decode cX7_isRow 8 = .ok (.iaload, 1) := by decide +kernel
theorem dX7_isRow_9 : decode cX7_isRow 9 = .ok (.iconst 1, 1) := by decide +kernel
theorem dX7_isRow_10 : decode cX7_isRow 10 = .ok (.isub, 1) := by decide +kernel
theorem dX7_isRow_11 : decode cX7_isRow 11 = .ok (.i2l, 1) := by decide +kernel
theorem dX7_isRow_12 : decode cX7_isRow 12 = .ok (.invokestatic 57, 3) := by decide +kernel
theorem dX7_isRow_15 : decode cX7_isRow 15 = .ok (.ireturn, 1) := by decide +kernel
theorem dX7_entryBy_0 : decode cX7_entryBy 0 = .ok (.aload_n 0, 1) := by decide +kernel
theorem dX7_entryBy_1 : decode cX7_entryBy 1 = .ok (.getfield 7, 3) := by decide +kernel
theorem dX7_entryBy_4 : decode cX7_entryBy 4 = .ok (.iconst 0, 1) := by decide +kernel
theorem dX7_entryBy_5 : decode cX7_entryBy 5 = .ok (.iaload, 1) := by decide +kernel
theorem dX7_entryBy_6 : decode cX7_entryBy 6 = .ok (.istore 4, 2) := by decide +kernel
theorem dX7_entryBy_8 : decode cX7_entryBy 8 = .ok (.iconst 4, 1) := by decide +kernel
theorem dX7_entryBy_9 : decode cX7_entryBy 9 = .ok (.iload 4, 2) := by decide +kernel
theorem dX7_entryBy_11 : decode cX7_entryBy 11 = .ok (.iadd, 1) := by decide +kernel
theorem dX7_entryBy_12 : decode cX7_entryBy 12 = .ok (.iconst 1, 1) := by decide +kernel
theorem dX7_entryBy_13 : decode cX7_entryBy 13 = .ok (.isub, 1) := by decide +kernel
theorem dX7_entryBy_14 : decode cX7_entryBy 14 = .ok (.istore 5, 2) := by decide +kernel
theorem dX7_entryBy_16 : decode cX7_entryBy 16 = .ok (.iload_n 2, 1) := by decide +kernel
theorem dX7_entryBy_17 : decode cX7_entryBy 17 = .ok (.iload_n 3, 1) := by decide +kernel
theorem dX7_entryBy_18 : decode cX7_entryBy 18 = .ok (.if_icmp .ge 9, 3) := by decide +kernel
theorem dX7_entryBy_21 : decode cX7_entryBy 21 = .ok (.iload_n 3, 1) := by decide +kernel
theorem dX7_entryBy_22 : decode cX7_entryBy 22 = .ok (.iload_n 2, 1) := by decide +kernel
theorem dX7_entryBy_23 : decode cX7_entryBy 23 = .ok (.isub, 1) := by decide +kernel
theorem dX7_entryBy_24 : decode cX7_entryBy 24 = .ok (.goto 6, 3) := by decide +kernel
theorem dX7_entryBy_27 : decode cX7_entryBy 27 = .ok (.iload_n 2, 1) := by decide +kernel
theorem dX7_entryBy_28 : decode cX7_entryBy 28 = .ok (.iload_n 3, 1) := by decide +kernel
theorem dX7_entryBy_29 : decode cX7_entryBy 29 = .ok (.isub, 1) := by decide +kernel
theorem dX7_entryBy_30 : decode cX7_entryBy 30 = .ok (.istore 6, 2) := by decide +kernel
theorem dX7_entryBy_32 : decode cX7_entryBy 32 = .ok (.iload_n 1, 1) := by decide +kernel
theorem dX7_entryBy_33 : decode cX7_entryBy 33 = .ok (.tableswitch 89 0 3 #[31, 43, 60, 71], 31) := by decide +kernel
theorem dX7_entryBy_64 : decode cX7_entryBy 64 = .ok (.aload_n 0, 1) := by decide +kernel
theorem dX7_entryBy_65 : decode cX7_entryBy 65 = .ok (.getfield 7, 3) := by decide +kernel
theorem dX7_entryBy_68 : decode cX7_entryBy 68 = .ok (.iload 5, 2) := by decide +kernel
theorem dX7_entryBy_70 : decode cX7_entryBy 70 = .ok (.iload_n 2, 1) := by decide +kernel
theorem dX7_entryBy_71 : decode cX7_entryBy 71 = .ok (.iadd, 1) := by decide +kernel
theorem dX7_entryBy_72 : decode cX7_entryBy 72 = .ok (.iload_n 3, 1) := by decide +kernel
theorem dX7_entryBy_73 : decode cX7_entryBy 73 = .ok (.isub, 1) := by decide +kernel
theorem dX7_entryBy_74 : decode cX7_entryBy 74 = .ok (.iaload, 1) := by decide +kernel
theorem dX7_entryBy_75 : decode cX7_entryBy 75 = .ok (.ireturn, 1) := by decide +kernel
theorem dX7_entryBy_76 : decode cX7_entryBy 76 = .ok (.aload_n 0, 1) := by decide +kernel
theorem dX7_entryBy_77 : decode cX7_entryBy 77 = .ok (.getfield 7, 3) := by decide +kernel
theorem dX7_entryBy_80 : decode cX7_entryBy 80 = .ok (.iload 5, 2) := by decide +kernel
theorem dX7_entryBy_82 : decode cX7_entryBy 82 = .ok (.iload_n 2, 1) := by decide +kernel
theorem dX7_entryBy_83 : decode cX7_entryBy 83 = .ok (.iadd, 1) := by decide +kernel
theorem dX7_entryBy_84 : decode cX7_entryBy 84 = .ok (.iload 4, 2) := by decide +kernel
theorem dX7_entryBy_86 : decode cX7_entryBy 86 = .ok (.iconst 1, 1) := by decide +kernel
theorem dX7_entryBy_87 : decode cX7_entryBy 87 = .ok (.isub, 1) := by decide +kernel
theorem dX7_entryBy_88 : decode cX7_entryBy 88 = .ok (.iload_n 3, 1) := by decide +kernel
theorem dX7_entryBy_89 : decode cX7_entryBy 89 = .ok (.isub, 1) := by decide +kernel
theorem dX7_entryBy_90 : decode cX7_entryBy 90 = .ok (.isub, 1) := by decide +kernel
theorem dX7_entryBy_91 : decode cX7_entryBy 91 = .ok (.iaload, 1) := by decide +kernel
theorem dX7_entryBy_92 : decode cX7_entryBy 92 = .ok (.ireturn, 1) := by decide +kernel
theorem dX7_entryBy_93 : decode cX7_entryBy 93 = .ok (.aload_n 0, 1) := by decide +kernel
theorem dX7_entryBy_94 : decode cX7_entryBy 94 = .ok (.getfield 7, 3) := by decide +kernel
theorem dX7_entryBy_97 : decode cX7_entryBy 97 = .ok (.iload 5, 2) := by decide +kernel
theorem dX7_entryBy_99 : decode cX7_entryBy 99 = .ok (.iload 6, 2) := by decide +kernel
theorem dX7_entryBy_101 : decode cX7_entryBy 101 = .ok (.iadd, 1) := by decide +kernel
theorem dX7_entryBy_102 : decode cX7_entryBy 102 = .ok (.iaload, 1) := by decide +kernel
theorem dX7_entryBy_103 : decode cX7_entryBy 103 = .ok (.ireturn, 1) := by decide +kernel
theorem dX7_entryBy_104 : decode cX7_entryBy 104 = .ok (.aload_n 0, 1) := by decide +kernel
theorem dX7_entryBy_105 : decode cX7_entryBy 105 = .ok (.getfield 7, 3) := by decide +kernel
theorem dX7_entryBy_108 : decode cX7_entryBy 108 = .ok (.iload 5, 2) := by decide +kernel
theorem dX7_entryBy_110 : decode cX7_entryBy 110 = .ok (.iload_n 2, 1) := by decide +kernel
theorem dX7_entryBy_111 : decode cX7_entryBy 111 = .ok (.iload_n 3, 1) := by decide +kernel
theorem dX7_entryBy_112 : decode cX7_entryBy 112 = .ok (.isub, 1) := by decide +kernel
theorem dX7_entryBy_113 : decode cX7_entryBy 113 = .ok (.iload 4, 2) := by decide +kernel
theorem dX7_entryBy_115 : decode cX7_entryBy 115 = .ok (.iadd, 1) := by decide +kernel
theorem dX7_entryBy_116 : decode cX7_entryBy 116 = .ok (.iload 4, 2) := by decide +kernel
theorem dX7_entryBy_118 : decode cX7_entryBy 118 = .ok (.irem, 1) := by decide +kernel
theorem dX7_entryBy_119 : decode cX7_entryBy 119 = .ok (.iadd, 1) := by decide +kernel
theorem dX7_entryBy_120 : decode cX7_entryBy 120 = .ok (.iaload, 1) := by decide +kernel
theorem dX7_entryBy_121 : decode cX7_entryBy 121 = .ok (.ireturn, 1) := by decide +kernel
theorem dX7_entryBy_122 : decode cX7_entryBy 122 = .ok (.iload_n 2, 1) := by decide +kernel
theorem dX7_entryBy_123 : decode cX7_entryBy 123 = .ok (.iload_n 3, 1) := by decide +kernel
theorem dX7_entryBy_124 : decode cX7_entryBy 124 = .ok (.if_icmp .ge 30, 3) := by decide +kernel
theorem dX7_entryBy_127 : decode cX7_entryBy 127 = .ok (.aload_n 0, 1) := by decide +kernel
theorem dX7_entryBy_128 : decode cX7_entryBy 128 = .ok (.getfield 7, 3) := by decide +kernel
theorem dX7_entryBy_131 : decode cX7_entryBy 131 = .ok (.iconst 2, 1) := by decide +kernel
theorem dX7_entryBy_132 : decode cX7_entryBy 132 = .ok (.iaload, 1) := by decide +kernel
theorem dX7_entryBy_133 : decode cX7_entryBy 133 = .ok (.aload_n 0, 1) := by decide +kernel
theorem dX7_entryBy_134 : decode cX7_entryBy 134 = .ok (.getfield 7, 3) := by decide +kernel
theorem dX7_entryBy_137 : decode cX7_entryBy 137 = .ok (.iload 5, 2) := by decide +kernel
theorem dX7_entryBy_139 : decode cX7_entryBy 139 = .ok (.iload 6, 2) := by decide +kernel
theorem dX7_entryBy_141 : decode cX7_entryBy 141 = .ok (.iadd, 1) := by decide +kernel
theorem dX7_entryBy_142 : decode cX7_entryBy 142 = .ok (.iaload, 1) := by decide +kernel
theorem dX7_entryBy_143 : decode cX7_entryBy 143 = .ok (.isub, 1) := by decide +kernel
theorem dX7_entryBy_144 : decode cX7_entryBy 144 = .ok (.aload_n 0, 1) := by decide +kernel
theorem dX7_entryBy_145 : decode cX7_entryBy 145 = .ok (.getfield 7, 3) := by decide +kernel
theorem dX7_entryBy_148 : decode cX7_entryBy 148 = .ok (.iconst 2, 1) := by decide +kernel
theorem dX7_entryBy_149 : decode cX7_entryBy 149 = .ok (.iaload, 1) := by decide +kernel
theorem dX7_entryBy_150 : decode cX7_entryBy 150 = .ok (.irem, 1) := by decide +kernel
theorem dX7_entryBy_151 : decode cX7_entryBy 151 = .ok (.goto 13, 3) := by decide +kernel
theorem dX7_entryBy_154 : decode cX7_entryBy 154 = .ok (.aload_n 0, 1) := by decide +kernel
theorem dX7_entryBy_155 : decode cX7_entryBy 155 = .ok (.getfield 7, 3) := by decide +kernel
theorem dX7_entryBy_158 : decode cX7_entryBy 158 = .ok (.iload 5, 2) := by decide +kernel
theorem dX7_entryBy_160 : decode cX7_entryBy 160 = .ok (.iload 6, 2) := by decide +kernel
theorem dX7_entryBy_162 : decode cX7_entryBy 162 = .ok (.iadd, 1) := by decide +kernel
theorem dX7_entryBy_163 : decode cX7_entryBy 163 = .ok (.iaload, 1) := by decide +kernel
theorem dX7_entryBy_164 : decode cX7_entryBy 164 = .ok (.ireturn, 1) := by decide +kernel
theorem dX7_inverseOf_0 : decode cX7_inverseOf 0 = .ok (.iconst 1, 1) := by decide +kernel
theorem dX7_inverseOf_1 : decode cX7_inverseOf 1 = .ok (.istore_n 2, 1) := by decide +kernel
theorem dX7_inverseOf_2 : decode cX7_inverseOf 2 = .ok (.iload_n 1, 1) := by decide +kernel
theorem dX7_inverseOf_3 : decode cX7_inverseOf 3 = .ok (.iload_n 2, 1) := by decide +kernel
theorem dX7_inverseOf_4 : decode cX7_inverseOf 4 = .ok (.imul, 1) := by decide +kernel
theorem dX7_inverseOf_5 : decode cX7_inverseOf 5 = .ok (.aload_n 0, 1) := by decide +kernel
theorem dX7_inverseOf_6 : decode cX7_inverseOf 6 = .ok (.getfield 7, 3) := by decide +kernel
theorem dX7_inverseOf_9 : decode cX7_inverseOf 9 = .ok (.iconst 2, 1) := by decide +kernel
theorem dX7_inverseOf_10 : decode cX7_inverseOf 10 = .ok (.iaload, 1) := by decide +kernel
theorem dX7_inverseOf_11 : decode cX7_inverseOf 11 = .ok (.irem, 1) := by decide +kernel
theorem dX7_inverseOf_12 : decode cX7_inverseOf 12 = .ok (.iconst 1, 1) := by decide +kernel
theorem dX7_inverseOf_13 : decode cX7_inverseOf 13 = .ok (.if_icmp .eq 9, 3) := by decide +kernel
theorem dX7_inverseOf_16 : decode cX7_inverseOf 16 = .ok (.iinc 2 1, 3) := by decide +kernel
theorem dX7_inverseOf_19 : decode cX7_inverseOf 19 = .ok (.goto (-17), 3) := by decide +kernel
theorem dX7_inverseOf_22 : decode cX7_inverseOf 22 = .ok (.iload_n 2, 1) := by decide +kernel
theorem dX7_inverseOf_23 : decode cX7_inverseOf 23 = .ok (.ireturn, 1) := by decide +kernel
theorem dX7_swaps_0 : decode cX7_swaps 0 = .ok (.iconst 0, 1) := by decide +kernel
theorem dX7_swaps_1 : decode cX7_swaps 1 = .ok (.istore_n 3, 1) := by decide +kernel
theorem dX7_swaps_2 : decode cX7_swaps 2 = .ok (.iload_n 3, 1) := by decide +kernel
theorem dX7_swaps_3 : decode cX7_swaps 3 = .ok (.bipush 13, 2) := by decide +kernel
theorem dX7_swaps_5 : decode cX7_swaps 5 = .ok (.if_icmp .ge 57, 3) := by decide +kernel
theorem dX7_swaps_8 : decode cX7_swaps 8 = .ok (.aload_n 0, 1) := by decide +kernel
theorem dX7_swaps_9 : decode cX7_swaps 9 = .ok (.getfield 13, 3) := by decide +kernel
theorem dX7_swaps_12 : decode cX7_swaps 12 = .ok (.bipush 13, 2) := by decide +kernel
theorem dX7_swaps_14 : decode cX7_swaps 14 = .ok (.iload_n 1, 1) := by decide +kernel
theorem dX7_swaps_15 : decode cX7_swaps 15 = .ok (.imul, 1) := by decide +kernel
theorem dX7_swaps_16 : decode cX7_swaps 16 = .ok (.iload_n 3, 1) := by decide +kernel
theorem dX7_swaps_17 : decode cX7_swaps 17 = .ok (.iadd, 1) := by decide +kernel
theorem dX7_swaps_18 : decode cX7_swaps 18 = .ok (.iaload, 1) := by decide +kernel
theorem dX7_swaps_19 : decode cX7_swaps 19 = .ok (.istore 4, 2) := by decide +kernel
theorem dX7_swaps_21 : decode cX7_swaps 21 = .ok (.aload_n 0, 1) := by decide +kernel
theorem dX7_swaps_22 : decode cX7_swaps 22 = .ok (.getfield 13, 3) := by decide +kernel
theorem dX7_swaps_25 : decode cX7_swaps 25 = .ok (.bipush 13, 2) := by decide +kernel
theorem dX7_swaps_27 : decode cX7_swaps 27 = .ok (.iload_n 1, 1) := by decide +kernel
theorem dX7_swaps_28 : decode cX7_swaps 28 = .ok (.imul, 1) := by decide +kernel
theorem dX7_swaps_29 : decode cX7_swaps 29 = .ok (.iload_n 3, 1) := by decide +kernel
theorem dX7_swaps_30 : decode cX7_swaps 30 = .ok (.iadd, 1) := by decide +kernel
theorem dX7_swaps_31 : decode cX7_swaps 31 = .ok (.aload_n 0, 1) := by decide +kernel
theorem dX7_swaps_32 : decode cX7_swaps 32 = .ok (.getfield 13, 3) := by decide +kernel
theorem dX7_swaps_35 : decode cX7_swaps 35 = .ok (.bipush 13, 2) := by decide +kernel
theorem dX7_swaps_37 : decode cX7_swaps 37 = .ok (.iload_n 2, 1) := by decide +kernel
theorem dX7_swaps_38 : decode cX7_swaps 38 = .ok (.imul, 1) := by decide +kernel
theorem dX7_swaps_39 : decode cX7_swaps 39 = .ok (.iload_n 3, 1) := by decide +kernel
theorem dX7_swaps_40 : decode cX7_swaps 40 = .ok (.iadd, 1) := by decide +kernel
theorem dX7_swaps_41 : decode cX7_swaps 41 = .ok (.iaload, 1) := by decide +kernel
theorem dX7_swaps_42 : decode cX7_swaps 42 = .ok (.iastore, 1) := by decide +kernel
theorem dX7_swaps_43 : decode cX7_swaps 43 = .ok (.aload_n 0, 1) := by decide +kernel
theorem dX7_swaps_44 : decode cX7_swaps 44 = .ok (.getfield 13, 3) := by decide +kernel
theorem dX7_swaps_47 : decode cX7_swaps 47 = .ok (.bipush 13, 2) := by decide +kernel
theorem dX7_swaps_49 : decode cX7_swaps 49 = .ok (.iload_n 2, 1) := by decide +kernel
theorem dX7_swaps_50 : decode cX7_swaps 50 = .ok (.imul, 1) := by decide +kernel
theorem dX7_swaps_51 : decode cX7_swaps 51 = .ok (.iload_n 3, 1) := by decide +kernel
theorem dX7_swaps_52 : decode cX7_swaps 52 = .ok (.iadd, 1) := by decide +kernel
theorem dX7_swaps_53 : decode cX7_swaps 53 = .ok (.iload 4, 2) := by decide +kernel
theorem dX7_swaps_55 : decode cX7_swaps 55 = .ok (.iastore, 1) := by decide +kernel
theorem dX7_swaps_56 : decode cX7_swaps 56 = .ok (.iinc 3 1, 3) := by decide +kernel
theorem dX7_swaps_59 : decode cX7_swaps 59 = .ok (.goto (-57), 3) := by decide +kernel
theorem dX7_swaps_62 : decode cX7_swaps 62 = .ok (.return_, 1) := by decide +kernel
theorem dX7_multiplies_0 : decode cX7_multiplies 0 = .ok (.iconst 0, 1) := by decide +kernel
theorem dX7_multiplies_1 : decode cX7_multiplies 1 = .ok (.istore_n 3, 1) := by decide +kernel
theorem dX7_multiplies_2 : decode cX7_multiplies 2 = .ok (.iload_n 3, 1) := by decide +kernel
theorem dX7_multiplies_3 : decode cX7_multiplies 3 = .ok (.bipush 13, 2) := by decide +kernel
theorem dX7_multiplies_5 : decode cX7_multiplies 5 = .ok (.if_icmp .ge 40, 3) := by decide +kernel
theorem dX7_multiplies_8 : decode cX7_multiplies 8 = .ok (.aload_n 0, 1) := by decide +kernel
theorem dX7_multiplies_9 : decode cX7_multiplies 9 = .ok (.getfield 13, 3) := by decide +kernel
theorem dX7_multiplies_12 : decode cX7_multiplies 12 = .ok (.bipush 13, 2) := by decide +kernel
theorem dX7_multiplies_14 : decode cX7_multiplies 14 = .ok (.iload_n 1, 1) := by decide +kernel
theorem dX7_multiplies_15 : decode cX7_multiplies 15 = .ok (.imul, 1) := by decide +kernel
theorem dX7_multiplies_16 : decode cX7_multiplies 16 = .ok (.iload_n 3, 1) := by decide +kernel
theorem dX7_multiplies_17 : decode cX7_multiplies 17 = .ok (.iadd, 1) := by decide +kernel
theorem dX7_multiplies_18 : decode cX7_multiplies 18 = .ok (.aload_n 0, 1) := by decide +kernel
theorem dX7_multiplies_19 : decode cX7_multiplies 19 = .ok (.getfield 13, 3) := by decide +kernel
theorem dX7_multiplies_22 : decode cX7_multiplies 22 = .ok (.bipush 13, 2) := by decide +kernel
theorem dX7_multiplies_24 : decode cX7_multiplies 24 = .ok (.iload_n 1, 1) := by decide +kernel
theorem dX7_multiplies_25 : decode cX7_multiplies 25 = .ok (.imul, 1) := by decide +kernel
theorem dX7_multiplies_26 : decode cX7_multiplies 26 = .ok (.iload_n 3, 1) := by decide +kernel
theorem dX7_multiplies_27 : decode cX7_multiplies 27 = .ok (.iadd, 1) := by decide +kernel
theorem dX7_multiplies_28 : decode cX7_multiplies 28 = .ok (.iaload, 1) := by decide +kernel
theorem dX7_multiplies_29 : decode cX7_multiplies 29 = .ok (.iload_n 2, 1) := by decide +kernel
theorem dX7_multiplies_30 : decode cX7_multiplies 30 = .ok (.imul, 1) := by decide +kernel
theorem dX7_multiplies_31 : decode cX7_multiplies 31 = .ok (.aload_n 0, 1) := by decide +kernel
theorem dX7_multiplies_32 : decode cX7_multiplies 32 = .ok (.getfield 7, 3) := by decide +kernel
theorem dX7_multiplies_35 : decode cX7_multiplies 35 = .ok (.iconst 2, 1) := by decide +kernel
theorem dX7_multiplies_36 : decode cX7_multiplies 36 = .ok (.iaload, 1) := by decide +kernel
theorem dX7_multiplies_37 : decode cX7_multiplies 37 = .ok (.irem, 1) := by decide +kernel
theorem dX7_multiplies_38 : decode cX7_multiplies 38 = .ok (.iastore, 1) := by decide +kernel
theorem dX7_multiplies_39 : decode cX7_multiplies 39 = .ok (.iinc 3 1, 3) := by decide +kernel
theorem dX7_multiplies_42 : decode cX7_multiplies 42 = .ok (.goto (-40), 3) := by decide +kernel
theorem dX7_multiplies_45 : decode cX7_multiplies 45 = .ok (.return_, 1) := by decide +kernel
theorem dX7_takes_0 : decode cX7_takes 0 = .ok (.aload_n 0, 1) := by decide +kernel
theorem dX7_takes_1 : decode cX7_takes 1 = .ok (.getfield 7, 3) := by decide +kernel
theorem dX7_takes_4 : decode cX7_takes 4 = .ok (.iconst 2, 1) := by decide +kernel
theorem dX7_takes_5 : decode cX7_takes 5 = .ok (.iaload, 1) := by decide +kernel
theorem dX7_takes_6 : decode cX7_takes 6 = .ok (.istore 4, 2) := by decide +kernel
theorem dX7_takes_8 : decode cX7_takes 8 = .ok (.iconst 0, 1) := by decide +kernel
theorem dX7_takes_9 : decode cX7_takes 9 = .ok (.istore 5, 2) := by decide +kernel
theorem dX7_takes_11 : decode cX7_takes 11 = .ok (.iload 5, 2) := by decide +kernel
theorem dX7_takes_13 : decode cX7_takes 13 = .ok (.bipush 13, 2) := by decide +kernel
theorem dX7_takes_15 : decode cX7_takes 15 = .ok (.if_icmp .ge 54, 3) := by decide +kernel
theorem dX7_takes_18 : decode cX7_takes 18 = .ok (.aload_n 0, 1) := by decide +kernel
theorem dX7_takes_19 : decode cX7_takes 19 = .ok (.getfield 13, 3) := by decide +kernel
theorem dX7_takes_22 : decode cX7_takes 22 = .ok (.bipush 13, 2) := by decide +kernel
theorem dX7_takes_24 : decode cX7_takes 24 = .ok (.iload_n 1, 1) := by decide +kernel
theorem dX7_takes_25 : decode cX7_takes 25 = .ok (.imul, 1) := by decide +kernel
theorem dX7_takes_26 : decode cX7_takes 26 = .ok (.iload 5, 2) := by decide +kernel
theorem dX7_takes_28 : decode cX7_takes 28 = .ok (.iadd, 1) := by decide +kernel
theorem dX7_takes_29 : decode cX7_takes 29 = .ok (.aload_n 0, 1) := by decide +kernel
theorem dX7_takes_30 : decode cX7_takes 30 = .ok (.getfield 13, 3) := by decide +kernel
theorem dX7_takes_33 : decode cX7_takes 33 = .ok (.bipush 13, 2) := by decide +kernel
theorem dX7_takes_35 : decode cX7_takes 35 = .ok (.iload_n 1, 1) := by decide +kernel
theorem dX7_takes_36 : decode cX7_takes 36 = .ok (.imul, 1) := by decide +kernel
theorem dX7_takes_37 : decode cX7_takes 37 = .ok (.iload 5, 2) := by decide +kernel
theorem dX7_takes_39 : decode cX7_takes 39 = .ok (.iadd, 1) := by decide +kernel
theorem dX7_takes_40 : decode cX7_takes 40 = .ok (.iaload, 1) := by decide +kernel
theorem dX7_takes_41 : decode cX7_takes 41 = .ok (.iload 4, 2) := by decide +kernel
theorem dX7_takes_43 : decode cX7_takes 43 = .ok (.iload_n 3, 1) := by decide +kernel
theorem dX7_takes_44 : decode cX7_takes 44 = .ok (.isub, 1) := by decide +kernel
theorem dX7_takes_45 : decode cX7_takes 45 = .ok (.aload_n 0, 1) := by decide +kernel
theorem dX7_takes_46 : decode cX7_takes 46 = .ok (.getfield 13, 3) := by decide +kernel
theorem dX7_takes_49 : decode cX7_takes 49 = .ok (.bipush 13, 2) := by decide +kernel
theorem dX7_takes_51 : decode cX7_takes 51 = .ok (.iload_n 2, 1) := by decide +kernel
theorem dX7_takes_52 : decode cX7_takes 52 = .ok (.imul, 1) := by decide +kernel
theorem dX7_takes_53 : decode cX7_takes 53 = .ok (.iload 5, 2) := by decide +kernel
theorem dX7_takes_55 : decode cX7_takes 55 = .ok (.iadd, 1) := by decide +kernel
theorem dX7_takes_56 : decode cX7_takes 56 = .ok (.iaload, 1) := by decide +kernel
theorem dX7_takes_57 : decode cX7_takes 57 = .ok (.imul, 1) := by decide +kernel
theorem dX7_takes_58 : decode cX7_takes 58 = .ok (.iadd, 1) := by decide +kernel
theorem dX7_takes_59 : decode cX7_takes 59 = .ok (.iload 4, 2) := by decide +kernel
theorem dX7_takes_61 : decode cX7_takes 61 = .ok (.irem, 1) := by decide +kernel
theorem dX7_takes_62 : decode cX7_takes 62 = .ok (.iastore, 1) := by decide +kernel
theorem dX7_takes_63 : decode cX7_takes 63 = .ok (.iinc 5 1, 3) := by decide +kernel
theorem dX7_takes_66 : decode cX7_takes 66 = .ok (.goto (-55), 3) := by decide +kernel
theorem dX7_takes_69 : decode cX7_takes 69 = .ok (.return_, 1) := by decide +kernel
theorem dX7_pivot_0 : decode cX7_pivot 0 = .ok (.bipush (-4), 2) := by decide +kernel
theorem dX7_pivot_2 : decode cX7_pivot 2 = .ok (.istore 4, 2) := by decide +kernel
theorem dX7_pivot_4 : decode cX7_pivot 4 = .ok (.iload_n 2, 1) := by decide +kernel
theorem dX7_pivot_5 : decode cX7_pivot 5 = .ok (.iconst 1, 1) := by decide +kernel
theorem dX7_pivot_6 : decode cX7_pivot 6 = .ok (.isub, 1) := by decide +kernel
theorem dX7_pivot_7 : decode cX7_pivot 7 = .ok (.istore 5, 2) := by decide +kernel
theorem dX7_pivot_9 : decode cX7_pivot 9 = .ok (.iload 5, 2) := by decide +kernel
theorem dX7_pivot_11 : decode cX7_pivot 11 = .ok (.iload_n 1, 1) := by decide +kernel
theorem dX7_pivot_12 : decode cX7_pivot 12 = .ok (.if_icmp .lt 33, 3) := by decide +kernel
theorem dX7_pivot_15 : decode cX7_pivot 15 = .ok (.aload_n 0, 1) := by decide +kernel
theorem dX7_pivot_16 : decode cX7_pivot 16 = .ok (.getfield 13, 3) := by decide +kernel
theorem dX7_pivot_19 : decode cX7_pivot 19 = .ok (.bipush 13, 2) := by decide +kernel
theorem dX7_pivot_21 : decode cX7_pivot 21 = .ok (.iload 5, 2) := by decide +kernel
theorem dX7_pivot_23 : decode cX7_pivot 23 = .ok (.imul, 1) := by decide +kernel
theorem dX7_pivot_24 : decode cX7_pivot 24 = .ok (.iload_n 3, 1) := by decide +kernel
theorem dX7_pivot_25 : decode cX7_pivot 25 = .ok (.iadd, 1) := by decide +kernel
theorem dX7_pivot_26 : decode cX7_pivot 26 = .ok (.iaload, 1) := by decide +kernel
theorem dX7_pivot_27 : decode cX7_pivot 27 = .ok (.ifCond .eq 8, 3) := by decide +kernel
theorem dX7_pivot_30 : decode cX7_pivot 30 = .ok (.iload 5, 2) := by decide +kernel
theorem dX7_pivot_32 : decode cX7_pivot 32 = .ok (.goto 5, 3) := by decide +kernel
theorem dX7_pivot_35 : decode cX7_pivot 35 = .ok (.iload 4, 2) := by decide +kernel
theorem dX7_pivot_37 : decode cX7_pivot 37 = .ok (.istore 4, 2) := by decide +kernel
theorem dX7_pivot_39 : decode cX7_pivot 39 = .ok (.iinc 5 (-1), 3) := by decide +kernel
theorem dX7_pivot_42 : decode cX7_pivot 42 = .ok (.goto (-33), 3) := by decide +kernel
theorem dX7_pivot_45 : decode cX7_pivot 45 = .ok (.iload 4, 2) := by decide +kernel
theorem dX7_pivot_47 : decode cX7_pivot 47 = .ok (.ireturn, 1) := by decide +kernel
theorem dX7_fills_0 : decode cX7_fills 0 = .ok (.iconst 0, 1) := by decide +kernel
theorem dX7_fills_1 : decode cX7_fills 1 = .ok (.istore_n 3, 1) := by decide +kernel
theorem dX7_fills_2 : decode cX7_fills 2 = .ok (.iload_n 3, 1) := by decide +kernel
theorem dX7_fills_3 : decode cX7_fills 3 = .ok (.iload_n 1, 1) := by decide +kernel
theorem dX7_fills_4 : decode cX7_fills 4 = .ok (.if_icmp .ge 73, 3) := by decide +kernel
theorem dX7_fills_7 : decode cX7_fills 7 = .ok (.iconst 0, 1) := by decide +kernel
theorem dX7_fills_8 : decode cX7_fills 8 = .ok (.istore 4, 2) := by decide +kernel
theorem dX7_fills_10 : decode cX7_fills 10 = .ok (.iload 4, 2) := by decide +kernel
theorem dX7_fills_12 : decode cX7_fills 12 = .ok (.bipush 13, 2) := by decide +kernel
theorem dX7_fills_14 : decode cX7_fills 14 = .ok (.if_icmp .ge 22, 3) := by decide +kernel
theorem dX7_fills_17 : decode cX7_fills 17 = .ok (.aload_n 0, 1) := by decide +kernel
theorem dX7_fills_18 : decode cX7_fills 18 = .ok (.getfield 13, 3) := by decide +kernel
theorem dX7_fills_21 : decode cX7_fills 21 = .ok (.bipush 13, 2) := by decide +kernel
theorem dX7_fills_23 : decode cX7_fills 23 = .ok (.iload_n 3, 1) := by decide +kernel
theorem dX7_fills_24 : decode cX7_fills 24 = .ok (.imul, 1) := by decide +kernel
theorem dX7_fills_25 : decode cX7_fills 25 = .ok (.iload 4, 2) := by decide +kernel
theorem dX7_fills_27 : decode cX7_fills 27 = .ok (.iadd, 1) := by decide +kernel
theorem dX7_fills_28 : decode cX7_fills 28 = .ok (.iconst 0, 1) := by decide +kernel
theorem dX7_fills_29 : decode cX7_fills 29 = .ok (.iastore, 1) := by decide +kernel
theorem dX7_fills_30 : decode cX7_fills 30 = .ok (.iinc 4 1, 3) := by decide +kernel
theorem dX7_fills_33 : decode cX7_fills 33 = .ok (.goto (-23), 3) := by decide +kernel
theorem dX7_fills_36 : decode cX7_fills 36 = .ok (.iconst 0, 1) := by decide +kernel
theorem dX7_fills_37 : decode cX7_fills 37 = .ok (.istore 4, 2) := by decide +kernel
theorem dX7_fills_39 : decode cX7_fills 39 = .ok (.iload 4, 2) := by decide +kernel
theorem dX7_fills_41 : decode cX7_fills 41 = .ok (.iload_n 1, 1) := by decide +kernel
theorem dX7_fills_42 : decode cX7_fills 42 = .ok (.if_icmp .ge 29, 3) := by decide +kernel
theorem dX7_fills_45 : decode cX7_fills 45 = .ok (.aload_n 0, 1) := by decide +kernel
theorem dX7_fills_46 : decode cX7_fills 46 = .ok (.getfield 13, 3) := by decide +kernel
theorem dX7_fills_49 : decode cX7_fills 49 = .ok (.bipush 13, 2) := by decide +kernel
theorem dX7_fills_51 : decode cX7_fills 51 = .ok (.iload_n 3, 1) := by decide +kernel
theorem dX7_fills_52 : decode cX7_fills 52 = .ok (.imul, 1) := by decide +kernel
theorem dX7_fills_53 : decode cX7_fills 53 = .ok (.iload 4, 2) := by decide +kernel
theorem dX7_fills_55 : decode cX7_fills 55 = .ok (.iadd, 1) := by decide +kernel
theorem dX7_fills_56 : decode cX7_fills 56 = .ok (.aload_n 0, 1) := by decide +kernel
theorem dX7_fills_57 : decode cX7_fills 57 = .ok (.iload_n 2, 1) := by decide +kernel
theorem dX7_fills_58 : decode cX7_fills 58 = .ok (.iload_n 3, 1) := by decide +kernel
theorem dX7_fills_59 : decode cX7_fills 59 = .ok (.iload 4, 2) := by decide +kernel
theorem dX7_fills_61 : decode cX7_fills 61 = .ok (.invokevirtual 65, 3) := by decide +kernel
theorem dX7_fills_64 : decode cX7_fills 64 = .ok (.iastore, 1) := by decide +kernel
theorem dX7_fills_65 : decode cX7_fills 65 = .ok (.iinc 4 1, 3) := by decide +kernel
theorem dX7_fills_68 : decode cX7_fills 68 = .ok (.goto (-29), 3) := by decide +kernel
theorem dX7_fills_71 : decode cX7_fills 71 = .ok (.iinc 3 1, 3) := by decide +kernel
theorem dX7_fills_74 : decode cX7_fills 74 = .ok (.goto (-72), 3) := by decide +kernel
theorem dX7_fills_77 : decode cX7_fills 77 = .ok (.return_, 1) := by decide +kernel
theorem dX7_cornerOf_0 : decode cX7_cornerOf 0 = .ok (.aload_n 0, 1) := by decide +kernel
theorem dX7_cornerOf_1 : decode cX7_cornerOf 1 = .ok (.getfield 7, 3) := by decide +kernel
theorem dX7_cornerOf_4 : decode cX7_cornerOf 4 = .ok (.iconst 2, 1) := by decide +kernel
theorem dX7_cornerOf_5 : decode cX7_cornerOf 5 = .ok (.iaload, 1) := by decide +kernel
theorem dX7_cornerOf_6 : decode cX7_cornerOf 6 = .ok (.istore_n 2, 1) := by decide +kernel
theorem dX7_cornerOf_7 : decode cX7_cornerOf 7 = .ok (.aload_n 0, 1) := by decide +kernel
theorem dX7_cornerOf_8 : decode cX7_cornerOf 8 = .ok (.iload_n 1, 1) := by decide +kernel
theorem dX7_cornerOf_9 : decode cX7_cornerOf 9 = .ok (.aload_n 0, 1) := by decide +kernel
theorem dX7_cornerOf_10 : decode cX7_cornerOf 10 = .ok (.getfield 7, 3) := by decide +kernel
theorem dX7_cornerOf_13 : decode cX7_cornerOf 13 = .ok (.iconst 1, 1) := by decide +kernel
theorem dX7_cornerOf_14 : decode cX7_cornerOf 14 = .ok (.iaload, 1) := by decide +kernel
theorem dX7_cornerOf_15 : decode cX7_cornerOf 15 = .ok (.invokevirtual 69, 3) := by decide +kernel
theorem dX7_cornerOf_18 : decode cX7_cornerOf 18 = .ok (.iconst 1, 1) := by decide +kernel
theorem dX7_cornerOf_19 : decode cX7_cornerOf 19 = .ok (.iload_n 2, 1) := by decide +kernel
theorem dX7_cornerOf_20 : decode cX7_cornerOf 20 = .ok (.irem, 1) := by decide +kernel
theorem dX7_cornerOf_21 : decode cX7_cornerOf 21 = .ok (.istore_n 3, 1) := by decide +kernel
theorem dX7_cornerOf_22 : decode cX7_cornerOf 22 = .ok (.iconst 0, 1) := by decide +kernel
theorem dX7_cornerOf_23 : decode cX7_cornerOf 23 = .ok (.istore 4, 2) := by decide +kernel
theorem dX7_cornerOf_25 : decode cX7_cornerOf 25 = .ok (.iload 4, 2) := by decide +kernel
theorem dX7_cornerOf_27 : decode cX7_cornerOf 27 = .ok (.iload_n 1, 1) := by decide +kernel
theorem dX7_cornerOf_28 : decode cX7_cornerOf 28 = .ok (.if_icmp .ge 129, 3) := by decide +kernel
theorem dX7_cornerOf_31 : decode cX7_cornerOf 31 = .ok (.iload_n 3, 1) := by decide +kernel
theorem dX7_cornerOf_32 : decode cX7_cornerOf 32 = .ok (.ifCond .eq 125, 3) := by decide +kernel
theorem dX7_cornerOf_35 : decode cX7_cornerOf 35 = .ok (.aload_n 0, 1) := by decide +kernel
theorem dX7_cornerOf_36 : decode cX7_cornerOf 36 = .ok (.iload 4, 2) := by decide +kernel
theorem dX7_cornerOf_38 : decode cX7_cornerOf 38 = .ok (.iload_n 1, 1) := by decide +kernel
theorem dX7_cornerOf_39 : decode cX7_cornerOf 39 = .ok (.iload 4, 2) := by decide +kernel
theorem dX7_cornerOf_41 : decode cX7_cornerOf 41 = .ok (.invokevirtual 73, 3) := by decide +kernel
theorem dX7_cornerOf_44 : decode cX7_cornerOf 44 = .ok (.istore 5, 2) := by decide +kernel
theorem dX7_cornerOf_46 : decode cX7_cornerOf 46 = .ok (.iload 5, 2) := by decide +kernel
theorem dX7_cornerOf_48 : decode cX7_cornerOf 48 = .ok (.bipush (-4), 2) := by decide +kernel
theorem dX7_cornerOf_50 : decode cX7_cornerOf 50 = .ok (.if_icmp .ne 5, 3) := by decide +kernel
theorem dX7_cornerOf_53 : decode cX7_cornerOf 53 = .ok (.iconst 0, 1) := by decide +kernel
theorem dX7_cornerOf_54 : decode cX7_cornerOf 54 = .ok (.ireturn, 1) := by decide +kernel
theorem dX7_cornerOf_55 : decode cX7_cornerOf 55 = .ok (.iload 5, 2) := by decide +kernel
theorem dX7_cornerOf_57 : decode cX7_cornerOf 57 = .ok (.iload 4, 2) := by decide +kernel
theorem dX7_cornerOf_59 : decode cX7_cornerOf 59 = .ok (.if_icmp .eq 17, 3) := by decide +kernel
theorem dX7_cornerOf_62 : decode cX7_cornerOf 62 = .ok (.aload_n 0, 1) := by decide +kernel
theorem dX7_cornerOf_63 : decode cX7_cornerOf 63 = .ok (.iload 5, 2) := by decide +kernel
theorem dX7_cornerOf_65 : decode cX7_cornerOf 65 = .ok (.iload 4, 2) := by decide +kernel
theorem dX7_cornerOf_67 : decode cX7_cornerOf 67 = .ok (.invokevirtual 76, 3) := by decide +kernel
theorem dX7_cornerOf_70 : decode cX7_cornerOf 70 = .ok (.iload_n 2, 1) := by decide +kernel
theorem dX7_cornerOf_71 : decode cX7_cornerOf 71 = .ok (.iload_n 3, 1) := by decide +kernel
theorem dX7_cornerOf_72 : decode cX7_cornerOf 72 = .ok (.isub, 1) := by decide +kernel
theorem dX7_cornerOf_73 : decode cX7_cornerOf 73 = .ok (.iload_n 2, 1) := by decide +kernel
theorem dX7_cornerOf_74 : decode cX7_cornerOf 74 = .ok (.irem, 1) := by decide +kernel
theorem dX7_cornerOf_75 : decode cX7_cornerOf 75 = .ok (.istore_n 3, 1) := by decide +kernel
theorem dX7_cornerOf_76 : decode cX7_cornerOf 76 = .ok (.iload_n 3, 1) := by decide +kernel
theorem dX7_cornerOf_77 : decode cX7_cornerOf 77 = .ok (.aload_n 0, 1) := by decide +kernel
theorem dX7_cornerOf_78 : decode cX7_cornerOf 78 = .ok (.getfield 13, 3) := by decide +kernel
theorem dX7_cornerOf_81 : decode cX7_cornerOf 81 = .ok (.bipush 14, 2) := by decide +kernel
theorem dX7_cornerOf_83 : decode cX7_cornerOf 83 = .ok (.iload 4, 2) := by decide +kernel
theorem dX7_cornerOf_85 : decode cX7_cornerOf 85 = .ok (.imul, 1) := by decide +kernel
theorem dX7_cornerOf_86 : decode cX7_cornerOf 86 = .ok (.iaload, 1) := by decide +kernel
theorem dX7_cornerOf_87 : decode cX7_cornerOf 87 = .ok (.imul, 1) := by decide +kernel
theorem dX7_cornerOf_88 : decode cX7_cornerOf 88 = .ok (.iload_n 2, 1) := by decide +kernel
theorem dX7_cornerOf_89 : decode cX7_cornerOf 89 = .ok (.irem, 1) := by decide +kernel
theorem dX7_cornerOf_90 : decode cX7_cornerOf 90 = .ok (.istore_n 3, 1) := by decide +kernel
theorem dX7_cornerOf_91 : decode cX7_cornerOf 91 = .ok (.aload_n 0, 1) := by decide +kernel
theorem dX7_cornerOf_92 : decode cX7_cornerOf 92 = .ok (.aload_n 0, 1) := by decide +kernel
theorem dX7_cornerOf_93 : decode cX7_cornerOf 93 = .ok (.getfield 13, 3) := by decide +kernel
theorem dX7_cornerOf_96 : decode cX7_cornerOf 96 = .ok (.bipush 14, 2) := by decide +kernel
theorem dX7_cornerOf_98 : decode cX7_cornerOf 98 = .ok (.iload 4, 2) := by decide +kernel
theorem dX7_cornerOf_100 : decode cX7_cornerOf 100 = .ok (.imul, 1) := by decide +kernel
theorem dX7_cornerOf_101 : decode cX7_cornerOf 101 = .ok (.iaload, 1) := by decide +kernel
theorem dX7_cornerOf_102 : decode cX7_cornerOf 102 = .ok (.invokevirtual 79, 3) := by decide +kernel
theorem dX7_cornerOf_105 : decode cX7_cornerOf 105 = .ok (.istore 6, 2) := by decide +kernel
theorem dX7_cornerOf_107 : decode cX7_cornerOf 107 = .ok (.iload 4, 2) := by decide +kernel
theorem dX7_cornerOf_109 : decode cX7_cornerOf 109 = .ok (.iconst 1, 1) := by decide +kernel
theorem dX7_cornerOf_110 : decode cX7_cornerOf 110 = .ok (.iadd, 1) := by decide +kernel
theorem dX7_cornerOf_111 : decode cX7_cornerOf 111 = .ok (.istore 7, 2) := by decide +kernel
theorem dX7_cornerOf_113 : decode cX7_cornerOf 113 = .ok (.iload 7, 2) := by decide +kernel
theorem dX7_cornerOf_115 : decode cX7_cornerOf 115 = .ok (.iload_n 1, 1) := by decide +kernel
theorem dX7_cornerOf_116 : decode cX7_cornerOf 116 = .ok (.if_icmp .ge 35, 3) := by decide +kernel
theorem dX7_cornerOf_119 : decode cX7_cornerOf 119 = .ok (.aload_n 0, 1) := by decide +kernel
theorem dX7_cornerOf_120 : decode cX7_cornerOf 120 = .ok (.iload 7, 2) := by decide +kernel
theorem dX7_cornerOf_122 : decode cX7_cornerOf 122 = .ok (.iload 4, 2) := by decide +kernel
theorem dX7_cornerOf_124 : decode cX7_cornerOf 124 = .ok (.aload_n 0, 1) := by decide +kernel
theorem dX7_cornerOf_125 : decode cX7_cornerOf 125 = .ok (.getfield 13, 3) := by decide +kernel
theorem dX7_cornerOf_128 : decode cX7_cornerOf 128 = .ok (.bipush 13, 2) := by decide +kernel
theorem dX7_cornerOf_130 : decode cX7_cornerOf 130 = .ok (.iload 7, 2) := by decide +kernel
theorem dX7_cornerOf_132 : decode cX7_cornerOf 132 = .ok (.imul, 1) := by decide +kernel
theorem dX7_cornerOf_133 : decode cX7_cornerOf 133 = .ok (.iload 4, 2) := by decide +kernel
theorem dX7_cornerOf_135 : decode cX7_cornerOf 135 = .ok (.iadd, 1) := by decide +kernel
theorem dX7_cornerOf_136 : decode cX7_cornerOf 136 = .ok (.iaload, 1) := by decide +kernel
theorem dX7_cornerOf_137 : decode cX7_cornerOf 137 = .ok (.iload 6, 2) := by decide +kernel
theorem dX7_cornerOf_139 : decode cX7_cornerOf 139 = .ok (.imul, 1) := by decide +kernel
theorem dX7_cornerOf_140 : decode cX7_cornerOf 140 = .ok (.iload_n 2, 1) := by decide +kernel
theorem dX7_cornerOf_141 : decode cX7_cornerOf 141 = .ok (.irem, 1) := by decide +kernel
theorem dX7_cornerOf_142 : decode cX7_cornerOf 142 = .ok (.invokevirtual 83, 3) := by decide +kernel
theorem dX7_cornerOf_145 : decode cX7_cornerOf 145 = .ok (.iinc 7 1, 3) := by decide +kernel
theorem dX7_cornerOf_148 : decode cX7_cornerOf 148 = .ok (.goto (-35), 3) := by decide +kernel
theorem dX7_cornerOf_151 : decode cX7_cornerOf 151 = .ok (.iinc 4 1, 3) := by decide +kernel
theorem dX7_cornerOf_154 : decode cX7_cornerOf 154 = .ok (.goto (-129), 3) := by decide +kernel
theorem dX7_cornerOf_157 : decode cX7_cornerOf 157 = .ok (.iload_n 3, 1) := by decide +kernel
theorem dX7_cornerOf_158 : decode cX7_cornerOf 158 = .ok (.ireturn, 1) := by decide +kernel
theorem dX7_worksOut_0 : decode cX7_worksOut 0 = .ok (.aload_n 0, 1) := by decide +kernel
theorem dX7_worksOut_1 : decode cX7_worksOut 1 = .ok (.iconst 0, 1) := by decide +kernel
theorem dX7_worksOut_2 : decode cX7_worksOut 2 = .ok (.putfield 87, 3) := by decide +kernel
theorem dX7_worksOut_5 : decode cX7_worksOut 5 = .ok (.iload_n 2, 1) := by decide +kernel
theorem dX7_worksOut_6 : decode cX7_worksOut 6 = .ok (.iconst 1, 1) := by decide +kernel
theorem dX7_worksOut_7 : decode cX7_worksOut 7 = .ok (.isub, 1) := by decide +kernel
theorem dX7_worksOut_8 : decode cX7_worksOut 8 = .ok (.istore_n 3, 1) := by decide +kernel
theorem dX7_worksOut_9 : decode cX7_worksOut 9 = .ok (.iload_n 3, 1) := by decide +kernel
theorem dX7_worksOut_10 : decode cX7_worksOut 10 = .ok (.ifCond .lt 142, 3) := by decide +kernel
theorem dX7_worksOut_13 : decode cX7_worksOut 13 = .ok (.aload_n 0, 1) := by decide +kernel
theorem dX7_worksOut_14 : decode cX7_worksOut 14 = .ok (.aload_n 0, 1) := by decide +kernel
theorem dX7_worksOut_15 : decode cX7_worksOut 15 = .ok (.getfield 87, 3) := by decide +kernel
theorem dX7_worksOut_18 : decode cX7_worksOut 18 = .ok (.iload_n 1, 1) := by decide +kernel
theorem dX7_worksOut_19 : decode cX7_worksOut 19 = .ok (.iload_n 3, 1) := by decide +kernel
theorem dX7_worksOut_20 : decode cX7_worksOut 20 = .ok (.invokevirtual 73, 3) := by decide +kernel
theorem dX7_worksOut_23 : decode cX7_worksOut 23 = .ok (.istore 4, 2) := by decide +kernel
theorem dX7_worksOut_25 : decode cX7_worksOut 25 = .ok (.aload_n 0, 1) := by decide +kernel
theorem dX7_worksOut_26 : decode cX7_worksOut 26 = .ok (.getfield 16, 3) := by decide +kernel
theorem dX7_worksOut_29 : decode cX7_worksOut 29 = .ok (.iload_n 3, 1) := by decide +kernel
theorem dX7_worksOut_30 : decode cX7_worksOut 30 = .ok (.iload 4, 2) := by decide +kernel
theorem dX7_worksOut_32 : decode cX7_worksOut 32 = .ok (.bipush (-4), 2) := by decide +kernel
theorem dX7_worksOut_34 : decode cX7_worksOut 34 = .ok (.if_icmp .ne 8, 3) := by decide +kernel
theorem dX7_worksOut_37 : decode cX7_worksOut 37 = .ok (.bipush (-4), 2) := by decide +kernel
theorem dX7_worksOut_39 : decode cX7_worksOut 39 = .ok (.goto 7, 3) := by decide +kernel
theorem dX7_worksOut_42 : decode cX7_worksOut 42 = .ok (.aload_n 0, 1) := by decide +kernel
theorem dX7_worksOut_43 : decode cX7_worksOut 43 = .ok (.getfield 87, 3) := by decide +kernel
theorem dX7_worksOut_46 : decode cX7_worksOut 46 = .ok (.iastore, 1) := by decide +kernel
theorem dX7_worksOut_47 : decode cX7_worksOut 47 = .ok (.iload 4, 2) := by decide +kernel
theorem dX7_worksOut_49 : decode cX7_worksOut 49 = .ok (.bipush (-4), 2) := by decide +kernel
theorem dX7_worksOut_51 : decode cX7_worksOut 51 = .ok (.if_icmp .eq 95, 3) := by decide +kernel
theorem dX7_worksOut_54 : decode cX7_worksOut 54 = .ok (.aload_n 0, 1) := by decide +kernel
theorem dX7_worksOut_55 : decode cX7_worksOut 55 = .ok (.iload 4, 2) := by decide +kernel
theorem dX7_worksOut_57 : decode cX7_worksOut 57 = .ok (.aload_n 0, 1) := by decide +kernel
theorem dX7_worksOut_58 : decode cX7_worksOut 58 = .ok (.getfield 87, 3) := by decide +kernel
theorem dX7_worksOut_61 : decode cX7_worksOut 61 = .ok (.invokevirtual 76, 3) := by decide +kernel
theorem dX7_worksOut_64 : decode cX7_worksOut 64 = .ok (.aload_n 0, 1) := by decide +kernel
theorem dX7_worksOut_65 : decode cX7_worksOut 65 = .ok (.aload_n 0, 1) := by decide +kernel
theorem dX7_worksOut_66 : decode cX7_worksOut 66 = .ok (.getfield 87, 3) := by decide +kernel
theorem dX7_worksOut_69 : decode cX7_worksOut 69 = .ok (.aload_n 0, 1) := by decide +kernel
theorem dX7_worksOut_70 : decode cX7_worksOut 70 = .ok (.aload_n 0, 1) := by decide +kernel
theorem dX7_worksOut_71 : decode cX7_worksOut 71 = .ok (.getfield 13, 3) := by decide +kernel
theorem dX7_worksOut_74 : decode cX7_worksOut 74 = .ok (.bipush 13, 2) := by decide +kernel
theorem dX7_worksOut_76 : decode cX7_worksOut 76 = .ok (.aload_n 0, 1) := by decide +kernel
theorem dX7_worksOut_77 : decode cX7_worksOut 77 = .ok (.getfield 87, 3) := by decide +kernel
theorem dX7_worksOut_80 : decode cX7_worksOut 80 = .ok (.imul, 1) := by decide +kernel
theorem dX7_worksOut_81 : decode cX7_worksOut 81 = .ok (.iload_n 3, 1) := by decide +kernel
theorem dX7_worksOut_82 : decode cX7_worksOut 82 = .ok (.iadd, 1) := by decide +kernel
theorem dX7_worksOut_83 : decode cX7_worksOut 83 = .ok (.iaload, 1) := by decide +kernel
theorem dX7_worksOut_84 : decode cX7_worksOut 84 = .ok (.invokevirtual 79, 3) := by decide +kernel
theorem dX7_worksOut_87 : decode cX7_worksOut 87 = .ok (.invokevirtual 90, 3) := by decide +kernel
theorem dX7_worksOut_90 : decode cX7_worksOut 90 = .ok (.iconst 0, 1) := by decide +kernel
theorem dX7_worksOut_91 : decode cX7_worksOut 91 = .ok (.istore 5, 2) := by decide +kernel
theorem dX7_worksOut_93 : decode cX7_worksOut 93 = .ok (.iload 5, 2) := by decide +kernel
theorem dX7_worksOut_95 : decode cX7_worksOut 95 = .ok (.iload_n 1, 1) := by decide +kernel
theorem dX7_worksOut_96 : decode cX7_worksOut 96 = .ok (.if_icmp .ge 40, 3) := by decide +kernel
theorem dX7_worksOut_99 : decode cX7_worksOut 99 = .ok (.iload 5, 2) := by decide +kernel
theorem dX7_worksOut_101 : decode cX7_worksOut 101 = .ok (.aload_n 0, 1) := by decide +kernel
theorem dX7_worksOut_102 : decode cX7_worksOut 102 = .ok (.getfield 87, 3) := by decide +kernel
theorem dX7_worksOut_105 : decode cX7_worksOut 105 = .ok (.if_icmp .eq 25, 3) := by decide +kernel
theorem dX7_worksOut_108 : decode cX7_worksOut 108 = .ok (.aload_n 0, 1) := by decide +kernel
theorem dX7_worksOut_109 : decode cX7_worksOut 109 = .ok (.iload 5, 2) := by decide +kernel
theorem dX7_worksOut_111 : decode cX7_worksOut 111 = .ok (.aload_n 0, 1) := by decide +kernel
theorem dX7_worksOut_112 : decode cX7_worksOut 112 = .ok (.getfield 87, 3) := by decide +kernel
theorem dX7_worksOut_115 : decode cX7_worksOut 115 = .ok (.aload_n 0, 1) := by decide +kernel
theorem dX7_worksOut_116 : decode cX7_worksOut 116 = .ok (.getfield 13, 3) := by decide +kernel
theorem dX7_worksOut_119 : decode cX7_worksOut 119 = .ok (.bipush 13, 2) := by decide +kernel
theorem dX7_worksOut_121 : decode cX7_worksOut 121 = .ok (.iload 5, 2) := by decide +kernel
theorem dX7_worksOut_123 : decode cX7_worksOut 123 = .ok (.imul, 1) := by decide +kernel
theorem dX7_worksOut_124 : decode cX7_worksOut 124 = .ok (.iload_n 3, 1) := by decide +kernel
theorem dX7_worksOut_125 : decode cX7_worksOut 125 = .ok (.iadd, 1) := by decide +kernel
theorem dX7_worksOut_126 : decode cX7_worksOut 126 = .ok (.iaload, 1) := by decide +kernel
theorem dX7_worksOut_127 : decode cX7_worksOut 127 = .ok (.invokevirtual 83, 3) := by decide +kernel
theorem dX7_worksOut_130 : decode cX7_worksOut 130 = .ok (.iinc 5 1, 3) := by decide +kernel
theorem dX7_worksOut_133 : decode cX7_worksOut 133 = .ok (.goto (-40), 3) := by decide +kernel
theorem dX7_worksOut_136 : decode cX7_worksOut 136 = .ok (.aload_n 0, 1) := by decide +kernel
theorem dX7_worksOut_137 : decode cX7_worksOut 137 = .ok (.dup, 1) := by decide +kernel
theorem dX7_worksOut_138 : decode cX7_worksOut 138 = .ok (.getfield 87, 3) := by decide +kernel
theorem dX7_worksOut_141 : decode cX7_worksOut 141 = .ok (.iconst 1, 1) := by decide +kernel
theorem dX7_worksOut_142 : decode cX7_worksOut 142 = .ok (.iadd, 1) := by decide +kernel
theorem dX7_worksOut_143 : decode cX7_worksOut 143 = .ok (.putfield 87, 3) := by decide +kernel
theorem dX7_worksOut_146 : decode cX7_worksOut 146 = .ok (.iinc 3 (-1), 3) := by decide +kernel
theorem dX7_worksOut_149 : decode cX7_worksOut 149 = .ok (.goto (-140), 3) := by decide +kernel
theorem dX7_worksOut_152 : decode cX7_worksOut 152 = .ok (.iconst 1, 1) := by decide +kernel
theorem dX7_worksOut_153 : decode cX7_worksOut 153 = .ok (.istore_n 3, 1) := by decide +kernel
theorem dX7_worksOut_154 : decode cX7_worksOut 154 = .ok (.aload_n 0, 1) := by decide +kernel
theorem dX7_worksOut_155 : decode cX7_worksOut 155 = .ok (.getfield 87, 3) := by decide +kernel
theorem dX7_worksOut_158 : decode cX7_worksOut 158 = .ok (.istore 4, 2) := by decide +kernel
theorem dX7_worksOut_160 : decode cX7_worksOut 160 = .ok (.iload 4, 2) := by decide +kernel
theorem dX7_worksOut_162 : decode cX7_worksOut 162 = .ok (.iload_n 1, 1) := by decide +kernel
theorem dX7_worksOut_163 : decode cX7_worksOut 163 = .ok (.if_icmp .ge 34, 3) := by decide +kernel
theorem dX7_worksOut_166 : decode cX7_worksOut 166 = .ok (.iload_n 3, 1) := by decide +kernel
theorem dX7_worksOut_167 : decode cX7_worksOut 167 = .ok (.ifCond .eq 22, 3) := by decide +kernel
theorem dX7_worksOut_170 : decode cX7_worksOut 170 = .ok (.aload_n 0, 1) := by decide +kernel
theorem dX7_worksOut_171 : decode cX7_worksOut 171 = .ok (.getfield 13, 3) := by decide +kernel
theorem dX7_worksOut_174 : decode cX7_worksOut 174 = .ok (.bipush 13, 2) := by decide +kernel
theorem dX7_worksOut_176 : decode cX7_worksOut 176 = .ok (.iload 4, 2) := by decide +kernel
theorem dX7_worksOut_178 : decode cX7_worksOut 178 = .ok (.imul, 1) := by decide +kernel
theorem dX7_worksOut_179 : decode cX7_worksOut 179 = .ok (.iload_n 2, 1) := by decide +kernel
theorem dX7_worksOut_180 : decode cX7_worksOut 180 = .ok (.iadd, 1) := by decide +kernel
theorem dX7_worksOut_181 : decode cX7_worksOut 181 = .ok (.iaload, 1) := by decide +kernel
theorem dX7_worksOut_182 : decode cX7_worksOut 182 = .ok (.ifCond .ne 7, 3) := by decide +kernel
theorem dX7_worksOut_185 : decode cX7_worksOut 185 = .ok (.iconst 1, 1) := by decide +kernel
theorem dX7_worksOut_186 : decode cX7_worksOut 186 = .ok (.goto 4, 3) := by decide +kernel
theorem dX7_worksOut_189 : decode cX7_worksOut 189 = .ok (.iconst 0, 1) := by decide +kernel
theorem dX7_worksOut_190 : decode cX7_worksOut 190 = .ok (.istore_n 3, 1) := by decide +kernel
theorem dX7_worksOut_191 : decode cX7_worksOut 191 = .ok (.iinc 4 1, 3) := by decide +kernel
theorem dX7_worksOut_194 : decode cX7_worksOut 194 = .ok (.goto (-34), 3) := by decide +kernel
theorem dX7_worksOut_197 : decode cX7_worksOut 197 = .ok (.iload_n 3, 1) := by decide +kernel
theorem dX7_worksOut_198 : decode cX7_worksOut 198 = .ok (.ireturn, 1) := by decide +kernel
theorem dX7_least_0 : decode cX7_least 0 = .ok (.aload_n 0, 1) := by decide +kernel
theorem dX7_least_1 : decode cX7_least 1 = .ok (.getfield 16, 3) := by decide +kernel
theorem dX7_least_4 : decode cX7_least 4 = .ok (.iload_n 1, 1) := by decide +kernel
theorem dX7_least_5 : decode cX7_least 5 = .ok (.iaload, 1) := by decide +kernel
theorem dX7_least_6 : decode cX7_least 6 = .ok (.bipush (-4), 2) := by decide +kernel
theorem dX7_least_8 : decode cX7_least 8 = .ok (.if_icmp .ne 7, 3) := by decide +kernel
theorem dX7_least_11 : decode cX7_least 11 = .ok (.iconst 0, 1) := by decide +kernel
theorem dX7_least_12 : decode cX7_least 12 = .ok (.goto 19, 3) := by decide +kernel
theorem dX7_least_15 : decode cX7_least 15 = .ok (.aload_n 0, 1) := by decide +kernel
theorem dX7_least_16 : decode cX7_least 16 = .ok (.getfield 13, 3) := by decide +kernel
theorem dX7_least_19 : decode cX7_least 19 = .ok (.bipush 13, 2) := by decide +kernel
theorem dX7_least_21 : decode cX7_least 21 = .ok (.aload_n 0, 1) := by decide +kernel
theorem dX7_least_22 : decode cX7_least 22 = .ok (.getfield 16, 3) := by decide +kernel
theorem dX7_least_25 : decode cX7_least 25 = .ok (.iload_n 1, 1) := by decide +kernel
theorem dX7_least_26 : decode cX7_least 26 = .ok (.iaload, 1) := by decide +kernel
theorem dX7_least_27 : decode cX7_least 27 = .ok (.imul, 1) := by decide +kernel
theorem dX7_least_28 : decode cX7_least 28 = .ok (.iload_n 2, 1) := by decide +kernel
theorem dX7_least_29 : decode cX7_least 29 = .ok (.iadd, 1) := by decide +kernel
theorem dX7_least_30 : decode cX7_least 30 = .ok (.iaload, 1) := by decide +kernel
theorem dX7_least_31 : decode cX7_least 31 = .ok (.ireturn, 1) := by decide +kernel
theorem dX7_solves_0 : decode cX7_solves 0 = .ok (.aload_n 0, 1) := by decide +kernel
theorem dX7_solves_1 : decode cX7_solves 1 = .ok (.getfield 7, 3) := by decide +kernel
theorem dX7_solves_4 : decode cX7_solves 4 = .ok (.iconst 0, 1) := by decide +kernel
theorem dX7_solves_5 : decode cX7_solves 5 = .ok (.iaload, 1) := by decide +kernel
theorem dX7_solves_6 : decode cX7_solves 6 = .ok (.istore_n 2, 1) := by decide +kernel
theorem dX7_solves_7 : decode cX7_solves 7 = .ok (.aload_n 0, 1) := by decide +kernel
theorem dX7_solves_8 : decode cX7_solves 8 = .ok (.iload_n 2, 1) := by decide +kernel
theorem dX7_solves_9 : decode cX7_solves 9 = .ok (.aload_n 0, 1) := by decide +kernel
theorem dX7_solves_10 : decode cX7_solves 10 = .ok (.getfield 7, 3) := by decide +kernel
theorem dX7_solves_13 : decode cX7_solves 13 = .ok (.iconst 1, 1) := by decide +kernel
theorem dX7_solves_14 : decode cX7_solves 14 = .ok (.iaload, 1) := by decide +kernel
theorem dX7_solves_15 : decode cX7_solves 15 = .ok (.invokevirtual 69, 3) := by decide +kernel
theorem dX7_solves_18 : decode cX7_solves 18 = .ok (.iconst 0, 1) := by decide +kernel
theorem dX7_solves_19 : decode cX7_solves 19 = .ok (.istore_n 3, 1) := by decide +kernel
theorem dX7_solves_20 : decode cX7_solves 20 = .ok (.iload_n 3, 1) := by decide +kernel
theorem dX7_solves_21 : decode cX7_solves 21 = .ok (.iload_n 2, 1) := by decide +kernel
theorem dX7_solves_22 : decode cX7_solves 22 = .ok (.if_icmp .ge 46, 3) := by decide +kernel
theorem dX7_solves_25 : decode cX7_solves 25 = .ok (.aload_n 0, 1) := by decide +kernel
theorem dX7_solves_26 : decode cX7_solves 26 = .ok (.getfield 13, 3) := by decide +kernel
theorem dX7_solves_29 : decode cX7_solves 29 = .ok (.bipush 13, 2) := by decide +kernel
theorem dX7_solves_31 : decode cX7_solves 31 = .ok (.iload_n 3, 1) := by decide +kernel
theorem dX7_solves_32 : decode cX7_solves 32 = .ok (.imul, 1) := by decide +kernel
theorem dX7_solves_33 : decode cX7_solves 33 = .ok (.iload_n 2, 1) := by decide +kernel
theorem dX7_solves_34 : decode cX7_solves 34 = .ok (.iadd, 1) := by decide +kernel
theorem dX7_solves_35 : decode cX7_solves 35 = .ok (.iload_n 1, 1) := by decide +kernel
theorem dX7_solves_36 : decode cX7_solves 36 = .ok (.ifCond .ge 15, 3) := by decide +kernel
theorem dX7_solves_39 : decode cX7_solves 39 = .ok (.aload_n 0, 1) := by decide +kernel
theorem dX7_solves_40 : decode cX7_solves 40 = .ok (.getfield 7, 3) := by decide +kernel
theorem dX7_solves_43 : decode cX7_solves 43 = .ok (.bipush 15, 2) := by decide +kernel
theorem dX7_solves_45 : decode cX7_solves 45 = .ok (.iload_n 3, 1) := by decide +kernel
theorem dX7_solves_46 : decode cX7_solves 46 = .ok (.iadd, 1) := by decide +kernel
theorem dX7_solves_47 : decode cX7_solves 47 = .ok (.iaload, 1) := by decide +kernel
theorem dX7_solves_48 : decode cX7_solves 48 = .ok (.goto 13, 3) := by decide +kernel
theorem dX7_solves_51 : decode cX7_solves 51 = .ok (.iload_n 3, 1) := by decide +kernel
theorem dX7_solves_52 : decode cX7_solves 52 = .ok (.iload_n 1, 1) := by decide +kernel
theorem dX7_solves_53 : decode cX7_solves 53 = .ok (.if_icmp .ne 7, 3) := by decide +kernel
theorem dX7_solves_56 : decode cX7_solves 56 = .ok (.iconst 1, 1) := by decide +kernel
theorem dX7_solves_57 : decode cX7_solves 57 = .ok (.goto 4, 3) := by decide +kernel
theorem dX7_solves_60 : decode cX7_solves 60 = .ok (.iconst 0, 1) := by decide +kernel
theorem dX7_solves_61 : decode cX7_solves 61 = .ok (.iastore, 1) := by decide +kernel
theorem dX7_solves_62 : decode cX7_solves 62 = .ok (.iinc 3 1, 3) := by decide +kernel
theorem dX7_solves_65 : decode cX7_solves 65 = .ok (.goto (-45), 3) := by decide +kernel
theorem dX7_solves_68 : decode cX7_solves 68 = .ok (.aload_n 0, 1) := by decide +kernel
theorem dX7_solves_69 : decode cX7_solves 69 = .ok (.iload_n 2, 1) := by decide +kernel
theorem dX7_solves_70 : decode cX7_solves 70 = .ok (.iload_n 2, 1) := by decide +kernel
theorem dX7_solves_71 : decode cX7_solves 71 = .ok (.invokevirtual 93, 3) := by decide +kernel
theorem dX7_solves_74 : decode cX7_solves 74 = .ok (.ireturn, 1) := by decide +kernel
theorem dX7_ways_0 : decode cX7_ways 0 = .ok (.aload_n 0, 1) := by decide +kernel
theorem dX7_ways_1 : decode cX7_ways 1 = .ok (.iconst (-1), 1) := by decide +kernel
theorem dX7_ways_2 : decode cX7_ways 2 = .ok (.invokevirtual 97, 3) := by decide +kernel
theorem dX7_ways_5 : decode cX7_ways 5 = .ok (.ifCond .ne 5, 3) := by decide +kernel
theorem dX7_ways_8 : decode cX7_ways 8 = .ok (.lconst 0, 1) := by decide +kernel
theorem dX7_ways_9 : decode cX7_ways 9 = .ok (.lreturn, 1) := by decide +kernel
theorem dX7_ways_10 : decode cX7_ways 10 = .ok (.lconst 1, 1) := by decide +kernel
theorem dX7_ways_11 : decode cX7_ways 11 = .ok (.lstore_n 1, 1) := by decide +kernel
theorem dX7_ways_12 : decode cX7_ways 12 = .ok (.aload_n 0, 1) := by decide +kernel
theorem dX7_ways_13 : decode cX7_ways 13 = .ok (.getfield 87, 3) := by decide +kernel
theorem dX7_ways_16 : decode cX7_ways 16 = .ok (.istore_n 3, 1) := by decide +kernel
theorem dX7_ways_17 : decode cX7_ways 17 = .ok (.iload_n 3, 1) := by decide +kernel
theorem dX7_ways_18 : decode cX7_ways 18 = .ok (.aload_n 0, 1) := by decide +kernel
theorem dX7_ways_19 : decode cX7_ways 19 = .ok (.getfield 7, 3) := by decide +kernel
theorem dX7_ways_22 : decode cX7_ways 22 = .ok (.iconst 0, 1) := by decide +kernel
theorem dX7_ways_23 : decode cX7_ways 23 = .ok (.iaload, 1) := by decide +kernel
theorem dX7_ways_24 : decode cX7_ways 24 = .ok (.if_icmp .ge 19, 3) := by decide +kernel
theorem dX7_ways_27 : decode cX7_ways 27 = .ok (.lload_n 1, 1) := by decide +kernel
theorem dX7_ways_28 : decode cX7_ways 28 = .ok (.aload_n 0, 1) := by decide +kernel
theorem dX7_ways_29 : decode cX7_ways 29 = .ok (.getfield 7, 3) := by decide +kernel
theorem dX7_ways_32 : decode cX7_ways 32 = .ok (.iconst 2, 1) := by decide +kernel
theorem dX7_ways_33 : decode cX7_ways 33 = .ok (.iaload, 1) := by decide +kernel
theorem dX7_ways_34 : decode cX7_ways 34 = .ok (.i2l, 1) := by decide +kernel
theorem dX7_ways_35 : decode cX7_ways 35 = .ok (.lmul, 1) := by decide +kernel
theorem dX7_ways_36 : decode cX7_ways 36 = .ok (.lstore_n 1, 1) := by decide +kernel
theorem dX7_ways_37 : decode cX7_ways 37 = .ok (.iinc 3 1, 3) := by decide +kernel
theorem dX7_ways_40 : decode cX7_ways 40 = .ok (.goto (-23), 3) := by decide +kernel
theorem dX7_ways_43 : decode cX7_ways 43 = .ok (.lload_n 1, 1) := by decide +kernel
theorem dX7_ways_44 : decode cX7_ways 44 = .ok (.lreturn, 1) := by decide +kernel
theorem dX7_isPrime_0 : decode cX7_isPrime 0 = .ok (.iload_n 0, 1) := by decide +kernel
theorem dX7_isPrime_1 : decode cX7_isPrime 1 = .ok (.i2l, 1) := by decide +kernel
theorem dX7_isPrime_2 : decode cX7_isPrime 2 = .ok (.ldc2_w 101, 3) := by decide +kernel
theorem dX7_isPrime_5 : decode cX7_isPrime 5 = .ok (.ldc2_w 103, 3) := by decide +kernel
theorem dX7_isPrime_8 : decode cX7_isPrime 8 = .ok (.invokestatic 57, 3) := by decide +kernel
theorem dX7_isPrime_11 : decode cX7_isPrime 11 = .ok (.ifCond .ne 5, 3) := by decide +kernel
theorem dX7_isPrime_14 : decode cX7_isPrime 14 = .ok (.iconst 0, 1) := by decide +kernel
theorem dX7_isPrime_15 : decode cX7_isPrime 15 = .ok (.ireturn, 1) := by decide +kernel
theorem dX7_isPrime_16 : decode cX7_isPrime 16 = .ok (.iconst 1, 1) := by decide +kernel
theorem dX7_isPrime_17 : decode cX7_isPrime 17 = .ok (.istore_n 1, 1) := by decide +kernel
theorem dX7_isPrime_18 : decode cX7_isPrime 18 = .ok (.iconst 2, 1) := by decide +kernel
theorem dX7_isPrime_19 : decode cX7_isPrime 19 = .ok (.istore_n 2, 1) := by decide +kernel
theorem dX7_isPrime_20 : decode cX7_isPrime 20 = .ok (.iload_n 2, 1) := by decide +kernel
theorem dX7_isPrime_21 : decode cX7_isPrime 21 = .ok (.iload_n 0, 1) := by decide +kernel
theorem dX7_isPrime_22 : decode cX7_isPrime 22 = .ok (.if_icmp .ge 25, 3) := by decide +kernel
theorem dX7_isPrime_25 : decode cX7_isPrime 25 = .ok (.iload_n 1, 1) := by decide +kernel
theorem dX7_isPrime_26 : decode cX7_isPrime 26 = .ok (.ifCond .eq 13, 3) := by decide +kernel
theorem dX7_isPrime_29 : decode cX7_isPrime 29 = .ok (.iload_n 0, 1) := by decide +kernel
theorem dX7_isPrime_30 : decode cX7_isPrime 30 = .ok (.iload_n 2, 1) := by decide +kernel
theorem dX7_isPrime_31 : decode cX7_isPrime 31 = .ok (.irem, 1) := by decide +kernel
theorem dX7_isPrime_32 : decode cX7_isPrime 32 = .ok (.ifCond .eq 7, 3) := by decide +kernel
theorem dX7_isPrime_35 : decode cX7_isPrime 35 = .ok (.iconst 1, 1) := by decide +kernel
theorem dX7_isPrime_36 : decode cX7_isPrime 36 = .ok (.goto 4, 3) := by decide +kernel
theorem dX7_isPrime_39 : decode cX7_isPrime 39 = .ok (.iconst 0, 1) := by decide +kernel
theorem dX7_isPrime_40 : decode cX7_isPrime 40 = .ok (.istore_n 1, 1) := by decide +kernel
theorem dX7_isPrime_41 : decode cX7_isPrime 41 = .ok (.iinc 2 1, 3) := by decide +kernel
theorem dX7_isPrime_44 : decode cX7_isPrime 44 = .ok (.goto (-24), 3) := by decide +kernel
theorem dX7_isPrime_47 : decode cX7_isPrime 47 = .ok (.iload_n 1, 1) := by decide +kernel
theorem dX7_isPrime_48 : decode cX7_isPrime 48 = .ok (.ireturn, 1) := by decide +kernel
theorem dX7_prime_0 : decode cX7_prime 0 = .ok (.iload_n 1, 1) := by decide +kernel
theorem dX7_prime_1 : decode cX7_prime 1 = .ok (.invokestatic 105, 3) := by decide +kernel
theorem dX7_prime_4 : decode cX7_prime 4 = .ok (.ifCond .ne 5, 3) := by decide +kernel
theorem dX7_prime_7 : decode cX7_prime 7 = .ok (.iconst (-1), 1) := by decide +kernel
theorem dX7_prime_8 : decode cX7_prime 8 = .ok (.ireturn, 1) := by decide +kernel
theorem dX7_prime_9 : decode cX7_prime 9 = .ok (.aload_n 0, 1) := by decide +kernel
theorem dX7_prime_10 : decode cX7_prime 10 = .ok (.getfield 7, 3) := by decide +kernel
theorem dX7_prime_13 : decode cX7_prime 13 = .ok (.iconst 2, 1) := by decide +kernel
theorem dX7_prime_14 : decode cX7_prime 14 = .ok (.iaload, 1) := by decide +kernel
theorem dX7_prime_15 : decode cX7_prime 15 = .ok (.istore_n 2, 1) := by decide +kernel
theorem dX7_prime_16 : decode cX7_prime 16 = .ok (.iload_n 2, 1) := by decide +kernel
theorem dX7_prime_17 : decode cX7_prime 17 = .ok (.iload_n 1, 1) := by decide +kernel
theorem dX7_prime_18 : decode cX7_prime 18 = .ok (.if_icmp .ne 6, 3) := by decide +kernel
theorem dX7_prime_21 : decode cX7_prime 21 = .ok (.bipush (-2), 2) := by decide +kernel
theorem dX7_prime_23 : decode cX7_prime 23 = .ok (.ireturn, 1) := by decide +kernel
theorem dX7_prime_24 : decode cX7_prime 24 = .ok (.aload_n 0, 1) := by decide +kernel
theorem dX7_prime_25 : decode cX7_prime 25 = .ok (.getfield 7, 3) := by decide +kernel
theorem dX7_prime_28 : decode cX7_prime 28 = .ok (.iconst 2, 1) := by decide +kernel
theorem dX7_prime_29 : decode cX7_prime 29 = .ok (.iload_n 1, 1) := by decide +kernel
theorem dX7_prime_30 : decode cX7_prime 30 = .ok (.iastore, 1) := by decide +kernel
theorem dX7_prime_31 : decode cX7_prime 31 = .ok (.iconst 4, 1) := by decide +kernel
theorem dX7_prime_32 : decode cX7_prime 32 = .ok (.istore_n 3, 1) := by decide +kernel
theorem dX7_prime_33 : decode cX7_prime 33 = .ok (.iload_n 3, 1) := by decide +kernel
theorem dX7_prime_34 : decode cX7_prime 34 = .ok (.bipush 21, 2) := by decide +kernel
theorem dX7_prime_36 : decode cX7_prime 36 = .ok (.if_icmp .ge 19, 3) := by decide +kernel
theorem dX7_prime_39 : decode cX7_prime 39 = .ok (.aload_n 0, 1) := by decide +kernel
theorem dX7_prime_40 : decode cX7_prime 40 = .ok (.getfield 7, 3) := by decide +kernel
theorem dX7_prime_43 : decode cX7_prime 43 = .ok (.iload_n 3, 1) := by decide +kernel
theorem dX7_prime_44 : decode cX7_prime 44 = .ok (.dup2, 1) := by decide +kernel
theorem dX7_prime_45 : decode cX7_prime 45 = .ok (.iaload, 1) := by decide +kernel
theorem dX7_prime_46 : decode cX7_prime 46 = .ok (.iload_n 1, 1) := by decide +kernel
theorem dX7_prime_47 : decode cX7_prime 47 = .ok (.irem, 1) := by decide +kernel
theorem dX7_prime_48 : decode cX7_prime 48 = .ok (.iastore, 1) := by decide +kernel
theorem dX7_prime_49 : decode cX7_prime 49 = .ok (.iinc 3 1, 3) := by decide +kernel
theorem dX7_prime_52 : decode cX7_prime 52 = .ok (.goto (-19), 3) := by decide +kernel
theorem dX7_prime_55 : decode cX7_prime 55 = .ok (.aload_n 0, 1) := by decide +kernel
theorem dX7_prime_56 : decode cX7_prime 56 = .ok (.iconst 0, 1) := by decide +kernel
theorem dX7_prime_57 : decode cX7_prime 57 = .ok (.putfield 108, 3) := by decide +kernel
theorem dX7_prime_60 : decode cX7_prime 60 = .ok (.iload_n 2, 1) := by decide +kernel
theorem dX7_prime_61 : decode cX7_prime 61 = .ok (.ireturn, 1) := by decide +kernel
theorem dX7_line_0 : decode cX7_line 0 = .ok (.aload_n 0, 1) := by decide +kernel
theorem dX7_line_1 : decode cX7_line 1 = .ok (.iload_n 1, 1) := by decide +kernel
theorem dX7_line_2 : decode cX7_line 2 = .ok (.invokevirtual 111, 3) := by decide +kernel
theorem dX7_line_5 : decode cX7_line 5 = .ok (.ifCond .eq 14, 3) := by decide +kernel
theorem dX7_line_8 : decode cX7_line 8 = .ok (.aload_n 0, 1) := by decide +kernel
theorem dX7_line_9 : decode cX7_line 9 = .ok (.getfield 7, 3) := by decide +kernel
theorem dX7_line_12 : decode cX7_line 12 = .ok (.iconst 4, 1) := by decide +kernel
theorem dX7_line_13 : decode cX7_line 13 = .ok (.iload_n 1, 1) := by decide +kernel
theorem dX7_line_14 : decode cX7_line 14 = .ok (.iadd, 1) := by decide +kernel
theorem dX7_line_15 : decode cX7_line 15 = .ok (.iaload, 1) := by decide +kernel
theorem dX7_line_16 : decode cX7_line 16 = .ok (.goto 4, 3) := by decide +kernel
theorem dX7_line_19 : decode cX7_line 19 = .ok (.iconst (-1), 1) := by decide +kernel
theorem dX7_line_20 : decode cX7_line 20 = .ok (.ireturn, 1) := by decide +kernel
theorem dX7_right_0 : decode cX7_right 0 = .ok (.aload_n 0, 1) := by decide +kernel
theorem dX7_right_1 : decode cX7_right 1 = .ok (.iload_n 1, 1) := by decide +kernel
theorem dX7_right_2 : decode cX7_right 2 = .ok (.invokevirtual 114, 3) := by decide +kernel
theorem dX7_right_5 : decode cX7_right 5 = .ok (.ifCond .eq 15, 3) := by decide +kernel
theorem dX7_right_8 : decode cX7_right 8 = .ok (.aload_n 0, 1) := by decide +kernel
theorem dX7_right_9 : decode cX7_right 9 = .ok (.getfield 7, 3) := by decide +kernel
theorem dX7_right_12 : decode cX7_right 12 = .ok (.bipush 15, 2) := by decide +kernel
theorem dX7_right_14 : decode cX7_right 14 = .ok (.iload_n 1, 1) := by decide +kernel
theorem dX7_right_15 : decode cX7_right 15 = .ok (.iadd, 1) := by decide +kernel
theorem dX7_right_16 : decode cX7_right 16 = .ok (.iaload, 1) := by decide +kernel
theorem dX7_right_17 : decode cX7_right 17 = .ok (.goto 4, 3) := by decide +kernel
theorem dX7_right_20 : decode cX7_right 20 = .ok (.iconst (-1), 1) := by decide +kernel
theorem dX7_right_21 : decode cX7_right 21 = .ok (.ireturn, 1) := by decide +kernel
theorem dX7_entry_0 : decode cX7_entry 0 = .ok (.aload_n 0, 1) := by decide +kernel
theorem dX7_entry_1 : decode cX7_entry 1 = .ok (.iload_n 1, 1) := by decide +kernel
theorem dX7_entry_2 : decode cX7_entry 2 = .ok (.invokevirtual 114, 3) := by decide +kernel
theorem dX7_entry_5 : decode cX7_entry 5 = .ok (.ifCond .eq 26, 3) := by decide +kernel
theorem dX7_entry_8 : decode cX7_entry 8 = .ok (.aload_n 0, 1) := by decide +kernel
theorem dX7_entry_9 : decode cX7_entry 9 = .ok (.iload_n 2, 1) := by decide +kernel
theorem dX7_entry_10 : decode cX7_entry 10 = .ok (.invokevirtual 114, 3) := by decide +kernel
theorem dX7_entry_13 : decode cX7_entry 13 = .ok (.ifCond .eq 18, 3) := by decide +kernel
theorem dX7_entry_16 : decode cX7_entry 16 = .ok (.aload_n 0, 1) := by decide +kernel
theorem dX7_entry_17 : decode cX7_entry 17 = .ok (.aload_n 0, 1) := by decide +kernel
theorem dX7_entry_18 : decode cX7_entry 18 = .ok (.getfield 7, 3) := by decide +kernel
theorem dX7_entry_21 : decode cX7_entry 21 = .ok (.iconst 1, 1) := by decide +kernel
theorem dX7_entry_22 : decode cX7_entry 22 = .ok (.iaload, 1) := by decide +kernel
theorem dX7_entry_23 : decode cX7_entry 23 = .ok (.iload_n 1, 1) := by decide +kernel
theorem dX7_entry_24 : decode cX7_entry 24 = .ok (.iload_n 2, 1) := by decide +kernel
theorem dX7_entry_25 : decode cX7_entry 25 = .ok (.invokevirtual 65, 3) := by decide +kernel
theorem dX7_entry_28 : decode cX7_entry 28 = .ok (.goto 4, 3) := by decide +kernel
theorem dX7_entry_31 : decode cX7_entry 31 = .ok (.iconst (-1), 1) := by decide +kernel
theorem dX7_entry_32 : decode cX7_entry 32 = .ok (.ireturn, 1) := by decide +kernel
theorem dX7_singular_0 : decode cX7_singular 0 = .ok (.iconst 0, 1) := by decide +kernel
theorem dX7_singular_1 : decode cX7_singular 1 = .ok (.istore_n 1, 1) := by decide +kernel
theorem dX7_singular_2 : decode cX7_singular 2 = .ok (.iconst 1, 1) := by decide +kernel
theorem dX7_singular_3 : decode cX7_singular 3 = .ok (.istore_n 2, 1) := by decide +kernel
theorem dX7_singular_4 : decode cX7_singular 4 = .ok (.iload_n 2, 1) := by decide +kernel
theorem dX7_singular_5 : decode cX7_singular 5 = .ok (.aload_n 0, 1) := by decide +kernel
theorem dX7_singular_6 : decode cX7_singular 6 = .ok (.getfield 7, 3) := by decide +kernel
theorem dX7_singular_9 : decode cX7_singular 9 = .ok (.iconst 0, 1) := by decide +kernel
theorem dX7_singular_10 : decode cX7_singular 10 = .ok (.iaload, 1) := by decide +kernel
theorem dX7_singular_11 : decode cX7_singular 11 = .ok (.if_icmp .gt 27, 3) := by decide +kernel
theorem dX7_singular_14 : decode cX7_singular 14 = .ok (.iload_n 1, 1) := by decide +kernel
theorem dX7_singular_15 : decode cX7_singular 15 = .ok (.aload_n 0, 1) := by decide +kernel
theorem dX7_singular_16 : decode cX7_singular 16 = .ok (.iload_n 2, 1) := by decide +kernel
theorem dX7_singular_17 : decode cX7_singular 17 = .ok (.invokevirtual 117, 3) := by decide +kernel
theorem dX7_singular_20 : decode cX7_singular 20 = .ok (.ifCond .ne 9, 3) := by decide +kernel
theorem dX7_singular_23 : decode cX7_singular 23 = .ok (.iconst 1, 1) := by decide +kernel
theorem dX7_singular_24 : decode cX7_singular 24 = .ok (.iload_n 2, 1) := by decide +kernel
theorem dX7_singular_25 : decode cX7_singular 25 = .ok (.ishl, 1) := by decide +kernel
theorem dX7_singular_26 : decode cX7_singular 26 = .ok (.goto 4, 3) := by decide +kernel
theorem dX7_singular_29 : decode cX7_singular 29 = .ok (.iconst 0, 1) := by decide +kernel
theorem dX7_singular_30 : decode cX7_singular 30 = .ok (.ior, 1) := by decide +kernel
theorem dX7_singular_31 : decode cX7_singular 31 = .ok (.istore_n 1, 1) := by decide +kernel
theorem dX7_singular_32 : decode cX7_singular 32 = .ok (.iinc 2 1, 3) := by decide +kernel
theorem dX7_singular_35 : decode cX7_singular 35 = .ok (.goto (-31), 3) := by decide +kernel
theorem dX7_singular_38 : decode cX7_singular 38 = .ok (.iload_n 1, 1) := by decide +kernel
theorem dX7_singular_39 : decode cX7_singular 39 = .ok (.ireturn, 1) := by decide +kernel
theorem dX7_rankOf_0 : decode cX7_rankOf 0 = .ok (.aload_n 0, 1) := by decide +kernel
theorem dX7_rankOf_1 : decode cX7_rankOf 1 = .ok (.iconst (-1), 1) := by decide +kernel
theorem dX7_rankOf_2 : decode cX7_rankOf 2 = .ok (.invokevirtual 97, 3) := by decide +kernel
theorem dX7_rankOf_5 : decode cX7_rankOf 5 = .ok (.istore_n 1, 1) := by decide +kernel
theorem dX7_rankOf_6 : decode cX7_rankOf 6 = .ok (.iload_n 1, 1) := by decide +kernel
theorem dX7_rankOf_7 : decode cX7_rankOf 7 = .ok (.ifCond .ne 10, 3) := by decide +kernel
theorem dX7_rankOf_10 : decode cX7_rankOf 10 = .ok (.aload_n 0, 1) := by decide +kernel
theorem dX7_rankOf_11 : decode cX7_rankOf 11 = .ok (.getfield 87, 3) := by decide +kernel
theorem dX7_rankOf_14 : decode cX7_rankOf 14 = .ok (.ifCond .lt 10, 3) := by decide +kernel
theorem dX7_rankOf_17 : decode cX7_rankOf 17 = .ok (.aload_n 0, 1) := by decide +kernel
theorem dX7_rankOf_18 : decode cX7_rankOf 18 = .ok (.getfield 87, 3) := by decide +kernel
theorem dX7_rankOf_21 : decode cX7_rankOf 21 = .ok (.goto 5, 3) := by decide +kernel
theorem dX7_rankOf_24 : decode cX7_rankOf 24 = .ok (.bipush (-4), 2) := by decide +kernel
theorem dX7_rankOf_26 : decode cX7_rankOf 26 = .ok (.ireturn, 1) := by decide +kernel
theorem dX7_count_0 : decode cX7_count 0 = .ok (.iload_n 1, 1) := by decide +kernel
theorem dX7_count_1 : decode cX7_count 1 = .ok (.tableswitch 99 0 7 #[47, 54, 61, 68, 73, 78, 89, 94], 47) := by decide +kernel
theorem dX7_count_48 : decode cX7_count 48 = .ok (.aload_n 0, 1) := by decide +kernel
theorem dX7_count_49 : decode cX7_count 49 = .ok (.getfield 7, 3) := by decide +kernel
theorem dX7_count_52 : decode cX7_count 52 = .ok (.iconst 0, 1) := by decide +kernel
theorem dX7_count_53 : decode cX7_count 53 = .ok (.iaload, 1) := by decide +kernel
theorem dX7_count_54 : decode cX7_count 54 = .ok (.ireturn, 1) := by decide +kernel
theorem dX7_count_55 : decode cX7_count 55 = .ok (.aload_n 0, 1) := by decide +kernel
theorem dX7_count_56 : decode cX7_count 56 = .ok (.getfield 7, 3) := by decide +kernel
theorem dX7_count_59 : decode cX7_count 59 = .ok (.iconst 1, 1) := by decide +kernel
theorem dX7_count_60 : decode cX7_count 60 = .ok (.iaload, 1) := by decide +kernel
theorem dX7_count_61 : decode cX7_count 61 = .ok (.ireturn, 1) := by decide +kernel
theorem dX7_count_62 : decode cX7_count 62 = .ok (.aload_n 0, 1) := by decide +kernel
theorem dX7_count_63 : decode cX7_count 63 = .ok (.getfield 7, 3) := by decide +kernel
theorem dX7_count_66 : decode cX7_count 66 = .ok (.iconst 2, 1) := by decide +kernel
theorem dX7_count_67 : decode cX7_count 67 = .ok (.iaload, 1) := by decide +kernel
theorem dX7_count_68 : decode cX7_count 68 = .ok (.ireturn, 1) := by decide +kernel
theorem dX7_count_69 : decode cX7_count 69 = .ok (.aload_n 0, 1) := by decide +kernel
theorem dX7_count_70 : decode cX7_count 70 = .ok (.invokevirtual 120, 3) := by decide +kernel
theorem dX7_count_73 : decode cX7_count 73 = .ok (.ireturn, 1) := by decide +kernel
theorem dX7_count_74 : decode cX7_count 74 = .ok (.aload_n 0, 1) := by decide +kernel
theorem dX7_count_75 : decode cX7_count 75 = .ok (.invokevirtual 123, 3) := by decide +kernel
theorem dX7_count_78 : decode cX7_count 78 = .ok (.ireturn, 1) := by decide +kernel
theorem dX7_count_79 : decode cX7_count 79 = .ok (.aload_n 0, 1) := by decide +kernel
theorem dX7_count_80 : decode cX7_count 80 = .ok (.aload_n 0, 1) := by decide +kernel
theorem dX7_count_81 : decode cX7_count 81 = .ok (.getfield 7, 3) := by decide +kernel
theorem dX7_count_84 : decode cX7_count 84 = .ok (.iconst 0, 1) := by decide +kernel
theorem dX7_count_85 : decode cX7_count 85 = .ok (.iaload, 1) := by decide +kernel
theorem dX7_count_86 : decode cX7_count 86 = .ok (.invokevirtual 117, 3) := by decide +kernel
theorem dX7_count_89 : decode cX7_count 89 = .ok (.ireturn, 1) := by decide +kernel
theorem dX7_count_90 : decode cX7_count 90 = .ok (.aload_n 0, 1) := by decide +kernel
theorem dX7_count_91 : decode cX7_count 91 = .ok (.invokevirtual 126, 3) := by decide +kernel
theorem dX7_count_94 : decode cX7_count 94 = .ok (.ireturn, 1) := by decide +kernel
theorem dX7_count_95 : decode cX7_count 95 = .ok (.aload_n 0, 1) := by decide +kernel
theorem dX7_count_96 : decode cX7_count 96 = .ok (.getfield 108, 3) := by decide +kernel
theorem dX7_count_99 : decode cX7_count 99 = .ok (.ireturn, 1) := by decide +kernel
theorem dX7_count_100 : decode cX7_count 100 = .ok (.iconst (-1), 1) := by decide +kernel
theorem dX7_count_101 : decode cX7_count 101 = .ok (.ireturn, 1) := by decide +kernel
theorem dX7_type_0 : decode cX7_type 0 = .ok (.iload_n 1, 1) := by decide +kernel
theorem dX7_type_1 : decode cX7_type 1 = .ok (.i2l, 1) := by decide +kernel
theorem dX7_type_2 : decode cX7_type 2 = .ok (.ldc2_w 129, 3) := by decide +kernel
theorem dX7_type_5 : decode cX7_type 5 = .ok (.ldc2_w 131, 3) := by decide +kernel
theorem dX7_type_8 : decode cX7_type 8 = .ok (.invokestatic 57, 3) := by decide +kernel
theorem dX7_type_11 : decode cX7_type 11 = .ok (.ifCond .ne 5, 3) := by decide +kernel
theorem dX7_type_14 : decode cX7_type 14 = .ok (.iconst (-1), 1) := by decide +kernel
theorem dX7_type_15 : decode cX7_type 15 = .ok (.ireturn, 1) := by decide +kernel
theorem dX7_type_16 : decode cX7_type 16 = .ok (.aload_n 0, 1) := by decide +kernel
theorem dX7_type_17 : decode cX7_type 17 = .ok (.getfield 133, 3) := by decide +kernel
theorem dX7_type_20 : decode cX7_type 20 = .ok (.bipush 70, 2) := by decide +kernel
theorem dX7_type_22 : decode cX7_type 22 = .ok (.if_icmp .ne 6, 3) := by decide +kernel
theorem dX7_type_25 : decode cX7_type 25 = .ok (.bipush (-3), 2) := by decide +kernel
theorem dX7_type_27 : decode cX7_type 27 = .ok (.ireturn, 1) := by decide +kernel
theorem dX7_type_28 : decode cX7_type 28 = .ok (.aload_n 0, 1) := by decide +kernel
theorem dX7_type_29 : decode cX7_type 29 = .ok (.getfield 19, 3) := by decide +kernel
theorem dX7_type_32 : decode cX7_type 32 = .ok (.aload_n 0, 1) := by decide +kernel
theorem dX7_type_33 : decode cX7_type 33 = .ok (.getfield 133, 3) := by decide +kernel
theorem dX7_type_36 : decode cX7_type 36 = .ok (.iload_n 1, 1) := by decide +kernel
theorem dX7_type_37 : decode cX7_type 37 = .ok (.iastore, 1) := by decide +kernel
theorem dX7_type_38 : decode cX7_type 38 = .ok (.aload_n 0, 1) := by decide +kernel
theorem dX7_type_39 : decode cX7_type 39 = .ok (.dup, 1) := by decide +kernel
theorem dX7_type_40 : decode cX7_type 40 = .ok (.getfield 133, 3) := by decide +kernel
theorem dX7_type_43 : decode cX7_type 43 = .ok (.iconst 1, 1) := by decide +kernel
theorem dX7_type_44 : decode cX7_type 44 = .ok (.iadd, 1) := by decide +kernel
theorem dX7_type_45 : decode cX7_type 45 = .ok (.putfield 133, 3) := by decide +kernel
theorem dX7_type_48 : decode cX7_type 48 = .ok (.aload_n 0, 1) := by decide +kernel
theorem dX7_type_49 : decode cX7_type 49 = .ok (.getfield 133, 3) := by decide +kernel
theorem dX7_type_52 : decode cX7_type 52 = .ok (.ireturn, 1) := by decide +kernel
theorem dX7_here_0 : decode cX7_here 0 = .ok (.aload_n 0, 1) := by decide +kernel
theorem dX7_here_1 : decode cX7_here 1 = .ok (.getfield 136, 3) := by decide +kernel
theorem dX7_here_4 : decode cX7_here 4 = .ok (.aload_n 0, 1) := by decide +kernel
theorem dX7_here_5 : decode cX7_here 5 = .ok (.getfield 133, 3) := by decide +kernel
theorem dX7_here_8 : decode cX7_here 8 = .ok (.if_icmp .ge 30, 3) := by decide +kernel
theorem dX7_here_11 : decode cX7_here 11 = .ok (.aload_n 0, 1) := by decide +kernel
theorem dX7_here_12 : decode cX7_here 12 = .ok (.getfield 19, 3) := by decide +kernel
theorem dX7_here_15 : decode cX7_here 15 = .ok (.aload_n 0, 1) := by decide +kernel
theorem dX7_here_16 : decode cX7_here 16 = .ok (.getfield 136, 3) := by decide +kernel
theorem dX7_here_19 : decode cX7_here 19 = .ok (.iaload, 1) := by decide +kernel
theorem dX7_here_20 : decode cX7_here 20 = .ok (.bipush 32, 2) := by decide +kernel
theorem dX7_here_22 : decode cX7_here 22 = .ok (.if_icmp .ne 16, 3) := by decide +kernel
theorem dX7_here_25 : decode cX7_here 25 = .ok (.aload_n 0, 1) := by decide +kernel
theorem dX7_here_26 : decode cX7_here 26 = .ok (.dup, 1) := by decide +kernel
theorem dX7_here_27 : decode cX7_here 27 = .ok (.getfield 136, 3) := by decide +kernel
theorem dX7_here_30 : decode cX7_here 30 = .ok (.iconst 1, 1) := by decide +kernel
theorem dX7_here_31 : decode cX7_here 31 = .ok (.iadd, 1) := by decide +kernel
theorem dX7_here_32 : decode cX7_here 32 = .ok (.putfield 136, 3) := by decide +kernel
theorem dX7_here_35 : decode cX7_here 35 = .ok (.goto (-35), 3) := by decide +kernel
theorem dX7_here_38 : decode cX7_here 38 = .ok (.aload_n 0, 1) := by decide +kernel
theorem dX7_here_39 : decode cX7_here 39 = .ok (.getfield 136, 3) := by decide +kernel
theorem dX7_here_42 : decode cX7_here 42 = .ok (.aload_n 0, 1) := by decide +kernel
theorem dX7_here_43 : decode cX7_here 43 = .ok (.getfield 133, 3) := by decide +kernel
theorem dX7_here_46 : decode cX7_here 46 = .ok (.if_icmp .ge 15, 3) := by decide +kernel
theorem dX7_here_49 : decode cX7_here 49 = .ok (.aload_n 0, 1) := by decide +kernel
theorem dX7_here_50 : decode cX7_here 50 = .ok (.getfield 19, 3) := by decide +kernel
theorem dX7_here_53 : decode cX7_here 53 = .ok (.aload_n 0, 1) := by decide +kernel
theorem dX7_here_54 : decode cX7_here 54 = .ok (.getfield 136, 3) := by decide +kernel
theorem dX7_here_57 : decode cX7_here 57 = .ok (.iaload, 1) := by decide +kernel
theorem dX7_here_58 : decode cX7_here 58 = .ok (.goto 4, 3) := by decide +kernel
theorem dX7_here_61 : decode cX7_here 61 = .ok (.iconst 0, 1) := by decide +kernel
theorem dX7_here_62 : decode cX7_here 62 = .ok (.ireturn, 1) := by decide +kernel
theorem dX7_has_0 : decode cX7_has 0 = .ok (.aload_n 0, 1) := by decide +kernel
theorem dX7_has_1 : decode cX7_has 1 = .ok (.invokevirtual 139, 3) := by decide +kernel
theorem dX7_has_4 : decode cX7_has 4 = .ok (.iload_n 1, 1) := by decide +kernel
theorem dX7_has_5 : decode cX7_has 5 = .ok (.if_icmp .eq 5, 3) := by decide +kernel
theorem dX7_has_8 : decode cX7_has 8 = .ok (.iconst 0, 1) := by decide +kernel
theorem dX7_has_9 : decode cX7_has 9 = .ok (.ireturn, 1) := by decide +kernel
theorem dX7_has_10 : decode cX7_has 10 = .ok (.aload_n 0, 1) := by decide +kernel
theorem dX7_has_11 : decode cX7_has 11 = .ok (.dup, 1) := by decide +kernel
theorem dX7_has_12 : decode cX7_has 12 = .ok (.getfield 136, 3) := by decide +kernel
theorem dX7_has_15 : decode cX7_has 15 = .ok (.iconst 1, 1) := by decide +kernel
theorem dX7_has_16 : decode cX7_has 16 = .ok (.iadd, 1) := by decide +kernel
theorem dX7_has_17 : decode cX7_has 17 = .ok (.putfield 136, 3) := by decide +kernel
theorem dX7_has_20 : decode cX7_has 20 = .ok (.iconst 1, 1) := by decide +kernel
theorem dX7_has_21 : decode cX7_has 21 = .ok (.ireturn, 1) := by decide +kernel
theorem dX7_number_0 : decode cX7_number 0 = .ok (.aload_n 0, 1) := by decide +kernel
theorem dX7_number_1 : decode cX7_number 1 = .ok (.invokevirtual 139, 3) := by decide +kernel
theorem dX7_number_4 : decode cX7_number 4 = .ok (.i2l, 1) := by decide +kernel
theorem dX7_number_5 : decode cX7_number 5 = .ok (.ldc2_w 142, 3) := by decide +kernel
theorem dX7_number_8 : decode cX7_number 8 = .ok (.ldc2_w 144, 3) := by decide +kernel
theorem dX7_number_11 : decode cX7_number 11 = .ok (.invokestatic 57, 3) := by decide +kernel
theorem dX7_number_14 : decode cX7_number 14 = .ok (.ifCond .ne 5, 3) := by decide +kernel
theorem dX7_number_17 : decode cX7_number 17 = .ok (.iconst (-1), 1) := by decide +kernel
theorem dX7_number_18 : decode cX7_number 18 = .ok (.ireturn, 1) := by decide +kernel
theorem dX7_number_19 : decode cX7_number 19 = .ok (.aload_n 0, 1) := by decide +kernel
theorem dX7_number_20 : decode cX7_number 20 = .ok (.getfield 136, 3) := by decide +kernel
theorem dX7_number_23 : decode cX7_number 23 = .ok (.istore_n 1, 1) := by decide +kernel
theorem dX7_number_24 : decode cX7_number 24 = .ok (.aload_n 0, 1) := by decide +kernel
theorem dX7_number_25 : decode cX7_number 25 = .ok (.getfield 19, 3) := by decide +kernel
theorem dX7_number_28 : decode cX7_number 28 = .ok (.aload_n 0, 1) := by decide +kernel
theorem dX7_number_29 : decode cX7_number 29 = .ok (.getfield 136, 3) := by decide +kernel
theorem dX7_number_32 : decode cX7_number 32 = .ok (.iaload, 1) := by decide +kernel
theorem dX7_number_33 : decode cX7_number 33 = .ok (.bipush 48, 2) := by decide +kernel
theorem dX7_number_35 : decode cX7_number 35 = .ok (.isub, 1) := by decide +kernel
theorem dX7_number_36 : decode cX7_number 36 = .ok (.istore_n 2, 1) := by decide +kernel
theorem dX7_number_37 : decode cX7_number 37 = .ok (.aload_n 0, 1) := by decide +kernel
theorem dX7_number_38 : decode cX7_number 38 = .ok (.dup, 1) := by decide +kernel
theorem dX7_number_39 : decode cX7_number 39 = .ok (.getfield 136, 3) := by decide +kernel
theorem dX7_number_42 : decode cX7_number 42 = .ok (.iconst 1, 1) := by decide +kernel
theorem dX7_number_43 : decode cX7_number 43 = .ok (.iadd, 1) := by decide +kernel
theorem dX7_number_44 : decode cX7_number 44 = .ok (.putfield 136, 3) := by decide +kernel
theorem dX7_number_47 : decode cX7_number 47 = .ok (.aload_n 0, 1) := by decide +kernel
theorem dX7_number_48 : decode cX7_number 48 = .ok (.getfield 136, 3) := by decide +kernel
theorem dX7_number_51 : decode cX7_number 51 = .ok (.aload_n 0, 1) := by decide +kernel
theorem dX7_number_52 : decode cX7_number 52 = .ok (.getfield 133, 3) := by decide +kernel
theorem dX7_number_55 : decode cX7_number 55 = .ok (.if_icmp .ge 53, 3) := by decide +kernel
theorem dX7_number_58 : decode cX7_number 58 = .ok (.aload_n 0, 1) := by decide +kernel
theorem dX7_number_59 : decode cX7_number 59 = .ok (.getfield 19, 3) := by decide +kernel
theorem dX7_number_62 : decode cX7_number 62 = .ok (.aload_n 0, 1) := by decide +kernel
theorem dX7_number_63 : decode cX7_number 63 = .ok (.getfield 136, 3) := by decide +kernel
theorem dX7_number_66 : decode cX7_number 66 = .ok (.iaload, 1) := by decide +kernel
theorem dX7_number_67 : decode cX7_number 67 = .ok (.i2l, 1) := by decide +kernel
theorem dX7_number_68 : decode cX7_number 68 = .ok (.ldc2_w 142, 3) := by decide +kernel
theorem dX7_number_71 : decode cX7_number 71 = .ok (.ldc2_w 144, 3) := by decide +kernel
theorem dX7_number_74 : decode cX7_number 74 = .ok (.invokestatic 57, 3) := by decide +kernel
theorem dX7_number_77 : decode cX7_number 77 = .ok (.ifCond .eq 31, 3) := by decide +kernel
theorem dX7_number_80 : decode cX7_number 80 = .ok (.bipush 10, 2) := by decide +kernel
theorem dX7_number_82 : decode cX7_number 82 = .ok (.iload_n 2, 1) := by decide +kernel
theorem dX7_number_83 : decode cX7_number 83 = .ok (.imul, 1) := by decide +kernel
theorem dX7_number_84 : decode cX7_number 84 = .ok (.aload_n 0, 1) := by decide +kernel
theorem dX7_number_85 : decode cX7_number 85 = .ok (.getfield 19, 3) := by decide +kernel
theorem dX7_number_88 : decode cX7_number 88 = .ok (.aload_n 0, 1) := by decide +kernel
theorem dX7_number_89 : decode cX7_number 89 = .ok (.getfield 136, 3) := by decide +kernel
theorem dX7_number_92 : decode cX7_number 92 = .ok (.iaload, 1) := by decide +kernel
theorem dX7_number_93 : decode cX7_number 93 = .ok (.iadd, 1) := by decide +kernel
theorem dX7_number_94 : decode cX7_number 94 = .ok (.bipush 48, 2) := by decide +kernel
theorem dX7_number_96 : decode cX7_number 96 = .ok (.isub, 1) := by decide +kernel
theorem dX7_number_97 : decode cX7_number 97 = .ok (.istore_n 2, 1) := by decide +kernel
theorem dX7_number_98 : decode cX7_number 98 = .ok (.aload_n 0, 1) := by decide +kernel
theorem dX7_number_99 : decode cX7_number 99 = .ok (.dup, 1) := by decide +kernel
theorem dX7_number_100 : decode cX7_number 100 = .ok (.getfield 136, 3) := by decide +kernel
theorem dX7_number_103 : decode cX7_number 103 = .ok (.iconst 1, 1) := by decide +kernel
theorem dX7_number_104 : decode cX7_number 104 = .ok (.iadd, 1) := by decide +kernel
theorem dX7_number_105 : decode cX7_number 105 = .ok (.putfield 136, 3) := by decide +kernel
theorem dX7_number_108 : decode cX7_number 108 = .ok (.aload_n 0, 1) := by decide +kernel
theorem dX7_number_109 : decode cX7_number 109 = .ok (.iload_n 2, 1) := by decide +kernel
theorem dX7_number_110 : decode cX7_number 110 = .ok (.i2l, 1) := by decide +kernel
theorem dX7_number_111 : decode cX7_number 111 = .ok (.invokevirtual 146, 3) := by decide +kernel
theorem dX7_number_114 : decode cX7_number 114 = .ok (.ifCond .ne 10, 3) := by decide +kernel
theorem dX7_number_117 : decode cX7_number 117 = .ok (.aload_n 0, 1) := by decide +kernel
theorem dX7_number_118 : decode cX7_number 118 = .ok (.iload_n 1, 1) := by decide +kernel
theorem dX7_number_119 : decode cX7_number 119 = .ok (.putfield 136, 3) := by decide +kernel
theorem dX7_number_122 : decode cX7_number 122 = .ok (.iconst (-1), 1) := by decide +kernel
theorem dX7_number_123 : decode cX7_number 123 = .ok (.ireturn, 1) := by decide +kernel
theorem dX7_number_124 : decode cX7_number 124 = .ok (.iload_n 2, 1) := by decide +kernel
theorem dX7_number_125 : decode cX7_number 125 = .ok (.ireturn, 1) := by decide +kernel
theorem dX7_kindBy_0 : decode cX7_kindBy 0 = .ok (.iload_n 0, 1) := by decide +kernel
theorem dX7_kindBy_1 : decode cX7_kindBy 1 = .ok (.bipush 115, 2) := by decide +kernel
theorem dX7_kindBy_3 : decode cX7_kindBy 3 = .ok (.if_icmp .ne 7, 3) := by decide +kernel
theorem dX7_kindBy_6 : decode cX7_kindBy 6 = .ok (.iconst 0, 1) := by decide +kernel
theorem dX7_kindBy_7 : decode cX7_kindBy 7 = .ok (.goto 44, 3) := by decide +kernel
theorem dX7_kindBy_10 : decode cX7_kindBy 10 = .ok (.iload_n 0, 1) := by decide +kernel
theorem dX7_kindBy_11 : decode cX7_kindBy 11 = .ok (.bipush 98, 2) := by decide +kernel
theorem dX7_kindBy_13 : decode cX7_kindBy 13 = .ok (.if_icmp .ne 7, 3) := by decide +kernel
theorem dX7_kindBy_16 : decode cX7_kindBy 16 = .ok (.iconst 1, 1) := by decide +kernel
theorem dX7_kindBy_17 : decode cX7_kindBy 17 = .ok (.goto 34, 3) := by decide +kernel
theorem dX7_kindBy_20 : decode cX7_kindBy 20 = .ok (.iload_n 0, 1) := by decide +kernel
theorem dX7_kindBy_21 : decode cX7_kindBy 21 = .ok (.bipush 101, 2) := by decide +kernel
theorem dX7_kindBy_23 : decode cX7_kindBy 23 = .ok (.if_icmp .ne 7, 3) := by decide +kernel
theorem dX7_kindBy_26 : decode cX7_kindBy 26 = .ok (.iconst 2, 1) := by decide +kernel
theorem dX7_kindBy_27 : decode cX7_kindBy 27 = .ok (.goto 24, 3) := by decide +kernel
theorem dX7_kindBy_30 : decode cX7_kindBy 30 = .ok (.iload_n 0, 1) := by decide +kernel
theorem dX7_kindBy_31 : decode cX7_kindBy 31 = .ok (.bipush 114, 2) := by decide +kernel
theorem dX7_kindBy_33 : decode cX7_kindBy 33 = .ok (.if_icmp .ne 7, 3) := by decide +kernel
theorem dX7_kindBy_36 : decode cX7_kindBy 36 = .ok (.iconst 3, 1) := by decide +kernel
theorem dX7_kindBy_37 : decode cX7_kindBy 37 = .ok (.goto 14, 3) := by decide +kernel
theorem dX7_kindBy_40 : decode cX7_kindBy 40 = .ok (.iload_n 0, 1) := by decide +kernel
theorem dX7_kindBy_41 : decode cX7_kindBy 41 = .ok (.bipush 110, 2) := by decide +kernel
theorem dX7_kindBy_43 : decode cX7_kindBy 43 = .ok (.if_icmp .ne 7, 3) := by decide +kernel
theorem dX7_kindBy_46 : decode cX7_kindBy 46 = .ok (.iconst 4, 1) := by decide +kernel
theorem dX7_kindBy_47 : decode cX7_kindBy 47 = .ok (.goto 4, 3) := by decide +kernel
theorem dX7_kindBy_50 : decode cX7_kindBy 50 = .ok (.iconst (-1), 1) := by decide +kernel
theorem dX7_kindBy_51 : decode cX7_kindBy 51 = .ok (.ireturn, 1) := by decide +kernel
theorem dX7_numbers_0 : decode cX7_numbers 0 = .ok (.iconst 0, 1) := by decide +kernel
theorem dX7_numbers_1 : decode cX7_numbers 1 = .ok (.istore_n 3, 1) := by decide +kernel
theorem dX7_numbers_2 : decode cX7_numbers 2 = .ok (.iconst 1, 1) := by decide +kernel
theorem dX7_numbers_3 : decode cX7_numbers 3 = .ok (.istore 4, 2) := by decide +kernel
theorem dX7_numbers_5 : decode cX7_numbers 5 = .ok (.iload 4, 2) := by decide +kernel
theorem dX7_numbers_7 : decode cX7_numbers 7 = .ok (.ifCond .eq 53, 3) := by decide +kernel
theorem dX7_numbers_10 : decode cX7_numbers 10 = .ok (.aload_n 0, 1) := by decide +kernel
theorem dX7_numbers_11 : decode cX7_numbers 11 = .ok (.invokevirtual 150, 3) := by decide +kernel
theorem dX7_numbers_14 : decode cX7_numbers 14 = .ok (.istore 5, 2) := by decide +kernel
theorem dX7_numbers_16 : decode cX7_numbers 16 = .ok (.iload 5, 2) := by decide +kernel
theorem dX7_numbers_18 : decode cX7_numbers 18 = .ok (.ifCond .ge 5, 3) := by decide +kernel
theorem dX7_numbers_21 : decode cX7_numbers 21 = .ok (.iconst (-1), 1) := by decide +kernel
theorem dX7_numbers_22 : decode cX7_numbers 22 = .ok (.ireturn, 1) := by decide +kernel
theorem dX7_numbers_23 : decode cX7_numbers 23 = .ok (.aload_n 0, 1) := by decide +kernel
theorem dX7_numbers_24 : decode cX7_numbers 24 = .ok (.getfield 22, 3) := by decide +kernel
theorem dX7_numbers_27 : decode cX7_numbers 27 = .ok (.iload_n 1, 1) := by decide +kernel
theorem dX7_numbers_28 : decode cX7_numbers 28 = .ok (.iload_n 3, 1) := by decide +kernel
theorem dX7_numbers_29 : decode cX7_numbers 29 = .ok (.iadd, 1) := by decide +kernel
theorem dX7_numbers_30 : decode cX7_numbers 30 = .ok (.iload 5, 2) := by decide +kernel
theorem dX7_numbers_32 : decode cX7_numbers 32 = .ok (.iastore, 1) := by decide +kernel
theorem dX7_numbers_33 : decode cX7_numbers 33 = .ok (.iinc 3 1, 3) := by decide +kernel
theorem dX7_numbers_36 : decode cX7_numbers 36 = .ok (.iload_n 3, 1) := by decide +kernel
theorem dX7_numbers_37 : decode cX7_numbers 37 = .ok (.iload_n 2, 1) := by decide +kernel
theorem dX7_numbers_38 : decode cX7_numbers 38 = .ok (.if_icmp .ge 16, 3) := by decide +kernel
theorem dX7_numbers_41 : decode cX7_numbers 41 = .ok (.aload_n 0, 1) := by decide +kernel
theorem dX7_numbers_42 : decode cX7_numbers 42 = .ok (.bipush 44, 2) := by decide +kernel
theorem dX7_numbers_44 : decode cX7_numbers 44 = .ok (.invokevirtual 153, 3) := by decide +kernel
theorem dX7_numbers_47 : decode cX7_numbers 47 = .ok (.ifCond .eq 7, 3) := by decide +kernel
theorem dX7_numbers_50 : decode cX7_numbers 50 = .ok (.iconst 1, 1) := by decide +kernel
theorem dX7_numbers_51 : decode cX7_numbers 51 = .ok (.goto 4, 3) := by decide +kernel
theorem dX7_numbers_54 : decode cX7_numbers 54 = .ok (.iconst 0, 1) := by decide +kernel
theorem dX7_numbers_55 : decode cX7_numbers 55 = .ok (.istore 4, 2) := by decide +kernel
theorem dX7_numbers_57 : decode cX7_numbers 57 = .ok (.goto (-52), 3) := by decide +kernel
theorem dX7_numbers_60 : decode cX7_numbers 60 = .ok (.iload_n 3, 1) := by decide +kernel
theorem dX7_numbers_61 : decode cX7_numbers 61 = .ok (.ireturn, 1) := by decide +kernel
theorem dX7_fault_0 : decode cX7_fault 0 = .ok (.aload_n 0, 1) := by decide +kernel
theorem dX7_fault_1 : decode cX7_fault 1 = .ok (.invokevirtual 139, 3) := by decide +kernel
theorem dX7_fault_4 : decode cX7_fault 4 = .ok (.ifCond .ne 7, 3) := by decide +kernel
theorem dX7_fault_7 : decode cX7_fault 7 = .ok (.iconst 1, 1) := by decide +kernel
theorem dX7_fault_8 : decode cX7_fault 8 = .ok (.goto 4, 3) := by decide +kernel
theorem dX7_fault_11 : decode cX7_fault 11 = .ok (.iconst 0, 1) := by decide +kernel
theorem dX7_fault_12 : decode cX7_fault 12 = .ok (.istore_n 1, 1) := by decide +kernel
theorem dX7_fault_13 : decode cX7_fault 13 = .ok (.bipush (-20), 2) := by decide +kernel
theorem dX7_fault_15 : decode cX7_fault 15 = .ok (.iload_n 1, 1) := by decide +kernel
theorem dX7_fault_16 : decode cX7_fault 16 = .ok (.ifCond .eq 10, 3) := by decide +kernel
theorem dX7_fault_19 : decode cX7_fault 19 = .ok (.aload_n 0, 1) := by decide +kernel
theorem dX7_fault_20 : decode cX7_fault 20 = .ok (.getfield 133, 3) := by decide +kernel
theorem dX7_fault_23 : decode cX7_fault 23 = .ok (.goto 7, 3) := by decide +kernel
theorem dX7_fault_26 : decode cX7_fault 26 = .ok (.aload_n 0, 1) := by decide +kernel
theorem dX7_fault_27 : decode cX7_fault 27 = .ok (.getfield 136, 3) := by decide +kernel
theorem dX7_fault_30 : decode cX7_fault 30 = .ok (.isub, 1) := by decide +kernel
theorem dX7_fault_31 : decode cX7_fault 31 = .ok (.istore_n 2, 1) := by decide +kernel
theorem dX7_fault_32 : decode cX7_fault 32 = .ok (.aload_n 0, 1) := by decide +kernel
theorem dX7_fault_33 : decode cX7_fault 33 = .ok (.iconst 0, 1) := by decide +kernel
theorem dX7_fault_34 : decode cX7_fault 34 = .ok (.putfield 133, 3) := by decide +kernel
theorem dX7_fault_37 : decode cX7_fault 37 = .ok (.iload_n 2, 1) := by decide +kernel
theorem dX7_fault_38 : decode cX7_fault 38 = .ok (.ireturn, 1) := by decide +kernel
theorem dX7_matrix_0 : decode cX7_matrix 0 = .ok (.aload_n 0, 1) := by decide +kernel
theorem dX7_matrix_1 : decode cX7_matrix 1 = .ok (.iconst 0, 1) := by decide +kernel
theorem dX7_matrix_2 : decode cX7_matrix 2 = .ok (.putfield 136, 3) := by decide +kernel
theorem dX7_matrix_5 : decode cX7_matrix 5 = .ok (.aload_n 0, 1) := by decide +kernel
theorem dX7_matrix_6 : decode cX7_matrix 6 = .ok (.invokevirtual 139, 3) := by decide +kernel
theorem dX7_matrix_9 : decode cX7_matrix 9 = .ok (.invokestatic 156, 3) := by decide +kernel
theorem dX7_matrix_12 : decode cX7_matrix 12 = .ok (.istore_n 1, 1) := by decide +kernel
theorem dX7_matrix_13 : decode cX7_matrix 13 = .ok (.iload_n 1, 1) := by decide +kernel
theorem dX7_matrix_14 : decode cX7_matrix 14 = .ok (.ifCond .ge 8, 3) := by decide +kernel
theorem dX7_matrix_17 : decode cX7_matrix 17 = .ok (.aload_n 0, 1) := by decide +kernel
theorem dX7_matrix_18 : decode cX7_matrix 18 = .ok (.invokevirtual 159, 3) := by decide +kernel
theorem dX7_matrix_21 : decode cX7_matrix 21 = .ok (.ireturn, 1) := by decide +kernel
theorem dX7_matrix_22 : decode cX7_matrix 22 = .ok (.aload_n 0, 1) := by decide +kernel
theorem dX7_matrix_23 : decode cX7_matrix 23 = .ok (.dup, 1) := by decide +kernel
theorem dX7_matrix_24 : decode cX7_matrix 24 = .ok (.getfield 136, 3) := by decide +kernel
theorem dX7_matrix_27 : decode cX7_matrix 27 = .ok (.iconst 1, 1) := by decide +kernel
theorem dX7_matrix_28 : decode cX7_matrix 28 = .ok (.iadd, 1) := by decide +kernel
theorem dX7_matrix_29 : decode cX7_matrix 29 = .ok (.putfield 136, 3) := by decide +kernel
theorem dX7_matrix_32 : decode cX7_matrix 32 = .ok (.aload_n 0, 1) := by decide +kernel
theorem dX7_matrix_33 : decode cX7_matrix 33 = .ok (.iconst 0, 1) := by decide +kernel
theorem dX7_matrix_34 : decode cX7_matrix 34 = .ok (.bipush 11, 2) := by decide +kernel
theorem dX7_matrix_36 : decode cX7_matrix 36 = .ok (.invokevirtual 162, 3) := by decide +kernel
theorem dX7_matrix_39 : decode cX7_matrix 39 = .ok (.istore_n 2, 1) := by decide +kernel
theorem dX7_matrix_40 : decode cX7_matrix 40 = .ok (.iload_n 2, 1) := by decide +kernel
theorem dX7_matrix_41 : decode cX7_matrix 41 = .ok (.ifCond .lt 9, 3) := by decide +kernel
theorem dX7_matrix_44 : decode cX7_matrix 44 = .ok (.iload_n 2, 1) := by decide +kernel
theorem dX7_matrix_45 : decode cX7_matrix 45 = .ok (.iconst 2, 1) := by decide +kernel
theorem dX7_matrix_46 : decode cX7_matrix 46 = .ok (.irem, 1) := by decide +kernel
theorem dX7_matrix_47 : decode cX7_matrix 47 = .ok (.ifCond .ne 8, 3) := by decide +kernel
theorem dX7_matrix_50 : decode cX7_matrix 50 = .ok (.aload_n 0, 1) := by decide +kernel
theorem dX7_matrix_51 : decode cX7_matrix 51 = .ok (.invokevirtual 159, 3) := by decide +kernel
theorem dX7_matrix_54 : decode cX7_matrix 54 = .ok (.ireturn, 1) := by decide +kernel
theorem dX7_matrix_55 : decode cX7_matrix 55 = .ok (.iload_n 2, 1) := by decide +kernel
theorem dX7_matrix_56 : decode cX7_matrix 56 = .ok (.iconst 1, 1) := by decide +kernel
theorem dX7_matrix_57 : decode cX7_matrix 57 = .ok (.iadd, 1) := by decide +kernel
theorem dX7_matrix_58 : decode cX7_matrix 58 = .ok (.iconst 2, 1) := by decide +kernel
theorem dX7_matrix_59 : decode cX7_matrix 59 = .ok (.idiv, 1) := by decide +kernel
theorem dX7_matrix_60 : decode cX7_matrix 60 = .ok (.istore_n 3, 1) := by decide +kernel
theorem dX7_matrix_61 : decode cX7_matrix 61 = .ok (.iconst 0, 1) := by decide +kernel
theorem dX7_matrix_62 : decode cX7_matrix 62 = .ok (.istore 4, 2) := by decide +kernel
theorem dX7_matrix_64 : decode cX7_matrix 64 = .ok (.aload_n 0, 1) := by decide +kernel
theorem dX7_matrix_65 : decode cX7_matrix 65 = .ok (.bipush 61, 2) := by decide +kernel
theorem dX7_matrix_67 : decode cX7_matrix 67 = .ok (.invokevirtual 153, 3) := by decide +kernel
theorem dX7_matrix_70 : decode cX7_matrix 70 = .ok (.ifCond .eq 23, 3) := by decide +kernel
theorem dX7_matrix_73 : decode cX7_matrix 73 = .ok (.aload_n 0, 1) := by decide +kernel
theorem dX7_matrix_74 : decode cX7_matrix 74 = .ok (.bipush 11, 2) := by decide +kernel
theorem dX7_matrix_76 : decode cX7_matrix 76 = .ok (.iload_n 3, 1) := by decide +kernel
theorem dX7_matrix_77 : decode cX7_matrix 77 = .ok (.invokevirtual 162, 3) := by decide +kernel
theorem dX7_matrix_80 : decode cX7_matrix 80 = .ok (.istore 4, 2) := by decide +kernel
theorem dX7_matrix_82 : decode cX7_matrix 82 = .ok (.iload 4, 2) := by decide +kernel
theorem dX7_matrix_84 : decode cX7_matrix 84 = .ok (.iload_n 3, 1) := by decide +kernel
theorem dX7_matrix_85 : decode cX7_matrix 85 = .ok (.if_icmp .eq 8, 3) := by decide +kernel
theorem dX7_matrix_88 : decode cX7_matrix 88 = .ok (.aload_n 0, 1) := by decide +kernel
theorem dX7_matrix_89 : decode cX7_matrix 89 = .ok (.invokevirtual 159, 3) := by decide +kernel
theorem dX7_matrix_92 : decode cX7_matrix 92 = .ok (.ireturn, 1) := by decide +kernel
theorem dX7_matrix_93 : decode cX7_matrix 93 = .ok (.aload_n 0, 1) := by decide +kernel
theorem dX7_matrix_94 : decode cX7_matrix 94 = .ok (.invokevirtual 139, 3) := by decide +kernel
theorem dX7_matrix_97 : decode cX7_matrix 97 = .ok (.ifCond .eq 8, 3) := by decide +kernel
theorem dX7_matrix_100 : decode cX7_matrix 100 = .ok (.aload_n 0, 1) := by decide +kernel
theorem dX7_matrix_101 : decode cX7_matrix 101 = .ok (.invokevirtual 159, 3) := by decide +kernel
theorem dX7_matrix_104 : decode cX7_matrix 104 = .ok (.ireturn, 1) := by decide +kernel
theorem dX7_matrix_105 : decode cX7_matrix 105 = .ok (.aload_n 0, 1) := by decide +kernel
theorem dX7_matrix_106 : decode cX7_matrix 106 = .ok (.getfield 7, 3) := by decide +kernel
theorem dX7_matrix_109 : decode cX7_matrix 109 = .ok (.iconst 0, 1) := by decide +kernel
theorem dX7_matrix_110 : decode cX7_matrix 110 = .ok (.iload_n 3, 1) := by decide +kernel
theorem dX7_matrix_111 : decode cX7_matrix 111 = .ok (.iastore, 1) := by decide +kernel
theorem dX7_matrix_112 : decode cX7_matrix 112 = .ok (.aload_n 0, 1) := by decide +kernel
theorem dX7_matrix_113 : decode cX7_matrix 113 = .ok (.getfield 7, 3) := by decide +kernel
theorem dX7_matrix_116 : decode cX7_matrix 116 = .ok (.iconst 1, 1) := by decide +kernel
theorem dX7_matrix_117 : decode cX7_matrix 117 = .ok (.iload_n 1, 1) := by decide +kernel
theorem dX7_matrix_118 : decode cX7_matrix 118 = .ok (.iastore, 1) := by decide +kernel
theorem dX7_matrix_119 : decode cX7_matrix 119 = .ok (.iconst 0, 1) := by decide +kernel
theorem dX7_matrix_120 : decode cX7_matrix 120 = .ok (.istore 5, 2) := by decide +kernel
theorem dX7_matrix_122 : decode cX7_matrix 122 = .ok (.iload 5, 2) := by decide +kernel
theorem dX7_matrix_124 : decode cX7_matrix 124 = .ok (.bipush 11, 2) := by decide +kernel
theorem dX7_matrix_126 : decode cX7_matrix 126 = .ok (.if_icmp .ge 35, 3) := by decide +kernel
theorem dX7_matrix_129 : decode cX7_matrix 129 = .ok (.aload_n 0, 1) := by decide +kernel
theorem dX7_matrix_130 : decode cX7_matrix 130 = .ok (.getfield 7, 3) := by decide +kernel
theorem dX7_matrix_133 : decode cX7_matrix 133 = .ok (.iconst 4, 1) := by decide +kernel
theorem dX7_matrix_134 : decode cX7_matrix 134 = .ok (.iload 5, 2) := by decide +kernel
theorem dX7_matrix_136 : decode cX7_matrix 136 = .ok (.iadd, 1) := by decide +kernel
theorem dX7_matrix_137 : decode cX7_matrix 137 = .ok (.iload 5, 2) := by decide +kernel
theorem dX7_matrix_139 : decode cX7_matrix 139 = .ok (.iload_n 2, 1) := by decide +kernel
theorem dX7_matrix_140 : decode cX7_matrix 140 = .ok (.if_icmp .ge 13, 3) := by decide +kernel
theorem dX7_matrix_143 : decode cX7_matrix 143 = .ok (.aload_n 0, 1) := by decide +kernel
theorem dX7_matrix_144 : decode cX7_matrix 144 = .ok (.getfield 22, 3) := by decide +kernel
theorem dX7_matrix_147 : decode cX7_matrix 147 = .ok (.iload 5, 2) := by decide +kernel
theorem dX7_matrix_149 : decode cX7_matrix 149 = .ok (.iaload, 1) := by decide +kernel
theorem dX7_matrix_150 : decode cX7_matrix 150 = .ok (.goto 4, 3) := by decide +kernel
theorem dX7_matrix_153 : decode cX7_matrix 153 = .ok (.iconst 0, 1) := by decide +kernel
theorem dX7_matrix_154 : decode cX7_matrix 154 = .ok (.iastore, 1) := by decide +kernel
theorem dX7_matrix_155 : decode cX7_matrix 155 = .ok (.iinc 5 1, 3) := by decide +kernel
theorem dX7_matrix_158 : decode cX7_matrix 158 = .ok (.goto (-36), 3) := by decide +kernel
theorem dX7_matrix_161 : decode cX7_matrix 161 = .ok (.iconst 0, 1) := by decide +kernel
theorem dX7_matrix_162 : decode cX7_matrix 162 = .ok (.istore 5, 2) := by decide +kernel
theorem dX7_matrix_164 : decode cX7_matrix 164 = .ok (.iload 5, 2) := by decide +kernel
theorem dX7_matrix_166 : decode cX7_matrix 166 = .ok (.bipush 6, 2) := by decide +kernel
theorem dX7_matrix_168 : decode cX7_matrix 168 = .ok (.if_icmp .ge 40, 3) := by decide +kernel
theorem dX7_matrix_171 : decode cX7_matrix 171 = .ok (.aload_n 0, 1) := by decide +kernel
theorem dX7_matrix_172 : decode cX7_matrix 172 = .ok (.getfield 7, 3) := by decide +kernel
theorem dX7_matrix_175 : decode cX7_matrix 175 = .ok (.bipush 15, 2) := by decide +kernel
theorem dX7_matrix_177 : decode cX7_matrix 177 = .ok (.iload 5, 2) := by decide +kernel
theorem dX7_matrix_179 : decode cX7_matrix 179 = .ok (.iadd, 1) := by decide +kernel
theorem dX7_matrix_180 : decode cX7_matrix 180 = .ok (.iload 5, 2) := by decide +kernel
theorem dX7_matrix_182 : decode cX7_matrix 182 = .ok (.iload 4, 2) := by decide +kernel
theorem dX7_matrix_184 : decode cX7_matrix 184 = .ok (.if_icmp .ge 16, 3) := by decide +kernel
theorem dX7_matrix_187 : decode cX7_matrix 187 = .ok (.aload_n 0, 1) := by decide +kernel
theorem dX7_matrix_188 : decode cX7_matrix 188 = .ok (.getfield 22, 3) := by decide +kernel
theorem dX7_matrix_191 : decode cX7_matrix 191 = .ok (.bipush 11, 2) := by decide +kernel
theorem dX7_matrix_193 : decode cX7_matrix 193 = .ok (.iload 5, 2) := by decide +kernel
theorem dX7_matrix_195 : decode cX7_matrix 195 = .ok (.iadd, 1) := by decide +kernel
theorem dX7_matrix_196 : decode cX7_matrix 196 = .ok (.iaload, 1) := by decide +kernel
theorem dX7_matrix_197 : decode cX7_matrix 197 = .ok (.goto 4, 3) := by decide +kernel
theorem dX7_matrix_200 : decode cX7_matrix 200 = .ok (.iconst 0, 1) := by decide +kernel
theorem dX7_matrix_201 : decode cX7_matrix 201 = .ok (.iastore, 1) := by decide +kernel
theorem dX7_matrix_202 : decode cX7_matrix 202 = .ok (.iinc 5 1, 3) := by decide +kernel
theorem dX7_matrix_205 : decode cX7_matrix 205 = .ok (.goto (-41), 3) := by decide +kernel
theorem dX7_matrix_208 : decode cX7_matrix 208 = .ok (.aload_n 0, 1) := by decide +kernel
theorem dX7_matrix_209 : decode cX7_matrix 209 = .ok (.iconst 0, 1) := by decide +kernel
theorem dX7_matrix_210 : decode cX7_matrix 210 = .ok (.putfield 108, 3) := by decide +kernel
theorem dX7_matrix_213 : decode cX7_matrix 213 = .ok (.aload_n 0, 1) := by decide +kernel
theorem dX7_matrix_214 : decode cX7_matrix 214 = .ok (.iconst 0, 1) := by decide +kernel
theorem dX7_matrix_215 : decode cX7_matrix 215 = .ok (.putfield 133, 3) := by decide +kernel
theorem dX7_matrix_218 : decode cX7_matrix 218 = .ok (.iload_n 3, 1) := by decide +kernel
theorem dX7_matrix_219 : decode cX7_matrix 219 = .ok (.ireturn, 1) := by decide +kernel
theorem dX7_notes_0 : decode cX7_notes 0 = .ok (.aload_n 0, 1) := by decide +kernel
theorem dX7_notes_1 : decode cX7_notes 1 = .ok (.getfield 108, 3) := by decide +kernel
theorem dX7_notes_4 : decode cX7_notes 4 = .ok (.bipush 8, 2) := by decide +kernel
theorem dX7_notes_6 : decode cX7_notes 6 = .ok (.if_icmp .ne 40, 3) := by decide +kernel
theorem dX7_notes_9 : decode cX7_notes 9 = .ok (.bipush 21, 2) := by decide +kernel
theorem dX7_notes_11 : decode cX7_notes 11 = .ok (.istore_n 1, 1) := by decide +kernel
theorem dX7_notes_12 : decode cX7_notes 12 = .ok (.iload_n 1, 1) := by decide +kernel
theorem dX7_notes_13 : decode cX7_notes 13 = .ok (.sipush 168, 3) := by decide +kernel
theorem dX7_notes_16 : decode cX7_notes 16 = .ok (.if_icmp .ge 24, 3) := by decide +kernel
theorem dX7_notes_19 : decode cX7_notes 19 = .ok (.aload_n 0, 1) := by decide +kernel
theorem dX7_notes_20 : decode cX7_notes 20 = .ok (.getfield 25, 3) := by decide +kernel
theorem dX7_notes_23 : decode cX7_notes 23 = .ok (.iload_n 1, 1) := by decide +kernel
theorem dX7_notes_24 : decode cX7_notes 24 = .ok (.bipush 21, 2) := by decide +kernel
theorem dX7_notes_26 : decode cX7_notes 26 = .ok (.isub, 1) := by decide +kernel
theorem dX7_notes_27 : decode cX7_notes 27 = .ok (.aload_n 0, 1) := by decide +kernel
theorem dX7_notes_28 : decode cX7_notes 28 = .ok (.getfield 25, 3) := by decide +kernel
theorem dX7_notes_31 : decode cX7_notes 31 = .ok (.iload_n 1, 1) := by decide +kernel
theorem dX7_notes_32 : decode cX7_notes 32 = .ok (.iaload, 1) := by decide +kernel
theorem dX7_notes_33 : decode cX7_notes 33 = .ok (.iastore, 1) := by decide +kernel
theorem dX7_notes_34 : decode cX7_notes 34 = .ok (.iinc 1 1, 3) := by decide +kernel
theorem dX7_notes_37 : decode cX7_notes 37 = .ok (.goto (-25), 3) := by decide +kernel
theorem dX7_notes_40 : decode cX7_notes 40 = .ok (.aload_n 0, 1) := by decide +kernel
theorem dX7_notes_41 : decode cX7_notes 41 = .ok (.bipush 7, 2) := by decide +kernel
theorem dX7_notes_43 : decode cX7_notes 43 = .ok (.putfield 108, 3) := by decide +kernel
theorem dX7_notes_46 : decode cX7_notes 46 = .ok (.iconst 0, 1) := by decide +kernel
theorem dX7_notes_47 : decode cX7_notes 47 = .ok (.istore_n 1, 1) := by decide +kernel
theorem dX7_notes_48 : decode cX7_notes 48 = .ok (.iload_n 1, 1) := by decide +kernel
theorem dX7_notes_49 : decode cX7_notes 49 = .ok (.bipush 21, 2) := by decide +kernel
theorem dX7_notes_51 : decode cX7_notes 51 = .ok (.if_icmp .ge 29, 3) := by decide +kernel
theorem dX7_notes_54 : decode cX7_notes 54 = .ok (.aload_n 0, 1) := by decide +kernel
theorem dX7_notes_55 : decode cX7_notes 55 = .ok (.getfield 25, 3) := by decide +kernel
theorem dX7_notes_58 : decode cX7_notes 58 = .ok (.bipush 21, 2) := by decide +kernel
theorem dX7_notes_60 : decode cX7_notes 60 = .ok (.aload_n 0, 1) := by decide +kernel
theorem dX7_notes_61 : decode cX7_notes 61 = .ok (.getfield 108, 3) := by decide +kernel
theorem dX7_notes_64 : decode cX7_notes 64 = .ok (.imul, 1) := by decide +kernel
theorem dX7_notes_65 : decode cX7_notes 65 = .ok (.iload_n 1, 1) := by decide +kernel
theorem dX7_notes_66 : decode cX7_notes 66 = .ok (.iadd, 1) := by decide +kernel
theorem dX7_notes_67 : decode cX7_notes 67 = .ok (.aload_n 0, 1) := by decide +kernel
theorem dX7_notes_68 : decode cX7_notes 68 = .ok (.getfield 7, 3) := by decide +kernel
theorem dX7_notes_71 : decode cX7_notes 71 = .ok (.iload_n 1, 1) := by decide +kernel
theorem dX7_notes_72 : decode cX7_notes 72 = .ok (.iaload, 1) := by decide +kernel
theorem dX7_notes_73 : decode cX7_notes 73 = .ok (.iastore, 1) := by decide +kernel
theorem dX7_notes_74 : decode cX7_notes 74 = .ok (.iinc 1 1, 3) := by decide +kernel
theorem dX7_notes_77 : decode cX7_notes 77 = .ok (.goto (-29), 3) := by decide +kernel
theorem dX7_notes_80 : decode cX7_notes 80 = .ok (.aload_n 0, 1) := by decide +kernel
theorem dX7_notes_81 : decode cX7_notes 81 = .ok (.dup, 1) := by decide +kernel
theorem dX7_notes_82 : decode cX7_notes 82 = .ok (.getfield 108, 3) := by decide +kernel
theorem dX7_notes_85 : decode cX7_notes 85 = .ok (.iconst 1, 1) := by decide +kernel
theorem dX7_notes_86 : decode cX7_notes 86 = .ok (.iadd, 1) := by decide +kernel
theorem dX7_notes_87 : decode cX7_notes 87 = .ok (.putfield 108, 3) := by decide +kernel
theorem dX7_notes_90 : decode cX7_notes 90 = .ok (.return_, 1) := by decide +kernel
theorem dX7_change_0 : decode cX7_change 0 = .ok (.aload_n 0, 1) := by decide +kernel
theorem dX7_change_1 : decode cX7_change 1 = .ok (.iload_n 1, 1) := by decide +kernel
theorem dX7_change_2 : decode cX7_change 2 = .ok (.invokevirtual 111, 3) := by decide +kernel
theorem dX7_change_5 : decode cX7_change 5 = .ok (.ifCond .eq 12, 3) := by decide +kernel
theorem dX7_change_8 : decode cX7_change 8 = .ok (.aload_n 0, 1) := by decide +kernel
theorem dX7_change_9 : decode cX7_change 9 = .ok (.iload_n 2, 1) := by decide +kernel
theorem dX7_change_10 : decode cX7_change 10 = .ok (.i2l, 1) := by decide +kernel
theorem dX7_change_11 : decode cX7_change 11 = .ok (.invokevirtual 146, 3) := by decide +kernel
theorem dX7_change_14 : decode cX7_change 14 = .ok (.ifCond .ne 5, 3) := by decide +kernel
theorem dX7_change_17 : decode cX7_change 17 = .ok (.iconst (-1), 1) := by decide +kernel
theorem dX7_change_18 : decode cX7_change 18 = .ok (.ireturn, 1) := by decide +kernel
theorem dX7_change_19 : decode cX7_change 19 = .ok (.aload_n 0, 1) := by decide +kernel
theorem dX7_change_20 : decode cX7_change 20 = .ok (.getfield 7, 3) := by decide +kernel
theorem dX7_change_23 : decode cX7_change 23 = .ok (.iconst 4, 1) := by decide +kernel
theorem dX7_change_24 : decode cX7_change 24 = .ok (.iload_n 1, 1) := by decide +kernel
theorem dX7_change_25 : decode cX7_change 25 = .ok (.iadd, 1) := by decide +kernel
theorem dX7_change_26 : decode cX7_change 26 = .ok (.iaload, 1) := by decide +kernel
theorem dX7_change_27 : decode cX7_change 27 = .ok (.istore_n 3, 1) := by decide +kernel
theorem dX7_change_28 : decode cX7_change 28 = .ok (.iload_n 3, 1) := by decide +kernel
theorem dX7_change_29 : decode cX7_change 29 = .ok (.iload_n 2, 1) := by decide +kernel
theorem dX7_change_30 : decode cX7_change 30 = .ok (.if_icmp .ne 6, 3) := by decide +kernel
theorem dX7_change_33 : decode cX7_change 33 = .ok (.bipush (-2), 2) := by decide +kernel
theorem dX7_change_35 : decode cX7_change 35 = .ok (.ireturn, 1) := by decide +kernel
theorem dX7_change_36 : decode cX7_change 36 = .ok (.aload_n 0, 1) := by decide +kernel
theorem dX7_change_37 : decode cX7_change 37 = .ok (.invokevirtual 166, 3) := by decide +kernel
theorem dX7_change_40 : decode cX7_change 40 = .ok (.aload_n 0, 1) := by decide +kernel
theorem dX7_change_41 : decode cX7_change 41 = .ok (.getfield 7, 3) := by decide +kernel
theorem dX7_change_44 : decode cX7_change 44 = .ok (.iconst 4, 1) := by decide +kernel
theorem dX7_change_45 : decode cX7_change 45 = .ok (.iload_n 1, 1) := by decide +kernel
theorem dX7_change_46 : decode cX7_change 46 = .ok (.iadd, 1) := by decide +kernel
theorem dX7_change_47 : decode cX7_change 47 = .ok (.iload_n 2, 1) := by decide +kernel
theorem dX7_change_48 : decode cX7_change 48 = .ok (.iastore, 1) := by decide +kernel
theorem dX7_change_49 : decode cX7_change 49 = .ok (.iload_n 3, 1) := by decide +kernel
theorem dX7_change_50 : decode cX7_change 50 = .ok (.ireturn, 1) := by decide +kernel
theorem dX7_put_0 : decode cX7_put 0 = .ok (.aload_n 0, 1) := by decide +kernel
theorem dX7_put_1 : decode cX7_put 1 = .ok (.iload_n 1, 1) := by decide +kernel
theorem dX7_put_2 : decode cX7_put 2 = .ok (.invokevirtual 114, 3) := by decide +kernel
theorem dX7_put_5 : decode cX7_put 5 = .ok (.ifCond .eq 12, 3) := by decide +kernel
theorem dX7_put_8 : decode cX7_put 8 = .ok (.aload_n 0, 1) := by decide +kernel
theorem dX7_put_9 : decode cX7_put 9 = .ok (.iload_n 2, 1) := by decide +kernel
theorem dX7_put_10 : decode cX7_put 10 = .ok (.i2l, 1) := by decide +kernel
theorem dX7_put_11 : decode cX7_put 11 = .ok (.invokevirtual 146, 3) := by decide +kernel
theorem dX7_put_14 : decode cX7_put 14 = .ok (.ifCond .ne 5, 3) := by decide +kernel
theorem dX7_put_17 : decode cX7_put 17 = .ok (.iconst (-1), 1) := by decide +kernel
theorem dX7_put_18 : decode cX7_put 18 = .ok (.ireturn, 1) := by decide +kernel
theorem dX7_put_19 : decode cX7_put 19 = .ok (.aload_n 0, 1) := by decide +kernel
theorem dX7_put_20 : decode cX7_put 20 = .ok (.getfield 7, 3) := by decide +kernel
theorem dX7_put_23 : decode cX7_put 23 = .ok (.bipush 15, 2) := by decide +kernel
theorem dX7_put_25 : decode cX7_put 25 = .ok (.iload_n 1, 1) := by decide +kernel
theorem dX7_put_26 : decode cX7_put 26 = .ok (.iadd, 1) := by decide +kernel
theorem dX7_put_27 : decode cX7_put 27 = .ok (.iaload, 1) := by decide +kernel
theorem dX7_put_28 : decode cX7_put 28 = .ok (.istore_n 3, 1) := by decide +kernel
theorem dX7_put_29 : decode cX7_put 29 = .ok (.iload_n 3, 1) := by decide +kernel
theorem dX7_put_30 : decode cX7_put 30 = .ok (.iload_n 2, 1) := by decide +kernel
theorem dX7_put_31 : decode cX7_put 31 = .ok (.if_icmp .ne 6, 3) := by decide +kernel
theorem dX7_put_34 : decode cX7_put 34 = .ok (.bipush (-2), 2) := by decide +kernel
theorem dX7_put_36 : decode cX7_put 36 = .ok (.ireturn, 1) := by decide +kernel
theorem dX7_put_37 : decode cX7_put 37 = .ok (.aload_n 0, 1) := by decide +kernel
theorem dX7_put_38 : decode cX7_put 38 = .ok (.invokevirtual 166, 3) := by decide +kernel
theorem dX7_put_41 : decode cX7_put 41 = .ok (.aload_n 0, 1) := by decide +kernel
theorem dX7_put_42 : decode cX7_put 42 = .ok (.getfield 7, 3) := by decide +kernel
theorem dX7_put_45 : decode cX7_put 45 = .ok (.bipush 15, 2) := by decide +kernel
theorem dX7_put_47 : decode cX7_put 47 = .ok (.iload_n 1, 1) := by decide +kernel
theorem dX7_put_48 : decode cX7_put 48 = .ok (.iadd, 1) := by decide +kernel
theorem dX7_put_49 : decode cX7_put 49 = .ok (.iload_n 2, 1) := by decide +kernel
theorem dX7_put_50 : decode cX7_put 50 = .ok (.iastore, 1) := by decide +kernel
theorem dX7_put_51 : decode cX7_put 51 = .ok (.iload_n 3, 1) := by decide +kernel
theorem dX7_put_52 : decode cX7_put 52 = .ok (.ireturn, 1) := by decide +kernel
theorem dX7_shape_0 : decode cX7_shape 0 = .ok (.iload_n 1, 1) := by decide +kernel
theorem dX7_shape_1 : decode cX7_shape 1 = .ok (.i2l, 1) := by decide +kernel
theorem dX7_shape_2 : decode cX7_shape 2 = .ok (.lconst 0, 1) := by decide +kernel
theorem dX7_shape_3 : decode cX7_shape 3 = .ok (.ldc2_w 169, 3) := by decide +kernel
theorem dX7_shape_6 : decode cX7_shape 6 = .ok (.invokestatic 57, 3) := by decide +kernel
theorem dX7_shape_9 : decode cX7_shape 9 = .ok (.ifCond .ne 5, 3) := by decide +kernel
theorem dX7_shape_12 : decode cX7_shape 12 = .ok (.iconst (-1), 1) := by decide +kernel
theorem dX7_shape_13 : decode cX7_shape 13 = .ok (.ireturn, 1) := by decide +kernel
theorem dX7_shape_14 : decode cX7_shape 14 = .ok (.aload_n 0, 1) := by decide +kernel
theorem dX7_shape_15 : decode cX7_shape 15 = .ok (.getfield 7, 3) := by decide +kernel
theorem dX7_shape_18 : decode cX7_shape 18 = .ok (.iconst 1, 1) := by decide +kernel
theorem dX7_shape_19 : decode cX7_shape 19 = .ok (.iaload, 1) := by decide +kernel
theorem dX7_shape_20 : decode cX7_shape 20 = .ok (.istore_n 2, 1) := by decide +kernel
theorem dX7_shape_21 : decode cX7_shape 21 = .ok (.iload_n 2, 1) := by decide +kernel
theorem dX7_shape_22 : decode cX7_shape 22 = .ok (.iload_n 1, 1) := by decide +kernel
theorem dX7_shape_23 : decode cX7_shape 23 = .ok (.if_icmp .ne 6, 3) := by decide +kernel
theorem dX7_shape_26 : decode cX7_shape 26 = .ok (.bipush (-2), 2) := by decide +kernel
theorem dX7_shape_28 : decode cX7_shape 28 = .ok (.ireturn, 1) := by decide +kernel
theorem dX7_shape_29 : decode cX7_shape 29 = .ok (.aload_n 0, 1) := by decide +kernel
theorem dX7_shape_30 : decode cX7_shape 30 = .ok (.invokevirtual 166, 3) := by decide +kernel
theorem dX7_shape_33 : decode cX7_shape 33 = .ok (.aload_n 0, 1) := by decide +kernel
theorem dX7_shape_34 : decode cX7_shape 34 = .ok (.getfield 7, 3) := by decide +kernel
theorem dX7_shape_37 : decode cX7_shape 37 = .ok (.iconst 1, 1) := by decide +kernel
theorem dX7_shape_38 : decode cX7_shape 38 = .ok (.iload_n 1, 1) := by decide +kernel
theorem dX7_shape_39 : decode cX7_shape 39 = .ok (.iastore, 1) := by decide +kernel
theorem dX7_shape_40 : decode cX7_shape 40 = .ok (.iload_n 2, 1) := by decide +kernel
theorem dX7_shape_41 : decode cX7_shape 41 = .ok (.ireturn, 1) := by decide +kernel
theorem dX7_widen_0 : decode cX7_widen 0 = .ok (.aload_n 0, 1) := by decide +kernel
theorem dX7_widen_1 : decode cX7_widen 1 = .ok (.invokevirtual 61, 3) := by decide +kernel
theorem dX7_widen_4 : decode cX7_widen 4 = .ok (.istore_n 1, 1) := by decide +kernel
theorem dX7_widen_5 : decode cX7_widen 5 = .ok (.aload_n 0, 1) := by decide +kernel
theorem dX7_widen_6 : decode cX7_widen 6 = .ok (.getfield 7, 3) := by decide +kernel
theorem dX7_widen_9 : decode cX7_widen 9 = .ok (.iconst 0, 1) := by decide +kernel
theorem dX7_widen_10 : decode cX7_widen 10 = .ok (.iaload, 1) := by decide +kernel
theorem dX7_widen_11 : decode cX7_widen 11 = .ok (.bipush 6, 2) := by decide +kernel
theorem dX7_widen_13 : decode cX7_widen 13 = .ok (.if_icmp .ne 6, 3) := by decide +kernel
theorem dX7_widen_16 : decode cX7_widen 16 = .ok (.bipush (-3), 2) := by decide +kernel
theorem dX7_widen_18 : decode cX7_widen 18 = .ok (.ireturn, 1) := by decide +kernel
theorem dX7_widen_19 : decode cX7_widen 19 = .ok (.aload_n 0, 1) := by decide +kernel
theorem dX7_widen_20 : decode cX7_widen 20 = .ok (.invokevirtual 166, 3) := by decide +kernel
theorem dX7_widen_23 : decode cX7_widen 23 = .ok (.iload_n 1, 1) := by decide +kernel
theorem dX7_widen_24 : decode cX7_widen 24 = .ok (.istore_n 2, 1) := by decide +kernel
theorem dX7_widen_25 : decode cX7_widen 25 = .ok (.iload_n 2, 1) := by decide +kernel
theorem dX7_widen_26 : decode cX7_widen 26 = .ok (.ifCond .le 27, 3) := by decide +kernel
theorem dX7_widen_29 : decode cX7_widen 29 = .ok (.aload_n 0, 1) := by decide +kernel
theorem dX7_widen_30 : decode cX7_widen 30 = .ok (.getfield 7, 3) := by decide +kernel
theorem dX7_widen_33 : decode cX7_widen 33 = .ok (.iconst 4, 1) := by decide +kernel
theorem dX7_widen_34 : decode cX7_widen 34 = .ok (.iload_n 2, 1) := by decide +kernel
theorem dX7_widen_35 : decode cX7_widen 35 = .ok (.iadd, 1) := by decide +kernel
theorem dX7_widen_36 : decode cX7_widen 36 = .ok (.aload_n 0, 1) := by decide +kernel
theorem dX7_widen_37 : decode cX7_widen 37 = .ok (.getfield 7, 3) := by decide +kernel
theorem dX7_widen_40 : decode cX7_widen 40 = .ok (.iconst 4, 1) := by decide +kernel
theorem dX7_widen_41 : decode cX7_widen 41 = .ok (.iload_n 2, 1) := by decide +kernel
theorem dX7_widen_42 : decode cX7_widen 42 = .ok (.iadd, 1) := by decide +kernel
theorem dX7_widen_43 : decode cX7_widen 43 = .ok (.iconst 1, 1) := by decide +kernel
theorem dX7_widen_44 : decode cX7_widen 44 = .ok (.isub, 1) := by decide +kernel
theorem dX7_widen_45 : decode cX7_widen 45 = .ok (.iaload, 1) := by decide +kernel
theorem dX7_widen_46 : decode cX7_widen 46 = .ok (.iastore, 1) := by decide +kernel
theorem dX7_widen_47 : decode cX7_widen 47 = .ok (.iinc 2 (-1), 3) := by decide +kernel
theorem dX7_widen_50 : decode cX7_widen 50 = .ok (.goto (-25), 3) := by decide +kernel
theorem dX7_widen_53 : decode cX7_widen 53 = .ok (.aload_n 0, 1) := by decide +kernel
theorem dX7_widen_54 : decode cX7_widen 54 = .ok (.getfield 7, 3) := by decide +kernel
theorem dX7_widen_57 : decode cX7_widen 57 = .ok (.iconst 4, 1) := by decide +kernel
theorem dX7_widen_58 : decode cX7_widen 58 = .ok (.iconst 0, 1) := by decide +kernel
theorem dX7_widen_59 : decode cX7_widen 59 = .ok (.iastore, 1) := by decide +kernel
theorem dX7_widen_60 : decode cX7_widen 60 = .ok (.aload_n 0, 1) := by decide +kernel
theorem dX7_widen_61 : decode cX7_widen 61 = .ok (.getfield 7, 3) := by decide +kernel
theorem dX7_widen_64 : decode cX7_widen 64 = .ok (.iconst 4, 1) := by decide +kernel
theorem dX7_widen_65 : decode cX7_widen 65 = .ok (.iload_n 1, 1) := by decide +kernel
theorem dX7_widen_66 : decode cX7_widen 66 = .ok (.iadd, 1) := by decide +kernel
theorem dX7_widen_67 : decode cX7_widen 67 = .ok (.iconst 1, 1) := by decide +kernel
theorem dX7_widen_68 : decode cX7_widen 68 = .ok (.iadd, 1) := by decide +kernel
theorem dX7_widen_69 : decode cX7_widen 69 = .ok (.iconst 0, 1) := by decide +kernel
theorem dX7_widen_70 : decode cX7_widen 70 = .ok (.iastore, 1) := by decide +kernel
theorem dX7_widen_71 : decode cX7_widen 71 = .ok (.aload_n 0, 1) := by decide +kernel
theorem dX7_widen_72 : decode cX7_widen 72 = .ok (.getfield 7, 3) := by decide +kernel
theorem dX7_widen_75 : decode cX7_widen 75 = .ok (.bipush 15, 2) := by decide +kernel
theorem dX7_widen_77 : decode cX7_widen 77 = .ok (.aload_n 0, 1) := by decide +kernel
theorem dX7_widen_78 : decode cX7_widen 78 = .ok (.getfield 7, 3) := by decide +kernel
theorem dX7_widen_81 : decode cX7_widen 81 = .ok (.iconst 0, 1) := by decide +kernel
theorem dX7_widen_82 : decode cX7_widen 82 = .ok (.iaload, 1) := by decide +kernel
theorem dX7_widen_83 : decode cX7_widen 83 = .ok (.iadd, 1) := by decide +kernel
theorem dX7_widen_84 : decode cX7_widen 84 = .ok (.iconst 0, 1) := by decide +kernel
theorem dX7_widen_85 : decode cX7_widen 85 = .ok (.iastore, 1) := by decide +kernel
theorem dX7_widen_86 : decode cX7_widen 86 = .ok (.aload_n 0, 1) := by decide +kernel
theorem dX7_widen_87 : decode cX7_widen 87 = .ok (.getfield 7, 3) := by decide +kernel
theorem dX7_widen_90 : decode cX7_widen 90 = .ok (.iconst 0, 1) := by decide +kernel
theorem dX7_widen_91 : decode cX7_widen 91 = .ok (.dup2, 1) := by decide +kernel
theorem dX7_widen_92 : decode cX7_widen 92 = .ok (.iaload, 1) := by decide +kernel
theorem dX7_widen_93 : decode cX7_widen 93 = .ok (.iconst 1, 1) := by decide +kernel
theorem dX7_widen_94 : decode cX7_widen 94 = .ok (.iadd, 1) := by decide +kernel
theorem dX7_widen_95 : decode cX7_widen 95 = .ok (.iastore, 1) := by decide +kernel
theorem dX7_widen_96 : decode cX7_widen 96 = .ok (.aload_n 0, 1) := by decide +kernel
theorem dX7_widen_97 : decode cX7_widen 97 = .ok (.getfield 7, 3) := by decide +kernel
end
section
theorem dX7_widen_100 : decode cX7_widen 100 = .ok (.iconst 0, 1) := by decide +kernel
theorem dX7_widen_101 : decode cX7_widen 101 = .ok (.iaload, 1) := by decide +kernel
theorem dX7_widen_102 : decode cX7_widen 102 = .ok (.ireturn, 1) := by decide +kernel
theorem dX7_cut_0 : decode cX7_cut 0 = .ok (.aload_n 0, 1) := by decide +kernel
theorem dX7_cut_1 : decode cX7_cut 1 = .ok (.invokevirtual 61, 3) := by decide +kernel
theorem dX7_cut_4 : decode cX7_cut 4 = .ok (.istore_n 1, 1) := by decide +kernel
theorem dX7_cut_5 : decode cX7_cut 5 = .ok (.aload_n 0, 1) := by decide +kernel
theorem dX7_cut_6 : decode cX7_cut 6 = .ok (.getfield 7, 3) := by decide +kernel
theorem dX7_cut_9 : decode cX7_cut 9 = .ok (.iconst 0, 1) := by decide +kernel
theorem dX7_cut_10 : decode cX7_cut 10 = .ok (.iaload, 1) := by decide +kernel
theorem dX7_cut_11 : decode cX7_cut 11 = .ok (.iconst 1, 1) := by decide +kernel
theorem dX7_cut_12 : decode cX7_cut 12 = .ok (.if_icmp .ne 6, 3) := by decide +kernel
theorem dX7_cut_15 : decode cX7_cut 15 = .ok (.bipush (-2), 2) := by decide +kernel
theorem dX7_cut_17 : decode cX7_cut 17 = .ok (.ireturn, 1) := by decide +kernel
theorem dX7_cut_18 : decode cX7_cut 18 = .ok (.aload_n 0, 1) := by decide +kernel
theorem dX7_cut_19 : decode cX7_cut 19 = .ok (.invokevirtual 166, 3) := by decide +kernel
theorem dX7_cut_22 : decode cX7_cut 22 = .ok (.iconst 0, 1) := by decide +kernel
theorem dX7_cut_23 : decode cX7_cut 23 = .ok (.istore_n 2, 1) := by decide +kernel
theorem dX7_cut_24 : decode cX7_cut 24 = .ok (.iload_n 2, 1) := by decide +kernel
theorem dX7_cut_25 : decode cX7_cut 25 = .ok (.iload_n 1, 1) := by decide +kernel
theorem dX7_cut_26 : decode cX7_cut 26 = .ok (.iconst 2, 1) := by decide +kernel
theorem dX7_cut_27 : decode cX7_cut 27 = .ok (.isub, 1) := by decide +kernel
theorem dX7_cut_28 : decode cX7_cut 28 = .ok (.if_icmp .ge 27, 3) := by decide +kernel
theorem dX7_cut_31 : decode cX7_cut 31 = .ok (.aload_n 0, 1) := by decide +kernel
theorem dX7_cut_32 : decode cX7_cut 32 = .ok (.getfield 7, 3) := by decide +kernel
theorem dX7_cut_35 : decode cX7_cut 35 = .ok (.iconst 4, 1) := by decide +kernel
theorem dX7_cut_36 : decode cX7_cut 36 = .ok (.iload_n 2, 1) := by decide +kernel
theorem dX7_cut_37 : decode cX7_cut 37 = .ok (.iadd, 1) := by decide +kernel
theorem dX7_cut_38 : decode cX7_cut 38 = .ok (.aload_n 0, 1) := by decide +kernel
theorem dX7_cut_39 : decode cX7_cut 39 = .ok (.getfield 7, 3) := by decide +kernel
theorem dX7_cut_42 : decode cX7_cut 42 = .ok (.iconst 4, 1) := by decide +kernel
theorem dX7_cut_43 : decode cX7_cut 43 = .ok (.iload_n 2, 1) := by decide +kernel
theorem dX7_cut_44 : decode cX7_cut 44 = .ok (.iadd, 1) := by decide +kernel
theorem dX7_cut_45 : decode cX7_cut 45 = .ok (.iconst 1, 1) := by decide +kernel
theorem dX7_cut_46 : decode cX7_cut 46 = .ok (.iadd, 1) := by decide +kernel
theorem dX7_cut_47 : decode cX7_cut 47 = .ok (.iaload, 1) := by decide +kernel
theorem dX7_cut_48 : decode cX7_cut 48 = .ok (.iastore, 1) := by decide +kernel
theorem dX7_cut_49 : decode cX7_cut 49 = .ok (.iinc 2 1, 3) := by decide +kernel
theorem dX7_cut_52 : decode cX7_cut 52 = .ok (.goto (-28), 3) := by decide +kernel
theorem dX7_cut_55 : decode cX7_cut 55 = .ok (.aload_n 0, 1) := by decide +kernel
theorem dX7_cut_56 : decode cX7_cut 56 = .ok (.getfield 7, 3) := by decide +kernel
theorem dX7_cut_59 : decode cX7_cut 59 = .ok (.iconst 4, 1) := by decide +kernel
theorem dX7_cut_60 : decode cX7_cut 60 = .ok (.iload_n 1, 1) := by decide +kernel
theorem dX7_cut_61 : decode cX7_cut 61 = .ok (.iadd, 1) := by decide +kernel
theorem dX7_cut_62 : decode cX7_cut 62 = .ok (.iconst 2, 1) := by decide +kernel
theorem dX7_cut_63 : decode cX7_cut 63 = .ok (.isub, 1) := by decide +kernel
theorem dX7_cut_64 : decode cX7_cut 64 = .ok (.iconst 0, 1) := by decide +kernel
theorem dX7_cut_65 : decode cX7_cut 65 = .ok (.iastore, 1) := by decide +kernel
theorem dX7_cut_66 : decode cX7_cut 66 = .ok (.aload_n 0, 1) := by decide +kernel
theorem dX7_cut_67 : decode cX7_cut 67 = .ok (.getfield 7, 3) := by decide +kernel
theorem dX7_cut_70 : decode cX7_cut 70 = .ok (.iconst 4, 1) := by decide +kernel
theorem dX7_cut_71 : decode cX7_cut 71 = .ok (.iload_n 1, 1) := by decide +kernel
theorem dX7_cut_72 : decode cX7_cut 72 = .ok (.iadd, 1) := by decide +kernel
theorem dX7_cut_73 : decode cX7_cut 73 = .ok (.iconst 1, 1) := by decide +kernel
theorem dX7_cut_74 : decode cX7_cut 74 = .ok (.isub, 1) := by decide +kernel
theorem dX7_cut_75 : decode cX7_cut 75 = .ok (.iconst 0, 1) := by decide +kernel
theorem dX7_cut_76 : decode cX7_cut 76 = .ok (.iastore, 1) := by decide +kernel
theorem dX7_cut_77 : decode cX7_cut 77 = .ok (.aload_n 0, 1) := by decide +kernel
theorem dX7_cut_78 : decode cX7_cut 78 = .ok (.getfield 7, 3) := by decide +kernel
theorem dX7_cut_81 : decode cX7_cut 81 = .ok (.iconst 0, 1) := by decide +kernel
theorem dX7_cut_82 : decode cX7_cut 82 = .ok (.dup2, 1) := by decide +kernel
theorem dX7_cut_83 : decode cX7_cut 83 = .ok (.iaload, 1) := by decide +kernel
theorem dX7_cut_84 : decode cX7_cut 84 = .ok (.iconst 1, 1) := by decide +kernel
theorem dX7_cut_85 : decode cX7_cut 85 = .ok (.isub, 1) := by decide +kernel
theorem dX7_cut_86 : decode cX7_cut 86 = .ok (.iastore, 1) := by decide +kernel
theorem dX7_cut_87 : decode cX7_cut 87 = .ok (.aload_n 0, 1) := by decide +kernel
theorem dX7_cut_88 : decode cX7_cut 88 = .ok (.getfield 7, 3) := by decide +kernel
theorem dX7_cut_91 : decode cX7_cut 91 = .ok (.bipush 15, 2) := by decide +kernel
theorem dX7_cut_93 : decode cX7_cut 93 = .ok (.aload_n 0, 1) := by decide +kernel
theorem dX7_cut_94 : decode cX7_cut 94 = .ok (.getfield 7, 3) := by decide +kernel
theorem dX7_cut_97 : decode cX7_cut 97 = .ok (.iconst 0, 1) := by decide +kernel
theorem dX7_cut_98 : decode cX7_cut 98 = .ok (.iaload, 1) := by decide +kernel
theorem dX7_cut_99 : decode cX7_cut 99 = .ok (.iadd, 1) := by decide +kernel
theorem dX7_cut_100 : decode cX7_cut 100 = .ok (.iconst 0, 1) := by decide +kernel
theorem dX7_cut_101 : decode cX7_cut 101 = .ok (.iastore, 1) := by decide +kernel
theorem dX7_cut_102 : decode cX7_cut 102 = .ok (.aload_n 0, 1) := by decide +kernel
theorem dX7_cut_103 : decode cX7_cut 103 = .ok (.getfield 7, 3) := by decide +kernel
theorem dX7_cut_106 : decode cX7_cut 106 = .ok (.iconst 0, 1) := by decide +kernel
theorem dX7_cut_107 : decode cX7_cut 107 = .ok (.iaload, 1) := by decide +kernel
theorem dX7_cut_108 : decode cX7_cut 108 = .ok (.ireturn, 1) := by decide +kernel
theorem dX7_turn_0 : decode cX7_turn 0 = .ok (.aload_n 0, 1) := by decide +kernel
theorem dX7_turn_1 : decode cX7_turn 1 = .ok (.invokevirtual 166, 3) := by decide +kernel
theorem dX7_turn_4 : decode cX7_turn 4 = .ok (.iconst 4, 1) := by decide +kernel
theorem dX7_turn_5 : decode cX7_turn 5 = .ok (.istore_n 1, 1) := by decide +kernel
theorem dX7_turn_6 : decode cX7_turn 6 = .ok (.iconst 4, 1) := by decide +kernel
theorem dX7_turn_7 : decode cX7_turn 7 = .ok (.aload_n 0, 1) := by decide +kernel
theorem dX7_turn_8 : decode cX7_turn 8 = .ok (.invokevirtual 61, 3) := by decide +kernel
theorem dX7_turn_11 : decode cX7_turn 11 = .ok (.iadd, 1) := by decide +kernel
theorem dX7_turn_12 : decode cX7_turn 12 = .ok (.iconst 1, 1) := by decide +kernel
theorem dX7_turn_13 : decode cX7_turn 13 = .ok (.isub, 1) := by decide +kernel
theorem dX7_turn_14 : decode cX7_turn 14 = .ok (.istore_n 2, 1) := by decide +kernel
theorem dX7_turn_15 : decode cX7_turn 15 = .ok (.iload_n 1, 1) := by decide +kernel
theorem dX7_turn_16 : decode cX7_turn 16 = .ok (.iload_n 2, 1) := by decide +kernel
theorem dX7_turn_17 : decode cX7_turn 17 = .ok (.if_icmp .ge 38, 3) := by decide +kernel
theorem dX7_turn_20 : decode cX7_turn 20 = .ok (.aload_n 0, 1) := by decide +kernel
theorem dX7_turn_21 : decode cX7_turn 21 = .ok (.getfield 7, 3) := by decide +kernel
theorem dX7_turn_24 : decode cX7_turn 24 = .ok (.iload_n 1, 1) := by decide +kernel
theorem dX7_turn_25 : decode cX7_turn 25 = .ok (.iaload, 1) := by decide +kernel
theorem dX7_turn_26 : decode cX7_turn 26 = .ok (.istore_n 3, 1) := by decide +kernel
theorem dX7_turn_27 : decode cX7_turn 27 = .ok (.aload_n 0, 1) := by decide +kernel
theorem dX7_turn_28 : decode cX7_turn 28 = .ok (.getfield 7, 3) := by decide +kernel
theorem dX7_turn_31 : decode cX7_turn 31 = .ok (.iload_n 1, 1) := by decide +kernel
theorem dX7_turn_32 : decode cX7_turn 32 = .ok (.aload_n 0, 1) := by decide +kernel
theorem dX7_turn_33 : decode cX7_turn 33 = .ok (.getfield 7, 3) := by decide +kernel
theorem dX7_turn_36 : decode cX7_turn 36 = .ok (.iload_n 2, 1) := by decide +kernel
theorem dX7_turn_37 : decode cX7_turn 37 = .ok (.iaload, 1) := by decide +kernel
theorem dX7_turn_38 : decode cX7_turn 38 = .ok (.iastore, 1) := by decide +kernel
theorem dX7_turn_39 : decode cX7_turn 39 = .ok (.aload_n 0, 1) := by decide +kernel
theorem dX7_turn_40 : decode cX7_turn 40 = .ok (.getfield 7, 3) := by decide +kernel
theorem dX7_turn_43 : decode cX7_turn 43 = .ok (.iload_n 2, 1) := by decide +kernel
theorem dX7_turn_44 : decode cX7_turn 44 = .ok (.iload_n 3, 1) := by decide +kernel
theorem dX7_turn_45 : decode cX7_turn 45 = .ok (.iastore, 1) := by decide +kernel
theorem dX7_turn_46 : decode cX7_turn 46 = .ok (.iinc 1 1, 3) := by decide +kernel
theorem dX7_turn_49 : decode cX7_turn 49 = .ok (.iinc 2 (-1), 3) := by decide +kernel
theorem dX7_turn_52 : decode cX7_turn 52 = .ok (.goto (-37), 3) := by decide +kernel
theorem dX7_turn_55 : decode cX7_turn 55 = .ok (.aload_n 0, 1) := by decide +kernel
theorem dX7_turn_56 : decode cX7_turn 56 = .ok (.aload_n 0, 1) := by decide +kernel
theorem dX7_turn_57 : decode cX7_turn 57 = .ok (.getfield 7, 3) := by decide +kernel
theorem dX7_turn_60 : decode cX7_turn 60 = .ok (.iconst 0, 1) := by decide +kernel
theorem dX7_turn_61 : decode cX7_turn 61 = .ok (.iaload, 1) := by decide +kernel
theorem dX7_turn_62 : decode cX7_turn 62 = .ok (.invokevirtual 117, 3) := by decide +kernel
theorem dX7_turn_65 : decode cX7_turn 65 = .ok (.ireturn, 1) := by decide +kernel
theorem dX7_drift_0 : decode cX7_drift 0 = .ok (.iload_n 1, 1) := by decide +kernel
theorem dX7_drift_1 : decode cX7_drift 1 = .ok (.i2l, 1) := by decide +kernel
theorem dX7_drift_2 : decode cX7_drift 2 = .ok (.lconst 1, 1) := by decide +kernel
theorem dX7_drift_3 : decode cX7_drift 3 = .ok (.ldc2_w 171, 3) := by decide +kernel
theorem dX7_drift_6 : decode cX7_drift 6 = .ok (.invokestatic 57, 3) := by decide +kernel
theorem dX7_drift_9 : decode cX7_drift 9 = .ok (.ifCond .ne 5, 3) := by decide +kernel
theorem dX7_drift_12 : decode cX7_drift 12 = .ok (.iconst (-1), 1) := by decide +kernel
theorem dX7_drift_13 : decode cX7_drift 13 = .ok (.ireturn, 1) := by decide +kernel
theorem dX7_drift_14 : decode cX7_drift 14 = .ok (.iconst 0, 1) := by decide +kernel
theorem dX7_drift_15 : decode cX7_drift 15 = .ok (.istore_n 2, 1) := by decide +kernel
theorem dX7_drift_16 : decode cX7_drift 16 = .ok (.iload_n 2, 1) := by decide +kernel
theorem dX7_drift_17 : decode cX7_drift 17 = .ok (.iload_n 1, 1) := by decide +kernel
theorem dX7_drift_18 : decode cX7_drift 18 = .ok (.if_icmp .ge 79, 3) := by decide +kernel
theorem dX7_drift_21 : decode cX7_drift 21 = .ok (.aload_n 0, 1) := by decide +kernel
theorem dX7_drift_22 : decode cX7_drift 22 = .ok (.invokevirtual 166, 3) := by decide +kernel
theorem dX7_drift_25 : decode cX7_drift 25 = .ok (.aload_n 0, 1) := by decide +kernel
theorem dX7_drift_26 : decode cX7_drift 26 = .ok (.getfield 7, 3) := by decide +kernel
theorem dX7_drift_29 : decode cX7_drift 29 = .ok (.iconst 3, 1) := by decide +kernel
theorem dX7_drift_30 : decode cX7_drift 30 = .ok (.iaload, 1) := by decide +kernel
theorem dX7_drift_31 : decode cX7_drift 31 = .ok (.i2l, 1) := by decide +kernel
theorem dX7_drift_32 : decode cX7_drift 32 = .ok (.ldc2_w 173, 3) := by decide +kernel
theorem dX7_drift_35 : decode cX7_drift 35 = .ok (.lmul, 1) := by decide +kernel
theorem dX7_drift_36 : decode cX7_drift 36 = .ok (.ldc2_w 175, 3) := by decide +kernel
theorem dX7_drift_39 : decode cX7_drift 39 = .ok (.ladd, 1) := by decide +kernel
theorem dX7_drift_40 : decode cX7_drift 40 = .ok (.ldc2_w 177, 3) := by decide +kernel
theorem dX7_drift_43 : decode cX7_drift 43 = .ok (.lrem, 1) := by decide +kernel
theorem dX7_drift_44 : decode cX7_drift 44 = .ok (.lstore_n 3, 1) := by decide +kernel
theorem dX7_drift_45 : decode cX7_drift 45 = .ok (.aload_n 0, 1) := by decide +kernel
theorem dX7_drift_46 : decode cX7_drift 46 = .ok (.getfield 7, 3) := by decide +kernel
theorem dX7_drift_49 : decode cX7_drift 49 = .ok (.iconst 3, 1) := by decide +kernel
theorem dX7_drift_50 : decode cX7_drift 50 = .ok (.lload_n 3, 1) := by decide +kernel
theorem dX7_drift_51 : decode cX7_drift 51 = .ok (.l2i, 1) := by decide +kernel
theorem dX7_drift_52 : decode cX7_drift 52 = .ok (.iastore, 1) := by decide +kernel
theorem dX7_drift_53 : decode cX7_drift 53 = .ok (.aload_n 0, 1) := by decide +kernel
theorem dX7_drift_54 : decode cX7_drift 54 = .ok (.getfield 7, 3) := by decide +kernel
theorem dX7_drift_57 : decode cX7_drift 57 = .ok (.iconst 4, 1) := by decide +kernel
theorem dX7_drift_58 : decode cX7_drift 58 = .ok (.aload_n 0, 1) := by decide +kernel
theorem dX7_drift_59 : decode cX7_drift 59 = .ok (.getfield 7, 3) := by decide +kernel
theorem dX7_drift_62 : decode cX7_drift 62 = .ok (.iconst 3, 1) := by decide +kernel
theorem dX7_drift_63 : decode cX7_drift 63 = .ok (.iaload, 1) := by decide +kernel
theorem dX7_drift_64 : decode cX7_drift 64 = .ok (.ldc 179, 2) := by decide +kernel
theorem dX7_drift_66 : decode cX7_drift 66 = .ok (.idiv, 1) := by decide +kernel
theorem dX7_drift_67 : decode cX7_drift 67 = .ok (.aload_n 0, 1) := by decide +kernel
theorem dX7_drift_68 : decode cX7_drift 68 = .ok (.invokevirtual 61, 3) := by decide +kernel
theorem dX7_drift_71 : decode cX7_drift 71 = .ok (.irem, 1) := by decide +kernel
theorem dX7_drift_72 : decode cX7_drift 72 = .ok (.iadd, 1) := by decide +kernel
theorem dX7_drift_73 : decode cX7_drift 73 = .ok (.aload_n 0, 1) := by decide +kernel
theorem dX7_drift_74 : decode cX7_drift 74 = .ok (.getfield 7, 3) := by decide +kernel
theorem dX7_drift_77 : decode cX7_drift 77 = .ok (.iconst 3, 1) := by decide +kernel
theorem dX7_drift_78 : decode cX7_drift 78 = .ok (.iaload, 1) := by decide +kernel
theorem dX7_drift_79 : decode cX7_drift 79 = .ok (.sipush 256, 3) := by decide +kernel
theorem dX7_drift_82 : decode cX7_drift 82 = .ok (.idiv, 1) := by decide +kernel
theorem dX7_drift_83 : decode cX7_drift 83 = .ok (.aload_n 0, 1) := by decide +kernel
theorem dX7_drift_84 : decode cX7_drift 84 = .ok (.getfield 7, 3) := by decide +kernel
theorem dX7_drift_87 : decode cX7_drift 87 = .ok (.iconst 2, 1) := by decide +kernel
theorem dX7_drift_88 : decode cX7_drift 88 = .ok (.iaload, 1) := by decide +kernel
theorem dX7_drift_89 : decode cX7_drift 89 = .ok (.irem, 1) := by decide +kernel
theorem dX7_drift_90 : decode cX7_drift 90 = .ok (.iastore, 1) := by decide +kernel
theorem dX7_drift_91 : decode cX7_drift 91 = .ok (.iinc 2 1, 3) := by decide +kernel
theorem dX7_drift_94 : decode cX7_drift 94 = .ok (.goto (-78), 3) := by decide +kernel
theorem dX7_drift_97 : decode cX7_drift 97 = .ok (.aload_n 0, 1) := by decide +kernel
theorem dX7_drift_98 : decode cX7_drift 98 = .ok (.aload_n 0, 1) := by decide +kernel
theorem dX7_drift_99 : decode cX7_drift 99 = .ok (.getfield 7, 3) := by decide +kernel
theorem dX7_drift_102 : decode cX7_drift 102 = .ok (.iconst 0, 1) := by decide +kernel
theorem dX7_drift_103 : decode cX7_drift 103 = .ok (.iaload, 1) := by decide +kernel
theorem dX7_drift_104 : decode cX7_drift 104 = .ok (.invokevirtual 117, 3) := by decide +kernel
theorem dX7_drift_107 : decode cX7_drift 107 = .ok (.ireturn, 1) := by decide +kernel
theorem dX7_undo_0 : decode cX7_undo 0 = .ok (.aload_n 0, 1) := by decide +kernel
theorem dX7_undo_1 : decode cX7_undo 1 = .ok (.getfield 108, 3) := by decide +kernel
theorem dX7_undo_4 : decode cX7_undo 4 = .ok (.ifCond .ne 6, 3) := by decide +kernel
theorem dX7_undo_7 : decode cX7_undo 7 = .ok (.bipush (-4), 2) := by decide +kernel
theorem dX7_undo_9 : decode cX7_undo 9 = .ok (.ireturn, 1) := by decide +kernel
theorem dX7_undo_10 : decode cX7_undo 10 = .ok (.aload_n 0, 1) := by decide +kernel
theorem dX7_undo_11 : decode cX7_undo 11 = .ok (.dup, 1) := by decide +kernel
theorem dX7_undo_12 : decode cX7_undo 12 = .ok (.getfield 108, 3) := by decide +kernel
theorem dX7_undo_15 : decode cX7_undo 15 = .ok (.iconst 1, 1) := by decide +kernel
theorem dX7_undo_16 : decode cX7_undo 16 = .ok (.isub, 1) := by decide +kernel
theorem dX7_undo_17 : decode cX7_undo 17 = .ok (.putfield 108, 3) := by decide +kernel
theorem dX7_undo_20 : decode cX7_undo 20 = .ok (.iconst 0, 1) := by decide +kernel
theorem dX7_undo_21 : decode cX7_undo 21 = .ok (.istore_n 1, 1) := by decide +kernel
theorem dX7_undo_22 : decode cX7_undo 22 = .ok (.iload_n 1, 1) := by decide +kernel
theorem dX7_undo_23 : decode cX7_undo 23 = .ok (.bipush 21, 2) := by decide +kernel
theorem dX7_undo_25 : decode cX7_undo 25 = .ok (.if_icmp .ge 29, 3) := by decide +kernel
theorem dX7_undo_28 : decode cX7_undo 28 = .ok (.aload_n 0, 1) := by decide +kernel
theorem dX7_undo_29 : decode cX7_undo 29 = .ok (.getfield 7, 3) := by decide +kernel
theorem dX7_undo_32 : decode cX7_undo 32 = .ok (.iload_n 1, 1) := by decide +kernel
theorem dX7_undo_33 : decode cX7_undo 33 = .ok (.aload_n 0, 1) := by decide +kernel
theorem dX7_undo_34 : decode cX7_undo 34 = .ok (.getfield 25, 3) := by decide +kernel
theorem dX7_undo_37 : decode cX7_undo 37 = .ok (.bipush 21, 2) := by decide +kernel
theorem dX7_undo_39 : decode cX7_undo 39 = .ok (.aload_n 0, 1) := by decide +kernel
theorem dX7_undo_40 : decode cX7_undo 40 = .ok (.getfield 108, 3) := by decide +kernel
theorem dX7_undo_43 : decode cX7_undo 43 = .ok (.imul, 1) := by decide +kernel
theorem dX7_undo_44 : decode cX7_undo 44 = .ok (.iload_n 1, 1) := by decide +kernel
theorem dX7_undo_45 : decode cX7_undo 45 = .ok (.iadd, 1) := by decide +kernel
theorem dX7_undo_46 : decode cX7_undo 46 = .ok (.iaload, 1) := by decide +kernel
theorem dX7_undo_47 : decode cX7_undo 47 = .ok (.iastore, 1) := by decide +kernel
theorem dX7_undo_48 : decode cX7_undo 48 = .ok (.iinc 1 1, 3) := by decide +kernel
theorem dX7_undo_51 : decode cX7_undo 51 = .ok (.goto (-29), 3) := by decide +kernel
theorem dX7_undo_54 : decode cX7_undo 54 = .ok (.aload_n 0, 1) := by decide +kernel
theorem dX7_undo_55 : decode cX7_undo 55 = .ok (.getfield 108, 3) := by decide +kernel
theorem dX7_undo_58 : decode cX7_undo 58 = .ok (.ireturn, 1) := by decide +kernel
theorem dX7_seed_0 : decode cX7_seed 0 = .ok (.iload_n 1, 1) := by decide +kernel
theorem dX7_seed_1 : decode cX7_seed 1 = .ok (.ifCond .ge 5, 3) := by decide +kernel
theorem dX7_seed_4 : decode cX7_seed 4 = .ok (.iconst (-1), 1) := by decide +kernel
theorem dX7_seed_5 : decode cX7_seed 5 = .ok (.ireturn, 1) := by decide +kernel
theorem dX7_seed_6 : decode cX7_seed 6 = .ok (.aload_n 0, 1) := by decide +kernel
theorem dX7_seed_7 : decode cX7_seed 7 = .ok (.getfield 7, 3) := by decide +kernel
theorem dX7_seed_10 : decode cX7_seed 10 = .ok (.iconst 3, 1) := by decide +kernel
theorem dX7_seed_11 : decode cX7_seed 11 = .ok (.iaload, 1) := by decide +kernel
theorem dX7_seed_12 : decode cX7_seed 12 = .ok (.istore_n 2, 1) := by decide +kernel
theorem dX7_seed_13 : decode cX7_seed 13 = .ok (.aload_n 0, 1) := by decide +kernel
theorem dX7_seed_14 : decode cX7_seed 14 = .ok (.getfield 7, 3) := by decide +kernel
theorem dX7_seed_17 : decode cX7_seed 17 = .ok (.iconst 3, 1) := by decide +kernel
theorem dX7_seed_18 : decode cX7_seed 18 = .ok (.iload_n 1, 1) := by decide +kernel
theorem dX7_seed_19 : decode cX7_seed 19 = .ok (.iastore, 1) := by decide +kernel
theorem dX7_seed_20 : decode cX7_seed 20 = .ok (.iload_n 2, 1) := by decide +kernel
theorem dX7_seed_21 : decode cX7_seed 21 = .ok (.ireturn, 1) := by decide +kernel
theorem dX7_corner_0 : decode cX7_corner 0 = .ok (.iload_n 1, 1) := by decide +kernel
theorem dX7_corner_1 : decode cX7_corner 1 = .ok (.i2l, 1) := by decide +kernel
theorem dX7_corner_2 : decode cX7_corner 2 = .ok (.lconst 0, 1) := by decide +kernel
theorem dX7_corner_3 : decode cX7_corner 3 = .ok (.aload_n 0, 1) := by decide +kernel
theorem dX7_corner_4 : decode cX7_corner 4 = .ok (.getfield 7, 3) := by decide +kernel
theorem dX7_corner_7 : decode cX7_corner 7 = .ok (.iconst 0, 1) := by decide +kernel
theorem dX7_corner_8 : decode cX7_corner 8 = .ok (.iaload, 1) := by decide +kernel
theorem dX7_corner_9 : decode cX7_corner 9 = .ok (.i2l, 1) := by decide +kernel
theorem dX7_corner_10 : decode cX7_corner 10 = .ok (.invokestatic 57, 3) := by decide +kernel
theorem dX7_corner_13 : decode cX7_corner 13 = .ok (.ifCond .eq 11, 3) := by decide +kernel
theorem dX7_corner_16 : decode cX7_corner 16 = .ok (.aload_n 0, 1) := by decide +kernel
theorem dX7_corner_17 : decode cX7_corner 17 = .ok (.iload_n 1, 1) := by decide +kernel
theorem dX7_corner_18 : decode cX7_corner 18 = .ok (.invokevirtual 117, 3) := by decide +kernel
theorem dX7_corner_21 : decode cX7_corner 21 = .ok (.goto 4, 3) := by decide +kernel
theorem dX7_corner_24 : decode cX7_corner 24 = .ok (.iconst (-1), 1) := by decide +kernel
theorem dX7_corner_25 : decode cX7_corner 25 = .ok (.ireturn, 1) := by decide +kernel
theorem dX7_leap_0 : decode cX7_leap 0 = .ok (.aload_n 0, 1) := by decide +kernel
theorem dX7_leap_1 : decode cX7_leap 1 = .ok (.iload_n 1, 1) := by decide +kernel
theorem dX7_leap_2 : decode cX7_leap 2 = .ok (.invokevirtual 114, 3) := by decide +kernel
theorem dX7_leap_5 : decode cX7_leap 5 = .ok (.ifCond .ne 5, 3) := by decide +kernel
theorem dX7_leap_8 : decode cX7_leap 8 = .ok (.iconst (-1), 1) := by decide +kernel
theorem dX7_leap_9 : decode cX7_leap 9 = .ok (.ireturn, 1) := by decide +kernel
theorem dX7_leap_10 : decode cX7_leap 10 = .ok (.iload_n 1, 1) := by decide +kernel
theorem dX7_leap_11 : decode cX7_leap 11 = .ok (.iconst 1, 1) := by decide +kernel
theorem dX7_leap_12 : decode cX7_leap 12 = .ok (.iadd, 1) := by decide +kernel
theorem dX7_leap_13 : decode cX7_leap 13 = .ok (.istore_n 2, 1) := by decide +kernel
theorem dX7_leap_14 : decode cX7_leap 14 = .ok (.iload_n 2, 1) := by decide +kernel
theorem dX7_leap_15 : decode cX7_leap 15 = .ok (.aload_n 0, 1) := by decide +kernel
theorem dX7_leap_16 : decode cX7_leap 16 = .ok (.getfield 7, 3) := by decide +kernel
theorem dX7_leap_19 : decode cX7_leap 19 = .ok (.iconst 0, 1) := by decide +kernel
theorem dX7_leap_20 : decode cX7_leap 20 = .ok (.iaload, 1) := by decide +kernel
theorem dX7_leap_21 : decode cX7_leap 21 = .ok (.if_icmp .gt 17, 3) := by decide +kernel
theorem dX7_leap_24 : decode cX7_leap 24 = .ok (.aload_n 0, 1) := by decide +kernel
theorem dX7_leap_25 : decode cX7_leap 25 = .ok (.iload_n 2, 1) := by decide +kernel
theorem dX7_leap_26 : decode cX7_leap 26 = .ok (.invokevirtual 117, 3) := by decide +kernel
theorem dX7_leap_29 : decode cX7_leap 29 = .ok (.ifCond .ne 9, 3) := by decide +kernel
theorem dX7_leap_32 : decode cX7_leap 32 = .ok (.iinc 2 1, 3) := by decide +kernel
theorem dX7_leap_35 : decode cX7_leap 35 = .ok (.goto (-21), 3) := by decide +kernel
theorem dX7_leap_38 : decode cX7_leap 38 = .ok (.iload_n 2, 1) := by decide +kernel
theorem dX7_leap_39 : decode cX7_leap 39 = .ok (.aload_n 0, 1) := by decide +kernel
theorem dX7_leap_40 : decode cX7_leap 40 = .ok (.getfield 7, 3) := by decide +kernel
theorem dX7_leap_43 : decode cX7_leap 43 = .ok (.iconst 0, 1) := by decide +kernel
theorem dX7_leap_44 : decode cX7_leap 44 = .ok (.iaload, 1) := by decide +kernel
theorem dX7_leap_45 : decode cX7_leap 45 = .ok (.if_icmp .le 8, 3) := by decide +kernel
theorem dX7_leap_48 : decode cX7_leap 48 = .ok (.bipush (-4), 2) := by decide +kernel
theorem dX7_leap_50 : decode cX7_leap 50 = .ok (.goto 6, 3) := by decide +kernel
theorem dX7_leap_53 : decode cX7_leap 53 = .ok (.iload_n 2, 1) := by decide +kernel
theorem dX7_leap_54 : decode cX7_leap 54 = .ok (.iload_n 1, 1) := by decide +kernel
theorem dX7_leap_55 : decode cX7_leap 55 = .ok (.isub, 1) := by decide +kernel
theorem dX7_leap_56 : decode cX7_leap 56 = .ok (.ireturn, 1) := by decide +kernel
theorem dX7_solved_0 : decode cX7_solved 0 = .ok (.iload_n 1, 1) := by decide +kernel
theorem dX7_solved_1 : decode cX7_solved 1 = .ok (.iconst (-1), 1) := by decide +kernel
theorem dX7_solved_2 : decode cX7_solved 2 = .ok (.if_icmp .eq 15, 3) := by decide +kernel
theorem dX7_solved_5 : decode cX7_solved 5 = .ok (.aload_n 0, 1) := by decide +kernel
theorem dX7_solved_6 : decode cX7_solved 6 = .ok (.iload_n 1, 1) := by decide +kernel
theorem dX7_solved_7 : decode cX7_solved 7 = .ok (.invokevirtual 114, 3) := by decide +kernel
theorem dX7_solved_10 : decode cX7_solved 10 = .ok (.ifCond .ne 7, 3) := by decide +kernel
theorem dX7_solved_13 : decode cX7_solved 13 = .ok (.ldc2_w 180, 3) := by decide +kernel
theorem dX7_solved_16 : decode cX7_solved 16 = .ok (.lreturn, 1) := by decide +kernel
theorem dX7_solved_17 : decode cX7_solved 17 = .ok (.aload_n 0, 1) := by decide +kernel
theorem dX7_solved_18 : decode cX7_solved 18 = .ok (.invokevirtual 182, 3) := by decide +kernel
theorem dX7_solved_21 : decode cX7_solved 21 = .ok (.lstore_n 2, 1) := by decide +kernel
theorem dX7_solved_22 : decode cX7_solved 22 = .ok (.iload_n 1, 1) := by decide +kernel
theorem dX7_solved_23 : decode cX7_solved 23 = .ok (.iconst (-1), 1) := by decide +kernel
theorem dX7_solved_24 : decode cX7_solved 24 = .ok (.if_icmp .ne 7, 3) := by decide +kernel
theorem dX7_solved_27 : decode cX7_solved 27 = .ok (.lload_n 2, 1) := by decide +kernel
theorem dX7_solved_28 : decode cX7_solved 28 = .ok (.goto 27, 3) := by decide +kernel
theorem dX7_solved_31 : decode cX7_solved 31 = .ok (.lload_n 2, 1) := by decide +kernel
theorem dX7_solved_32 : decode cX7_solved 32 = .ok (.lconst 0, 1) := by decide +kernel
theorem dX7_solved_33 : decode cX7_solved 33 = .ok (.lcmp, 1) := by decide +kernel
theorem dX7_solved_34 : decode cX7_solved 34 = .ok (.ifCond .ne 9, 3) := by decide +kernel
theorem dX7_solved_37 : decode cX7_solved 37 = .ok (.ldc2_w 186, 3) := by decide +kernel
theorem dX7_solved_40 : decode cX7_solved 40 = .ok (.goto 15, 3) := by decide +kernel
theorem dX7_solved_43 : decode cX7_solved 43 = .ok (.aload_n 0, 1) := by decide +kernel
theorem dX7_solved_44 : decode cX7_solved 44 = .ok (.iload_n 1, 1) := by decide +kernel
theorem dX7_solved_45 : decode cX7_solved 45 = .ok (.aload_n 0, 1) := by decide +kernel
theorem dX7_solved_46 : decode cX7_solved 46 = .ok (.getfield 7, 3) := by decide +kernel
theorem dX7_solved_49 : decode cX7_solved 49 = .ok (.iconst 0, 1) := by decide +kernel
theorem dX7_solved_50 : decode cX7_solved 50 = .ok (.iaload, 1) := by decide +kernel
theorem dX7_solved_51 : decode cX7_solved 51 = .ok (.invokevirtual 188, 3) := by decide +kernel
theorem dX7_solved_54 : decode cX7_solved 54 = .ok (.i2l, 1) := by decide +kernel
theorem dX7_solved_55 : decode cX7_solved 55 = .ok (.lreturn, 1) := by decide +kernel
theorem dX7_inverse_0 : decode cX7_inverse 0 = .ok (.aload_n 0, 1) := by decide +kernel
theorem dX7_inverse_1 : decode cX7_inverse 1 = .ok (.iload_n 1, 1) := by decide +kernel
theorem dX7_inverse_2 : decode cX7_inverse 2 = .ok (.invokevirtual 114, 3) := by decide +kernel
theorem dX7_inverse_5 : decode cX7_inverse 5 = .ok (.ifCond .eq 11, 3) := by decide +kernel
theorem dX7_inverse_8 : decode cX7_inverse 8 = .ok (.aload_n 0, 1) := by decide +kernel
theorem dX7_inverse_9 : decode cX7_inverse 9 = .ok (.iload_n 2, 1) := by decide +kernel
theorem dX7_inverse_10 : decode cX7_inverse 10 = .ok (.invokevirtual 114, 3) := by decide +kernel
theorem dX7_inverse_13 : decode cX7_inverse 13 = .ok (.ifCond .ne 5, 3) := by decide +kernel
theorem dX7_inverse_16 : decode cX7_inverse 16 = .ok (.iconst (-1), 1) := by decide +kernel
theorem dX7_inverse_17 : decode cX7_inverse 17 = .ok (.ireturn, 1) := by decide +kernel
theorem dX7_inverse_18 : decode cX7_inverse 18 = .ok (.aload_n 0, 1) := by decide +kernel
theorem dX7_inverse_19 : decode cX7_inverse 19 = .ok (.iload_n 2, 1) := by decide +kernel
theorem dX7_inverse_20 : decode cX7_inverse 20 = .ok (.invokevirtual 97, 3) := by decide +kernel
theorem dX7_inverse_23 : decode cX7_inverse 23 = .ok (.ifCond .eq 20, 3) := by decide +kernel
theorem dX7_inverse_26 : decode cX7_inverse 26 = .ok (.aload_n 0, 1) := by decide +kernel
theorem dX7_inverse_27 : decode cX7_inverse 27 = .ok (.getfield 87, 3) := by decide +kernel
theorem dX7_inverse_30 : decode cX7_inverse 30 = .ok (.aload_n 0, 1) := by decide +kernel
theorem dX7_inverse_31 : decode cX7_inverse 31 = .ok (.getfield 7, 3) := by decide +kernel
theorem dX7_inverse_34 : decode cX7_inverse 34 = .ok (.iconst 0, 1) := by decide +kernel
theorem dX7_inverse_35 : decode cX7_inverse 35 = .ok (.iaload, 1) := by decide +kernel
theorem dX7_inverse_36 : decode cX7_inverse 36 = .ok (.if_icmp .ne 7, 3) := by decide +kernel
theorem dX7_inverse_39 : decode cX7_inverse 39 = .ok (.iconst 1, 1) := by decide +kernel
theorem dX7_inverse_40 : decode cX7_inverse 40 = .ok (.goto 4, 3) := by decide +kernel
theorem dX7_inverse_43 : decode cX7_inverse 43 = .ok (.iconst 0, 1) := by decide +kernel
theorem dX7_inverse_44 : decode cX7_inverse 44 = .ok (.istore_n 3, 1) := by decide +kernel
theorem dX7_inverse_45 : decode cX7_inverse 45 = .ok (.iload_n 3, 1) := by decide +kernel
theorem dX7_inverse_46 : decode cX7_inverse 46 = .ok (.ifCond .eq 17, 3) := by decide +kernel
theorem dX7_inverse_49 : decode cX7_inverse 49 = .ok (.aload_n 0, 1) := by decide +kernel
theorem dX7_inverse_50 : decode cX7_inverse 50 = .ok (.iload_n 1, 1) := by decide +kernel
theorem dX7_inverse_51 : decode cX7_inverse 51 = .ok (.aload_n 0, 1) := by decide +kernel
theorem dX7_inverse_52 : decode cX7_inverse 52 = .ok (.getfield 7, 3) := by decide +kernel
theorem dX7_inverse_55 : decode cX7_inverse 55 = .ok (.iconst 0, 1) := by decide +kernel
theorem dX7_inverse_56 : decode cX7_inverse 56 = .ok (.iaload, 1) := by decide +kernel
theorem dX7_inverse_57 : decode cX7_inverse 57 = .ok (.invokevirtual 188, 3) := by decide +kernel
theorem dX7_inverse_60 : decode cX7_inverse 60 = .ok (.goto 5, 3) := by decide +kernel
theorem dX7_inverse_63 : decode cX7_inverse 63 = .ok (.bipush (-4), 2) := by decide +kernel
theorem dX7_inverse_65 : decode cX7_inverse 65 = .ok (.ireturn, 1) := by decide +kernel
theorem dX7_weak_0 : decode cX7_weak 0 = .ok (.aload_n 0, 1) := by decide +kernel
theorem dX7_weak_1 : decode cX7_weak 1 = .ok (.iload_n 1, 1) := by decide +kernel
theorem dX7_weak_2 : decode cX7_weak 2 = .ok (.invokevirtual 111, 3) := by decide +kernel
theorem dX7_weak_5 : decode cX7_weak 5 = .ok (.ifCond .eq 13, 3) := by decide +kernel
theorem dX7_weak_8 : decode cX7_weak 8 = .ok (.iload_n 2, 1) := by decide +kernel
theorem dX7_weak_9 : decode cX7_weak 9 = .ok (.i2l, 1) := by decide +kernel
theorem dX7_weak_10 : decode cX7_weak 10 = .ok (.lconst 0, 1) := by decide +kernel
theorem dX7_weak_11 : decode cX7_weak 11 = .ok (.lconst 1, 1) := by decide +kernel
theorem dX7_weak_12 : decode cX7_weak 12 = .ok (.invokestatic 57, 3) := by decide +kernel
theorem dX7_weak_15 : decode cX7_weak 15 = .ok (.ifCond .ne 5, 3) := by decide +kernel
theorem dX7_weak_18 : decode cX7_weak 18 = .ok (.iconst (-1), 1) := by decide +kernel
theorem dX7_weak_19 : decode cX7_weak 19 = .ok (.ireturn, 1) := by decide +kernel
theorem dX7_weak_20 : decode cX7_weak 20 = .ok (.aload_n 0, 1) := by decide +kernel
theorem dX7_weak_21 : decode cX7_weak 21 = .ok (.getfield 7, 3) := by decide +kernel
theorem dX7_weak_24 : decode cX7_weak 24 = .ok (.iconst 4, 1) := by decide +kernel
theorem dX7_weak_25 : decode cX7_weak 25 = .ok (.iload_n 1, 1) := by decide +kernel
theorem dX7_weak_26 : decode cX7_weak 26 = .ok (.iadd, 1) := by decide +kernel
theorem dX7_weak_27 : decode cX7_weak 27 = .ok (.iaload, 1) := by decide +kernel
theorem dX7_weak_28 : decode cX7_weak 28 = .ok (.istore_n 3, 1) := by decide +kernel
theorem dX7_weak_29 : decode cX7_weak 29 = .ok (.iconst 0, 1) := by decide +kernel
theorem dX7_weak_30 : decode cX7_weak 30 = .ok (.istore 4, 2) := by decide +kernel
theorem dX7_weak_32 : decode cX7_weak 32 = .ok (.bipush (-4), 2) := by decide +kernel
theorem dX7_weak_34 : decode cX7_weak 34 = .ok (.istore 5, 2) := by decide +kernel
theorem dX7_weak_36 : decode cX7_weak 36 = .ok (.iconst 0, 1) := by decide +kernel
theorem dX7_weak_37 : decode cX7_weak 37 = .ok (.istore 6, 2) := by decide +kernel
theorem dX7_weak_39 : decode cX7_weak 39 = .ok (.iload 6, 2) := by decide +kernel
theorem dX7_weak_41 : decode cX7_weak 41 = .ok (.aload_n 0, 1) := by decide +kernel
theorem dX7_weak_42 : decode cX7_weak 42 = .ok (.getfield 7, 3) := by decide +kernel
theorem dX7_weak_45 : decode cX7_weak 45 = .ok (.iconst 2, 1) := by decide +kernel
theorem dX7_weak_46 : decode cX7_weak 46 = .ok (.iaload, 1) := by decide +kernel
theorem dX7_weak_47 : decode cX7_weak 47 = .ok (.if_icmp .ge 49, 3) := by decide +kernel
theorem dX7_weak_50 : decode cX7_weak 50 = .ok (.aload_n 0, 1) := by decide +kernel
theorem dX7_weak_51 : decode cX7_weak 51 = .ok (.getfield 7, 3) := by decide +kernel
theorem dX7_weak_54 : decode cX7_weak 54 = .ok (.iconst 4, 1) := by decide +kernel
theorem dX7_weak_55 : decode cX7_weak 55 = .ok (.iload_n 1, 1) := by decide +kernel
theorem dX7_weak_56 : decode cX7_weak 56 = .ok (.iadd, 1) := by decide +kernel
theorem dX7_weak_57 : decode cX7_weak 57 = .ok (.iload 6, 2) := by decide +kernel
theorem dX7_weak_59 : decode cX7_weak 59 = .ok (.iastore, 1) := by decide +kernel
theorem dX7_weak_60 : decode cX7_weak 60 = .ok (.aload_n 0, 1) := by decide +kernel
theorem dX7_weak_61 : decode cX7_weak 61 = .ok (.aload_n 0, 1) := by decide +kernel
theorem dX7_weak_62 : decode cX7_weak 62 = .ok (.getfield 7, 3) := by decide +kernel
theorem dX7_weak_65 : decode cX7_weak 65 = .ok (.iconst 0, 1) := by decide +kernel
theorem dX7_weak_66 : decode cX7_weak 66 = .ok (.iaload, 1) := by decide +kernel
theorem dX7_weak_67 : decode cX7_weak 67 = .ok (.invokevirtual 117, 3) := by decide +kernel
theorem dX7_weak_70 : decode cX7_weak 70 = .ok (.ifCond .ne 20, 3) := by decide +kernel
theorem dX7_weak_73 : decode cX7_weak 73 = .ok (.iload 4, 2) := by decide +kernel
theorem dX7_weak_75 : decode cX7_weak 75 = .ok (.ifCond .ne 8, 3) := by decide +kernel
theorem dX7_weak_78 : decode cX7_weak 78 = .ok (.iload 6, 2) := by decide +kernel
theorem dX7_weak_80 : decode cX7_weak 80 = .ok (.goto 5, 3) := by decide +kernel
theorem dX7_weak_83 : decode cX7_weak 83 = .ok (.iload 5, 2) := by decide +kernel
theorem dX7_weak_85 : decode cX7_weak 85 = .ok (.istore 5, 2) := by decide +kernel
theorem dX7_weak_87 : decode cX7_weak 87 = .ok (.iinc 4 1, 3) := by decide +kernel
theorem dX7_weak_90 : decode cX7_weak 90 = .ok (.iinc 6 1, 3) := by decide +kernel
theorem dX7_weak_93 : decode cX7_weak 93 = .ok (.goto (-54), 3) := by decide +kernel
theorem dX7_weak_96 : decode cX7_weak 96 = .ok (.aload_n 0, 1) := by decide +kernel
theorem dX7_weak_97 : decode cX7_weak 97 = .ok (.getfield 7, 3) := by decide +kernel
theorem dX7_weak_100 : decode cX7_weak 100 = .ok (.iconst 4, 1) := by decide +kernel
theorem dX7_weak_101 : decode cX7_weak 101 = .ok (.iload_n 1, 1) := by decide +kernel
theorem dX7_weak_102 : decode cX7_weak 102 = .ok (.iadd, 1) := by decide +kernel
theorem dX7_weak_103 : decode cX7_weak 103 = .ok (.iload_n 3, 1) := by decide +kernel
theorem dX7_weak_104 : decode cX7_weak 104 = .ok (.iastore, 1) := by decide +kernel
theorem dX7_weak_105 : decode cX7_weak 105 = .ok (.iload_n 2, 1) := by decide +kernel
theorem dX7_weak_106 : decode cX7_weak 106 = .ok (.ifCond .ne 8, 3) := by decide +kernel
theorem dX7_weak_109 : decode cX7_weak 109 = .ok (.iload 4, 2) := by decide +kernel
theorem dX7_weak_111 : decode cX7_weak 111 = .ok (.goto 5, 3) := by decide +kernel
theorem dX7_weak_114 : decode cX7_weak 114 = .ok (.iload 5, 2) := by decide +kernel
theorem dX7_weak_116 : decode cX7_weak 116 = .ok (.ireturn, 1) := by decide +kernel
theorem dX7_mends_0 : decode cX7_mends 0 = .ok (.aload_n 0, 1) := by decide +kernel
theorem dX7_mends_1 : decode cX7_mends 1 = .ok (.getfield 7, 3) := by decide +kernel
theorem dX7_mends_4 : decode cX7_mends 4 = .ok (.iconst 4, 1) := by decide +kernel
theorem dX7_mends_5 : decode cX7_mends 5 = .ok (.iload_n 1, 1) := by decide +kernel
theorem dX7_mends_6 : decode cX7_mends 6 = .ok (.iadd, 1) := by decide +kernel
theorem dX7_mends_7 : decode cX7_mends 7 = .ok (.iaload, 1) := by decide +kernel
theorem dX7_mends_8 : decode cX7_mends 8 = .ok (.istore_n 2, 1) := by decide +kernel
theorem dX7_mends_9 : decode cX7_mends 9 = .ok (.bipush (-4), 2) := by decide +kernel
theorem dX7_mends_11 : decode cX7_mends 11 = .ok (.istore_n 3, 1) := by decide +kernel
theorem dX7_mends_12 : decode cX7_mends 12 = .ok (.iconst 0, 1) := by decide +kernel
theorem dX7_mends_13 : decode cX7_mends 13 = .ok (.istore 4, 2) := by decide +kernel
theorem dX7_mends_15 : decode cX7_mends 15 = .ok (.iload 4, 2) := by decide +kernel
theorem dX7_mends_17 : decode cX7_mends 17 = .ok (.aload_n 0, 1) := by decide +kernel
theorem dX7_mends_18 : decode cX7_mends 18 = .ok (.getfield 7, 3) := by decide +kernel
theorem dX7_mends_21 : decode cX7_mends 21 = .ok (.iconst 2, 1) := by decide +kernel
theorem dX7_mends_22 : decode cX7_mends 22 = .ok (.iaload, 1) := by decide +kernel
theorem dX7_mends_23 : decode cX7_mends 23 = .ok (.if_icmp .ge 51, 3) := by decide +kernel
theorem dX7_mends_26 : decode cX7_mends 26 = .ok (.iload_n 3, 1) := by decide +kernel
theorem dX7_mends_27 : decode cX7_mends 27 = .ok (.bipush (-4), 2) := by decide +kernel
theorem dX7_mends_29 : decode cX7_mends 29 = .ok (.if_icmp .ne 45, 3) := by decide +kernel
theorem dX7_mends_32 : decode cX7_mends 32 = .ok (.aload_n 0, 1) := by decide +kernel
theorem dX7_mends_33 : decode cX7_mends 33 = .ok (.getfield 7, 3) := by decide +kernel
theorem dX7_mends_36 : decode cX7_mends 36 = .ok (.iconst 4, 1) := by decide +kernel
theorem dX7_mends_37 : decode cX7_mends 37 = .ok (.iload_n 1, 1) := by decide +kernel
theorem dX7_mends_38 : decode cX7_mends 38 = .ok (.iadd, 1) := by decide +kernel
theorem dX7_mends_39 : decode cX7_mends 39 = .ok (.iload 4, 2) := by decide +kernel
theorem dX7_mends_41 : decode cX7_mends 41 = .ok (.iastore, 1) := by decide +kernel
theorem dX7_mends_42 : decode cX7_mends 42 = .ok (.iload 4, 2) := by decide +kernel
theorem dX7_mends_44 : decode cX7_mends 44 = .ok (.iload_n 2, 1) := by decide +kernel
theorem dX7_mends_45 : decode cX7_mends 45 = .ok (.if_icmp .eq 21, 3) := by decide +kernel
theorem dX7_mends_48 : decode cX7_mends 48 = .ok (.aload_n 0, 1) := by decide +kernel
theorem dX7_mends_49 : decode cX7_mends 49 = .ok (.aload_n 0, 1) := by decide +kernel
theorem dX7_mends_50 : decode cX7_mends 50 = .ok (.getfield 7, 3) := by decide +kernel
theorem dX7_mends_53 : decode cX7_mends 53 = .ok (.iconst 0, 1) := by decide +kernel
theorem dX7_mends_54 : decode cX7_mends 54 = .ok (.iaload, 1) := by decide +kernel
theorem dX7_mends_55 : decode cX7_mends 55 = .ok (.invokevirtual 117, 3) := by decide +kernel
theorem dX7_mends_58 : decode cX7_mends 58 = .ok (.ifCond .eq 8, 3) := by decide +kernel
theorem dX7_mends_61 : decode cX7_mends 61 = .ok (.iload 4, 2) := by decide +kernel
theorem dX7_mends_63 : decode cX7_mends 63 = .ok (.goto 4, 3) := by decide +kernel
theorem dX7_mends_66 : decode cX7_mends 66 = .ok (.iload_n 3, 1) := by decide +kernel
theorem dX7_mends_67 : decode cX7_mends 67 = .ok (.istore_n 3, 1) := by decide +kernel
theorem dX7_mends_68 : decode cX7_mends 68 = .ok (.iinc 4 1, 3) := by decide +kernel
theorem dX7_mends_71 : decode cX7_mends 71 = .ok (.goto (-56), 3) := by decide +kernel
theorem dX7_mends_74 : decode cX7_mends 74 = .ok (.aload_n 0, 1) := by decide +kernel
theorem dX7_mends_75 : decode cX7_mends 75 = .ok (.getfield 7, 3) := by decide +kernel
theorem dX7_mends_78 : decode cX7_mends 78 = .ok (.iconst 4, 1) := by decide +kernel
theorem dX7_mends_79 : decode cX7_mends 79 = .ok (.iload_n 1, 1) := by decide +kernel
theorem dX7_mends_80 : decode cX7_mends 80 = .ok (.iadd, 1) := by decide +kernel
theorem dX7_mends_81 : decode cX7_mends 81 = .ok (.iload_n 2, 1) := by decide +kernel
theorem dX7_mends_82 : decode cX7_mends 82 = .ok (.iastore, 1) := by decide +kernel
theorem dX7_mends_83 : decode cX7_mends 83 = .ok (.iload_n 3, 1) := by decide +kernel
theorem dX7_mends_84 : decode cX7_mends 84 = .ok (.ireturn, 1) := by decide +kernel
theorem dX7_mend_0 : decode cX7_mend 0 = .ok (.iload_n 1, 1) := by decide +kernel
theorem dX7_mend_1 : decode cX7_mend 1 = .ok (.i2l, 1) := by decide +kernel
theorem dX7_mend_2 : decode cX7_mend 2 = .ok (.lconst 0, 1) := by decide +kernel
theorem dX7_mend_3 : decode cX7_mend 3 = .ok (.lconst 1, 1) := by decide +kernel
theorem dX7_mend_4 : decode cX7_mend 4 = .ok (.invokestatic 57, 3) := by decide +kernel
theorem dX7_mend_7 : decode cX7_mend 7 = .ok (.ifCond .ne 5, 3) := by decide +kernel
theorem dX7_mend_10 : decode cX7_mend 10 = .ok (.iconst (-1), 1) := by decide +kernel
theorem dX7_mend_11 : decode cX7_mend 11 = .ok (.ireturn, 1) := by decide +kernel
theorem dX7_mend_12 : decode cX7_mend 12 = .ok (.aload_n 0, 1) := by decide +kernel
theorem dX7_mend_13 : decode cX7_mend 13 = .ok (.aload_n 0, 1) := by decide +kernel
theorem dX7_mend_14 : decode cX7_mend 14 = .ok (.getfield 7, 3) := by decide +kernel
theorem dX7_mend_17 : decode cX7_mend 17 = .ok (.iconst 0, 1) := by decide +kernel
theorem dX7_mend_18 : decode cX7_mend 18 = .ok (.iaload, 1) := by decide +kernel
theorem dX7_mend_19 : decode cX7_mend 19 = .ok (.invokevirtual 117, 3) := by decide +kernel
theorem dX7_mend_22 : decode cX7_mend 22 = .ok (.ifCond .eq 6, 3) := by decide +kernel
theorem dX7_mend_25 : decode cX7_mend 25 = .ok (.bipush (-2), 2) := by decide +kernel
theorem dX7_mend_27 : decode cX7_mend 27 = .ok (.ireturn, 1) := by decide +kernel
theorem dX7_mend_28 : decode cX7_mend 28 = .ok (.iconst 0, 1) := by decide +kernel
theorem dX7_mend_29 : decode cX7_mend 29 = .ok (.istore_n 2, 1) := by decide +kernel
theorem dX7_mend_30 : decode cX7_mend 30 = .ok (.aload_n 0, 1) := by decide +kernel
theorem dX7_mend_31 : decode cX7_mend 31 = .ok (.iconst 0, 1) := by decide +kernel
theorem dX7_mend_32 : decode cX7_mend 32 = .ok (.invokevirtual 191, 3) := by decide +kernel
theorem dX7_mend_35 : decode cX7_mend 35 = .ok (.istore_n 3, 1) := by decide +kernel
theorem dX7_mend_36 : decode cX7_mend 36 = .ok (.iload_n 3, 1) := by decide +kernel
theorem dX7_mend_37 : decode cX7_mend 37 = .ok (.bipush (-4), 2) := by decide +kernel
theorem dX7_mend_39 : decode cX7_mend 39 = .ok (.if_icmp .ne 25, 3) := by decide +kernel
theorem dX7_mend_42 : decode cX7_mend 42 = .ok (.iload_n 2, 1) := by decide +kernel
theorem dX7_mend_43 : decode cX7_mend 43 = .ok (.iconst 1, 1) := by decide +kernel
theorem dX7_mend_44 : decode cX7_mend 44 = .ok (.iadd, 1) := by decide +kernel
theorem dX7_mend_45 : decode cX7_mend 45 = .ok (.aload_n 0, 1) := by decide +kernel
theorem dX7_mend_46 : decode cX7_mend 46 = .ok (.invokevirtual 61, 3) := by decide +kernel
theorem dX7_mend_49 : decode cX7_mend 49 = .ok (.if_icmp .ge 15, 3) := by decide +kernel
theorem dX7_mend_52 : decode cX7_mend 52 = .ok (.iinc 2 1, 3) := by decide +kernel
theorem dX7_mend_55 : decode cX7_mend 55 = .ok (.aload_n 0, 1) := by decide +kernel
theorem dX7_mend_56 : decode cX7_mend 56 = .ok (.iload_n 2, 1) := by decide +kernel
theorem dX7_mend_57 : decode cX7_mend 57 = .ok (.invokevirtual 191, 3) := by decide +kernel
theorem dX7_mend_60 : decode cX7_mend 60 = .ok (.istore_n 3, 1) := by decide +kernel
theorem dX7_mend_61 : decode cX7_mend 61 = .ok (.goto (-25), 3) := by decide +kernel
theorem dX7_mend_64 : decode cX7_mend 64 = .ok (.iload_n 1, 1) := by decide +kernel
theorem dX7_mend_65 : decode cX7_mend 65 = .ok (.iconst 1, 1) := by decide +kernel
theorem dX7_mend_66 : decode cX7_mend 66 = .ok (.if_icmp .eq 9, 3) := by decide +kernel
theorem dX7_mend_69 : decode cX7_mend 69 = .ok (.iload_n 3, 1) := by decide +kernel
theorem dX7_mend_70 : decode cX7_mend 70 = .ok (.bipush (-4), 2) := by decide +kernel
theorem dX7_mend_72 : decode cX7_mend 72 = .ok (.if_icmp .ne 7, 3) := by decide +kernel
theorem dX7_mend_75 : decode cX7_mend 75 = .ok (.iload_n 3, 1) := by decide +kernel
theorem dX7_mend_76 : decode cX7_mend 76 = .ok (.goto 4, 3) := by decide +kernel
theorem dX7_mend_79 : decode cX7_mend 79 = .ok (.iload_n 2, 1) := by decide +kernel
theorem dX7_mend_80 : decode cX7_mend 80 = .ok (.ireturn, 1) := by decide +kernel
theorem dX7_isLaw_0 : decode cX7_isLaw 0 = .ok (.aload_n 0, 1) := by decide +kernel
theorem dX7_isLaw_1 : decode cX7_isLaw 1 = .ok (.invokevirtual 61, 3) := by decide +kernel
theorem dX7_isLaw_4 : decode cX7_isLaw 4 = .ok (.istore_n 2, 1) := by decide +kernel
theorem dX7_isLaw_5 : decode cX7_isLaw 5 = .ok (.iconst 0, 1) := by decide +kernel
theorem dX7_isLaw_6 : decode cX7_isLaw 6 = .ok (.istore_n 3, 1) := by decide +kernel
theorem dX7_isLaw_7 : decode cX7_isLaw 7 = .ok (.iload_n 3, 1) := by decide +kernel
theorem dX7_isLaw_8 : decode cX7_isLaw 8 = .ok (.iload_n 2, 1) := by decide +kernel
theorem dX7_isLaw_9 : decode cX7_isLaw 9 = .ok (.iload_n 1, 1) := by decide +kernel
theorem dX7_isLaw_10 : decode cX7_isLaw 10 = .ok (.isub, 1) := by decide +kernel
theorem dX7_isLaw_11 : decode cX7_isLaw 11 = .ok (.if_icmp .ge 83, 3) := by decide +kernel
theorem dX7_isLaw_14 : decode cX7_isLaw 14 = .ok (.iconst 0, 1) := by decide +kernel
theorem dX7_isLaw_15 : decode cX7_isLaw 15 = .ok (.istore 4, 2) := by decide +kernel
theorem dX7_isLaw_17 : decode cX7_isLaw 17 = .ok (.iload 4, 2) := by decide +kernel
theorem dX7_isLaw_19 : decode cX7_isLaw 19 = .ok (.bipush 13, 2) := by decide +kernel
theorem dX7_isLaw_21 : decode cX7_isLaw 21 = .ok (.if_icmp .ge 46, 3) := by decide +kernel
theorem dX7_isLaw_24 : decode cX7_isLaw 24 = .ok (.aload_n 0, 1) := by decide +kernel
theorem dX7_isLaw_25 : decode cX7_isLaw 25 = .ok (.getfield 13, 3) := by decide +kernel
theorem dX7_isLaw_28 : decode cX7_isLaw 28 = .ok (.bipush 13, 2) := by decide +kernel
theorem dX7_isLaw_30 : decode cX7_isLaw 30 = .ok (.iload_n 3, 1) := by decide +kernel
theorem dX7_isLaw_31 : decode cX7_isLaw 31 = .ok (.imul, 1) := by decide +kernel
theorem dX7_isLaw_32 : decode cX7_isLaw 32 = .ok (.iload 4, 2) := by decide +kernel
theorem dX7_isLaw_34 : decode cX7_isLaw 34 = .ok (.iadd, 1) := by decide +kernel
theorem dX7_isLaw_35 : decode cX7_isLaw 35 = .ok (.iload 4, 2) := by decide +kernel
theorem dX7_isLaw_37 : decode cX7_isLaw 37 = .ok (.iload_n 1, 1) := by decide +kernel
theorem dX7_isLaw_38 : decode cX7_isLaw 38 = .ok (.if_icmp .ge 21, 3) := by decide +kernel
theorem dX7_isLaw_41 : decode cX7_isLaw 41 = .ok (.aload_n 0, 1) := by decide +kernel
theorem dX7_isLaw_42 : decode cX7_isLaw 42 = .ok (.getfield 7, 3) := by decide +kernel
theorem dX7_isLaw_45 : decode cX7_isLaw 45 = .ok (.iconst 4, 1) := by decide +kernel
theorem dX7_isLaw_46 : decode cX7_isLaw 46 = .ok (.iload_n 1, 1) := by decide +kernel
theorem dX7_isLaw_47 : decode cX7_isLaw 47 = .ok (.iadd, 1) := by decide +kernel
theorem dX7_isLaw_48 : decode cX7_isLaw 48 = .ok (.iload_n 3, 1) := by decide +kernel
theorem dX7_isLaw_49 : decode cX7_isLaw 49 = .ok (.iadd, 1) := by decide +kernel
theorem dX7_isLaw_50 : decode cX7_isLaw 50 = .ok (.iconst 1, 1) := by decide +kernel
theorem dX7_isLaw_51 : decode cX7_isLaw 51 = .ok (.isub, 1) := by decide +kernel
theorem dX7_isLaw_52 : decode cX7_isLaw 52 = .ok (.iload 4, 2) := by decide +kernel
theorem dX7_isLaw_54 : decode cX7_isLaw 54 = .ok (.isub, 1) := by decide +kernel
theorem dX7_isLaw_55 : decode cX7_isLaw 55 = .ok (.iaload, 1) := by decide +kernel
theorem dX7_isLaw_56 : decode cX7_isLaw 56 = .ok (.goto 4, 3) := by decide +kernel
theorem dX7_isLaw_59 : decode cX7_isLaw 59 = .ok (.iconst 0, 1) := by decide +kernel
theorem dX7_isLaw_60 : decode cX7_isLaw 60 = .ok (.iastore, 1) := by decide +kernel
theorem dX7_isLaw_61 : decode cX7_isLaw 61 = .ok (.iinc 4 1, 3) := by decide +kernel
theorem dX7_isLaw_64 : decode cX7_isLaw 64 = .ok (.goto (-47), 3) := by decide +kernel
theorem dX7_isLaw_67 : decode cX7_isLaw 67 = .ok (.aload_n 0, 1) := by decide +kernel
theorem dX7_isLaw_68 : decode cX7_isLaw 68 = .ok (.getfield 13, 3) := by decide +kernel
theorem dX7_isLaw_71 : decode cX7_isLaw 71 = .ok (.bipush 13, 2) := by decide +kernel
theorem dX7_isLaw_73 : decode cX7_isLaw 73 = .ok (.iload_n 3, 1) := by decide +kernel
theorem dX7_isLaw_74 : decode cX7_isLaw 74 = .ok (.imul, 1) := by decide +kernel
theorem dX7_isLaw_75 : decode cX7_isLaw 75 = .ok (.iload_n 1, 1) := by decide +kernel
theorem dX7_isLaw_76 : decode cX7_isLaw 76 = .ok (.iadd, 1) := by decide +kernel
theorem dX7_isLaw_77 : decode cX7_isLaw 77 = .ok (.aload_n 0, 1) := by decide +kernel
theorem dX7_isLaw_78 : decode cX7_isLaw 78 = .ok (.getfield 7, 3) := by decide +kernel
theorem dX7_isLaw_81 : decode cX7_isLaw 81 = .ok (.iconst 4, 1) := by decide +kernel
theorem dX7_isLaw_82 : decode cX7_isLaw 82 = .ok (.iload_n 1, 1) := by decide +kernel
theorem dX7_isLaw_83 : decode cX7_isLaw 83 = .ok (.iadd, 1) := by decide +kernel
theorem dX7_isLaw_84 : decode cX7_isLaw 84 = .ok (.iload_n 3, 1) := by decide +kernel
theorem dX7_isLaw_85 : decode cX7_isLaw 85 = .ok (.iadd, 1) := by decide +kernel
theorem dX7_isLaw_86 : decode cX7_isLaw 86 = .ok (.iaload, 1) := by decide +kernel
theorem dX7_isLaw_87 : decode cX7_isLaw 87 = .ok (.iastore, 1) := by decide +kernel
theorem dX7_isLaw_88 : decode cX7_isLaw 88 = .ok (.iinc 3 1, 3) := by decide +kernel
theorem dX7_isLaw_91 : decode cX7_isLaw 91 = .ok (.goto (-84), 3) := by decide +kernel
theorem dX7_isLaw_94 : decode cX7_isLaw 94 = .ok (.aload_n 0, 1) := by decide +kernel
theorem dX7_isLaw_95 : decode cX7_isLaw 95 = .ok (.iload_n 2, 1) := by decide +kernel
theorem dX7_isLaw_96 : decode cX7_isLaw 96 = .ok (.iload_n 1, 1) := by decide +kernel
theorem dX7_isLaw_97 : decode cX7_isLaw 97 = .ok (.isub, 1) := by decide +kernel
theorem dX7_isLaw_98 : decode cX7_isLaw 98 = .ok (.iload_n 1, 1) := by decide +kernel
theorem dX7_isLaw_99 : decode cX7_isLaw 99 = .ok (.invokevirtual 93, 3) := by decide +kernel
theorem dX7_isLaw_102 : decode cX7_isLaw 102 = .ok (.istore_n 3, 1) := by decide +kernel
theorem dX7_isLaw_103 : decode cX7_isLaw 103 = .ok (.iconst 0, 1) := by decide +kernel
theorem dX7_isLaw_104 : decode cX7_isLaw 104 = .ok (.istore 4, 2) := by decide +kernel
theorem dX7_isLaw_106 : decode cX7_isLaw 106 = .ok (.iload 4, 2) := by decide +kernel
theorem dX7_isLaw_108 : decode cX7_isLaw 108 = .ok (.iload_n 1, 1) := by decide +kernel
theorem dX7_isLaw_109 : decode cX7_isLaw 109 = .ok (.if_icmp .ge 29, 3) := by decide +kernel
theorem dX7_isLaw_112 : decode cX7_isLaw 112 = .ok (.iload_n 3, 1) := by decide +kernel
theorem dX7_isLaw_113 : decode cX7_isLaw 113 = .ok (.ifCond .eq 25, 3) := by decide +kernel
theorem dX7_isLaw_116 : decode cX7_isLaw 116 = .ok (.aload_n 0, 1) := by decide +kernel
theorem dX7_isLaw_117 : decode cX7_isLaw 117 = .ok (.getfield 28, 3) := by decide +kernel
theorem dX7_isLaw_120 : decode cX7_isLaw 120 = .ok (.iload 4, 2) := by decide +kernel
theorem dX7_isLaw_122 : decode cX7_isLaw 122 = .ok (.iconst 1, 1) := by decide +kernel
theorem dX7_isLaw_123 : decode cX7_isLaw 123 = .ok (.iadd, 1) := by decide +kernel
theorem dX7_isLaw_124 : decode cX7_isLaw 124 = .ok (.aload_n 0, 1) := by decide +kernel
theorem dX7_isLaw_125 : decode cX7_isLaw 125 = .ok (.iload 4, 2) := by decide +kernel
theorem dX7_isLaw_127 : decode cX7_isLaw 127 = .ok (.iload_n 1, 1) := by decide +kernel
theorem dX7_isLaw_128 : decode cX7_isLaw 128 = .ok (.invokevirtual 188, 3) := by decide +kernel
theorem dX7_isLaw_131 : decode cX7_isLaw 131 = .ok (.iastore, 1) := by decide +kernel
theorem dX7_isLaw_132 : decode cX7_isLaw 132 = .ok (.iinc 4 1, 3) := by decide +kernel
theorem dX7_isLaw_135 : decode cX7_isLaw 135 = .ok (.goto (-29), 3) := by decide +kernel
theorem dX7_isLaw_138 : decode cX7_isLaw 138 = .ok (.iload_n 3, 1) := by decide +kernel
theorem dX7_isLaw_139 : decode cX7_isLaw 139 = .ok (.ireturn, 1) := by decide +kernel
theorem dX7_law_0 : decode cX7_law 0 = .ok (.iconst 0, 1) := by decide +kernel
theorem dX7_law_1 : decode cX7_law 1 = .ok (.istore_n 1, 1) := by decide +kernel
theorem dX7_law_2 : decode cX7_law 2 = .ok (.aload_n 0, 1) := by decide +kernel
theorem dX7_law_3 : decode cX7_law 3 = .ok (.iload_n 1, 1) := by decide +kernel
theorem dX7_law_4 : decode cX7_law 4 = .ok (.invokevirtual 194, 3) := by decide +kernel
theorem dX7_law_7 : decode cX7_law 7 = .ok (.ifCond .ne 9, 3) := by decide +kernel
theorem dX7_law_10 : decode cX7_law 10 = .ok (.iinc 1 1, 3) := by decide +kernel
theorem dX7_law_13 : decode cX7_law 13 = .ok (.goto (-11), 3) := by decide +kernel
theorem dX7_law_16 : decode cX7_law 16 = .ok (.iload_n 1, 1) := by decide +kernel
theorem dX7_law_17 : decode cX7_law 17 = .ok (.ireturn, 1) := by decide +kernel
theorem dX7_term_0 : decode cX7_term 0 = .ok (.iload_n 1, 1) := by decide +kernel
theorem dX7_term_1 : decode cX7_term 1 = .ok (.ifCond .le 20, 3) := by decide +kernel
theorem dX7_term_4 : decode cX7_term 4 = .ok (.iload_n 1, 1) := by decide +kernel
theorem dX7_term_5 : decode cX7_term 5 = .ok (.aload_n 0, 1) := by decide +kernel
theorem dX7_term_6 : decode cX7_term 6 = .ok (.invokevirtual 126, 3) := by decide +kernel
theorem dX7_term_9 : decode cX7_term 9 = .ok (.if_icmp .gt 12, 3) := by decide +kernel
theorem dX7_term_12 : decode cX7_term 12 = .ok (.aload_n 0, 1) := by decide +kernel
theorem dX7_term_13 : decode cX7_term 13 = .ok (.getfield 28, 3) := by decide +kernel
theorem dX7_term_16 : decode cX7_term 16 = .ok (.iload_n 1, 1) := by decide +kernel
theorem dX7_term_17 : decode cX7_term 17 = .ok (.iaload, 1) := by decide +kernel
theorem dX7_term_18 : decode cX7_term 18 = .ok (.goto 4, 3) := by decide +kernel
theorem dX7_term_21 : decode cX7_term 21 = .ok (.iconst (-1), 1) := by decide +kernel
theorem dX7_term_22 : decode cX7_term 22 = .ok (.ireturn, 1) := by decide +kernel
theorem dX7_next_0 : decode cX7_next 0 = .ok (.iload_n 1, 1) := by decide +kernel
theorem dX7_next_1 : decode cX7_next 1 = .ok (.i2l, 1) := by decide +kernel
theorem dX7_next_2 : decode cX7_next 2 = .ok (.lconst 0, 1) := by decide +kernel
theorem dX7_next_3 : decode cX7_next 3 = .ok (.ldc2_w 197, 3) := by decide +kernel
theorem dX7_next_6 : decode cX7_next 6 = .ok (.invokestatic 57, 3) := by decide +kernel
theorem dX7_next_9 : decode cX7_next 9 = .ok (.ifCond .ne 5, 3) := by decide +kernel
theorem dX7_next_12 : decode cX7_next 12 = .ok (.iconst (-1), 1) := by decide +kernel
theorem dX7_next_13 : decode cX7_next 13 = .ok (.ireturn, 1) := by decide +kernel
theorem dX7_next_14 : decode cX7_next 14 = .ok (.aload_n 0, 1) := by decide +kernel
theorem dX7_next_15 : decode cX7_next 15 = .ok (.invokevirtual 126, 3) := by decide +kernel
theorem dX7_next_18 : decode cX7_next 18 = .ok (.istore_n 2, 1) := by decide +kernel
theorem dX7_next_19 : decode cX7_next 19 = .ok (.aload_n 0, 1) := by decide +kernel
theorem dX7_next_20 : decode cX7_next 20 = .ok (.invokevirtual 61, 3) := by decide +kernel
theorem dX7_next_23 : decode cX7_next 23 = .ok (.istore_n 3, 1) := by decide +kernel
theorem dX7_next_24 : decode cX7_next 24 = .ok (.iconst 0, 1) := by decide +kernel
theorem dX7_next_25 : decode cX7_next 25 = .ok (.istore 4, 2) := by decide +kernel
theorem dX7_next_27 : decode cX7_next 27 = .ok (.iload 4, 2) := by decide +kernel
theorem dX7_next_29 : decode cX7_next 29 = .ok (.iload_n 3, 1) := by decide +kernel
theorem dX7_next_30 : decode cX7_next 30 = .ok (.iload_n 1, 1) := by decide +kernel
theorem dX7_next_31 : decode cX7_next 31 = .ok (.iadd, 1) := by decide +kernel
theorem dX7_next_32 : decode cX7_next 32 = .ok (.if_icmp .gt 90, 3) := by decide +kernel
theorem dX7_next_35 : decode cX7_next 35 = .ok (.iconst 0, 1) := by decide +kernel
theorem dX7_next_36 : decode cX7_next 36 = .ok (.istore 5, 2) := by decide +kernel
theorem dX7_next_38 : decode cX7_next 38 = .ok (.iconst 1, 1) := by decide +kernel
theorem dX7_next_39 : decode cX7_next 39 = .ok (.istore 6, 2) := by decide +kernel
theorem dX7_next_41 : decode cX7_next 41 = .ok (.iload 6, 2) := by decide +kernel
theorem dX7_next_43 : decode cX7_next 43 = .ok (.iload_n 2, 1) := by decide +kernel
theorem dX7_next_44 : decode cX7_next 44 = .ok (.if_icmp .gt 38, 3) := by decide +kernel
theorem dX7_next_47 : decode cX7_next 47 = .ok (.iload 4, 2) := by decide +kernel
theorem dX7_next_49 : decode cX7_next 49 = .ok (.iload_n 3, 1) := by decide +kernel
theorem dX7_next_50 : decode cX7_next 50 = .ok (.if_icmp .lt 32, 3) := by decide +kernel
theorem dX7_next_53 : decode cX7_next 53 = .ok (.iload 5, 2) := by decide +kernel
theorem dX7_next_55 : decode cX7_next 55 = .ok (.aload_n 0, 1) := by decide +kernel
theorem dX7_next_56 : decode cX7_next 56 = .ok (.getfield 28, 3) := by decide +kernel
theorem dX7_next_59 : decode cX7_next 59 = .ok (.iload 6, 2) := by decide +kernel
theorem dX7_next_61 : decode cX7_next 61 = .ok (.iaload, 1) := by decide +kernel
theorem dX7_next_62 : decode cX7_next 62 = .ok (.aload_n 0, 1) := by decide +kernel
theorem dX7_next_63 : decode cX7_next 63 = .ok (.getfield 31, 3) := by decide +kernel
theorem dX7_next_66 : decode cX7_next 66 = .ok (.iload 4, 2) := by decide +kernel
theorem dX7_next_68 : decode cX7_next 68 = .ok (.iload 6, 2) := by decide +kernel
theorem dX7_next_70 : decode cX7_next 70 = .ok (.isub, 1) := by decide +kernel
theorem dX7_next_71 : decode cX7_next 71 = .ok (.iaload, 1) := by decide +kernel
theorem dX7_next_72 : decode cX7_next 72 = .ok (.imul, 1) := by decide +kernel
theorem dX7_next_73 : decode cX7_next 73 = .ok (.iadd, 1) := by decide +kernel
theorem dX7_next_74 : decode cX7_next 74 = .ok (.istore 5, 2) := by decide +kernel
theorem dX7_next_76 : decode cX7_next 76 = .ok (.iinc 6 1, 3) := by decide +kernel
theorem dX7_next_79 : decode cX7_next 79 = .ok (.goto (-38), 3) := by decide +kernel
theorem dX7_next_82 : decode cX7_next 82 = .ok (.aload_n 0, 1) := by decide +kernel
theorem dX7_next_83 : decode cX7_next 83 = .ok (.getfield 31, 3) := by decide +kernel
theorem dX7_next_86 : decode cX7_next 86 = .ok (.iload 4, 2) := by decide +kernel
theorem dX7_next_88 : decode cX7_next 88 = .ok (.iload 4, 2) := by decide +kernel
theorem dX7_next_90 : decode cX7_next 90 = .ok (.iload_n 3, 1) := by decide +kernel
theorem dX7_next_91 : decode cX7_next 91 = .ok (.if_icmp .ge 15, 3) := by decide +kernel
theorem dX7_next_94 : decode cX7_next 94 = .ok (.aload_n 0, 1) := by decide +kernel
theorem dX7_next_95 : decode cX7_next 95 = .ok (.getfield 7, 3) := by decide +kernel
theorem dX7_next_98 : decode cX7_next 98 = .ok (.iconst 4, 1) := by decide +kernel
theorem dX7_next_99 : decode cX7_next 99 = .ok (.iload 4, 2) := by decide +kernel
theorem dX7_next_101 : decode cX7_next 101 = .ok (.iadd, 1) := by decide +kernel
theorem dX7_next_102 : decode cX7_next 102 = .ok (.iaload, 1) := by decide +kernel
theorem dX7_next_103 : decode cX7_next 103 = .ok (.goto 12, 3) := by decide +kernel
theorem dX7_next_106 : decode cX7_next 106 = .ok (.iload 5, 2) := by decide +kernel
theorem dX7_next_108 : decode cX7_next 108 = .ok (.aload_n 0, 1) := by decide +kernel
theorem dX7_next_109 : decode cX7_next 109 = .ok (.getfield 7, 3) := by decide +kernel
theorem dX7_next_112 : decode cX7_next 112 = .ok (.iconst 2, 1) := by decide +kernel
theorem dX7_next_113 : decode cX7_next 113 = .ok (.iaload, 1) := by decide +kernel
theorem dX7_next_114 : decode cX7_next 114 = .ok (.irem, 1) := by decide +kernel
theorem dX7_next_115 : decode cX7_next 115 = .ok (.iastore, 1) := by decide +kernel
theorem dX7_next_116 : decode cX7_next 116 = .ok (.iinc 4 1, 3) := by decide +kernel
theorem dX7_next_119 : decode cX7_next 119 = .ok (.goto (-92), 3) := by decide +kernel
theorem dX7_next_122 : decode cX7_next 122 = .ok (.aload_n 0, 1) := by decide +kernel
theorem dX7_next_123 : decode cX7_next 123 = .ok (.getfield 31, 3) := by decide +kernel
theorem dX7_next_126 : decode cX7_next 126 = .ok (.iload_n 3, 1) := by decide +kernel
theorem dX7_next_127 : decode cX7_next 127 = .ok (.iload_n 1, 1) := by decide +kernel
theorem dX7_next_128 : decode cX7_next 128 = .ok (.iadd, 1) := by decide +kernel
theorem dX7_next_129 : decode cX7_next 129 = .ok (.iaload, 1) := by decide +kernel
theorem dX7_next_130 : decode cX7_next 130 = .ok (.ireturn, 1) := by decide +kernel
theorem dX7_wiped_0 : decode cX7_wiped 0 = .ok (.iload_n 1, 1) := by decide +kernel
theorem dX7_wiped_1 : decode cX7_wiped 1 = .ok (.i2l, 1) := by decide +kernel
theorem dX7_wiped_2 : decode cX7_wiped 2 = .ok (.lconst 0, 1) := by decide +kernel
theorem dX7_wiped_3 : decode cX7_wiped 3 = .ok (.ldc2_w 199, 3) := by decide +kernel
theorem dX7_wiped_6 : decode cX7_wiped 6 = .ok (.invokestatic 57, 3) := by decide +kernel
theorem dX7_wiped_9 : decode cX7_wiped 9 = .ok (.ifCond .eq 13, 3) := by decide +kernel
theorem dX7_wiped_12 : decode cX7_wiped 12 = .ok (.iload_n 2, 1) := by decide +kernel
theorem dX7_wiped_13 : decode cX7_wiped 13 = .ok (.i2l, 1) := by decide +kernel
theorem dX7_wiped_14 : decode cX7_wiped 14 = .ok (.lconst 0, 1) := by decide +kernel
theorem dX7_wiped_15 : decode cX7_wiped 15 = .ok (.lconst 1, 1) := by decide +kernel
theorem dX7_wiped_16 : decode cX7_wiped 16 = .ok (.invokestatic 57, 3) := by decide +kernel
theorem dX7_wiped_19 : decode cX7_wiped 19 = .ok (.ifCond .ne 7, 3) := by decide +kernel
theorem dX7_wiped_22 : decode cX7_wiped 22 = .ok (.ldc2_w 180, 3) := by decide +kernel
theorem dX7_wiped_25 : decode cX7_wiped 25 = .ok (.lreturn, 1) := by decide +kernel
theorem dX7_wiped_26 : decode cX7_wiped 26 = .ok (.aload_n 0, 1) := by decide +kernel
theorem dX7_wiped_27 : decode cX7_wiped 27 = .ok (.invokevirtual 61, 3) := by decide +kernel
theorem dX7_wiped_30 : decode cX7_wiped 30 = .ok (.istore_n 3, 1) := by decide +kernel
theorem dX7_wiped_31 : decode cX7_wiped 31 = .ok (.iconst 0, 1) := by decide +kernel
theorem dX7_wiped_32 : decode cX7_wiped 32 = .ok (.istore 4, 2) := by decide +kernel
theorem dX7_wiped_34 : decode cX7_wiped 34 = .ok (.iload 4, 2) := by decide +kernel
theorem dX7_wiped_36 : decode cX7_wiped 36 = .ok (.iload_n 3, 1) := by decide +kernel
theorem dX7_wiped_37 : decode cX7_wiped 37 = .ok (.if_icmp .ge 25, 3) := by decide +kernel
theorem dX7_wiped_40 : decode cX7_wiped 40 = .ok (.aload_n 0, 1) := by decide +kernel
theorem dX7_wiped_41 : decode cX7_wiped 41 = .ok (.getfield 22, 3) := by decide +kernel
theorem dX7_wiped_44 : decode cX7_wiped 44 = .ok (.iload 4, 2) := by decide +kernel
theorem dX7_wiped_46 : decode cX7_wiped 46 = .ok (.aload_n 0, 1) := by decide +kernel
theorem dX7_wiped_47 : decode cX7_wiped 47 = .ok (.getfield 7, 3) := by decide +kernel
theorem dX7_wiped_50 : decode cX7_wiped 50 = .ok (.iconst 4, 1) := by decide +kernel
theorem dX7_wiped_51 : decode cX7_wiped 51 = .ok (.iload 4, 2) := by decide +kernel
theorem dX7_wiped_53 : decode cX7_wiped 53 = .ok (.iadd, 1) := by decide +kernel
theorem dX7_wiped_54 : decode cX7_wiped 54 = .ok (.iaload, 1) := by decide +kernel
theorem dX7_wiped_55 : decode cX7_wiped 55 = .ok (.iastore, 1) := by decide +kernel
theorem dX7_wiped_56 : decode cX7_wiped 56 = .ok (.iinc 4 1, 3) := by decide +kernel
theorem dX7_wiped_59 : decode cX7_wiped 59 = .ok (.goto (-25), 3) := by decide +kernel
theorem dX7_wiped_62 : decode cX7_wiped 62 = .ok (.lconst 0, 1) := by decide +kernel
theorem dX7_wiped_63 : decode cX7_wiped 63 = .ok (.lstore 4, 2) := by decide +kernel
theorem dX7_wiped_65 : decode cX7_wiped 65 = .ok (.lconst 0, 1) := by decide +kernel
theorem dX7_wiped_66 : decode cX7_wiped 66 = .ok (.lstore 6, 2) := by decide +kernel
theorem dX7_wiped_68 : decode cX7_wiped 68 = .ok (.iconst 0, 1) := by decide +kernel
theorem dX7_wiped_69 : decode cX7_wiped 69 = .ok (.istore 8, 2) := by decide +kernel
theorem dX7_wiped_71 : decode cX7_wiped 71 = .ok (.iload 8, 2) := by decide +kernel
theorem dX7_wiped_73 : decode cX7_wiped 73 = .ok (.iconst 1, 1) := by decide +kernel
theorem dX7_wiped_74 : decode cX7_wiped 74 = .ok (.iload_n 3, 1) := by decide +kernel
theorem dX7_wiped_75 : decode cX7_wiped 75 = .ok (.ishl, 1) := by decide +kernel
theorem dX7_wiped_76 : decode cX7_wiped 76 = .ok (.if_icmp .ge 128, 3) := by decide +kernel
theorem dX7_wiped_79 : decode cX7_wiped 79 = .ok (.lconst 1, 1) := by decide +kernel
theorem dX7_wiped_80 : decode cX7_wiped 80 = .ok (.lstore 9, 2) := by decide +kernel
theorem dX7_wiped_82 : decode cX7_wiped 82 = .ok (.iconst 0, 1) := by decide +kernel
theorem dX7_wiped_83 : decode cX7_wiped 83 = .ok (.istore 11, 2) := by decide +kernel
theorem dX7_wiped_85 : decode cX7_wiped 85 = .ok (.iload 11, 2) := by decide +kernel
theorem dX7_wiped_87 : decode cX7_wiped 87 = .ok (.iload_n 3, 1) := by decide +kernel
theorem dX7_wiped_88 : decode cX7_wiped 88 = .ok (.if_icmp .ge 72, 3) := by decide +kernel
theorem dX7_wiped_91 : decode cX7_wiped 91 = .ok (.iload 8, 2) := by decide +kernel
theorem dX7_wiped_93 : decode cX7_wiped 93 = .ok (.iload 11, 2) := by decide +kernel
theorem dX7_wiped_95 : decode cX7_wiped 95 = .ok (.ishr, 1) := by decide +kernel
theorem dX7_wiped_96 : decode cX7_wiped 96 = .ok (.iconst 1, 1) := by decide +kernel
theorem dX7_wiped_97 : decode cX7_wiped 97 = .ok (.iand, 1) := by decide +kernel
theorem dX7_wiped_98 : decode cX7_wiped 98 = .ok (.iconst 1, 1) := by decide +kernel
theorem dX7_wiped_99 : decode cX7_wiped 99 = .ok (.if_icmp .ne 7, 3) := by decide +kernel
theorem dX7_wiped_102 : decode cX7_wiped 102 = .ok (.iconst 1, 1) := by decide +kernel
theorem dX7_wiped_103 : decode cX7_wiped 103 = .ok (.goto 4, 3) := by decide +kernel
theorem dX7_wiped_106 : decode cX7_wiped 106 = .ok (.iconst 0, 1) := by decide +kernel
theorem dX7_wiped_107 : decode cX7_wiped 107 = .ok (.istore 12, 2) := by decide +kernel
theorem dX7_wiped_109 : decode cX7_wiped 109 = .ok (.lload 9, 2) := by decide +kernel
theorem dX7_wiped_111 : decode cX7_wiped 111 = .ok (.iload 12, 2) := by decide +kernel
theorem dX7_wiped_113 : decode cX7_wiped 113 = .ok (.ifCond .eq 8, 3) := by decide +kernel
theorem dX7_wiped_116 : decode cX7_wiped 116 = .ok (.iload_n 1, 1) := by decide +kernel
theorem dX7_wiped_117 : decode cX7_wiped 117 = .ok (.i2l, 1) := by decide +kernel
theorem dX7_wiped_118 : decode cX7_wiped 118 = .ok (.goto 8, 3) := by decide +kernel
theorem dX7_wiped_121 : decode cX7_wiped 121 = .ok (.bipush 10, 2) := by decide +kernel
theorem dX7_wiped_123 : decode cX7_wiped 123 = .ok (.iload_n 1, 1) := by decide +kernel
theorem dX7_wiped_124 : decode cX7_wiped 124 = .ok (.isub, 1) := by decide +kernel
theorem dX7_wiped_125 : decode cX7_wiped 125 = .ok (.i2l, 1) := by decide +kernel
theorem dX7_wiped_126 : decode cX7_wiped 126 = .ok (.lmul, 1) := by decide +kernel
theorem dX7_wiped_127 : decode cX7_wiped 127 = .ok (.lstore 9, 2) := by decide +kernel
theorem dX7_wiped_129 : decode cX7_wiped 129 = .ok (.aload_n 0, 1) := by decide +kernel
theorem dX7_wiped_130 : decode cX7_wiped 130 = .ok (.getfield 7, 3) := by decide +kernel
theorem dX7_wiped_133 : decode cX7_wiped 133 = .ok (.iconst 4, 1) := by decide +kernel
theorem dX7_wiped_134 : decode cX7_wiped 134 = .ok (.iload 11, 2) := by decide +kernel
theorem dX7_wiped_136 : decode cX7_wiped 136 = .ok (.iadd, 1) := by decide +kernel
theorem dX7_wiped_137 : decode cX7_wiped 137 = .ok (.iload 12, 2) := by decide +kernel
theorem dX7_wiped_139 : decode cX7_wiped 139 = .ok (.ifCond .eq 7, 3) := by decide +kernel
theorem dX7_wiped_142 : decode cX7_wiped 142 = .ok (.iconst 0, 1) := by decide +kernel
theorem dX7_wiped_143 : decode cX7_wiped 143 = .ok (.goto 10, 3) := by decide +kernel
theorem dX7_wiped_146 : decode cX7_wiped 146 = .ok (.aload_n 0, 1) := by decide +kernel
theorem dX7_wiped_147 : decode cX7_wiped 147 = .ok (.getfield 22, 3) := by decide +kernel
theorem dX7_wiped_150 : decode cX7_wiped 150 = .ok (.iload 11, 2) := by decide +kernel
theorem dX7_wiped_152 : decode cX7_wiped 152 = .ok (.iaload, 1) := by decide +kernel
theorem dX7_wiped_153 : decode cX7_wiped 153 = .ok (.iastore, 1) := by decide +kernel
theorem dX7_wiped_154 : decode cX7_wiped 154 = .ok (.iinc 11 1, 3) := by decide +kernel
theorem dX7_wiped_157 : decode cX7_wiped 157 = .ok (.goto (-72), 3) := by decide +kernel
theorem dX7_wiped_160 : decode cX7_wiped 160 = .ok (.lload 6, 2) := by decide +kernel
theorem dX7_wiped_162 : decode cX7_wiped 162 = .ok (.lload 9, 2) := by decide +kernel
theorem dX7_wiped_164 : decode cX7_wiped 164 = .ok (.ladd, 1) := by decide +kernel
theorem dX7_wiped_165 : decode cX7_wiped 165 = .ok (.lstore 6, 2) := by decide +kernel
theorem dX7_wiped_167 : decode cX7_wiped 167 = .ok (.lload 4, 2) := by decide +kernel
theorem dX7_wiped_169 : decode cX7_wiped 169 = .ok (.lload 9, 2) := by decide +kernel
theorem dX7_wiped_171 : decode cX7_wiped 171 = .ok (.lconst 0, 1) := by decide +kernel
theorem dX7_wiped_172 : decode cX7_wiped 172 = .ok (.lcmp, 1) := by decide +kernel
theorem dX7_wiped_173 : decode cX7_wiped 173 = .ok (.ifCond .le 21, 3) := by decide +kernel
theorem dX7_wiped_176 : decode cX7_wiped 176 = .ok (.aload_n 0, 1) := by decide +kernel
theorem dX7_wiped_177 : decode cX7_wiped 177 = .ok (.aload_n 0, 1) := by decide +kernel
theorem dX7_wiped_178 : decode cX7_wiped 178 = .ok (.getfield 7, 3) := by decide +kernel
theorem dX7_wiped_181 : decode cX7_wiped 181 = .ok (.iconst 0, 1) := by decide +kernel
theorem dX7_wiped_182 : decode cX7_wiped 182 = .ok (.iaload, 1) := by decide +kernel
theorem dX7_wiped_183 : decode cX7_wiped 183 = .ok (.invokevirtual 117, 3) := by decide +kernel
theorem dX7_wiped_186 : decode cX7_wiped 186 = .ok (.ifCond .ne 8, 3) := by decide +kernel
theorem dX7_wiped_189 : decode cX7_wiped 189 = .ok (.lload 9, 2) := by decide +kernel
theorem dX7_wiped_191 : decode cX7_wiped 191 = .ok (.goto 4, 3) := by decide +kernel
theorem dX7_wiped_194 : decode cX7_wiped 194 = .ok (.lconst 0, 1) := by decide +kernel
theorem dX7_wiped_195 : decode cX7_wiped 195 = .ok (.ladd, 1) := by decide +kernel
theorem dX7_wiped_196 : decode cX7_wiped 196 = .ok (.lstore 4, 2) := by decide +kernel
theorem dX7_wiped_198 : decode cX7_wiped 198 = .ok (.iinc 8 1, 3) := by decide +kernel
theorem dX7_wiped_201 : decode cX7_wiped 201 = .ok (.goto (-130), 3) := by decide +kernel
theorem dX7_wiped_204 : decode cX7_wiped 204 = .ok (.iconst 0, 1) := by decide +kernel
theorem dX7_wiped_205 : decode cX7_wiped 205 = .ok (.istore 8, 2) := by decide +kernel
theorem dX7_wiped_207 : decode cX7_wiped 207 = .ok (.iload 8, 2) := by decide +kernel
theorem dX7_wiped_209 : decode cX7_wiped 209 = .ok (.iload_n 3, 1) := by decide +kernel
theorem dX7_wiped_210 : decode cX7_wiped 210 = .ok (.if_icmp .ge 25, 3) := by decide +kernel
theorem dX7_wiped_213 : decode cX7_wiped 213 = .ok (.aload_n 0, 1) := by decide +kernel
theorem dX7_wiped_214 : decode cX7_wiped 214 = .ok (.getfield 7, 3) := by decide +kernel
theorem dX7_wiped_217 : decode cX7_wiped 217 = .ok (.iconst 4, 1) := by decide +kernel
theorem dX7_wiped_218 : decode cX7_wiped 218 = .ok (.iload 8, 2) := by decide +kernel
theorem dX7_wiped_220 : decode cX7_wiped 220 = .ok (.iadd, 1) := by decide +kernel
theorem dX7_wiped_221 : decode cX7_wiped 221 = .ok (.aload_n 0, 1) := by decide +kernel
theorem dX7_wiped_222 : decode cX7_wiped 222 = .ok (.getfield 22, 3) := by decide +kernel
theorem dX7_wiped_225 : decode cX7_wiped 225 = .ok (.iload 8, 2) := by decide +kernel
theorem dX7_wiped_227 : decode cX7_wiped 227 = .ok (.iaload, 1) := by decide +kernel
theorem dX7_wiped_228 : decode cX7_wiped 228 = .ok (.iastore, 1) := by decide +kernel
theorem dX7_wiped_229 : decode cX7_wiped 229 = .ok (.iinc 8 1, 3) := by decide +kernel
theorem dX7_wiped_232 : decode cX7_wiped 232 = .ok (.goto (-25), 3) := by decide +kernel
theorem dX7_wiped_235 : decode cX7_wiped 235 = .ok (.lload 4, 2) := by decide +kernel
theorem dX7_wiped_237 : decode cX7_wiped 237 = .ok (.lstore 8, 2) := by decide +kernel
theorem dX7_wiped_239 : decode cX7_wiped 239 = .ok (.lload 6, 2) := by decide +kernel
theorem dX7_wiped_241 : decode cX7_wiped 241 = .ok (.lstore 10, 2) := by decide +kernel
theorem dX7_wiped_243 : decode cX7_wiped 243 = .ok (.lload 10, 2) := by decide +kernel
theorem dX7_wiped_245 : decode cX7_wiped 245 = .ok (.lconst 0, 1) := by decide +kernel
theorem dX7_wiped_246 : decode cX7_wiped 246 = .ok (.lcmp, 1) := by decide +kernel
theorem dX7_wiped_247 : decode cX7_wiped 247 = .ok (.ifCond .eq 21, 3) := by decide +kernel
theorem dX7_wiped_250 : decode cX7_wiped 250 = .ok (.lload 8, 2) := by decide +kernel
theorem dX7_wiped_252 : decode cX7_wiped 252 = .ok (.lload 10, 2) := by decide +kernel
theorem dX7_wiped_254 : decode cX7_wiped 254 = .ok (.lrem, 1) := by decide +kernel
theorem dX7_wiped_255 : decode cX7_wiped 255 = .ok (.lstore 12, 2) := by decide +kernel
theorem dX7_wiped_257 : decode cX7_wiped 257 = .ok (.lload 10, 2) := by decide +kernel
theorem dX7_wiped_259 : decode cX7_wiped 259 = .ok (.lstore 8, 2) := by decide +kernel
theorem dX7_wiped_261 : decode cX7_wiped 261 = .ok (.lload 12, 2) := by decide +kernel
theorem dX7_wiped_263 : decode cX7_wiped 263 = .ok (.lstore 10, 2) := by decide +kernel
theorem dX7_wiped_265 : decode cX7_wiped 265 = .ok (.goto (-22), 3) := by decide +kernel
theorem dX7_wiped_268 : decode cX7_wiped 268 = .ok (.iload_n 2, 1) := by decide +kernel
theorem dX7_wiped_269 : decode cX7_wiped 269 = .ok (.ifCond .ne 8, 3) := by decide +kernel
theorem dX7_wiped_272 : decode cX7_wiped 272 = .ok (.lload 4, 2) := by decide +kernel
theorem dX7_wiped_274 : decode cX7_wiped 274 = .ok (.goto 5, 3) := by decide +kernel
theorem dX7_wiped_277 : decode cX7_wiped 277 = .ok (.lload 6, 2) := by decide +kernel
theorem dX7_wiped_279 : decode cX7_wiped 279 = .ok (.lload 8, 2) := by decide +kernel
theorem dX7_wiped_281 : decode cX7_wiped 281 = .ok (.ldiv, 1) := by decide +kernel
theorem dX7_wiped_282 : decode cX7_wiped 282 = .ok (.lreturn, 1) := by decide +kernel
theorem dX7_image_0 : decode cX7_image 0 = .ok (.iconst 0, 1) := by decide +kernel
theorem dX7_image_1 : decode cX7_image 1 = .ok (.istore_n 1, 1) := by decide +kernel
theorem dX7_image_2 : decode cX7_image 2 = .ok (.iload_n 1, 1) := by decide +kernel
theorem dX7_image_3 : decode cX7_image 3 = .ok (.bipush 21, 2) := by decide +kernel
theorem dX7_image_5 : decode cX7_image 5 = .ok (.if_icmp .ge 21, 3) := by decide +kernel
theorem dX7_image_8 : decode cX7_image 8 = .ok (.aload_n 0, 1) := by decide +kernel
theorem dX7_image_9 : decode cX7_image 9 = .ok (.getfield 34, 3) := by decide +kernel
theorem dX7_image_12 : decode cX7_image 12 = .ok (.iload_n 1, 1) := by decide +kernel
theorem dX7_image_13 : decode cX7_image 13 = .ok (.aload_n 0, 1) := by decide +kernel
theorem dX7_image_14 : decode cX7_image 14 = .ok (.getfield 7, 3) := by decide +kernel
theorem dX7_image_17 : decode cX7_image 17 = .ok (.iload_n 1, 1) := by decide +kernel
theorem dX7_image_18 : decode cX7_image 18 = .ok (.iaload, 1) := by decide +kernel
theorem dX7_image_19 : decode cX7_image 19 = .ok (.iastore, 1) := by decide +kernel
theorem dX7_image_20 : decode cX7_image 20 = .ok (.iinc 1 1, 3) := by decide +kernel
theorem dX7_image_23 : decode cX7_image 23 = .ok (.goto (-21), 3) := by decide +kernel
theorem dX7_image_26 : decode cX7_image 26 = .ok (.iconst 0, 1) := by decide +kernel
theorem dX7_image_27 : decode cX7_image 27 = .ok (.istore_n 1, 1) := by decide +kernel
theorem dX7_image_28 : decode cX7_image 28 = .ok (.iload_n 1, 1) := by decide +kernel
theorem dX7_image_29 : decode cX7_image 29 = .ok (.sipush 168, 3) := by decide +kernel
theorem dX7_image_32 : decode cX7_image 32 = .ok (.if_icmp .ge 21, 3) := by decide +kernel
theorem dX7_image_35 : decode cX7_image 35 = .ok (.aload_n 0, 1) := by decide +kernel
theorem dX7_image_36 : decode cX7_image 36 = .ok (.getfield 37, 3) := by decide +kernel
theorem dX7_image_39 : decode cX7_image 39 = .ok (.iload_n 1, 1) := by decide +kernel
theorem dX7_image_40 : decode cX7_image 40 = .ok (.aload_n 0, 1) := by decide +kernel
theorem dX7_image_41 : decode cX7_image 41 = .ok (.getfield 25, 3) := by decide +kernel
theorem dX7_image_44 : decode cX7_image 44 = .ok (.iload_n 1, 1) := by decide +kernel
theorem dX7_image_45 : decode cX7_image 45 = .ok (.iaload, 1) := by decide +kernel
theorem dX7_image_46 : decode cX7_image 46 = .ok (.iastore, 1) := by decide +kernel
theorem dX7_image_47 : decode cX7_image 47 = .ok (.iinc 1 1, 3) := by decide +kernel
theorem dX7_image_50 : decode cX7_image 50 = .ok (.goto (-22), 3) := by decide +kernel
theorem dX7_image_53 : decode cX7_image 53 = .ok (.aload_n 0, 1) := by decide +kernel
theorem dX7_image_54 : decode cX7_image 54 = .ok (.aload_n 0, 1) := by decide +kernel
theorem dX7_image_55 : decode cX7_image 55 = .ok (.getfield 108, 3) := by decide +kernel
theorem dX7_image_58 : decode cX7_image 58 = .ok (.putfield 40, 3) := by decide +kernel
theorem dX7_image_61 : decode cX7_image 61 = .ok (.iconst 1, 1) := by decide +kernel
theorem dX7_image_62 : decode cX7_image 62 = .ok (.ireturn, 1) := by decide +kernel
theorem dX7_restore_0 : decode cX7_restore 0 = .ok (.aload_n 0, 1) := by decide +kernel
theorem dX7_restore_1 : decode cX7_restore 1 = .ok (.getfield 40, 3) := by decide +kernel
theorem dX7_restore_4 : decode cX7_restore 4 = .ok (.ifCond .ge 6, 3) := by decide +kernel
theorem dX7_restore_7 : decode cX7_restore 7 = .ok (.bipush (-4), 2) := by decide +kernel
theorem dX7_restore_9 : decode cX7_restore 9 = .ok (.ireturn, 1) := by decide +kernel
theorem dX7_restore_10 : decode cX7_restore 10 = .ok (.iconst 0, 1) := by decide +kernel
theorem dX7_restore_11 : decode cX7_restore 11 = .ok (.istore_n 1, 1) := by decide +kernel
theorem dX7_restore_12 : decode cX7_restore 12 = .ok (.iload_n 1, 1) := by decide +kernel
theorem dX7_restore_13 : decode cX7_restore 13 = .ok (.bipush 21, 2) := by decide +kernel
theorem dX7_restore_15 : decode cX7_restore 15 = .ok (.if_icmp .ge 21, 3) := by decide +kernel
theorem dX7_restore_18 : decode cX7_restore 18 = .ok (.aload_n 0, 1) := by decide +kernel
theorem dX7_restore_19 : decode cX7_restore 19 = .ok (.getfield 7, 3) := by decide +kernel
theorem dX7_restore_22 : decode cX7_restore 22 = .ok (.iload_n 1, 1) := by decide +kernel
theorem dX7_restore_23 : decode cX7_restore 23 = .ok (.aload_n 0, 1) := by decide +kernel
theorem dX7_restore_24 : decode cX7_restore 24 = .ok (.getfield 34, 3) := by decide +kernel
theorem dX7_restore_27 : decode cX7_restore 27 = .ok (.iload_n 1, 1) := by decide +kernel
theorem dX7_restore_28 : decode cX7_restore 28 = .ok (.iaload, 1) := by decide +kernel
theorem dX7_restore_29 : decode cX7_restore 29 = .ok (.iastore, 1) := by decide +kernel
theorem dX7_restore_30 : decode cX7_restore 30 = .ok (.iinc 1 1, 3) := by decide +kernel
theorem dX7_restore_33 : decode cX7_restore 33 = .ok (.goto (-21), 3) := by decide +kernel
theorem dX7_restore_36 : decode cX7_restore 36 = .ok (.iconst 0, 1) := by decide +kernel
theorem dX7_restore_37 : decode cX7_restore 37 = .ok (.istore_n 1, 1) := by decide +kernel
theorem dX7_restore_38 : decode cX7_restore 38 = .ok (.iload_n 1, 1) := by decide +kernel
theorem dX7_restore_39 : decode cX7_restore 39 = .ok (.sipush 168, 3) := by decide +kernel
theorem dX7_restore_42 : decode cX7_restore 42 = .ok (.if_icmp .ge 21, 3) := by decide +kernel
theorem dX7_restore_45 : decode cX7_restore 45 = .ok (.aload_n 0, 1) := by decide +kernel
theorem dX7_restore_46 : decode cX7_restore 46 = .ok (.getfield 25, 3) := by decide +kernel
theorem dX7_restore_49 : decode cX7_restore 49 = .ok (.iload_n 1, 1) := by decide +kernel
theorem dX7_restore_50 : decode cX7_restore 50 = .ok (.aload_n 0, 1) := by decide +kernel
theorem dX7_restore_51 : decode cX7_restore 51 = .ok (.getfield 37, 3) := by decide +kernel
theorem dX7_restore_54 : decode cX7_restore 54 = .ok (.iload_n 1, 1) := by decide +kernel
theorem dX7_restore_55 : decode cX7_restore 55 = .ok (.iaload, 1) := by decide +kernel
theorem dX7_restore_56 : decode cX7_restore 56 = .ok (.iastore, 1) := by decide +kernel
theorem dX7_restore_57 : decode cX7_restore 57 = .ok (.iinc 1 1, 3) := by decide +kernel
theorem dX7_restore_60 : decode cX7_restore 60 = .ok (.goto (-22), 3) := by decide +kernel
theorem dX7_restore_63 : decode cX7_restore 63 = .ok (.aload_n 0, 1) := by decide +kernel
theorem dX7_restore_64 : decode cX7_restore 64 = .ok (.aload_n 0, 1) := by decide +kernel
theorem dX7_restore_65 : decode cX7_restore 65 = .ok (.getfield 40, 3) := by decide +kernel
theorem dX7_restore_68 : decode cX7_restore 68 = .ok (.putfield 108, 3) := by decide +kernel
theorem dX7_restore_71 : decode cX7_restore 71 = .ok (.iconst 1, 1) := by decide +kernel
theorem dX7_restore_72 : decode cX7_restore 72 = .ok (.ireturn, 1) := by decide +kernel
theorem dX7_isSheet_0 : decode cX7_isSheet 0 = .ok (.iload_n 0, 1) := by decide +kernel
theorem dX7_isSheet_1 : decode cX7_isSheet 1 = .ok (.i2l, 1) := by decide +kernel
theorem dX7_isSheet_2 : decode cX7_isSheet 2 = .ok (.lconst 0, 1) := by decide +kernel
theorem dX7_isSheet_3 : decode cX7_isSheet 3 = .ok (.ldc2_w 201, 3) := by decide +kernel
theorem dX7_isSheet_6 : decode cX7_isSheet 6 = .ok (.invokestatic 57, 3) := by decide +kernel
theorem dX7_isSheet_9 : decode cX7_isSheet 9 = .ok (.ireturn, 1) := by decide +kernel
theorem dX7_cutTo_0 : decode cX7_cutTo 0 = .ok (.iload_n 2, 1) := by decide +kernel
theorem dX7_cutTo_1 : decode cX7_cutTo 1 = .ok (.ifCond .ne 10, 3) := by decide +kernel
theorem dX7_cutTo_4 : decode cX7_cutTo 4 = .ok (.lload_n 0, 1) := by decide +kernel
theorem dX7_cutTo_5 : decode cX7_cutTo 5 = .ok (.l2i, 1) := by decide +kernel
theorem dX7_cutTo_6 : decode cX7_cutTo 6 = .ok (.i2b, 1) := by decide +kernel
theorem dX7_cutTo_7 : decode cX7_cutTo 7 = .ok (.i2l, 1) := by decide +kernel
theorem dX7_cutTo_8 : decode cX7_cutTo 8 = .ok (.goto 27, 3) := by decide +kernel
theorem dX7_cutTo_11 : decode cX7_cutTo 11 = .ok (.iload_n 2, 1) := by decide +kernel
theorem dX7_cutTo_12 : decode cX7_cutTo 12 = .ok (.iconst 1, 1) := by decide +kernel
theorem dX7_cutTo_13 : decode cX7_cutTo 13 = .ok (.if_icmp .ne 10, 3) := by decide +kernel
theorem dX7_cutTo_16 : decode cX7_cutTo 16 = .ok (.lload_n 0, 1) := by decide +kernel
theorem dX7_cutTo_17 : decode cX7_cutTo 17 = .ok (.l2i, 1) := by decide +kernel
theorem dX7_cutTo_18 : decode cX7_cutTo 18 = .ok (.i2s, 1) := by decide +kernel
theorem dX7_cutTo_19 : decode cX7_cutTo 19 = .ok (.i2l, 1) := by decide +kernel
theorem dX7_cutTo_20 : decode cX7_cutTo 20 = .ok (.goto 15, 3) := by decide +kernel
theorem dX7_cutTo_23 : decode cX7_cutTo 23 = .ok (.iload_n 2, 1) := by decide +kernel
theorem dX7_cutTo_24 : decode cX7_cutTo 24 = .ok (.iconst 2, 1) := by decide +kernel
theorem dX7_cutTo_25 : decode cX7_cutTo 25 = .ok (.if_icmp .ne 9, 3) := by decide +kernel
theorem dX7_cutTo_28 : decode cX7_cutTo 28 = .ok (.lload_n 0, 1) := by decide +kernel
theorem dX7_cutTo_29 : decode cX7_cutTo 29 = .ok (.l2i, 1) := by decide +kernel
theorem dX7_cutTo_30 : decode cX7_cutTo 30 = .ok (.i2l, 1) := by decide +kernel
theorem dX7_cutTo_31 : decode cX7_cutTo 31 = .ok (.goto 4, 3) := by decide +kernel
theorem dX7_cutTo_34 : decode cX7_cutTo 34 = .ok (.lload_n 0, 1) := by decide +kernel
theorem dX7_cutTo_35 : decode cX7_cutTo 35 = .ok (.lreturn, 1) := by decide +kernel
theorem dX7_sheet_0 : decode cX7_sheet 0 = .ok (.iload_n 1, 1) := by decide +kernel
theorem dX7_sheet_1 : decode cX7_sheet 1 = .ok (.invokestatic 203, 3) := by decide +kernel
theorem dX7_sheet_4 : decode cX7_sheet 4 = .ok (.ifCond .eq 21, 3) := by decide +kernel
theorem dX7_sheet_7 : decode cX7_sheet 7 = .ok (.iload_n 2, 1) := by decide +kernel
theorem dX7_sheet_8 : decode cX7_sheet 8 = .ok (.i2l, 1) := by decide +kernel
theorem dX7_sheet_9 : decode cX7_sheet 9 = .ok (.lconst 0, 1) := by decide +kernel
theorem dX7_sheet_10 : decode cX7_sheet 10 = .ok (.ldc2_w 201, 3) := by decide +kernel
theorem dX7_sheet_13 : decode cX7_sheet 13 = .ok (.invokestatic 57, 3) := by decide +kernel
theorem dX7_sheet_16 : decode cX7_sheet 16 = .ok (.ifCond .eq 9, 3) := by decide +kernel
theorem dX7_sheet_19 : decode cX7_sheet 19 = .ok (.iload_n 3, 1) := by decide +kernel
theorem dX7_sheet_20 : decode cX7_sheet 20 = .ok (.bipush 24, 2) := by decide +kernel
theorem dX7_sheet_22 : decode cX7_sheet 22 = .ok (.if_icmp .le 5, 3) := by decide +kernel
theorem dX7_sheet_25 : decode cX7_sheet 25 = .ok (.iconst (-1), 1) := by decide +kernel
theorem dX7_sheet_26 : decode cX7_sheet 26 = .ok (.ireturn, 1) := by decide +kernel
theorem dX7_sheet_27 : decode cX7_sheet 27 = .ok (.iload_n 3, 1) := by decide +kernel
theorem dX7_sheet_28 : decode cX7_sheet 28 = .ok (.ifCond .ge 6, 3) := by decide +kernel
theorem dX7_sheet_31 : decode cX7_sheet 31 = .ok (.bipush (-14), 2) := by decide +kernel
theorem dX7_sheet_33 : decode cX7_sheet 33 = .ok (.ireturn, 1) := by decide +kernel
theorem dX7_sheet_34 : decode cX7_sheet 34 = .ok (.aload_n 0, 1) := by decide +kernel
theorem dX7_sheet_35 : decode cX7_sheet 35 = .ok (.getfield 44, 3) := by decide +kernel
theorem dX7_sheet_38 : decode cX7_sheet 38 = .ok (.iload_n 1, 1) := by decide +kernel
theorem dX7_sheet_39 : decode cX7_sheet 39 = .ok (.iload_n 2, 1) := by decide +kernel
theorem dX7_sheet_40 : decode cX7_sheet 40 = .ok (.iastore, 1) := by decide +kernel
theorem dX7_sheet_41 : decode cX7_sheet 41 = .ok (.aload_n 0, 1) := by decide +kernel
theorem dX7_sheet_42 : decode cX7_sheet 42 = .ok (.getfield 47, 3) := by decide +kernel
theorem dX7_sheet_45 : decode cX7_sheet 45 = .ok (.iload_n 1, 1) := by decide +kernel
theorem dX7_sheet_46 : decode cX7_sheet 46 = .ok (.iload_n 3, 1) := by decide +kernel
theorem dX7_sheet_47 : decode cX7_sheet 47 = .ok (.iastore, 1) := by decide +kernel
theorem dX7_sheet_48 : decode cX7_sheet 48 = .ok (.iconst 0, 1) := by decide +kernel
theorem dX7_sheet_49 : decode cX7_sheet 49 = .ok (.istore 4, 2) := by decide +kernel
theorem dX7_sheet_51 : decode cX7_sheet 51 = .ok (.iload 4, 2) := by decide +kernel
theorem dX7_sheet_53 : decode cX7_sheet 53 = .ok (.bipush 24, 2) := by decide +kernel
theorem dX7_sheet_55 : decode cX7_sheet 55 = .ok (.if_icmp .ge 22, 3) := by decide +kernel
theorem dX7_sheet_58 : decode cX7_sheet 58 = .ok (.aload_n 0, 1) := by decide +kernel
theorem dX7_sheet_59 : decode cX7_sheet 59 = .ok (.getfield 50, 3) := by decide +kernel
theorem dX7_sheet_62 : decode cX7_sheet 62 = .ok (.bipush 24, 2) := by decide +kernel
theorem dX7_sheet_64 : decode cX7_sheet 64 = .ok (.iload_n 1, 1) := by decide +kernel
theorem dX7_sheet_65 : decode cX7_sheet 65 = .ok (.imul, 1) := by decide +kernel
theorem dX7_sheet_66 : decode cX7_sheet 66 = .ok (.iload 4, 2) := by decide +kernel
theorem dX7_sheet_68 : decode cX7_sheet 68 = .ok (.iadd, 1) := by decide +kernel
theorem dX7_sheet_69 : decode cX7_sheet 69 = .ok (.lconst 0, 1) := by decide +kernel
theorem dX7_sheet_70 : decode cX7_sheet 70 = .ok (.lastore, 1) := by decide +kernel
theorem dX7_sheet_71 : decode cX7_sheet 71 = .ok (.iinc 4 1, 3) := by decide +kernel
theorem dX7_sheet_74 : decode cX7_sheet 74 = .ok (.goto (-23), 3) := by decide +kernel
theorem dX7_sheet_77 : decode cX7_sheet 77 = .ok (.iload_n 3, 1) := by decide +kernel
theorem dX7_sheet_78 : decode cX7_sheet 78 = .ok (.ireturn, 1) := by decide +kernel
theorem dX7_drop_0 : decode cX7_drop 0 = .ok (.iload_n 1, 1) := by decide +kernel
theorem dX7_drop_1 : decode cX7_drop 1 = .ok (.invokestatic 203, 3) := by decide +kernel
theorem dX7_drop_4 : decode cX7_drop 4 = .ok (.ifCond .ne 5, 3) := by decide +kernel
theorem dX7_drop_7 : decode cX7_drop 7 = .ok (.iconst (-1), 1) := by decide +kernel
theorem dX7_drop_8 : decode cX7_drop 8 = .ok (.ireturn, 1) := by decide +kernel
theorem dX7_drop_9 : decode cX7_drop 9 = .ok (.aload_n 0, 1) := by decide +kernel
theorem dX7_drop_10 : decode cX7_drop 10 = .ok (.getfield 44, 3) := by decide +kernel
theorem dX7_drop_13 : decode cX7_drop 13 = .ok (.iload_n 1, 1) := by decide +kernel
theorem dX7_drop_14 : decode cX7_drop 14 = .ok (.iaload, 1) := by decide +kernel
theorem dX7_drop_15 : decode cX7_drop 15 = .ok (.ifCond .ge 6, 3) := by decide +kernel
theorem dX7_drop_18 : decode cX7_drop 18 = .ok (.bipush (-11), 2) := by decide +kernel
theorem dX7_drop_20 : decode cX7_drop 20 = .ok (.ireturn, 1) := by decide +kernel
theorem dX7_drop_21 : decode cX7_drop 21 = .ok (.aload_n 0, 1) := by decide +kernel
theorem dX7_drop_22 : decode cX7_drop 22 = .ok (.getfield 44, 3) := by decide +kernel
theorem dX7_drop_25 : decode cX7_drop 25 = .ok (.iload_n 1, 1) := by decide +kernel
theorem dX7_drop_26 : decode cX7_drop 26 = .ok (.iconst (-1), 1) := by decide +kernel
theorem dX7_drop_27 : decode cX7_drop 27 = .ok (.iastore, 1) := by decide +kernel
theorem dX7_drop_28 : decode cX7_drop 28 = .ok (.aload_n 0, 1) := by decide +kernel
theorem dX7_drop_29 : decode cX7_drop 29 = .ok (.getfield 47, 3) := by decide +kernel
theorem dX7_drop_32 : decode cX7_drop 32 = .ok (.iload_n 1, 1) := by decide +kernel
theorem dX7_drop_33 : decode cX7_drop 33 = .ok (.iaload, 1) := by decide +kernel
theorem dX7_drop_34 : decode cX7_drop 34 = .ok (.ireturn, 1) := by decide +kernel
theorem dX7_why_0 : decode cX7_why 0 = .ok (.aload_n 0, 1) := by decide +kernel
theorem dX7_why_1 : decode cX7_why 1 = .ok (.getfield 44, 3) := by decide +kernel
theorem dX7_why_4 : decode cX7_why 4 = .ok (.iload_n 1, 1) := by decide +kernel
theorem dX7_why_5 : decode cX7_why 5 = .ok (.iaload, 1) := by decide +kernel
theorem dX7_why_6 : decode cX7_why 6 = .ok (.ifCond .ge 6, 3) := by decide +kernel
theorem dX7_why_9 : decode cX7_why 9 = .ok (.bipush (-11), 2) := by decide +kernel
theorem dX7_why_11 : decode cX7_why 11 = .ok (.ireturn, 1) := by decide +kernel
theorem dX7_why_12 : decode cX7_why 12 = .ok (.aload_n 0, 1) := by decide +kernel
theorem dX7_why_13 : decode cX7_why 13 = .ok (.getfield 44, 3) := by decide +kernel
theorem dX7_why_16 : decode cX7_why 16 = .ok (.iload_n 1, 1) := by decide +kernel
theorem dX7_why_17 : decode cX7_why 17 = .ok (.iaload, 1) := by decide +kernel
theorem dX7_why_18 : decode cX7_why 18 = .ok (.iload_n 2, 1) := by decide +kernel
theorem dX7_why_19 : decode cX7_why 19 = .ok (.if_icmp .eq 6, 3) := by decide +kernel
theorem dX7_why_22 : decode cX7_why 22 = .ok (.bipush (-12), 2) := by decide +kernel
theorem dX7_why_24 : decode cX7_why 24 = .ok (.ireturn, 1) := by decide +kernel
theorem dX7_why_25 : decode cX7_why 25 = .ok (.iload_n 3, 1) := by decide +kernel
theorem dX7_why_26 : decode cX7_why 26 = .ok (.ifCond .lt 16, 3) := by decide +kernel
theorem dX7_why_29 : decode cX7_why 29 = .ok (.iload 4, 2) := by decide +kernel
theorem dX7_why_31 : decode cX7_why 31 = .ok (.aload_n 0, 1) := by decide +kernel
theorem dX7_why_32 : decode cX7_why 32 = .ok (.getfield 47, 3) := by decide +kernel
theorem dX7_why_35 : decode cX7_why 35 = .ok (.iload_n 1, 1) := by decide +kernel
theorem dX7_why_36 : decode cX7_why 36 = .ok (.iaload, 1) := by decide +kernel
theorem dX7_why_37 : decode cX7_why 37 = .ok (.iload_n 3, 1) := by decide +kernel
theorem dX7_why_38 : decode cX7_why 38 = .ok (.isub, 1) := by decide +kernel
theorem dX7_why_39 : decode cX7_why 39 = .ok (.if_icmp .le 8, 3) := by decide +kernel
theorem dX7_why_42 : decode cX7_why 42 = .ok (.bipush (-13), 2) := by decide +kernel
theorem dX7_why_44 : decode cX7_why 44 = .ok (.goto 4, 3) := by decide +kernel
theorem dX7_why_47 : decode cX7_why 47 = .ok (.iconst 0, 1) := by decide +kernel
theorem dX7_why_48 : decode cX7_why 48 = .ok (.ireturn, 1) := by decide +kernel
theorem dX7_item_0 : decode cX7_item 0 = .ok (.iload_n 1, 1) := by decide +kernel
theorem dX7_item_1 : decode cX7_item 1 = .ok (.invokestatic 203, 3) := by decide +kernel
theorem dX7_item_4 : decode cX7_item 4 = .ok (.ifCond .eq 15, 3) := by decide +kernel
theorem dX7_item_7 : decode cX7_item 7 = .ok (.iload_n 2, 1) := by decide +kernel
theorem dX7_item_8 : decode cX7_item 8 = .ok (.i2l, 1) := by decide +kernel
theorem dX7_item_9 : decode cX7_item 9 = .ok (.lconst 0, 1) := by decide +kernel
theorem dX7_item_10 : decode cX7_item 10 = .ok (.ldc2_w 201, 3) := by decide +kernel
theorem dX7_item_13 : decode cX7_item 13 = .ok (.invokestatic 57, 3) := by decide +kernel
theorem dX7_item_16 : decode cX7_item 16 = .ok (.ifCond .ne 5, 3) := by decide +kernel
theorem dX7_item_19 : decode cX7_item 19 = .ok (.iconst (-1), 1) := by decide +kernel
theorem dX7_item_20 : decode cX7_item 20 = .ok (.ireturn, 1) := by decide +kernel
theorem dX7_item_21 : decode cX7_item 21 = .ok (.aload_n 0, 1) := by decide +kernel
theorem dX7_item_22 : decode cX7_item 22 = .ok (.iload_n 1, 1) := by decide +kernel
theorem dX7_item_23 : decode cX7_item 23 = .ok (.iload_n 2, 1) := by decide +kernel
theorem dX7_item_24 : decode cX7_item 24 = .ok (.iload_n 3, 1) := by decide +kernel
theorem dX7_item_25 : decode cX7_item 25 = .ok (.iconst 1, 1) := by decide +kernel
theorem dX7_item_26 : decode cX7_item 26 = .ok (.invokevirtual 206, 3) := by decide +kernel
theorem dX7_item_29 : decode cX7_item 29 = .ok (.istore 6, 2) := by decide +kernel
theorem dX7_item_31 : decode cX7_item 31 = .ok (.iload 6, 2) := by decide +kernel
theorem dX7_item_33 : decode cX7_item 33 = .ok (.ifCond .ge 6, 3) := by decide +kernel
theorem dX7_item_36 : decode cX7_item 36 = .ok (.iload 6, 2) := by decide +kernel
theorem dX7_item_38 : decode cX7_item 38 = .ok (.ireturn, 1) := by decide +kernel
theorem dX7_item_39 : decode cX7_item 39 = .ok (.aload_n 0, 1) := by decide +kernel
theorem dX7_item_40 : decode cX7_item 40 = .ok (.getfield 50, 3) := by decide +kernel
theorem dX7_item_43 : decode cX7_item 43 = .ok (.bipush 24, 2) := by decide +kernel
theorem dX7_item_45 : decode cX7_item 45 = .ok (.iload_n 1, 1) := by decide +kernel
theorem dX7_item_46 : decode cX7_item 46 = .ok (.imul, 1) := by decide +kernel
theorem dX7_item_47 : decode cX7_item 47 = .ok (.iload_n 3, 1) := by decide +kernel
theorem dX7_item_48 : decode cX7_item 48 = .ok (.iadd, 1) := by decide +kernel
theorem dX7_item_49 : decode cX7_item 49 = .ok (.lload 4, 2) := by decide +kernel
theorem dX7_item_51 : decode cX7_item 51 = .ok (.iload_n 2, 1) := by decide +kernel
theorem dX7_item_52 : decode cX7_item 52 = .ok (.invokestatic 210, 3) := by decide +kernel
theorem dX7_item_55 : decode cX7_item 55 = .ok (.lastore, 1) := by decide +kernel
theorem dX7_item_56 : decode cX7_item 56 = .ok (.iconst 1, 1) := by decide +kernel
theorem dX7_item_57 : decode cX7_item 57 = .ok (.ireturn, 1) := by decide +kernel
theorem dX7_copy_0 : decode cX7_copy 0 = .ok (.iload_n 1, 1) := by decide +kernel
theorem dX7_copy_1 : decode cX7_copy 1 = .ok (.invokestatic 203, 3) := by decide +kernel
theorem dX7_copy_4 : decode cX7_copy 4 = .ok (.ifCond .eq 10, 3) := by decide +kernel
theorem dX7_copy_7 : decode cX7_copy 7 = .ok (.iload_n 3, 1) := by decide +kernel
theorem dX7_copy_8 : decode cX7_copy 8 = .ok (.invokestatic 203, 3) := by decide +kernel
theorem dX7_copy_11 : decode cX7_copy 11 = .ok (.ifCond .ne 5, 3) := by decide +kernel
theorem dX7_copy_14 : decode cX7_copy 14 = .ok (.iconst (-1), 1) := by decide +kernel
theorem dX7_copy_15 : decode cX7_copy 15 = .ok (.ireturn, 1) := by decide +kernel
theorem dX7_copy_16 : decode cX7_copy 16 = .ok (.aload_n 0, 1) := by decide +kernel
theorem dX7_copy_17 : decode cX7_copy 17 = .ok (.getfield 44, 3) := by decide +kernel
theorem dX7_copy_20 : decode cX7_copy 20 = .ok (.iload_n 1, 1) := by decide +kernel
theorem dX7_copy_21 : decode cX7_copy 21 = .ok (.iaload, 1) := by decide +kernel
theorem dX7_copy_22 : decode cX7_copy 22 = .ok (.ifCond .lt 12, 3) := by decide +kernel
theorem dX7_copy_25 : decode cX7_copy 25 = .ok (.aload_n 0, 1) := by decide +kernel
theorem dX7_copy_26 : decode cX7_copy 26 = .ok (.getfield 44, 3) := by decide +kernel
theorem dX7_copy_29 : decode cX7_copy 29 = .ok (.iload_n 3, 1) := by decide +kernel
theorem dX7_copy_30 : decode cX7_copy 30 = .ok (.iaload, 1) := by decide +kernel
theorem dX7_copy_31 : decode cX7_copy 31 = .ok (.ifCond .ge 6, 3) := by decide +kernel
theorem dX7_copy_34 : decode cX7_copy 34 = .ok (.bipush (-11), 2) := by decide +kernel
theorem dX7_copy_36 : decode cX7_copy 36 = .ok (.ireturn, 1) := by decide +kernel
theorem dX7_copy_37 : decode cX7_copy 37 = .ok (.aload_n 0, 1) := by decide +kernel
theorem dX7_copy_38 : decode cX7_copy 38 = .ok (.getfield 44, 3) := by decide +kernel
theorem dX7_copy_41 : decode cX7_copy 41 = .ok (.iload_n 1, 1) := by decide +kernel
theorem dX7_copy_42 : decode cX7_copy 42 = .ok (.iaload, 1) := by decide +kernel
theorem dX7_copy_43 : decode cX7_copy 43 = .ok (.aload_n 0, 1) := by decide +kernel
theorem dX7_copy_44 : decode cX7_copy 44 = .ok (.getfield 44, 3) := by decide +kernel
theorem dX7_copy_47 : decode cX7_copy 47 = .ok (.iload_n 3, 1) := by decide +kernel
theorem dX7_copy_48 : decode cX7_copy 48 = .ok (.iaload, 1) := by decide +kernel
theorem dX7_copy_49 : decode cX7_copy 49 = .ok (.if_icmp .eq 6, 3) := by decide +kernel
theorem dX7_copy_52 : decode cX7_copy 52 = .ok (.bipush (-12), 2) := by decide +kernel
theorem dX7_copy_54 : decode cX7_copy 54 = .ok (.ireturn, 1) := by decide +kernel
theorem dX7_copy_55 : decode cX7_copy 55 = .ok (.iload 5, 2) := by decide +kernel
theorem dX7_copy_57 : decode cX7_copy 57 = .ok (.ifCond .lt 47, 3) := by decide +kernel
theorem dX7_copy_60 : decode cX7_copy 60 = .ok (.iload_n 2, 1) := by decide +kernel
theorem dX7_copy_61 : decode cX7_copy 61 = .ok (.ifCond .lt 43, 3) := by decide +kernel
theorem dX7_copy_64 : decode cX7_copy 64 = .ok (.iload 4, 2) := by decide +kernel
theorem dX7_copy_66 : decode cX7_copy 66 = .ok (.ifCond .lt 38, 3) := by decide +kernel
theorem dX7_copy_69 : decode cX7_copy 69 = .ok (.iload_n 2, 1) := by decide +kernel
theorem dX7_copy_70 : decode cX7_copy 70 = .ok (.i2l, 1) := by decide +kernel
theorem dX7_copy_71 : decode cX7_copy 71 = .ok (.iload 5, 2) := by decide +kernel
theorem dX7_copy_73 : decode cX7_copy 73 = .ok (.i2l, 1) := by decide +kernel
theorem dX7_copy_74 : decode cX7_copy 74 = .ok (.ladd, 1) := by decide +kernel
theorem dX7_copy_75 : decode cX7_copy 75 = .ok (.aload_n 0, 1) := by decide +kernel
theorem dX7_copy_76 : decode cX7_copy 76 = .ok (.getfield 47, 3) := by decide +kernel
theorem dX7_copy_79 : decode cX7_copy 79 = .ok (.iload_n 1, 1) := by decide +kernel
theorem dX7_copy_80 : decode cX7_copy 80 = .ok (.iaload, 1) := by decide +kernel
theorem dX7_copy_81 : decode cX7_copy 81 = .ok (.i2l, 1) := by decide +kernel
theorem dX7_copy_82 : decode cX7_copy 82 = .ok (.lcmp, 1) := by decide +kernel
theorem dX7_copy_83 : decode cX7_copy 83 = .ok (.ifCond .gt 21, 3) := by decide +kernel
theorem dX7_copy_86 : decode cX7_copy 86 = .ok (.iload 4, 2) := by decide +kernel
theorem dX7_copy_88 : decode cX7_copy 88 = .ok (.i2l, 1) := by decide +kernel
theorem dX7_copy_89 : decode cX7_copy 89 = .ok (.iload 5, 2) := by decide +kernel
theorem dX7_copy_91 : decode cX7_copy 91 = .ok (.i2l, 1) := by decide +kernel
theorem dX7_copy_92 : decode cX7_copy 92 = .ok (.ladd, 1) := by decide +kernel
theorem dX7_copy_93 : decode cX7_copy 93 = .ok (.aload_n 0, 1) := by decide +kernel
theorem dX7_copy_94 : decode cX7_copy 94 = .ok (.getfield 47, 3) := by decide +kernel
theorem dX7_copy_97 : decode cX7_copy 97 = .ok (.iload_n 3, 1) := by decide +kernel
theorem dX7_copy_98 : decode cX7_copy 98 = .ok (.iaload, 1) := by decide +kernel
theorem dX7_copy_99 : decode cX7_copy 99 = .ok (.i2l, 1) := by decide +kernel
theorem dX7_copy_100 : decode cX7_copy 100 = .ok (.lcmp, 1) := by decide +kernel
theorem dX7_copy_101 : decode cX7_copy 101 = .ok (.ifCond .le 6, 3) := by decide +kernel
theorem dX7_copy_104 : decode cX7_copy 104 = .ok (.bipush (-13), 2) := by decide +kernel
theorem dX7_copy_106 : decode cX7_copy 106 = .ok (.ireturn, 1) := by decide +kernel
theorem dX7_copy_107 : decode cX7_copy 107 = .ok (.iconst 0, 1) := by decide +kernel
theorem dX7_copy_108 : decode cX7_copy 108 = .ok (.istore 6, 2) := by decide +kernel
theorem dX7_copy_110 : decode cX7_copy 110 = .ok (.iload 6, 2) := by decide +kernel
theorem dX7_copy_112 : decode cX7_copy 112 = .ok (.iload 5, 2) := by decide +kernel
theorem dX7_copy_114 : decode cX7_copy 114 = .ok (.if_icmp .ge 30, 3) := by decide +kernel
theorem dX7_copy_117 : decode cX7_copy 117 = .ok (.aload_n 0, 1) := by decide +kernel
theorem dX7_copy_118 : decode cX7_copy 118 = .ok (.getfield 54, 3) := by decide +kernel
theorem dX7_copy_121 : decode cX7_copy 121 = .ok (.iload 6, 2) := by decide +kernel
theorem dX7_copy_123 : decode cX7_copy 123 = .ok (.aload_n 0, 1) := by decide +kernel
theorem dX7_copy_124 : decode cX7_copy 124 = .ok (.getfield 50, 3) := by decide +kernel
theorem dX7_copy_127 : decode cX7_copy 127 = .ok (.bipush 24, 2) := by decide +kernel
theorem dX7_copy_129 : decode cX7_copy 129 = .ok (.iload_n 1, 1) := by decide +kernel
theorem dX7_copy_130 : decode cX7_copy 130 = .ok (.imul, 1) := by decide +kernel
theorem dX7_copy_131 : decode cX7_copy 131 = .ok (.iload_n 2, 1) := by decide +kernel
theorem dX7_copy_132 : decode cX7_copy 132 = .ok (.iadd, 1) := by decide +kernel
theorem dX7_copy_133 : decode cX7_copy 133 = .ok (.iload 6, 2) := by decide +kernel
theorem dX7_copy_135 : decode cX7_copy 135 = .ok (.iadd, 1) := by decide +kernel
theorem dX7_copy_136 : decode cX7_copy 136 = .ok (.laload, 1) := by decide +kernel
theorem dX7_copy_137 : decode cX7_copy 137 = .ok (.lastore, 1) := by decide +kernel
theorem dX7_copy_138 : decode cX7_copy 138 = .ok (.iinc 6 1, 3) := by decide +kernel
theorem dX7_copy_141 : decode cX7_copy 141 = .ok (.goto (-31), 3) := by decide +kernel
theorem dX7_copy_144 : decode cX7_copy 144 = .ok (.iconst 0, 1) := by decide +kernel
theorem dX7_copy_145 : decode cX7_copy 145 = .ok (.istore 6, 2) := by decide +kernel
theorem dX7_copy_147 : decode cX7_copy 147 = .ok (.iload 6, 2) := by decide +kernel
theorem dX7_copy_149 : decode cX7_copy 149 = .ok (.iload 5, 2) := by decide +kernel
theorem dX7_copy_151 : decode cX7_copy 151 = .ok (.if_icmp .ge 31, 3) := by decide +kernel
theorem dX7_copy_154 : decode cX7_copy 154 = .ok (.aload_n 0, 1) := by decide +kernel
theorem dX7_copy_155 : decode cX7_copy 155 = .ok (.getfield 50, 3) := by decide +kernel
theorem dX7_copy_158 : decode cX7_copy 158 = .ok (.bipush 24, 2) := by decide +kernel
theorem dX7_copy_160 : decode cX7_copy 160 = .ok (.iload_n 3, 1) := by decide +kernel
theorem dX7_copy_161 : decode cX7_copy 161 = .ok (.imul, 1) := by decide +kernel
theorem dX7_copy_162 : decode cX7_copy 162 = .ok (.iload 4, 2) := by decide +kernel
theorem dX7_copy_164 : decode cX7_copy 164 = .ok (.iadd, 1) := by decide +kernel
theorem dX7_copy_165 : decode cX7_copy 165 = .ok (.iload 6, 2) := by decide +kernel
theorem dX7_copy_167 : decode cX7_copy 167 = .ok (.iadd, 1) := by decide +kernel
theorem dX7_copy_168 : decode cX7_copy 168 = .ok (.aload_n 0, 1) := by decide +kernel
theorem dX7_copy_169 : decode cX7_copy 169 = .ok (.getfield 54, 3) := by decide +kernel
theorem dX7_copy_172 : decode cX7_copy 172 = .ok (.iload 6, 2) := by decide +kernel
theorem dX7_copy_174 : decode cX7_copy 174 = .ok (.laload, 1) := by decide +kernel
theorem dX7_copy_175 : decode cX7_copy 175 = .ok (.lastore, 1) := by decide +kernel
theorem dX7_copy_176 : decode cX7_copy 176 = .ok (.iinc 6 1, 3) := by decide +kernel
theorem dX7_copy_179 : decode cX7_copy 179 = .ok (.goto (-32), 3) := by decide +kernel
theorem dX7_copy_182 : decode cX7_copy 182 = .ok (.iload 5, 2) := by decide +kernel
theorem dX7_copy_184 : decode cX7_copy 184 = .ok (.ireturn, 1) := by decide +kernel
theorem dX7_areNumbers_0 : decode cX7_areNumbers 0 = .ok (.iconst 1, 1) := by decide +kernel
theorem dX7_areNumbers_1 : decode cX7_areNumbers 1 = .ok (.istore_n 3, 1) := by decide +kernel
theorem dX7_areNumbers_2 : decode cX7_areNumbers 2 = .ok (.iconst 0, 1) := by decide +kernel
theorem dX7_areNumbers_3 : decode cX7_areNumbers 3 = .ok (.istore 4, 2) := by decide +kernel
theorem dX7_areNumbers_5 : decode cX7_areNumbers 5 = .ok (.iload 4, 2) := by decide +kernel
theorem dX7_areNumbers_7 : decode cX7_areNumbers 7 = .ok (.iload_n 2, 1) := by decide +kernel
theorem dX7_areNumbers_8 : decode cX7_areNumbers 8 = .ok (.if_icmp .ge 35, 3) := by decide +kernel
theorem dX7_areNumbers_11 : decode cX7_areNumbers 11 = .ok (.iload_n 3, 1) := by decide +kernel
theorem dX7_areNumbers_12 : decode cX7_areNumbers 12 = .ok (.ifCond .eq 23, 3) := by decide +kernel
theorem dX7_areNumbers_15 : decode cX7_areNumbers 15 = .ok (.aload_n 0, 1) := by decide +kernel
theorem dX7_areNumbers_16 : decode cX7_areNumbers 16 = .ok (.aload_n 0, 1) := by decide +kernel
theorem dX7_areNumbers_17 : decode cX7_areNumbers 17 = .ok (.getfield 50, 3) := by decide +kernel
theorem dX7_areNumbers_20 : decode cX7_areNumbers 20 = .ok (.iload_n 1, 1) := by decide +kernel
theorem dX7_areNumbers_21 : decode cX7_areNumbers 21 = .ok (.iload 4, 2) := by decide +kernel
theorem dX7_areNumbers_23 : decode cX7_areNumbers 23 = .ok (.iadd, 1) := by decide +kernel
theorem dX7_areNumbers_24 : decode cX7_areNumbers 24 = .ok (.laload, 1) := by decide +kernel
theorem dX7_areNumbers_25 : decode cX7_areNumbers 25 = .ok (.invokevirtual 146, 3) := by decide +kernel
theorem dX7_areNumbers_28 : decode cX7_areNumbers 28 = .ok (.ifCond .eq 7, 3) := by decide +kernel
theorem dX7_areNumbers_31 : decode cX7_areNumbers 31 = .ok (.iconst 1, 1) := by decide +kernel
theorem dX7_areNumbers_32 : decode cX7_areNumbers 32 = .ok (.goto 4, 3) := by decide +kernel
theorem dX7_areNumbers_35 : decode cX7_areNumbers 35 = .ok (.iconst 0, 1) := by decide +kernel
theorem dX7_areNumbers_36 : decode cX7_areNumbers 36 = .ok (.istore_n 3, 1) := by decide +kernel
theorem dX7_areNumbers_37 : decode cX7_areNumbers 37 = .ok (.iinc 4 1, 3) := by decide +kernel
theorem dX7_areNumbers_40 : decode cX7_areNumbers 40 = .ok (.goto (-35), 3) := by decide +kernel
theorem dX7_areNumbers_43 : decode cX7_areNumbers 43 = .ok (.iload_n 3, 1) := by decide +kernel
theorem dX7_areNumbers_44 : decode cX7_areNumbers 44 = .ok (.ireturn, 1) := by decide +kernel
theorem dX7_comes_0 : decode cX7_comes 0 = .ok (.lconst 0, 1) := by decide +kernel
theorem dX7_comes_1 : decode cX7_comes 1 = .ok (.lstore 4, 2) := by decide +kernel
theorem dX7_comes_3 : decode cX7_comes 3 = .ok (.iconst 0, 1) := by decide +kernel
theorem dX7_comes_4 : decode cX7_comes 4 = .ok (.istore 6, 2) := by decide +kernel
theorem dX7_comes_6 : decode cX7_comes 6 = .ok (.iload 6, 2) := by decide +kernel
theorem dX7_comes_8 : decode cX7_comes 8 = .ok (.aload_n 0, 1) := by decide +kernel
theorem dX7_comes_9 : decode cX7_comes 9 = .ok (.getfield 7, 3) := by decide +kernel
theorem dX7_comes_12 : decode cX7_comes 12 = .ok (.iconst 0, 1) := by decide +kernel
theorem dX7_comes_13 : decode cX7_comes 13 = .ok (.iaload, 1) := by decide +kernel
theorem dX7_comes_14 : decode cX7_comes 14 = .ok (.if_icmp .ge 33, 3) := by decide +kernel
theorem dX7_comes_17 : decode cX7_comes 17 = .ok (.lload 4, 2) := by decide +kernel
theorem dX7_comes_19 : decode cX7_comes 19 = .ok (.aload_n 0, 1) := by decide +kernel
theorem dX7_comes_20 : decode cX7_comes 20 = .ok (.iload_n 1, 1) := by decide +kernel
theorem dX7_comes_21 : decode cX7_comes 21 = .ok (.iload_n 3, 1) := by decide +kernel
theorem dX7_comes_22 : decode cX7_comes 22 = .ok (.iload 6, 2) := by decide +kernel
theorem dX7_comes_24 : decode cX7_comes 24 = .ok (.invokevirtual 65, 3) := by decide +kernel
theorem dX7_comes_27 : decode cX7_comes 27 = .ok (.i2l, 1) := by decide +kernel
theorem dX7_comes_28 : decode cX7_comes 28 = .ok (.aload_n 0, 1) := by decide +kernel
theorem dX7_comes_29 : decode cX7_comes 29 = .ok (.getfield 50, 3) := by decide +kernel
theorem dX7_comes_32 : decode cX7_comes 32 = .ok (.iload_n 2, 1) := by decide +kernel
theorem dX7_comes_33 : decode cX7_comes 33 = .ok (.iload 6, 2) := by decide +kernel
theorem dX7_comes_35 : decode cX7_comes 35 = .ok (.iadd, 1) := by decide +kernel
theorem dX7_comes_36 : decode cX7_comes 36 = .ok (.laload, 1) := by decide +kernel
theorem dX7_comes_37 : decode cX7_comes 37 = .ok (.lmul, 1) := by decide +kernel
theorem dX7_comes_38 : decode cX7_comes 38 = .ok (.ladd, 1) := by decide +kernel
theorem dX7_comes_39 : decode cX7_comes 39 = .ok (.lstore 4, 2) := by decide +kernel
theorem dX7_comes_41 : decode cX7_comes 41 = .ok (.iinc 6 1, 3) := by decide +kernel
theorem dX7_comes_44 : decode cX7_comes 44 = .ok (.goto (-38), 3) := by decide +kernel
theorem dX7_comes_47 : decode cX7_comes 47 = .ok (.lload 4, 2) := by decide +kernel
theorem dX7_comes_49 : decode cX7_comes 49 = .ok (.aload_n 0, 1) := by decide +kernel
theorem dX7_comes_50 : decode cX7_comes 50 = .ok (.getfield 7, 3) := by decide +kernel
theorem dX7_comes_53 : decode cX7_comes 53 = .ok (.iconst 2, 1) := by decide +kernel
theorem dX7_comes_54 : decode cX7_comes 54 = .ok (.iaload, 1) := by decide +kernel
theorem dX7_comes_55 : decode cX7_comes 55 = .ok (.i2l, 1) := by decide +kernel
theorem dX7_comes_56 : decode cX7_comes 56 = .ok (.lrem, 1) := by decide +kernel
theorem dX7_comes_57 : decode cX7_comes 57 = .ok (.l2i, 1) := by decide +kernel
theorem dX7_comes_58 : decode cX7_comes 58 = .ok (.ireturn, 1) := by decide +kernel
theorem dX7_came_0 : decode cX7_came 0 = .ok (.iload_n 1, 1) := by decide +kernel
theorem dX7_came_1 : decode cX7_came 1 = .ok (.invokestatic 203, 3) := by decide +kernel
theorem dX7_came_4 : decode cX7_came 4 = .ok (.ifCond .eq 15, 3) := by decide +kernel
theorem dX7_came_7 : decode cX7_came 7 = .ok (.iload_n 2, 1) := by decide +kernel
theorem dX7_came_8 : decode cX7_came 8 = .ok (.i2l, 1) := by decide +kernel
theorem dX7_came_9 : decode cX7_came 9 = .ok (.lconst 0, 1) := by decide +kernel
theorem dX7_came_10 : decode cX7_came 10 = .ok (.ldc2_w 201, 3) := by decide +kernel
theorem dX7_came_13 : decode cX7_came 13 = .ok (.invokestatic 57, 3) := by decide +kernel
theorem dX7_came_16 : decode cX7_came 16 = .ok (.ifCond .ne 5, 3) := by decide +kernel
theorem dX7_came_19 : decode cX7_came 19 = .ok (.iconst (-1), 1) := by decide +kernel
theorem dX7_came_20 : decode cX7_came 20 = .ok (.ireturn, 1) := by decide +kernel
theorem dX7_came_21 : decode cX7_came 21 = .ok (.aload_n 0, 1) := by decide +kernel
theorem dX7_came_22 : decode cX7_came 22 = .ok (.getfield 7, 3) := by decide +kernel
theorem dX7_came_25 : decode cX7_came 25 = .ok (.iconst 0, 1) := by decide +kernel
theorem dX7_came_26 : decode cX7_came 26 = .ok (.iaload, 1) := by decide +kernel
theorem dX7_came_27 : decode cX7_came 27 = .ok (.istore 4, 2) := by decide +kernel
theorem dX7_came_29 : decode cX7_came 29 = .ok (.aload_n 0, 1) := by decide +kernel
theorem dX7_came_30 : decode cX7_came 30 = .ok (.iload_n 1, 1) := by decide +kernel
theorem dX7_came_31 : decode cX7_came 31 = .ok (.iload_n 2, 1) := by decide +kernel
theorem dX7_came_32 : decode cX7_came 32 = .ok (.iload_n 3, 1) := by decide +kernel
theorem dX7_came_33 : decode cX7_came 33 = .ok (.iconst 2, 1) := by decide +kernel
theorem dX7_came_34 : decode cX7_came 34 = .ok (.iload 4, 2) := by decide +kernel
theorem dX7_came_36 : decode cX7_came 36 = .ok (.imul, 1) := by decide +kernel
theorem dX7_came_37 : decode cX7_came 37 = .ok (.invokevirtual 206, 3) := by decide +kernel
theorem dX7_came_40 : decode cX7_came 40 = .ok (.istore 5, 2) := by decide +kernel
theorem dX7_came_42 : decode cX7_came 42 = .ok (.iload 5, 2) := by decide +kernel
theorem dX7_came_44 : decode cX7_came 44 = .ok (.ifCond .ge 6, 3) := by decide +kernel
theorem dX7_came_47 : decode cX7_came 47 = .ok (.iload 5, 2) := by decide +kernel
theorem dX7_came_49 : decode cX7_came 49 = .ok (.ireturn, 1) := by decide +kernel
theorem dX7_came_50 : decode cX7_came 50 = .ok (.bipush 24, 2) := by decide +kernel
theorem dX7_came_52 : decode cX7_came 52 = .ok (.iload_n 1, 1) := by decide +kernel
theorem dX7_came_53 : decode cX7_came 53 = .ok (.imul, 1) := by decide +kernel
theorem dX7_came_54 : decode cX7_came 54 = .ok (.iload_n 3, 1) := by decide +kernel
theorem dX7_came_55 : decode cX7_came 55 = .ok (.iadd, 1) := by decide +kernel
theorem dX7_came_56 : decode cX7_came 56 = .ok (.istore 6, 2) := by decide +kernel
theorem dX7_came_58 : decode cX7_came 58 = .ok (.iconst 0, 1) := by decide +kernel
theorem dX7_came_59 : decode cX7_came 59 = .ok (.istore 7, 2) := by decide +kernel
theorem dX7_came_61 : decode cX7_came 61 = .ok (.iconst 0, 1) := by decide +kernel
theorem dX7_came_62 : decode cX7_came 62 = .ok (.istore 8, 2) := by decide +kernel
theorem dX7_came_64 : decode cX7_came 64 = .ok (.iload 8, 2) := by decide +kernel
theorem dX7_came_66 : decode cX7_came 66 = .ok (.iconst 5, 1) := by decide +kernel
theorem dX7_came_67 : decode cX7_came 67 = .ok (.if_icmp .ge 99, 3) := by decide +kernel
theorem dX7_came_70 : decode cX7_came 70 = .ok (.aload_n 0, 1) := by decide +kernel
theorem dX7_came_71 : decode cX7_came 71 = .ok (.iload 6, 2) := by decide +kernel
theorem dX7_came_73 : decode cX7_came 73 = .ok (.iconst 2, 1) := by decide +kernel
theorem dX7_came_74 : decode cX7_came 74 = .ok (.iload 4, 2) := by decide +kernel
theorem dX7_came_76 : decode cX7_came 76 = .ok (.imul, 1) := by decide +kernel
theorem dX7_came_77 : decode cX7_came 77 = .ok (.invokevirtual 214, 3) := by decide +kernel
theorem dX7_came_80 : decode cX7_came 80 = .ok (.ifCond .eq 86, 3) := by decide +kernel
theorem dX7_came_83 : decode cX7_came 83 = .ok (.iconst 1, 1) := by decide +kernel
theorem dX7_came_84 : decode cX7_came 84 = .ok (.istore 9, 2) := by decide +kernel
theorem dX7_came_86 : decode cX7_came 86 = .ok (.iconst 0, 1) := by decide +kernel
theorem dX7_came_87 : decode cX7_came 87 = .ok (.istore 10, 2) := by decide +kernel
theorem dX7_came_89 : decode cX7_came 89 = .ok (.iload 10, 2) := by decide +kernel
theorem dX7_came_91 : decode cX7_came 91 = .ok (.iload 4, 2) := by decide +kernel
theorem dX7_came_93 : decode cX7_came 93 = .ok (.if_icmp .ge 49, 3) := by decide +kernel
theorem dX7_came_96 : decode cX7_came 96 = .ok (.iload 9, 2) := by decide +kernel
theorem dX7_came_98 : decode cX7_came 98 = .ok (.ifCond .eq 35, 3) := by decide +kernel
theorem dX7_came_101 : decode cX7_came 101 = .ok (.aload_n 0, 1) := by decide +kernel
theorem dX7_came_102 : decode cX7_came 102 = .ok (.iload 8, 2) := by decide +kernel
theorem dX7_came_104 : decode cX7_came 104 = .ok (.iload 6, 2) := by decide +kernel
theorem dX7_came_106 : decode cX7_came 106 = .ok (.iload 10, 2) := by decide +kernel
theorem dX7_came_108 : decode cX7_came 108 = .ok (.invokevirtual 217, 3) := by decide +kernel
theorem dX7_came_111 : decode cX7_came 111 = .ok (.i2l, 1) := by decide +kernel
theorem dX7_came_112 : decode cX7_came 112 = .ok (.aload_n 0, 1) := by decide +kernel
theorem dX7_came_113 : decode cX7_came 113 = .ok (.getfield 50, 3) := by decide +kernel
theorem dX7_came_116 : decode cX7_came 116 = .ok (.iload 6, 2) := by decide +kernel
theorem dX7_came_118 : decode cX7_came 118 = .ok (.iload 4, 2) := by decide +kernel
theorem dX7_came_120 : decode cX7_came 120 = .ok (.iadd, 1) := by decide +kernel
theorem dX7_came_121 : decode cX7_came 121 = .ok (.iload 10, 2) := by decide +kernel
theorem dX7_came_123 : decode cX7_came 123 = .ok (.iadd, 1) := by decide +kernel
theorem dX7_came_124 : decode cX7_came 124 = .ok (.laload, 1) := by decide +kernel
theorem dX7_came_125 : decode cX7_came 125 = .ok (.lcmp, 1) := by decide +kernel
theorem dX7_came_126 : decode cX7_came 126 = .ok (.ifCond .ne 7, 3) := by decide +kernel
theorem dX7_came_129 : decode cX7_came 129 = .ok (.iconst 1, 1) := by decide +kernel
theorem dX7_came_130 : decode cX7_came 130 = .ok (.goto 4, 3) := by decide +kernel
theorem dX7_came_133 : decode cX7_came 133 = .ok (.iconst 0, 1) := by decide +kernel
theorem dX7_came_134 : decode cX7_came 134 = .ok (.istore 9, 2) := by decide +kernel
theorem dX7_came_136 : decode cX7_came 136 = .ok (.iinc 10 1, 3) := by decide +kernel
theorem dX7_came_139 : decode cX7_came 139 = .ok (.goto (-50), 3) := by decide +kernel
theorem dX7_came_142 : decode cX7_came 142 = .ok (.iload 7, 2) := by decide +kernel
theorem dX7_came_144 : decode cX7_came 144 = .ok (.iload 9, 2) := by decide +kernel
theorem dX7_came_146 : decode cX7_came 146 = .ok (.ifCond .eq 10, 3) := by decide +kernel
theorem dX7_came_149 : decode cX7_came 149 = .ok (.iconst 1, 1) := by decide +kernel
theorem dX7_came_150 : decode cX7_came 150 = .ok (.iload 8, 2) := by decide +kernel
theorem dX7_came_152 : decode cX7_came 152 = .ok (.ishl, 1) := by decide +kernel
theorem dX7_came_153 : decode cX7_came 153 = .ok (.goto 4, 3) := by decide +kernel
theorem dX7_came_156 : decode cX7_came 156 = .ok (.iconst 0, 1) := by decide +kernel
theorem dX7_came_157 : decode cX7_came 157 = .ok (.ior, 1) := by decide +kernel
theorem dX7_came_158 : decode cX7_came 158 = .ok (.istore 7, 2) := by decide +kernel
theorem dX7_came_160 : decode cX7_came 160 = .ok (.iinc 8 1, 3) := by decide +kernel
theorem dX7_came_163 : decode cX7_came 163 = .ok (.goto (-99), 3) := by decide +kernel
theorem dX7_came_166 : decode cX7_came 166 = .ok (.iload 7, 2) := by decide +kernel
theorem dX7_came_168 : decode cX7_came 168 = .ok (.ireturn, 1) := by decide +kernel
theorem dX7_apply_0 : decode cX7_apply 0 = .ok (.iload_n 1, 1) := by decide +kernel
theorem dX7_apply_1 : decode cX7_apply 1 = .ok (.invokestatic 203, 3) := by decide +kernel
theorem dX7_apply_4 : decode cX7_apply 4 = .ok (.ifCond .eq 15, 3) := by decide +kernel
theorem dX7_apply_7 : decode cX7_apply 7 = .ok (.iload_n 2, 1) := by decide +kernel
theorem dX7_apply_8 : decode cX7_apply 8 = .ok (.i2l, 1) := by decide +kernel
theorem dX7_apply_9 : decode cX7_apply 9 = .ok (.lconst 0, 1) := by decide +kernel
theorem dX7_apply_10 : decode cX7_apply 10 = .ok (.ldc2_w 201, 3) := by decide +kernel
theorem dX7_apply_13 : decode cX7_apply 13 = .ok (.invokestatic 57, 3) := by decide +kernel
theorem dX7_apply_16 : decode cX7_apply 16 = .ok (.ifCond .ne 5, 3) := by decide +kernel
theorem dX7_apply_19 : decode cX7_apply 19 = .ok (.iconst (-1), 1) := by decide +kernel
theorem dX7_apply_20 : decode cX7_apply 20 = .ok (.ireturn, 1) := by decide +kernel
theorem dX7_apply_21 : decode cX7_apply 21 = .ok (.aload_n 0, 1) := by decide +kernel
theorem dX7_apply_22 : decode cX7_apply 22 = .ok (.getfield 7, 3) := by decide +kernel
theorem dX7_apply_25 : decode cX7_apply 25 = .ok (.iconst 0, 1) := by decide +kernel
theorem dX7_apply_26 : decode cX7_apply 26 = .ok (.iaload, 1) := by decide +kernel
theorem dX7_apply_27 : decode cX7_apply 27 = .ok (.istore 4, 2) := by decide +kernel
theorem dX7_apply_29 : decode cX7_apply 29 = .ok (.aload_n 0, 1) := by decide +kernel
theorem dX7_apply_30 : decode cX7_apply 30 = .ok (.iload_n 1, 1) := by decide +kernel
theorem dX7_apply_31 : decode cX7_apply 31 = .ok (.iload_n 2, 1) := by decide +kernel
theorem dX7_apply_32 : decode cX7_apply 32 = .ok (.iload_n 3, 1) := by decide +kernel
theorem dX7_apply_33 : decode cX7_apply 33 = .ok (.iconst 2, 1) := by decide +kernel
theorem dX7_apply_34 : decode cX7_apply 34 = .ok (.iload 4, 2) := by decide +kernel
theorem dX7_apply_36 : decode cX7_apply 36 = .ok (.imul, 1) := by decide +kernel
theorem dX7_apply_37 : decode cX7_apply 37 = .ok (.invokevirtual 206, 3) := by decide +kernel
theorem dX7_apply_40 : decode cX7_apply 40 = .ok (.istore 5, 2) := by decide +kernel
theorem dX7_apply_42 : decode cX7_apply 42 = .ok (.iload 5, 2) := by decide +kernel
theorem dX7_apply_44 : decode cX7_apply 44 = .ok (.ifCond .ge 6, 3) := by decide +kernel
theorem dX7_apply_47 : decode cX7_apply 47 = .ok (.iload 5, 2) := by decide +kernel
theorem dX7_apply_49 : decode cX7_apply 49 = .ok (.ireturn, 1) := by decide +kernel
theorem dX7_apply_50 : decode cX7_apply 50 = .ok (.bipush 24, 2) := by decide +kernel
theorem dX7_apply_52 : decode cX7_apply 52 = .ok (.iload_n 1, 1) := by decide +kernel
theorem dX7_apply_53 : decode cX7_apply 53 = .ok (.imul, 1) := by decide +kernel
theorem dX7_apply_54 : decode cX7_apply 54 = .ok (.iload_n 3, 1) := by decide +kernel
theorem dX7_apply_55 : decode cX7_apply 55 = .ok (.iadd, 1) := by decide +kernel
theorem dX7_apply_56 : decode cX7_apply 56 = .ok (.istore 6, 2) := by decide +kernel
theorem dX7_apply_58 : decode cX7_apply 58 = .ok (.aload_n 0, 1) := by decide +kernel
theorem dX7_apply_59 : decode cX7_apply 59 = .ok (.iload 6, 2) := by decide +kernel
theorem dX7_apply_61 : decode cX7_apply 61 = .ok (.iload 4, 2) := by decide +kernel
theorem dX7_apply_63 : decode cX7_apply 63 = .ok (.invokevirtual 214, 3) := by decide +kernel
theorem dX7_apply_66 : decode cX7_apply 66 = .ok (.ifCond .ne 6, 3) := by decide +kernel
theorem dX7_apply_69 : decode cX7_apply 69 = .ok (.bipush (-2), 2) := by decide +kernel
theorem dX7_apply_71 : decode cX7_apply 71 = .ok (.ireturn, 1) := by decide +kernel
theorem dX7_apply_72 : decode cX7_apply 72 = .ok (.iconst 0, 1) := by decide +kernel
theorem dX7_apply_73 : decode cX7_apply 73 = .ok (.istore 7, 2) := by decide +kernel
theorem dX7_apply_75 : decode cX7_apply 75 = .ok (.iload 7, 2) := by decide +kernel
theorem dX7_apply_77 : decode cX7_apply 77 = .ok (.iload 4, 2) := by decide +kernel
theorem dX7_apply_79 : decode cX7_apply 79 = .ok (.if_icmp .ge 37, 3) := by decide +kernel
theorem dX7_apply_82 : decode cX7_apply 82 = .ok (.aload_n 0, 1) := by decide +kernel
theorem dX7_apply_83 : decode cX7_apply 83 = .ok (.getfield 50, 3) := by decide +kernel
theorem dX7_apply_86 : decode cX7_apply 86 = .ok (.iload 6, 2) := by decide +kernel
theorem dX7_apply_88 : decode cX7_apply 88 = .ok (.iload 4, 2) := by decide +kernel
theorem dX7_apply_90 : decode cX7_apply 90 = .ok (.iadd, 1) := by decide +kernel
theorem dX7_apply_91 : decode cX7_apply 91 = .ok (.iload 7, 2) := by decide +kernel
theorem dX7_apply_93 : decode cX7_apply 93 = .ok (.iadd, 1) := by decide +kernel
theorem dX7_apply_94 : decode cX7_apply 94 = .ok (.aload_n 0, 1) := by decide +kernel
theorem dX7_apply_95 : decode cX7_apply 95 = .ok (.aload_n 0, 1) := by decide +kernel
theorem dX7_apply_96 : decode cX7_apply 96 = .ok (.getfield 7, 3) := by decide +kernel
theorem dX7_apply_99 : decode cX7_apply 99 = .ok (.iconst 1, 1) := by decide +kernel
theorem dX7_apply_100 : decode cX7_apply 100 = .ok (.iaload, 1) := by decide +kernel
theorem dX7_apply_101 : decode cX7_apply 101 = .ok (.iload 6, 2) := by decide +kernel
theorem dX7_apply_103 : decode cX7_apply 103 = .ok (.iload 7, 2) := by decide +kernel
theorem dX7_apply_105 : decode cX7_apply 105 = .ok (.invokevirtual 217, 3) := by decide +kernel
theorem dX7_apply_108 : decode cX7_apply 108 = .ok (.i2l, 1) := by decide +kernel
theorem dX7_apply_109 : decode cX7_apply 109 = .ok (.lastore, 1) := by decide +kernel
theorem dX7_apply_110 : decode cX7_apply 110 = .ok (.iinc 7 1, 3) := by decide +kernel
theorem dX7_apply_113 : decode cX7_apply 113 = .ok (.goto (-38), 3) := by decide +kernel
theorem dX7_apply_116 : decode cX7_apply 116 = .ok (.iconst 1, 1) := by decide +kernel
theorem dX7_apply_117 : decode cX7_apply 117 = .ok (.ireturn, 1) := by decide +kernel
theorem dX7_film_0 : decode cX7_film 0 = .ok (.iload_n 1, 1) := by decide +kernel
theorem dX7_film_1 : decode cX7_film 1 = .ok (.invokestatic 203, 3) := by decide +kernel
theorem dX7_film_4 : decode cX7_film 4 = .ok (.ifCond .eq 15, 3) := by decide +kernel
theorem dX7_film_7 : decode cX7_film 7 = .ok (.iload_n 2, 1) := by decide +kernel
theorem dX7_film_8 : decode cX7_film 8 = .ok (.i2l, 1) := by decide +kernel
theorem dX7_film_9 : decode cX7_film 9 = .ok (.lconst 0, 1) := by decide +kernel
theorem dX7_film_10 : decode cX7_film 10 = .ok (.ldc2_w 201, 3) := by decide +kernel
theorem dX7_film_13 : decode cX7_film 13 = .ok (.invokestatic 57, 3) := by decide +kernel
theorem dX7_film_16 : decode cX7_film 16 = .ok (.ifCond .ne 5, 3) := by decide +kernel
theorem dX7_film_19 : decode cX7_film 19 = .ok (.iconst (-1), 1) := by decide +kernel
theorem dX7_film_20 : decode cX7_film 20 = .ok (.ireturn, 1) := by decide +kernel
theorem dX7_film_21 : decode cX7_film 21 = .ok (.aload_n 0, 1) := by decide +kernel
theorem dX7_film_22 : decode cX7_film 22 = .ok (.getfield 7, 3) := by decide +kernel
theorem dX7_film_25 : decode cX7_film 25 = .ok (.iconst 0, 1) := by decide +kernel
theorem dX7_film_26 : decode cX7_film 26 = .ok (.iaload, 1) := by decide +kernel
theorem dX7_film_27 : decode cX7_film 27 = .ok (.istore 4, 2) := by decide +kernel
theorem dX7_film_29 : decode cX7_film 29 = .ok (.aload_n 0, 1) := by decide +kernel
theorem dX7_film_30 : decode cX7_film 30 = .ok (.iload_n 1, 1) := by decide +kernel
theorem dX7_film_31 : decode cX7_film 31 = .ok (.iload_n 2, 1) := by decide +kernel
theorem dX7_film_32 : decode cX7_film 32 = .ok (.iload_n 3, 1) := by decide +kernel
theorem dX7_film_33 : decode cX7_film 33 = .ok (.iload 4, 2) := by decide +kernel
theorem dX7_film_35 : decode cX7_film 35 = .ok (.invokevirtual 206, 3) := by decide +kernel
theorem dX7_film_38 : decode cX7_film 38 = .ok (.istore 5, 2) := by decide +kernel
theorem dX7_film_40 : decode cX7_film 40 = .ok (.iload 5, 2) := by decide +kernel
theorem dX7_film_42 : decode cX7_film 42 = .ok (.ifCond .ge 6, 3) := by decide +kernel
theorem dX7_film_45 : decode cX7_film 45 = .ok (.iload 5, 2) := by decide +kernel
theorem dX7_film_47 : decode cX7_film 47 = .ok (.ireturn, 1) := by decide +kernel
theorem dX7_film_48 : decode cX7_film 48 = .ok (.aload_n 0, 1) := by decide +kernel
theorem dX7_film_49 : decode cX7_film 49 = .ok (.invokevirtual 182, 3) := by decide +kernel
theorem dX7_film_52 : decode cX7_film 52 = .ok (.lstore 6, 2) := by decide +kernel
theorem dX7_film_54 : decode cX7_film 54 = .ok (.lload 6, 2) := by decide +kernel
theorem dX7_film_56 : decode cX7_film 56 = .ok (.lconst 0, 1) := by decide +kernel
theorem dX7_film_57 : decode cX7_film 57 = .ok (.lcmp, 1) := by decide +kernel
theorem dX7_film_58 : decode cX7_film 58 = .ok (.ifCond .ne 6, 3) := by decide +kernel
theorem dX7_film_61 : decode cX7_film 61 = .ok (.bipush (-4), 2) := by decide +kernel
theorem dX7_film_63 : decode cX7_film 63 = .ok (.ireturn, 1) := by decide +kernel
theorem dX7_film_64 : decode cX7_film 64 = .ok (.iconst 0, 1) := by decide +kernel
theorem dX7_film_65 : decode cX7_film 65 = .ok (.istore 8, 2) := by decide +kernel
theorem dX7_film_67 : decode cX7_film 67 = .ok (.iload 8, 2) := by decide +kernel
theorem dX7_film_69 : decode cX7_film 69 = .ok (.iload 4, 2) := by decide +kernel
theorem dX7_film_71 : decode cX7_film 71 = .ok (.if_icmp .ge 32, 3) := by decide +kernel
theorem dX7_film_74 : decode cX7_film 74 = .ok (.aload_n 0, 1) := by decide +kernel
theorem dX7_film_75 : decode cX7_film 75 = .ok (.getfield 50, 3) := by decide +kernel
theorem dX7_film_78 : decode cX7_film 78 = .ok (.bipush 24, 2) := by decide +kernel
theorem dX7_film_80 : decode cX7_film 80 = .ok (.iload_n 1, 1) := by decide +kernel
theorem dX7_film_81 : decode cX7_film 81 = .ok (.imul, 1) := by decide +kernel
theorem dX7_film_82 : decode cX7_film 82 = .ok (.iload_n 3, 1) := by decide +kernel
theorem dX7_film_83 : decode cX7_film 83 = .ok (.iadd, 1) := by decide +kernel
theorem dX7_film_84 : decode cX7_film 84 = .ok (.iload 8, 2) := by decide +kernel
theorem dX7_film_86 : decode cX7_film 86 = .ok (.iadd, 1) := by decide +kernel
theorem dX7_film_87 : decode cX7_film 87 = .ok (.aload_n 0, 1) := by decide +kernel
theorem dX7_film_88 : decode cX7_film 88 = .ok (.iload 8, 2) := by decide +kernel
theorem dX7_film_90 : decode cX7_film 90 = .ok (.iload 4, 2) := by decide +kernel
theorem dX7_film_92 : decode cX7_film 92 = .ok (.invokevirtual 188, 3) := by decide +kernel
theorem dX7_film_95 : decode cX7_film 95 = .ok (.i2l, 1) := by decide +kernel
theorem dX7_film_96 : decode cX7_film 96 = .ok (.lastore, 1) := by decide +kernel
theorem dX7_film_97 : decode cX7_film 97 = .ok (.iinc 8 1, 3) := by decide +kernel
theorem dX7_film_100 : decode cX7_film 100 = .ok (.goto (-33), 3) := by decide +kernel
theorem dX7_film_103 : decode cX7_film 103 = .ok (.lload 6, 2) := by decide +kernel
theorem dX7_film_105 : decode cX7_film 105 = .ok (.ldc2_w 220, 3) := by decide +kernel
theorem dX7_film_108 : decode cX7_film 108 = .ok (.lcmp, 1) := by decide +kernel
theorem dX7_film_109 : decode cX7_film 109 = .ok (.ifCond .le 9, 3) := by decide +kernel
theorem dX7_film_112 : decode cX7_film 112 = .ok (.ldc2_w 220, 3) := by decide +kernel
theorem dX7_film_115 : decode cX7_film 115 = .ok (.goto 5, 3) := by decide +kernel
theorem dX7_film_118 : decode cX7_film 118 = .ok (.lload 6, 2) := by decide +kernel
theorem dX7_film_120 : decode cX7_film 120 = .ok (.l2i, 1) := by decide +kernel
theorem dX7_film_121 : decode cX7_film 121 = .ok (.ireturn, 1) := by decide +kernel
end
section
theorem dJ6_bitCount_0f7a4_0 : decode cJ6_bitCount_0f7a4 0 = .ok (.iload_n 0, 1) := by decide +kernel
theorem dJ6_bitCount_0f7a4_1 : decode cJ6_bitCount_0f7a4 1 = .ok (.iload_n 0, 1) := by decide +kernel
theorem dJ6_bitCount_0f7a4_2 : decode cJ6_bitCount_0f7a4 2 = .ok (.iconst 1, 1) := by decide +kernel
theorem dJ6_bitCount_0f7a4_3 : decode cJ6_bitCount_0f7a4 3 = .ok (.iushr, 1) := by decide +kernel
theorem dJ6_bitCount_0f7a4_4 : decode cJ6_bitCount_0f7a4 4 = .ok (.ldc_w 265, 3) := by decide +kernel
theorem dJ6_bitCount_0f7a4_7 : decode cJ6_bitCount_0f7a4 7 = .ok (.iand, 1) := by decide +kernel
theorem dJ6_bitCount_0f7a4_8 : decode cJ6_bitCount_0f7a4 8 = .ok (.isub, 1) := by decide +kernel
theorem dJ6_bitCount_0f7a4_9 : decode cJ6_bitCount_0f7a4 9 = .ok (.istore_n 0, 1) := by decide +kernel
theorem dJ6_bitCount_0f7a4_10 : decode cJ6_bitCount_0f7a4 10 = .ok (.iload_n 0, 1) := by decide +kernel
theorem dJ6_bitCount_0f7a4_11 : decode cJ6_bitCount_0f7a4 11 = .ok (.ldc_w 266, 3) := by decide +kernel
theorem dJ6_bitCount_0f7a4_14 : decode cJ6_bitCount_0f7a4 14 = .ok (.iand, 1) := by decide +kernel
theorem dJ6_bitCount_0f7a4_15 : decode cJ6_bitCount_0f7a4 15 = .ok (.iload_n 0, 1) := by decide +kernel
theorem dJ6_bitCount_0f7a4_16 : decode cJ6_bitCount_0f7a4 16 = .ok (.iconst 2, 1) := by decide +kernel
theorem dJ6_bitCount_0f7a4_17 : decode cJ6_bitCount_0f7a4 17 = .ok (.iushr, 1) := by decide +kernel
theorem dJ6_bitCount_0f7a4_18 : decode cJ6_bitCount_0f7a4 18 = .ok (.ldc_w 266, 3) := by decide +kernel
theorem dJ6_bitCount_0f7a4_21 : decode cJ6_bitCount_0f7a4 21 = .ok (.iand, 1) := by decide +kernel
theorem dJ6_bitCount_0f7a4_22 : decode cJ6_bitCount_0f7a4 22 = .ok (.iadd, 1) := by decide +kernel
theorem dJ6_bitCount_0f7a4_23 : decode cJ6_bitCount_0f7a4 23 = .ok (.istore_n 0, 1) := by decide +kernel
theorem dJ6_bitCount_0f7a4_24 : decode cJ6_bitCount_0f7a4 24 = .ok (.iload_n 0, 1) := by decide +kernel
theorem dJ6_bitCount_0f7a4_25 : decode cJ6_bitCount_0f7a4 25 = .ok (.iload_n 0, 1) := by decide +kernel
theorem dJ6_bitCount_0f7a4_26 : decode cJ6_bitCount_0f7a4 26 = .ok (.iconst 4, 1) := by decide +kernel
theorem dJ6_bitCount_0f7a4_27 : decode cJ6_bitCount_0f7a4 27 = .ok (.iushr, 1) := by decide +kernel
theorem dJ6_bitCount_0f7a4_28 : decode cJ6_bitCount_0f7a4 28 = .ok (.iadd, 1) := by decide +kernel
theorem dJ6_bitCount_0f7a4_29 : decode cJ6_bitCount_0f7a4 29 = .ok (.ldc_w 267, 3) := by decide +kernel
theorem dJ6_bitCount_0f7a4_32 : decode cJ6_bitCount_0f7a4 32 = .ok (.iand, 1) := by decide +kernel
theorem dJ6_bitCount_0f7a4_33 : decode cJ6_bitCount_0f7a4 33 = .ok (.istore_n 0, 1) := by decide +kernel
theorem dJ6_bitCount_0f7a4_34 : decode cJ6_bitCount_0f7a4 34 = .ok (.iload_n 0, 1) := by decide +kernel
theorem dJ6_bitCount_0f7a4_35 : decode cJ6_bitCount_0f7a4 35 = .ok (.iload_n 0, 1) := by decide +kernel
theorem dJ6_bitCount_0f7a4_36 : decode cJ6_bitCount_0f7a4 36 = .ok (.bipush 8, 2) := by decide +kernel
theorem dJ6_bitCount_0f7a4_38 : decode cJ6_bitCount_0f7a4 38 = .ok (.iushr, 1) := by decide +kernel
theorem dJ6_bitCount_0f7a4_39 : decode cJ6_bitCount_0f7a4 39 = .ok (.iadd, 1) := by decide +kernel
theorem dJ6_bitCount_0f7a4_40 : decode cJ6_bitCount_0f7a4 40 = .ok (.istore_n 0, 1) := by decide +kernel
theorem dJ6_bitCount_0f7a4_41 : decode cJ6_bitCount_0f7a4 41 = .ok (.iload_n 0, 1) := by decide +kernel
theorem dJ6_bitCount_0f7a4_42 : decode cJ6_bitCount_0f7a4 42 = .ok (.iload_n 0, 1) := by decide +kernel
theorem dJ6_bitCount_0f7a4_43 : decode cJ6_bitCount_0f7a4 43 = .ok (.bipush 16, 2) := by decide +kernel
theorem dJ6_bitCount_0f7a4_45 : decode cJ6_bitCount_0f7a4 45 = .ok (.iushr, 1) := by decide +kernel
theorem dJ6_bitCount_0f7a4_46 : decode cJ6_bitCount_0f7a4 46 = .ok (.iadd, 1) := by decide +kernel
theorem dJ6_bitCount_0f7a4_47 : decode cJ6_bitCount_0f7a4 47 = .ok (.istore_n 0, 1) := by decide +kernel
theorem dJ6_bitCount_0f7a4_48 : decode cJ6_bitCount_0f7a4 48 = .ok (.iload_n 0, 1) := by decide +kernel
theorem dJ6_bitCount_0f7a4_49 : decode cJ6_bitCount_0f7a4 49 = .ok (.bipush 63, 2) := by decide +kernel
theorem dJ6_bitCount_0f7a4_51 : decode cJ6_bitCount_0f7a4 51 = .ok (.iand, 1) := by decide +kernel
theorem dJ6_bitCount_0f7a4_52 : decode cJ6_bitCount_0f7a4 52 = .ok (.ireturn, 1) := by decide +kernel
theorem dJ9_abs_0f7a4_0 : decode cJ9_abs_0f7a4 0 = .ok (.iload_n 0, 1) := by decide +kernel
theorem dJ9_abs_0f7a4_1 : decode cJ9_abs_0f7a4 1 = .ok (.ifCond .ge 8, 3) := by decide +kernel
theorem dJ9_abs_0f7a4_4 : decode cJ9_abs_0f7a4 4 = .ok (.iload_n 0, 1) := by decide +kernel
theorem dJ9_abs_0f7a4_5 : decode cJ9_abs_0f7a4 5 = .ok (.ineg, 1) := by decide +kernel
theorem dJ9_abs_0f7a4_6 : decode cJ9_abs_0f7a4 6 = .ok (.goto 4, 3) := by decide +kernel
theorem dJ9_abs_0f7a4_9 : decode cJ9_abs_0f7a4 9 = .ok (.iload_n 0, 1) := by decide +kernel
theorem dJ9_abs_0f7a4_10 : decode cJ9_abs_0f7a4 10 = .ok (.ireturn, 1) := by decide +kernel
theorem dJ9_min_f86c9_0 : decode cJ9_min_f86c9 0 = .ok (.lload_n 0, 1) := by decide +kernel
theorem dJ9_min_f86c9_1 : decode cJ9_min_f86c9 1 = .ok (.lload_n 2, 1) := by decide +kernel
theorem dJ9_min_f86c9_2 : decode cJ9_min_f86c9 2 = .ok (.lcmp, 1) := by decide +kernel
theorem dJ9_min_f86c9_3 : decode cJ9_min_f86c9 3 = .ok (.ifCond .gt 7, 3) := by decide +kernel
theorem dJ9_min_f86c9_6 : decode cJ9_min_f86c9 6 = .ok (.lload_n 0, 1) := by decide +kernel
theorem dJ9_min_f86c9_7 : decode cJ9_min_f86c9 7 = .ok (.goto 4, 3) := by decide +kernel
theorem dJ9_min_f86c9_10 : decode cJ9_min_f86c9 10 = .ok (.lload_n 2, 1) := by decide +kernel
theorem dJ9_min_f86c9_11 : decode cJ9_min_f86c9 11 = .ok (.lreturn, 1) := by decide +kernel
theorem dL_law_0 : decode cL_law 0 = .ok (.new 7, 3) := by decide +kernel
theorem dL_law_3 : decode cL_law 3 = .ok (.dup, 1) := by decide +kernel
theorem dL_law_4 : decode cL_law 4 = .ok (.invokespecial 9, 3) := by decide +kernel
theorem dL_law_7 : decode cL_law 7 = .ok (.astore_n 1, 1) := by decide +kernel
theorem dL_law_8 : decode cL_law 8 = .ok (.new 10, 3) := by decide +kernel
theorem dL_law_11 : decode cL_law 11 = .ok (.dup, 1) := by decide +kernel
theorem dL_law_12 : decode cL_law 12 = .ok (.invokespecial 12, 3) := by decide +kernel
theorem dL_law_15 : decode cL_law 15 = .ok (.astore_n 2, 1) := by decide +kernel
theorem dL_law_16 : decode cL_law 16 = .ok (.iconst 0, 1) := by decide +kernel
theorem dL_law_17 : decode cL_law 17 = .ok (.istore_n 3, 1) := by decide +kernel
theorem dL_law_18 : decode cL_law 18 = .ok (.iload_n 3, 1) := by decide +kernel
theorem dL_law_19 : decode cL_law 19 = .ok (.aload_n 0, 1) := by decide +kernel
theorem dL_law_20 : decode cL_law 20 = .ok (.arraylength, 1) := by decide +kernel
theorem dL_law_21 : decode cL_law 21 = .ok (.bipush 6, 2) := by decide +kernel
theorem dL_law_23 : decode cL_law 23 = .ok (.isub, 1) := by decide +kernel
theorem dL_law_24 : decode cL_law 24 = .ok (.if_icmp .gt 1120, 3) := by decide +kernel
theorem dL_law_27 : decode cL_law 27 = .ok (.aload_n 0, 1) := by decide +kernel
theorem dL_law_28 : decode cL_law 28 = .ok (.iload_n 3, 1) := by decide +kernel
theorem dL_law_29 : decode cL_law 29 = .ok (.iaload, 1) := by decide +kernel
theorem dL_law_30 : decode cL_law 30 = .ok (.bipush 63, 2) := by decide +kernel
theorem dL_law_32 : decode cL_law 32 = .ok (.iand, 1) := by decide +kernel
theorem dL_law_33 : decode cL_law 33 = .ok (.tableswitch 1105 0 33 #[151, 174, 197, 210, 233, 256, 289, 312, 345, 378, 401, 414, 427, 440, 463, 476, 499, 522, 545, 569, 602, 635, 658, 681, 704, 738, 751, 764, 807, 850, 893, 936, 959, 1042], 151) := by decide +kernel
theorem dL_law_184 : decode cL_law 184 = .ok (.aload_n 1, 1) := by decide +kernel
theorem dL_law_185 : decode cL_law 185 = .ok (.aload_n 0, 1) := by decide +kernel
theorem dL_law_186 : decode cL_law 186 = .ok (.iload_n 3, 1) := by decide +kernel
theorem dL_law_187 : decode cL_law 187 = .ok (.iconst 1, 1) := by decide +kernel
theorem dL_law_188 : decode cL_law 188 = .ok (.iadd, 1) := by decide +kernel
theorem dL_law_189 : decode cL_law 189 = .ok (.iaload, 1) := by decide +kernel
theorem dL_law_190 : decode cL_law 190 = .ok (.invokevirtual 13, 3) := by decide +kernel
theorem dL_law_193 : decode cL_law 193 = .ok (.aload_n 2, 1) := by decide +kernel
theorem dL_law_194 : decode cL_law 194 = .ok (.aload_n 0, 1) := by decide +kernel
theorem dL_law_195 : decode cL_law 195 = .ok (.iload_n 3, 1) := by decide +kernel
theorem dL_law_196 : decode cL_law 196 = .ok (.iconst 1, 1) := by decide +kernel
theorem dL_law_197 : decode cL_law 197 = .ok (.iadd, 1) := by decide +kernel
theorem dL_law_198 : decode cL_law 198 = .ok (.iaload, 1) := by decide +kernel
theorem dL_law_199 : decode cL_law 199 = .ok (.invokevirtual 17, 3) := by decide +kernel
theorem dL_law_202 : decode cL_law 202 = .ok (.if_icmp .eq 936, 3) := by decide +kernel
theorem dL_law_205 : decode cL_law 205 = .ok (.iconst 0, 1) := by decide +kernel
theorem dL_law_206 : decode cL_law 206 = .ok (.ireturn, 1) := by decide +kernel
theorem dL_law_207 : decode cL_law 207 = .ok (.aload_n 1, 1) := by decide +kernel
theorem dL_law_208 : decode cL_law 208 = .ok (.aload_n 0, 1) := by decide +kernel
theorem dL_law_209 : decode cL_law 209 = .ok (.iload_n 3, 1) := by decide +kernel
theorem dL_law_210 : decode cL_law 210 = .ok (.iconst 1, 1) := by decide +kernel
theorem dL_law_211 : decode cL_law 211 = .ok (.iadd, 1) := by decide +kernel
theorem dL_law_212 : decode cL_law 212 = .ok (.iaload, 1) := by decide +kernel
theorem dL_law_213 : decode cL_law 213 = .ok (.invokevirtual 18, 3) := by decide +kernel
theorem dL_law_216 : decode cL_law 216 = .ok (.aload_n 2, 1) := by decide +kernel
theorem dL_law_217 : decode cL_law 217 = .ok (.aload_n 0, 1) := by decide +kernel
theorem dL_law_218 : decode cL_law 218 = .ok (.iload_n 3, 1) := by decide +kernel
theorem dL_law_219 : decode cL_law 219 = .ok (.iconst 1, 1) := by decide +kernel
theorem dL_law_220 : decode cL_law 220 = .ok (.iadd, 1) := by decide +kernel
theorem dL_law_221 : decode cL_law 221 = .ok (.iaload, 1) := by decide +kernel
theorem dL_law_222 : decode cL_law 222 = .ok (.invokevirtual 21, 3) := by decide +kernel
theorem dL_law_225 : decode cL_law 225 = .ok (.if_icmp .eq 913, 3) := by decide +kernel
theorem dL_law_228 : decode cL_law 228 = .ok (.iconst 0, 1) := by decide +kernel
theorem dL_law_229 : decode cL_law 229 = .ok (.ireturn, 1) := by decide +kernel
theorem dL_law_230 : decode cL_law 230 = .ok (.aload_n 1, 1) := by decide +kernel
theorem dL_law_231 : decode cL_law 231 = .ok (.invokevirtual 22, 3) := by decide +kernel
theorem dL_law_234 : decode cL_law 234 = .ok (.aload_n 2, 1) := by decide +kernel
theorem dL_law_235 : decode cL_law 235 = .ok (.invokevirtual 26, 3) := by decide +kernel
theorem dL_law_238 : decode cL_law 238 = .ok (.if_icmp .eq 900, 3) := by decide +kernel
theorem dL_law_241 : decode cL_law 241 = .ok (.iconst 0, 1) := by decide +kernel
theorem dL_law_242 : decode cL_law 242 = .ok (.ireturn, 1) := by decide +kernel
theorem dL_law_243 : decode cL_law 243 = .ok (.aload_n 1, 1) := by decide +kernel
theorem dL_law_244 : decode cL_law 244 = .ok (.aload_n 0, 1) := by decide +kernel
theorem dL_law_245 : decode cL_law 245 = .ok (.iload_n 3, 1) := by decide +kernel
theorem dL_law_246 : decode cL_law 246 = .ok (.iconst 1, 1) := by decide +kernel
theorem dL_law_247 : decode cL_law 247 = .ok (.iadd, 1) := by decide +kernel
theorem dL_law_248 : decode cL_law 248 = .ok (.iaload, 1) := by decide +kernel
theorem dL_law_249 : decode cL_law 249 = .ok (.invokevirtual 27, 3) := by decide +kernel
theorem dL_law_252 : decode cL_law 252 = .ok (.aload_n 2, 1) := by decide +kernel
theorem dL_law_253 : decode cL_law 253 = .ok (.aload_n 0, 1) := by decide +kernel
theorem dL_law_254 : decode cL_law 254 = .ok (.iload_n 3, 1) := by decide +kernel
theorem dL_law_255 : decode cL_law 255 = .ok (.iconst 1, 1) := by decide +kernel
theorem dL_law_256 : decode cL_law 256 = .ok (.iadd, 1) := by decide +kernel
theorem dL_law_257 : decode cL_law 257 = .ok (.iaload, 1) := by decide +kernel
theorem dL_law_258 : decode cL_law 258 = .ok (.invokevirtual 30, 3) := by decide +kernel
theorem dL_law_261 : decode cL_law 261 = .ok (.if_icmp .eq 877, 3) := by decide +kernel
theorem dL_law_264 : decode cL_law 264 = .ok (.iconst 0, 1) := by decide +kernel
theorem dL_law_265 : decode cL_law 265 = .ok (.ireturn, 1) := by decide +kernel
theorem dL_law_266 : decode cL_law 266 = .ok (.aload_n 1, 1) := by decide +kernel
theorem dL_law_267 : decode cL_law 267 = .ok (.aload_n 0, 1) := by decide +kernel
theorem dL_law_268 : decode cL_law 268 = .ok (.iload_n 3, 1) := by decide +kernel
theorem dL_law_269 : decode cL_law 269 = .ok (.iconst 1, 1) := by decide +kernel
theorem dL_law_270 : decode cL_law 270 = .ok (.iadd, 1) := by decide +kernel
theorem dL_law_271 : decode cL_law 271 = .ok (.iaload, 1) := by decide +kernel
theorem dL_law_272 : decode cL_law 272 = .ok (.invokevirtual 31, 3) := by decide +kernel
theorem dL_law_275 : decode cL_law 275 = .ok (.aload_n 2, 1) := by decide +kernel
theorem dL_law_276 : decode cL_law 276 = .ok (.aload_n 0, 1) := by decide +kernel
theorem dL_law_277 : decode cL_law 277 = .ok (.iload_n 3, 1) := by decide +kernel
theorem dL_law_278 : decode cL_law 278 = .ok (.iconst 1, 1) := by decide +kernel
theorem dL_law_279 : decode cL_law 279 = .ok (.iadd, 1) := by decide +kernel
theorem dL_law_280 : decode cL_law 280 = .ok (.iaload, 1) := by decide +kernel
theorem dL_law_281 : decode cL_law 281 = .ok (.invokevirtual 34, 3) := by decide +kernel
theorem dL_law_284 : decode cL_law 284 = .ok (.if_icmp .eq 854, 3) := by decide +kernel
theorem dL_law_287 : decode cL_law 287 = .ok (.iconst 0, 1) := by decide +kernel
theorem dL_law_288 : decode cL_law 288 = .ok (.ireturn, 1) := by decide +kernel
theorem dL_law_289 : decode cL_law 289 = .ok (.aload_n 1, 1) := by decide +kernel
theorem dL_law_290 : decode cL_law 290 = .ok (.aload_n 0, 1) := by decide +kernel
theorem dL_law_291 : decode cL_law 291 = .ok (.iload_n 3, 1) := by decide +kernel
theorem dL_law_292 : decode cL_law 292 = .ok (.iconst 1, 1) := by decide +kernel
theorem dL_law_293 : decode cL_law 293 = .ok (.iadd, 1) := by decide +kernel
theorem dL_law_294 : decode cL_law 294 = .ok (.iaload, 1) := by decide +kernel
theorem dL_law_295 : decode cL_law 295 = .ok (.aload_n 0, 1) := by decide +kernel
theorem dL_law_296 : decode cL_law 296 = .ok (.iload_n 3, 1) := by decide +kernel
theorem dL_law_297 : decode cL_law 297 = .ok (.iconst 2, 1) := by decide +kernel
theorem dL_law_298 : decode cL_law 298 = .ok (.iadd, 1) := by decide +kernel
theorem dL_law_299 : decode cL_law 299 = .ok (.iaload, 1) := by decide +kernel
theorem dL_law_300 : decode cL_law 300 = .ok (.invokevirtual 35, 3) := by decide +kernel
theorem dL_law_303 : decode cL_law 303 = .ok (.aload_n 2, 1) := by decide +kernel
theorem dL_law_304 : decode cL_law 304 = .ok (.aload_n 0, 1) := by decide +kernel
theorem dL_law_305 : decode cL_law 305 = .ok (.iload_n 3, 1) := by decide +kernel
theorem dL_law_306 : decode cL_law 306 = .ok (.iconst 1, 1) := by decide +kernel
theorem dL_law_307 : decode cL_law 307 = .ok (.iadd, 1) := by decide +kernel
theorem dL_law_308 : decode cL_law 308 = .ok (.iaload, 1) := by decide +kernel
theorem dL_law_309 : decode cL_law 309 = .ok (.aload_n 0, 1) := by decide +kernel
theorem dL_law_310 : decode cL_law 310 = .ok (.iload_n 3, 1) := by decide +kernel
theorem dL_law_311 : decode cL_law 311 = .ok (.iconst 2, 1) := by decide +kernel
theorem dL_law_312 : decode cL_law 312 = .ok (.iadd, 1) := by decide +kernel
theorem dL_law_313 : decode cL_law 313 = .ok (.iaload, 1) := by decide +kernel
theorem dL_law_314 : decode cL_law 314 = .ok (.invokevirtual 39, 3) := by decide +kernel
theorem dL_law_317 : decode cL_law 317 = .ok (.if_icmp .eq 821, 3) := by decide +kernel
theorem dL_law_320 : decode cL_law 320 = .ok (.iconst 0, 1) := by decide +kernel
theorem dL_law_321 : decode cL_law 321 = .ok (.ireturn, 1) := by decide +kernel
theorem dL_law_322 : decode cL_law 322 = .ok (.aload_n 1, 1) := by decide +kernel
theorem dL_law_323 : decode cL_law 323 = .ok (.aload_n 0, 1) := by decide +kernel
theorem dL_law_324 : decode cL_law 324 = .ok (.iload_n 3, 1) := by decide +kernel
theorem dL_law_325 : decode cL_law 325 = .ok (.iconst 1, 1) := by decide +kernel
theorem dL_law_326 : decode cL_law 326 = .ok (.iadd, 1) := by decide +kernel
theorem dL_law_327 : decode cL_law 327 = .ok (.iaload, 1) := by decide +kernel
theorem dL_law_328 : decode cL_law 328 = .ok (.invokevirtual 40, 3) := by decide +kernel
theorem dL_law_331 : decode cL_law 331 = .ok (.aload_n 2, 1) := by decide +kernel
theorem dL_law_332 : decode cL_law 332 = .ok (.aload_n 0, 1) := by decide +kernel
theorem dL_law_333 : decode cL_law 333 = .ok (.iload_n 3, 1) := by decide +kernel
theorem dL_law_334 : decode cL_law 334 = .ok (.iconst 1, 1) := by decide +kernel
theorem dL_law_335 : decode cL_law 335 = .ok (.iadd, 1) := by decide +kernel
theorem dL_law_336 : decode cL_law 336 = .ok (.iaload, 1) := by decide +kernel
theorem dL_law_337 : decode cL_law 337 = .ok (.invokevirtual 43, 3) := by decide +kernel
theorem dL_law_340 : decode cL_law 340 = .ok (.if_icmp .eq 798, 3) := by decide +kernel
theorem dL_law_343 : decode cL_law 343 = .ok (.iconst 0, 1) := by decide +kernel
theorem dL_law_344 : decode cL_law 344 = .ok (.ireturn, 1) := by decide +kernel
theorem dL_law_345 : decode cL_law 345 = .ok (.aload_n 1, 1) := by decide +kernel
theorem dL_law_346 : decode cL_law 346 = .ok (.aload_n 0, 1) := by decide +kernel
theorem dL_law_347 : decode cL_law 347 = .ok (.iload_n 3, 1) := by decide +kernel
theorem dL_law_348 : decode cL_law 348 = .ok (.iconst 1, 1) := by decide +kernel
theorem dL_law_349 : decode cL_law 349 = .ok (.iadd, 1) := by decide +kernel
theorem dL_law_350 : decode cL_law 350 = .ok (.iaload, 1) := by decide +kernel
theorem dL_law_351 : decode cL_law 351 = .ok (.aload_n 0, 1) := by decide +kernel
theorem dL_law_352 : decode cL_law 352 = .ok (.iload_n 3, 1) := by decide +kernel
theorem dL_law_353 : decode cL_law 353 = .ok (.iconst 2, 1) := by decide +kernel
theorem dL_law_354 : decode cL_law 354 = .ok (.iadd, 1) := by decide +kernel
theorem dL_law_355 : decode cL_law 355 = .ok (.iaload, 1) := by decide +kernel
theorem dL_law_356 : decode cL_law 356 = .ok (.invokevirtual 44, 3) := by decide +kernel
theorem dL_law_359 : decode cL_law 359 = .ok (.aload_n 2, 1) := by decide +kernel
theorem dL_law_360 : decode cL_law 360 = .ok (.aload_n 0, 1) := by decide +kernel
theorem dL_law_361 : decode cL_law 361 = .ok (.iload_n 3, 1) := by decide +kernel
theorem dL_law_362 : decode cL_law 362 = .ok (.iconst 1, 1) := by decide +kernel
theorem dL_law_363 : decode cL_law 363 = .ok (.iadd, 1) := by decide +kernel
theorem dL_law_364 : decode cL_law 364 = .ok (.iaload, 1) := by decide +kernel
theorem dL_law_365 : decode cL_law 365 = .ok (.aload_n 0, 1) := by decide +kernel
theorem dL_law_366 : decode cL_law 366 = .ok (.iload_n 3, 1) := by decide +kernel
theorem dL_law_367 : decode cL_law 367 = .ok (.iconst 2, 1) := by decide +kernel
theorem dL_law_368 : decode cL_law 368 = .ok (.iadd, 1) := by decide +kernel
theorem dL_law_369 : decode cL_law 369 = .ok (.iaload, 1) := by decide +kernel
theorem dL_law_370 : decode cL_law 370 = .ok (.invokevirtual 47, 3) := by decide +kernel
theorem dL_law_373 : decode cL_law 373 = .ok (.if_icmp .eq 765, 3) := by decide +kernel
theorem dL_law_376 : decode cL_law 376 = .ok (.iconst 0, 1) := by decide +kernel
theorem dL_law_377 : decode cL_law 377 = .ok (.ireturn, 1) := by decide +kernel
theorem dL_law_378 : decode cL_law 378 = .ok (.aload_n 1, 1) := by decide +kernel
theorem dL_law_379 : decode cL_law 379 = .ok (.aload_n 0, 1) := by decide +kernel
theorem dL_law_380 : decode cL_law 380 = .ok (.iload_n 3, 1) := by decide +kernel
theorem dL_law_381 : decode cL_law 381 = .ok (.iconst 1, 1) := by decide +kernel
theorem dL_law_382 : decode cL_law 382 = .ok (.iadd, 1) := by decide +kernel
theorem dL_law_383 : decode cL_law 383 = .ok (.iaload, 1) := by decide +kernel
theorem dL_law_384 : decode cL_law 384 = .ok (.aload_n 0, 1) := by decide +kernel
theorem dL_law_385 : decode cL_law 385 = .ok (.iload_n 3, 1) := by decide +kernel
theorem dL_law_386 : decode cL_law 386 = .ok (.iconst 2, 1) := by decide +kernel
theorem dL_law_387 : decode cL_law 387 = .ok (.iadd, 1) := by decide +kernel
theorem dL_law_388 : decode cL_law 388 = .ok (.iaload, 1) := by decide +kernel
theorem dL_law_389 : decode cL_law 389 = .ok (.invokevirtual 48, 3) := by decide +kernel
theorem dL_law_392 : decode cL_law 392 = .ok (.aload_n 2, 1) := by decide +kernel
theorem dL_law_393 : decode cL_law 393 = .ok (.aload_n 0, 1) := by decide +kernel
theorem dL_law_394 : decode cL_law 394 = .ok (.iload_n 3, 1) := by decide +kernel
theorem dL_law_395 : decode cL_law 395 = .ok (.iconst 1, 1) := by decide +kernel
theorem dL_law_396 : decode cL_law 396 = .ok (.iadd, 1) := by decide +kernel
theorem dL_law_397 : decode cL_law 397 = .ok (.iaload, 1) := by decide +kernel
theorem dL_law_398 : decode cL_law 398 = .ok (.aload_n 0, 1) := by decide +kernel
theorem dL_law_399 : decode cL_law 399 = .ok (.iload_n 3, 1) := by decide +kernel
theorem dL_law_400 : decode cL_law 400 = .ok (.iconst 2, 1) := by decide +kernel
theorem dL_law_401 : decode cL_law 401 = .ok (.iadd, 1) := by decide +kernel
theorem dL_law_402 : decode cL_law 402 = .ok (.iaload, 1) := by decide +kernel
theorem dL_law_403 : decode cL_law 403 = .ok (.invokevirtual 51, 3) := by decide +kernel
theorem dL_law_406 : decode cL_law 406 = .ok (.if_icmp .eq 732, 3) := by decide +kernel
theorem dL_law_409 : decode cL_law 409 = .ok (.iconst 0, 1) := by decide +kernel
theorem dL_law_410 : decode cL_law 410 = .ok (.ireturn, 1) := by decide +kernel
theorem dL_law_411 : decode cL_law 411 = .ok (.aload_n 1, 1) := by decide +kernel
theorem dL_law_412 : decode cL_law 412 = .ok (.aload_n 0, 1) := by decide +kernel
theorem dL_law_413 : decode cL_law 413 = .ok (.iload_n 3, 1) := by decide +kernel
theorem dL_law_414 : decode cL_law 414 = .ok (.iconst 1, 1) := by decide +kernel
theorem dL_law_415 : decode cL_law 415 = .ok (.iadd, 1) := by decide +kernel
theorem dL_law_416 : decode cL_law 416 = .ok (.iaload, 1) := by decide +kernel
theorem dL_law_417 : decode cL_law 417 = .ok (.invokevirtual 52, 3) := by decide +kernel
theorem dL_law_420 : decode cL_law 420 = .ok (.aload_n 2, 1) := by decide +kernel
theorem dL_law_421 : decode cL_law 421 = .ok (.aload_n 0, 1) := by decide +kernel
theorem dL_law_422 : decode cL_law 422 = .ok (.iload_n 3, 1) := by decide +kernel
theorem dL_law_423 : decode cL_law 423 = .ok (.iconst 1, 1) := by decide +kernel
theorem dL_law_424 : decode cL_law 424 = .ok (.iadd, 1) := by decide +kernel
theorem dL_law_425 : decode cL_law 425 = .ok (.iaload, 1) := by decide +kernel
theorem dL_law_426 : decode cL_law 426 = .ok (.invokevirtual 55, 3) := by decide +kernel
theorem dL_law_429 : decode cL_law 429 = .ok (.if_icmp .eq 709, 3) := by decide +kernel
theorem dL_law_432 : decode cL_law 432 = .ok (.iconst 0, 1) := by decide +kernel
theorem dL_law_433 : decode cL_law 433 = .ok (.ireturn, 1) := by decide +kernel
theorem dL_law_434 : decode cL_law 434 = .ok (.aload_n 1, 1) := by decide +kernel
theorem dL_law_435 : decode cL_law 435 = .ok (.invokevirtual 56, 3) := by decide +kernel
theorem dL_law_438 : decode cL_law 438 = .ok (.aload_n 2, 1) := by decide +kernel
theorem dL_law_439 : decode cL_law 439 = .ok (.invokevirtual 59, 3) := by decide +kernel
theorem dL_law_442 : decode cL_law 442 = .ok (.if_icmp .eq 696, 3) := by decide +kernel
theorem dL_law_445 : decode cL_law 445 = .ok (.iconst 0, 1) := by decide +kernel
theorem dL_law_446 : decode cL_law 446 = .ok (.ireturn, 1) := by decide +kernel
theorem dL_law_447 : decode cL_law 447 = .ok (.aload_n 1, 1) := by decide +kernel
theorem dL_law_448 : decode cL_law 448 = .ok (.invokevirtual 60, 3) := by decide +kernel
theorem dL_law_451 : decode cL_law 451 = .ok (.aload_n 2, 1) := by decide +kernel
theorem dL_law_452 : decode cL_law 452 = .ok (.invokevirtual 63, 3) := by decide +kernel
theorem dL_law_455 : decode cL_law 455 = .ok (.if_icmp .eq 683, 3) := by decide +kernel
theorem dL_law_458 : decode cL_law 458 = .ok (.iconst 0, 1) := by decide +kernel
theorem dL_law_459 : decode cL_law 459 = .ok (.ireturn, 1) := by decide +kernel
theorem dL_law_460 : decode cL_law 460 = .ok (.aload_n 1, 1) := by decide +kernel
theorem dL_law_461 : decode cL_law 461 = .ok (.invokevirtual 64, 3) := by decide +kernel
theorem dL_law_464 : decode cL_law 464 = .ok (.aload_n 2, 1) := by decide +kernel
theorem dL_law_465 : decode cL_law 465 = .ok (.invokevirtual 67, 3) := by decide +kernel
theorem dL_law_468 : decode cL_law 468 = .ok (.if_icmp .eq 670, 3) := by decide +kernel
theorem dL_law_471 : decode cL_law 471 = .ok (.iconst 0, 1) := by decide +kernel
theorem dL_law_472 : decode cL_law 472 = .ok (.ireturn, 1) := by decide +kernel
theorem dL_law_473 : decode cL_law 473 = .ok (.aload_n 1, 1) := by decide +kernel
theorem dL_law_474 : decode cL_law 474 = .ok (.aload_n 0, 1) := by decide +kernel
theorem dL_law_475 : decode cL_law 475 = .ok (.iload_n 3, 1) := by decide +kernel
theorem dL_law_476 : decode cL_law 476 = .ok (.iconst 1, 1) := by decide +kernel
theorem dL_law_477 : decode cL_law 477 = .ok (.iadd, 1) := by decide +kernel
theorem dL_law_478 : decode cL_law 478 = .ok (.iaload, 1) := by decide +kernel
theorem dL_law_479 : decode cL_law 479 = .ok (.invokevirtual 68, 3) := by decide +kernel
theorem dL_law_482 : decode cL_law 482 = .ok (.aload_n 2, 1) := by decide +kernel
theorem dL_law_483 : decode cL_law 483 = .ok (.aload_n 0, 1) := by decide +kernel
theorem dL_law_484 : decode cL_law 484 = .ok (.iload_n 3, 1) := by decide +kernel
theorem dL_law_485 : decode cL_law 485 = .ok (.iconst 1, 1) := by decide +kernel
theorem dL_law_486 : decode cL_law 486 = .ok (.iadd, 1) := by decide +kernel
theorem dL_law_487 : decode cL_law 487 = .ok (.iaload, 1) := by decide +kernel
theorem dL_law_488 : decode cL_law 488 = .ok (.invokevirtual 71, 3) := by decide +kernel
theorem dL_law_491 : decode cL_law 491 = .ok (.if_icmp .eq 647, 3) := by decide +kernel
theorem dL_law_494 : decode cL_law 494 = .ok (.iconst 0, 1) := by decide +kernel
theorem dL_law_495 : decode cL_law 495 = .ok (.ireturn, 1) := by decide +kernel
theorem dL_law_496 : decode cL_law 496 = .ok (.aload_n 1, 1) := by decide +kernel
theorem dL_law_497 : decode cL_law 497 = .ok (.invokevirtual 72, 3) := by decide +kernel
theorem dL_law_500 : decode cL_law 500 = .ok (.aload_n 2, 1) := by decide +kernel
theorem dL_law_501 : decode cL_law 501 = .ok (.invokevirtual 75, 3) := by decide +kernel
theorem dL_law_504 : decode cL_law 504 = .ok (.if_icmp .eq 634, 3) := by decide +kernel
theorem dL_law_507 : decode cL_law 507 = .ok (.iconst 0, 1) := by decide +kernel
theorem dL_law_508 : decode cL_law 508 = .ok (.ireturn, 1) := by decide +kernel
theorem dL_law_509 : decode cL_law 509 = .ok (.aload_n 1, 1) := by decide +kernel
theorem dL_law_510 : decode cL_law 510 = .ok (.aload_n 0, 1) := by decide +kernel
theorem dL_law_511 : decode cL_law 511 = .ok (.iload_n 3, 1) := by decide +kernel
theorem dL_law_512 : decode cL_law 512 = .ok (.iconst 1, 1) := by decide +kernel
theorem dL_law_513 : decode cL_law 513 = .ok (.iadd, 1) := by decide +kernel
theorem dL_law_514 : decode cL_law 514 = .ok (.iaload, 1) := by decide +kernel
theorem dL_law_515 : decode cL_law 515 = .ok (.invokevirtual 76, 3) := by decide +kernel
theorem dL_law_518 : decode cL_law 518 = .ok (.aload_n 2, 1) := by decide +kernel
theorem dL_law_519 : decode cL_law 519 = .ok (.aload_n 0, 1) := by decide +kernel
theorem dL_law_520 : decode cL_law 520 = .ok (.iload_n 3, 1) := by decide +kernel
theorem dL_law_521 : decode cL_law 521 = .ok (.iconst 1, 1) := by decide +kernel
theorem dL_law_522 : decode cL_law 522 = .ok (.iadd, 1) := by decide +kernel
theorem dL_law_523 : decode cL_law 523 = .ok (.iaload, 1) := by decide +kernel
theorem dL_law_524 : decode cL_law 524 = .ok (.invokevirtual 79, 3) := by decide +kernel
theorem dL_law_527 : decode cL_law 527 = .ok (.if_icmp .eq 611, 3) := by decide +kernel
theorem dL_law_530 : decode cL_law 530 = .ok (.iconst 0, 1) := by decide +kernel
theorem dL_law_531 : decode cL_law 531 = .ok (.ireturn, 1) := by decide +kernel
theorem dL_law_532 : decode cL_law 532 = .ok (.aload_n 1, 1) := by decide +kernel
theorem dL_law_533 : decode cL_law 533 = .ok (.aload_n 0, 1) := by decide +kernel
theorem dL_law_534 : decode cL_law 534 = .ok (.iload_n 3, 1) := by decide +kernel
theorem dL_law_535 : decode cL_law 535 = .ok (.iconst 1, 1) := by decide +kernel
theorem dL_law_536 : decode cL_law 536 = .ok (.iadd, 1) := by decide +kernel
theorem dL_law_537 : decode cL_law 537 = .ok (.iaload, 1) := by decide +kernel
theorem dL_law_538 : decode cL_law 538 = .ok (.invokevirtual 80, 3) := by decide +kernel
theorem dL_law_541 : decode cL_law 541 = .ok (.aload_n 2, 1) := by decide +kernel
theorem dL_law_542 : decode cL_law 542 = .ok (.aload_n 0, 1) := by decide +kernel
theorem dL_law_543 : decode cL_law 543 = .ok (.iload_n 3, 1) := by decide +kernel
theorem dL_law_544 : decode cL_law 544 = .ok (.iconst 1, 1) := by decide +kernel
theorem dL_law_545 : decode cL_law 545 = .ok (.iadd, 1) := by decide +kernel
theorem dL_law_546 : decode cL_law 546 = .ok (.iaload, 1) := by decide +kernel
theorem dL_law_547 : decode cL_law 547 = .ok (.invokevirtual 83, 3) := by decide +kernel
theorem dL_law_550 : decode cL_law 550 = .ok (.if_icmp .eq 588, 3) := by decide +kernel
theorem dL_law_553 : decode cL_law 553 = .ok (.iconst 0, 1) := by decide +kernel
theorem dL_law_554 : decode cL_law 554 = .ok (.ireturn, 1) := by decide +kernel
theorem dL_law_555 : decode cL_law 555 = .ok (.aload_n 1, 1) := by decide +kernel
theorem dL_law_556 : decode cL_law 556 = .ok (.aload_n 0, 1) := by decide +kernel
theorem dL_law_557 : decode cL_law 557 = .ok (.iload_n 3, 1) := by decide +kernel
theorem dL_law_558 : decode cL_law 558 = .ok (.iconst 1, 1) := by decide +kernel
theorem dL_law_559 : decode cL_law 559 = .ok (.iadd, 1) := by decide +kernel
theorem dL_law_560 : decode cL_law 560 = .ok (.iaload, 1) := by decide +kernel
theorem dL_law_561 : decode cL_law 561 = .ok (.invokevirtual 84, 3) := by decide +kernel
theorem dL_law_564 : decode cL_law 564 = .ok (.aload_n 2, 1) := by decide +kernel
theorem dL_law_565 : decode cL_law 565 = .ok (.aload_n 0, 1) := by decide +kernel
theorem dL_law_566 : decode cL_law 566 = .ok (.iload_n 3, 1) := by decide +kernel
theorem dL_law_567 : decode cL_law 567 = .ok (.iconst 1, 1) := by decide +kernel
theorem dL_law_568 : decode cL_law 568 = .ok (.iadd, 1) := by decide +kernel
theorem dL_law_569 : decode cL_law 569 = .ok (.iaload, 1) := by decide +kernel
theorem dL_law_570 : decode cL_law 570 = .ok (.invokevirtual 87, 3) := by decide +kernel
theorem dL_law_573 : decode cL_law 573 = .ok (.if_icmp .eq 565, 3) := by decide +kernel
theorem dL_law_576 : decode cL_law 576 = .ok (.iconst 0, 1) := by decide +kernel
theorem dL_law_577 : decode cL_law 577 = .ok (.ireturn, 1) := by decide +kernel
theorem dL_law_578 : decode cL_law 578 = .ok (.aload_n 1, 1) := by decide +kernel
theorem dL_law_579 : decode cL_law 579 = .ok (.aload_n 0, 1) := by decide +kernel
theorem dL_law_580 : decode cL_law 580 = .ok (.iload_n 3, 1) := by decide +kernel
theorem dL_law_581 : decode cL_law 581 = .ok (.iconst 1, 1) := by decide +kernel
theorem dL_law_582 : decode cL_law 582 = .ok (.iadd, 1) := by decide +kernel
theorem dL_law_583 : decode cL_law 583 = .ok (.iaload, 1) := by decide +kernel
theorem dL_law_584 : decode cL_law 584 = .ok (.invokevirtual 88, 3) := by decide +kernel
theorem dL_law_587 : decode cL_law 587 = .ok (.aload_n 2, 1) := by decide +kernel
theorem dL_law_588 : decode cL_law 588 = .ok (.aload_n 0, 1) := by decide +kernel
theorem dL_law_589 : decode cL_law 589 = .ok (.iload_n 3, 1) := by decide +kernel
theorem dL_law_590 : decode cL_law 590 = .ok (.iconst 1, 1) := by decide +kernel
theorem dL_law_591 : decode cL_law 591 = .ok (.iadd, 1) := by decide +kernel
theorem dL_law_592 : decode cL_law 592 = .ok (.iaload, 1) := by decide +kernel
theorem dL_law_593 : decode cL_law 593 = .ok (.invokevirtual 92, 3) := by decide +kernel
theorem dL_law_596 : decode cL_law 596 = .ok (.lcmp, 1) := by decide +kernel
theorem dL_law_597 : decode cL_law 597 = .ok (.ifCond .eq 541, 3) := by decide +kernel
theorem dL_law_600 : decode cL_law 600 = .ok (.iconst 0, 1) := by decide +kernel
theorem dL_law_601 : decode cL_law 601 = .ok (.ireturn, 1) := by decide +kernel
theorem dL_law_602 : decode cL_law 602 = .ok (.aload_n 1, 1) := by decide +kernel
theorem dL_law_603 : decode cL_law 603 = .ok (.aload_n 0, 1) := by decide +kernel
theorem dL_law_604 : decode cL_law 604 = .ok (.iload_n 3, 1) := by decide +kernel
theorem dL_law_605 : decode cL_law 605 = .ok (.iconst 1, 1) := by decide +kernel
theorem dL_law_606 : decode cL_law 606 = .ok (.iadd, 1) := by decide +kernel
theorem dL_law_607 : decode cL_law 607 = .ok (.iaload, 1) := by decide +kernel
theorem dL_law_608 : decode cL_law 608 = .ok (.aload_n 0, 1) := by decide +kernel
theorem dL_law_609 : decode cL_law 609 = .ok (.iload_n 3, 1) := by decide +kernel
theorem dL_law_610 : decode cL_law 610 = .ok (.iconst 2, 1) := by decide +kernel
theorem dL_law_611 : decode cL_law 611 = .ok (.iadd, 1) := by decide +kernel
theorem dL_law_612 : decode cL_law 612 = .ok (.iaload, 1) := by decide +kernel
theorem dL_law_613 : decode cL_law 613 = .ok (.invokevirtual 93, 3) := by decide +kernel
theorem dL_law_616 : decode cL_law 616 = .ok (.aload_n 2, 1) := by decide +kernel
theorem dL_law_617 : decode cL_law 617 = .ok (.aload_n 0, 1) := by decide +kernel
theorem dL_law_618 : decode cL_law 618 = .ok (.iload_n 3, 1) := by decide +kernel
theorem dL_law_619 : decode cL_law 619 = .ok (.iconst 1, 1) := by decide +kernel
theorem dL_law_620 : decode cL_law 620 = .ok (.iadd, 1) := by decide +kernel
theorem dL_law_621 : decode cL_law 621 = .ok (.iaload, 1) := by decide +kernel
theorem dL_law_622 : decode cL_law 622 = .ok (.aload_n 0, 1) := by decide +kernel
theorem dL_law_623 : decode cL_law 623 = .ok (.iload_n 3, 1) := by decide +kernel
theorem dL_law_624 : decode cL_law 624 = .ok (.iconst 2, 1) := by decide +kernel
theorem dL_law_625 : decode cL_law 625 = .ok (.iadd, 1) := by decide +kernel
theorem dL_law_626 : decode cL_law 626 = .ok (.iaload, 1) := by decide +kernel
theorem dL_law_627 : decode cL_law 627 = .ok (.invokevirtual 96, 3) := by decide +kernel
theorem dL_law_630 : decode cL_law 630 = .ok (.if_icmp .eq 508, 3) := by decide +kernel
theorem dL_law_633 : decode cL_law 633 = .ok (.iconst 0, 1) := by decide +kernel
theorem dL_law_634 : decode cL_law 634 = .ok (.ireturn, 1) := by decide +kernel
theorem dL_law_635 : decode cL_law 635 = .ok (.aload_n 1, 1) := by decide +kernel
theorem dL_law_636 : decode cL_law 636 = .ok (.aload_n 0, 1) := by decide +kernel
theorem dL_law_637 : decode cL_law 637 = .ok (.iload_n 3, 1) := by decide +kernel
theorem dL_law_638 : decode cL_law 638 = .ok (.iconst 1, 1) := by decide +kernel
theorem dL_law_639 : decode cL_law 639 = .ok (.iadd, 1) := by decide +kernel
theorem dL_law_640 : decode cL_law 640 = .ok (.iaload, 1) := by decide +kernel
theorem dL_law_641 : decode cL_law 641 = .ok (.aload_n 0, 1) := by decide +kernel
theorem dL_law_642 : decode cL_law 642 = .ok (.iload_n 3, 1) := by decide +kernel
theorem dL_law_643 : decode cL_law 643 = .ok (.iconst 2, 1) := by decide +kernel
theorem dL_law_644 : decode cL_law 644 = .ok (.iadd, 1) := by decide +kernel
theorem dL_law_645 : decode cL_law 645 = .ok (.iaload, 1) := by decide +kernel
theorem dL_law_646 : decode cL_law 646 = .ok (.invokevirtual 97, 3) := by decide +kernel
theorem dL_law_649 : decode cL_law 649 = .ok (.aload_n 2, 1) := by decide +kernel
theorem dL_law_650 : decode cL_law 650 = .ok (.aload_n 0, 1) := by decide +kernel
theorem dL_law_651 : decode cL_law 651 = .ok (.iload_n 3, 1) := by decide +kernel
theorem dL_law_652 : decode cL_law 652 = .ok (.iconst 1, 1) := by decide +kernel
theorem dL_law_653 : decode cL_law 653 = .ok (.iadd, 1) := by decide +kernel
theorem dL_law_654 : decode cL_law 654 = .ok (.iaload, 1) := by decide +kernel
theorem dL_law_655 : decode cL_law 655 = .ok (.aload_n 0, 1) := by decide +kernel
theorem dL_law_656 : decode cL_law 656 = .ok (.iload_n 3, 1) := by decide +kernel
theorem dL_law_657 : decode cL_law 657 = .ok (.iconst 2, 1) := by decide +kernel
theorem dL_law_658 : decode cL_law 658 = .ok (.iadd, 1) := by decide +kernel
theorem dL_law_659 : decode cL_law 659 = .ok (.iaload, 1) := by decide +kernel
theorem dL_law_660 : decode cL_law 660 = .ok (.invokevirtual 100, 3) := by decide +kernel
theorem dL_law_663 : decode cL_law 663 = .ok (.if_icmp .eq 475, 3) := by decide +kernel
theorem dL_law_666 : decode cL_law 666 = .ok (.iconst 0, 1) := by decide +kernel
theorem dL_law_667 : decode cL_law 667 = .ok (.ireturn, 1) := by decide +kernel
theorem dL_law_668 : decode cL_law 668 = .ok (.aload_n 1, 1) := by decide +kernel
theorem dL_law_669 : decode cL_law 669 = .ok (.aload_n 0, 1) := by decide +kernel
theorem dL_law_670 : decode cL_law 670 = .ok (.iload_n 3, 1) := by decide +kernel
theorem dL_law_671 : decode cL_law 671 = .ok (.iconst 1, 1) := by decide +kernel
theorem dL_law_672 : decode cL_law 672 = .ok (.iadd, 1) := by decide +kernel
theorem dL_law_673 : decode cL_law 673 = .ok (.iaload, 1) := by decide +kernel
theorem dL_law_674 : decode cL_law 674 = .ok (.invokevirtual 101, 3) := by decide +kernel
theorem dL_law_677 : decode cL_law 677 = .ok (.aload_n 2, 1) := by decide +kernel
theorem dL_law_678 : decode cL_law 678 = .ok (.aload_n 0, 1) := by decide +kernel
theorem dL_law_679 : decode cL_law 679 = .ok (.iload_n 3, 1) := by decide +kernel
theorem dL_law_680 : decode cL_law 680 = .ok (.iconst 1, 1) := by decide +kernel
theorem dL_law_681 : decode cL_law 681 = .ok (.iadd, 1) := by decide +kernel
theorem dL_law_682 : decode cL_law 682 = .ok (.iaload, 1) := by decide +kernel
theorem dL_law_683 : decode cL_law 683 = .ok (.invokevirtual 104, 3) := by decide +kernel
theorem dL_law_686 : decode cL_law 686 = .ok (.if_icmp .eq 452, 3) := by decide +kernel
theorem dL_law_689 : decode cL_law 689 = .ok (.iconst 0, 1) := by decide +kernel
theorem dL_law_690 : decode cL_law 690 = .ok (.ireturn, 1) := by decide +kernel
theorem dL_law_691 : decode cL_law 691 = .ok (.aload_n 1, 1) := by decide +kernel
theorem dL_law_692 : decode cL_law 692 = .ok (.aload_n 0, 1) := by decide +kernel
theorem dL_law_693 : decode cL_law 693 = .ok (.iload_n 3, 1) := by decide +kernel
theorem dL_law_694 : decode cL_law 694 = .ok (.iconst 1, 1) := by decide +kernel
theorem dL_law_695 : decode cL_law 695 = .ok (.iadd, 1) := by decide +kernel
theorem dL_law_696 : decode cL_law 696 = .ok (.iaload, 1) := by decide +kernel
theorem dL_law_697 : decode cL_law 697 = .ok (.invokevirtual 105, 3) := by decide +kernel
theorem dL_law_700 : decode cL_law 700 = .ok (.aload_n 2, 1) := by decide +kernel
theorem dL_law_701 : decode cL_law 701 = .ok (.aload_n 0, 1) := by decide +kernel
theorem dL_law_702 : decode cL_law 702 = .ok (.iload_n 3, 1) := by decide +kernel
theorem dL_law_703 : decode cL_law 703 = .ok (.iconst 1, 1) := by decide +kernel
theorem dL_law_704 : decode cL_law 704 = .ok (.iadd, 1) := by decide +kernel
theorem dL_law_705 : decode cL_law 705 = .ok (.iaload, 1) := by decide +kernel
theorem dL_law_706 : decode cL_law 706 = .ok (.invokevirtual 108, 3) := by decide +kernel
theorem dL_law_709 : decode cL_law 709 = .ok (.if_icmp .eq 429, 3) := by decide +kernel
theorem dL_law_712 : decode cL_law 712 = .ok (.iconst 0, 1) := by decide +kernel
theorem dL_law_713 : decode cL_law 713 = .ok (.ireturn, 1) := by decide +kernel
theorem dL_law_714 : decode cL_law 714 = .ok (.aload_n 1, 1) := by decide +kernel
theorem dL_law_715 : decode cL_law 715 = .ok (.aload_n 0, 1) := by decide +kernel
theorem dL_law_716 : decode cL_law 716 = .ok (.iload_n 3, 1) := by decide +kernel
theorem dL_law_717 : decode cL_law 717 = .ok (.iconst 1, 1) := by decide +kernel
theorem dL_law_718 : decode cL_law 718 = .ok (.iadd, 1) := by decide +kernel
theorem dL_law_719 : decode cL_law 719 = .ok (.iaload, 1) := by decide +kernel
theorem dL_law_720 : decode cL_law 720 = .ok (.invokevirtual 109, 3) := by decide +kernel
theorem dL_law_723 : decode cL_law 723 = .ok (.aload_n 2, 1) := by decide +kernel
theorem dL_law_724 : decode cL_law 724 = .ok (.aload_n 0, 1) := by decide +kernel
theorem dL_law_725 : decode cL_law 725 = .ok (.iload_n 3, 1) := by decide +kernel
theorem dL_law_726 : decode cL_law 726 = .ok (.iconst 1, 1) := by decide +kernel
theorem dL_law_727 : decode cL_law 727 = .ok (.iadd, 1) := by decide +kernel
theorem dL_law_728 : decode cL_law 728 = .ok (.iaload, 1) := by decide +kernel
theorem dL_law_729 : decode cL_law 729 = .ok (.invokevirtual 112, 3) := by decide +kernel
theorem dL_law_732 : decode cL_law 732 = .ok (.if_icmp .eq 406, 3) := by decide +kernel
theorem dL_law_735 : decode cL_law 735 = .ok (.iconst 0, 1) := by decide +kernel
theorem dL_law_736 : decode cL_law 736 = .ok (.ireturn, 1) := by decide +kernel
theorem dL_law_737 : decode cL_law 737 = .ok (.aload_n 1, 1) := by decide +kernel
theorem dL_law_738 : decode cL_law 738 = .ok (.aload_n 0, 1) := by decide +kernel
theorem dL_law_739 : decode cL_law 739 = .ok (.iload_n 3, 1) := by decide +kernel
theorem dL_law_740 : decode cL_law 740 = .ok (.iconst 1, 1) := by decide +kernel
theorem dL_law_741 : decode cL_law 741 = .ok (.iadd, 1) := by decide +kernel
theorem dL_law_742 : decode cL_law 742 = .ok (.iaload, 1) := by decide +kernel
theorem dL_law_743 : decode cL_law 743 = .ok (.aload_n 0, 1) := by decide +kernel
theorem dL_law_744 : decode cL_law 744 = .ok (.iload_n 3, 1) := by decide +kernel
theorem dL_law_745 : decode cL_law 745 = .ok (.iconst 2, 1) := by decide +kernel
theorem dL_law_746 : decode cL_law 746 = .ok (.iadd, 1) := by decide +kernel
theorem dL_law_747 : decode cL_law 747 = .ok (.iaload, 1) := by decide +kernel
theorem dL_law_748 : decode cL_law 748 = .ok (.invokevirtual 113, 3) := by decide +kernel
theorem dL_law_751 : decode cL_law 751 = .ok (.aload_n 2, 1) := by decide +kernel
theorem dL_law_752 : decode cL_law 752 = .ok (.aload_n 0, 1) := by decide +kernel
theorem dL_law_753 : decode cL_law 753 = .ok (.iload_n 3, 1) := by decide +kernel
theorem dL_law_754 : decode cL_law 754 = .ok (.iconst 1, 1) := by decide +kernel
theorem dL_law_755 : decode cL_law 755 = .ok (.iadd, 1) := by decide +kernel
theorem dL_law_756 : decode cL_law 756 = .ok (.iaload, 1) := by decide +kernel
theorem dL_law_757 : decode cL_law 757 = .ok (.aload_n 0, 1) := by decide +kernel
theorem dL_law_758 : decode cL_law 758 = .ok (.iload_n 3, 1) := by decide +kernel
theorem dL_law_759 : decode cL_law 759 = .ok (.iconst 2, 1) := by decide +kernel
theorem dL_law_760 : decode cL_law 760 = .ok (.iadd, 1) := by decide +kernel
theorem dL_law_761 : decode cL_law 761 = .ok (.iaload, 1) := by decide +kernel
theorem dL_law_762 : decode cL_law 762 = .ok (.invokevirtual 117, 3) := by decide +kernel
theorem dL_law_765 : decode cL_law 765 = .ok (.lcmp, 1) := by decide +kernel
theorem dL_law_766 : decode cL_law 766 = .ok (.ifCond .eq 372, 3) := by decide +kernel
theorem dL_law_769 : decode cL_law 769 = .ok (.iconst 0, 1) := by decide +kernel
theorem dL_law_770 : decode cL_law 770 = .ok (.ireturn, 1) := by decide +kernel
theorem dL_law_771 : decode cL_law 771 = .ok (.aload_n 1, 1) := by decide +kernel
theorem dL_law_772 : decode cL_law 772 = .ok (.invokevirtual 118, 3) := by decide +kernel
theorem dL_law_775 : decode cL_law 775 = .ok (.aload_n 2, 1) := by decide +kernel
theorem dL_law_776 : decode cL_law 776 = .ok (.invokevirtual 121, 3) := by decide +kernel
theorem dL_law_779 : decode cL_law 779 = .ok (.if_icmp .eq 359, 3) := by decide +kernel
theorem dL_law_782 : decode cL_law 782 = .ok (.iconst 0, 1) := by decide +kernel
theorem dL_law_783 : decode cL_law 783 = .ok (.ireturn, 1) := by decide +kernel
theorem dL_law_784 : decode cL_law 784 = .ok (.aload_n 1, 1) := by decide +kernel
theorem dL_law_785 : decode cL_law 785 = .ok (.invokevirtual 122, 3) := by decide +kernel
theorem dL_law_788 : decode cL_law 788 = .ok (.aload_n 2, 1) := by decide +kernel
theorem dL_law_789 : decode cL_law 789 = .ok (.invokevirtual 125, 3) := by decide +kernel
theorem dL_law_792 : decode cL_law 792 = .ok (.if_icmp .eq 346, 3) := by decide +kernel
theorem dL_law_795 : decode cL_law 795 = .ok (.iconst 0, 1) := by decide +kernel
theorem dL_law_796 : decode cL_law 796 = .ok (.ireturn, 1) := by decide +kernel
theorem dL_law_797 : decode cL_law 797 = .ok (.aload_n 1, 1) := by decide +kernel
theorem dL_law_798 : decode cL_law 798 = .ok (.aload_n 0, 1) := by decide +kernel
theorem dL_law_799 : decode cL_law 799 = .ok (.iload_n 3, 1) := by decide +kernel
theorem dL_law_800 : decode cL_law 800 = .ok (.iconst 1, 1) := by decide +kernel
theorem dL_law_801 : decode cL_law 801 = .ok (.iadd, 1) := by decide +kernel
theorem dL_law_802 : decode cL_law 802 = .ok (.iaload, 1) := by decide +kernel
theorem dL_law_803 : decode cL_law 803 = .ok (.aload_n 0, 1) := by decide +kernel
theorem dL_law_804 : decode cL_law 804 = .ok (.iload_n 3, 1) := by decide +kernel
theorem dL_law_805 : decode cL_law 805 = .ok (.iconst 2, 1) := by decide +kernel
theorem dL_law_806 : decode cL_law 806 = .ok (.iadd, 1) := by decide +kernel
theorem dL_law_807 : decode cL_law 807 = .ok (.iaload, 1) := by decide +kernel
theorem dL_law_808 : decode cL_law 808 = .ok (.aload_n 0, 1) := by decide +kernel
theorem dL_law_809 : decode cL_law 809 = .ok (.iload_n 3, 1) := by decide +kernel
theorem dL_law_810 : decode cL_law 810 = .ok (.iconst 3, 1) := by decide +kernel
theorem dL_law_811 : decode cL_law 811 = .ok (.iadd, 1) := by decide +kernel
theorem dL_law_812 : decode cL_law 812 = .ok (.iaload, 1) := by decide +kernel
theorem dL_law_813 : decode cL_law 813 = .ok (.invokevirtual 126, 3) := by decide +kernel
theorem dL_law_816 : decode cL_law 816 = .ok (.aload_n 2, 1) := by decide +kernel
theorem dL_law_817 : decode cL_law 817 = .ok (.aload_n 0, 1) := by decide +kernel
theorem dL_law_818 : decode cL_law 818 = .ok (.iload_n 3, 1) := by decide +kernel
theorem dL_law_819 : decode cL_law 819 = .ok (.iconst 1, 1) := by decide +kernel
theorem dL_law_820 : decode cL_law 820 = .ok (.iadd, 1) := by decide +kernel
theorem dL_law_821 : decode cL_law 821 = .ok (.iaload, 1) := by decide +kernel
theorem dL_law_822 : decode cL_law 822 = .ok (.aload_n 0, 1) := by decide +kernel
theorem dL_law_823 : decode cL_law 823 = .ok (.iload_n 3, 1) := by decide +kernel
theorem dL_law_824 : decode cL_law 824 = .ok (.iconst 2, 1) := by decide +kernel
theorem dL_law_825 : decode cL_law 825 = .ok (.iadd, 1) := by decide +kernel
theorem dL_law_826 : decode cL_law 826 = .ok (.iaload, 1) := by decide +kernel
theorem dL_law_827 : decode cL_law 827 = .ok (.aload_n 0, 1) := by decide +kernel
theorem dL_law_828 : decode cL_law 828 = .ok (.iload_n 3, 1) := by decide +kernel
theorem dL_law_829 : decode cL_law 829 = .ok (.iconst 3, 1) := by decide +kernel
theorem dL_law_830 : decode cL_law 830 = .ok (.iadd, 1) := by decide +kernel
theorem dL_law_831 : decode cL_law 831 = .ok (.iaload, 1) := by decide +kernel
theorem dL_law_832 : decode cL_law 832 = .ok (.invokevirtual 130, 3) := by decide +kernel
theorem dL_law_835 : decode cL_law 835 = .ok (.if_icmp .eq 303, 3) := by decide +kernel
theorem dL_law_838 : decode cL_law 838 = .ok (.iconst 0, 1) := by decide +kernel
theorem dL_law_839 : decode cL_law 839 = .ok (.ireturn, 1) := by decide +kernel
theorem dL_law_840 : decode cL_law 840 = .ok (.aload_n 1, 1) := by decide +kernel
theorem dL_law_841 : decode cL_law 841 = .ok (.aload_n 0, 1) := by decide +kernel
theorem dL_law_842 : decode cL_law 842 = .ok (.iload_n 3, 1) := by decide +kernel
theorem dL_law_843 : decode cL_law 843 = .ok (.iconst 1, 1) := by decide +kernel
theorem dL_law_844 : decode cL_law 844 = .ok (.iadd, 1) := by decide +kernel
theorem dL_law_845 : decode cL_law 845 = .ok (.iaload, 1) := by decide +kernel
theorem dL_law_846 : decode cL_law 846 = .ok (.aload_n 0, 1) := by decide +kernel
theorem dL_law_847 : decode cL_law 847 = .ok (.iload_n 3, 1) := by decide +kernel
theorem dL_law_848 : decode cL_law 848 = .ok (.iconst 2, 1) := by decide +kernel
theorem dL_law_849 : decode cL_law 849 = .ok (.iadd, 1) := by decide +kernel
theorem dL_law_850 : decode cL_law 850 = .ok (.iaload, 1) := by decide +kernel
theorem dL_law_851 : decode cL_law 851 = .ok (.aload_n 0, 1) := by decide +kernel
theorem dL_law_852 : decode cL_law 852 = .ok (.iload_n 3, 1) := by decide +kernel
theorem dL_law_853 : decode cL_law 853 = .ok (.iconst 3, 1) := by decide +kernel
theorem dL_law_854 : decode cL_law 854 = .ok (.iadd, 1) := by decide +kernel
theorem dL_law_855 : decode cL_law 855 = .ok (.iaload, 1) := by decide +kernel
theorem dL_law_856 : decode cL_law 856 = .ok (.invokevirtual 131, 3) := by decide +kernel
theorem dL_law_859 : decode cL_law 859 = .ok (.aload_n 2, 1) := by decide +kernel
theorem dL_law_860 : decode cL_law 860 = .ok (.aload_n 0, 1) := by decide +kernel
theorem dL_law_861 : decode cL_law 861 = .ok (.iload_n 3, 1) := by decide +kernel
theorem dL_law_862 : decode cL_law 862 = .ok (.iconst 1, 1) := by decide +kernel
theorem dL_law_863 : decode cL_law 863 = .ok (.iadd, 1) := by decide +kernel
theorem dL_law_864 : decode cL_law 864 = .ok (.iaload, 1) := by decide +kernel
theorem dL_law_865 : decode cL_law 865 = .ok (.aload_n 0, 1) := by decide +kernel
theorem dL_law_866 : decode cL_law 866 = .ok (.iload_n 3, 1) := by decide +kernel
theorem dL_law_867 : decode cL_law 867 = .ok (.iconst 2, 1) := by decide +kernel
theorem dL_law_868 : decode cL_law 868 = .ok (.iadd, 1) := by decide +kernel
theorem dL_law_869 : decode cL_law 869 = .ok (.iaload, 1) := by decide +kernel
theorem dL_law_870 : decode cL_law 870 = .ok (.aload_n 0, 1) := by decide +kernel
theorem dL_law_871 : decode cL_law 871 = .ok (.iload_n 3, 1) := by decide +kernel
theorem dL_law_872 : decode cL_law 872 = .ok (.iconst 3, 1) := by decide +kernel
theorem dL_law_873 : decode cL_law 873 = .ok (.iadd, 1) := by decide +kernel
theorem dL_law_874 : decode cL_law 874 = .ok (.iaload, 1) := by decide +kernel
theorem dL_law_875 : decode cL_law 875 = .ok (.invokevirtual 134, 3) := by decide +kernel
theorem dL_law_878 : decode cL_law 878 = .ok (.if_icmp .eq 260, 3) := by decide +kernel
theorem dL_law_881 : decode cL_law 881 = .ok (.iconst 0, 1) := by decide +kernel
theorem dL_law_882 : decode cL_law 882 = .ok (.ireturn, 1) := by decide +kernel
theorem dL_law_883 : decode cL_law 883 = .ok (.aload_n 1, 1) := by decide +kernel
theorem dL_law_884 : decode cL_law 884 = .ok (.aload_n 0, 1) := by decide +kernel
theorem dL_law_885 : decode cL_law 885 = .ok (.iload_n 3, 1) := by decide +kernel
theorem dL_law_886 : decode cL_law 886 = .ok (.iconst 1, 1) := by decide +kernel
theorem dL_law_887 : decode cL_law 887 = .ok (.iadd, 1) := by decide +kernel
theorem dL_law_888 : decode cL_law 888 = .ok (.iaload, 1) := by decide +kernel
theorem dL_law_889 : decode cL_law 889 = .ok (.aload_n 0, 1) := by decide +kernel
theorem dL_law_890 : decode cL_law 890 = .ok (.iload_n 3, 1) := by decide +kernel
theorem dL_law_891 : decode cL_law 891 = .ok (.iconst 2, 1) := by decide +kernel
theorem dL_law_892 : decode cL_law 892 = .ok (.iadd, 1) := by decide +kernel
theorem dL_law_893 : decode cL_law 893 = .ok (.iaload, 1) := by decide +kernel
theorem dL_law_894 : decode cL_law 894 = .ok (.aload_n 0, 1) := by decide +kernel
theorem dL_law_895 : decode cL_law 895 = .ok (.iload_n 3, 1) := by decide +kernel
theorem dL_law_896 : decode cL_law 896 = .ok (.iconst 3, 1) := by decide +kernel
theorem dL_law_897 : decode cL_law 897 = .ok (.iadd, 1) := by decide +kernel
theorem dL_law_898 : decode cL_law 898 = .ok (.iaload, 1) := by decide +kernel
theorem dL_law_899 : decode cL_law 899 = .ok (.invokevirtual 135, 3) := by decide +kernel
theorem dL_law_902 : decode cL_law 902 = .ok (.aload_n 2, 1) := by decide +kernel
theorem dL_law_903 : decode cL_law 903 = .ok (.aload_n 0, 1) := by decide +kernel
theorem dL_law_904 : decode cL_law 904 = .ok (.iload_n 3, 1) := by decide +kernel
theorem dL_law_905 : decode cL_law 905 = .ok (.iconst 1, 1) := by decide +kernel
theorem dL_law_906 : decode cL_law 906 = .ok (.iadd, 1) := by decide +kernel
theorem dL_law_907 : decode cL_law 907 = .ok (.iaload, 1) := by decide +kernel
theorem dL_law_908 : decode cL_law 908 = .ok (.aload_n 0, 1) := by decide +kernel
theorem dL_law_909 : decode cL_law 909 = .ok (.iload_n 3, 1) := by decide +kernel
theorem dL_law_910 : decode cL_law 910 = .ok (.iconst 2, 1) := by decide +kernel
theorem dL_law_911 : decode cL_law 911 = .ok (.iadd, 1) := by decide +kernel
theorem dL_law_912 : decode cL_law 912 = .ok (.iaload, 1) := by decide +kernel
theorem dL_law_913 : decode cL_law 913 = .ok (.aload_n 0, 1) := by decide +kernel
theorem dL_law_914 : decode cL_law 914 = .ok (.iload_n 3, 1) := by decide +kernel
theorem dL_law_915 : decode cL_law 915 = .ok (.iconst 3, 1) := by decide +kernel
theorem dL_law_916 : decode cL_law 916 = .ok (.iadd, 1) := by decide +kernel
theorem dL_law_917 : decode cL_law 917 = .ok (.iaload, 1) := by decide +kernel
theorem dL_law_918 : decode cL_law 918 = .ok (.invokevirtual 138, 3) := by decide +kernel
theorem dL_law_921 : decode cL_law 921 = .ok (.if_icmp .eq 217, 3) := by decide +kernel
theorem dL_law_924 : decode cL_law 924 = .ok (.iconst 0, 1) := by decide +kernel
theorem dL_law_925 : decode cL_law 925 = .ok (.ireturn, 1) := by decide +kernel
theorem dL_law_926 : decode cL_law 926 = .ok (.aload_n 1, 1) := by decide +kernel
theorem dL_law_927 : decode cL_law 927 = .ok (.aload_n 0, 1) := by decide +kernel
theorem dL_law_928 : decode cL_law 928 = .ok (.iload_n 3, 1) := by decide +kernel
theorem dL_law_929 : decode cL_law 929 = .ok (.iconst 1, 1) := by decide +kernel
theorem dL_law_930 : decode cL_law 930 = .ok (.iadd, 1) := by decide +kernel
theorem dL_law_931 : decode cL_law 931 = .ok (.iaload, 1) := by decide +kernel
theorem dL_law_932 : decode cL_law 932 = .ok (.aload_n 0, 1) := by decide +kernel
theorem dL_law_933 : decode cL_law 933 = .ok (.iload_n 3, 1) := by decide +kernel
theorem dL_law_934 : decode cL_law 934 = .ok (.iconst 2, 1) := by decide +kernel
theorem dL_law_935 : decode cL_law 935 = .ok (.iadd, 1) := by decide +kernel
theorem dL_law_936 : decode cL_law 936 = .ok (.iaload, 1) := by decide +kernel
theorem dL_law_937 : decode cL_law 937 = .ok (.aload_n 0, 1) := by decide +kernel
theorem dL_law_938 : decode cL_law 938 = .ok (.iload_n 3, 1) := by decide +kernel
theorem dL_law_939 : decode cL_law 939 = .ok (.iconst 3, 1) := by decide +kernel
theorem dL_law_940 : decode cL_law 940 = .ok (.iadd, 1) := by decide +kernel
theorem dL_law_941 : decode cL_law 941 = .ok (.iaload, 1) := by decide +kernel
theorem dL_law_942 : decode cL_law 942 = .ok (.invokevirtual 139, 3) := by decide +kernel
theorem dL_law_945 : decode cL_law 945 = .ok (.aload_n 2, 1) := by decide +kernel
theorem dL_law_946 : decode cL_law 946 = .ok (.aload_n 0, 1) := by decide +kernel
theorem dL_law_947 : decode cL_law 947 = .ok (.iload_n 3, 1) := by decide +kernel
theorem dL_law_948 : decode cL_law 948 = .ok (.iconst 1, 1) := by decide +kernel
theorem dL_law_949 : decode cL_law 949 = .ok (.iadd, 1) := by decide +kernel
theorem dL_law_950 : decode cL_law 950 = .ok (.iaload, 1) := by decide +kernel
theorem dL_law_951 : decode cL_law 951 = .ok (.aload_n 0, 1) := by decide +kernel
theorem dL_law_952 : decode cL_law 952 = .ok (.iload_n 3, 1) := by decide +kernel
theorem dL_law_953 : decode cL_law 953 = .ok (.iconst 2, 1) := by decide +kernel
theorem dL_law_954 : decode cL_law 954 = .ok (.iadd, 1) := by decide +kernel
theorem dL_law_955 : decode cL_law 955 = .ok (.iaload, 1) := by decide +kernel
theorem dL_law_956 : decode cL_law 956 = .ok (.aload_n 0, 1) := by decide +kernel
theorem dL_law_957 : decode cL_law 957 = .ok (.iload_n 3, 1) := by decide +kernel
theorem dL_law_958 : decode cL_law 958 = .ok (.iconst 3, 1) := by decide +kernel
theorem dL_law_959 : decode cL_law 959 = .ok (.iadd, 1) := by decide +kernel
theorem dL_law_960 : decode cL_law 960 = .ok (.iaload, 1) := by decide +kernel
theorem dL_law_961 : decode cL_law 961 = .ok (.invokevirtual 142, 3) := by decide +kernel
theorem dL_law_964 : decode cL_law 964 = .ok (.if_icmp .eq 174, 3) := by decide +kernel
theorem dL_law_967 : decode cL_law 967 = .ok (.iconst 0, 1) := by decide +kernel
theorem dL_law_968 : decode cL_law 968 = .ok (.ireturn, 1) := by decide +kernel
theorem dL_law_969 : decode cL_law 969 = .ok (.aload_n 1, 1) := by decide +kernel
theorem dL_law_970 : decode cL_law 970 = .ok (.aload_n 0, 1) := by decide +kernel
theorem dL_law_971 : decode cL_law 971 = .ok (.iload_n 3, 1) := by decide +kernel
theorem dL_law_972 : decode cL_law 972 = .ok (.iconst 1, 1) := by decide +kernel
theorem dL_law_973 : decode cL_law 973 = .ok (.iadd, 1) := by decide +kernel
theorem dL_law_974 : decode cL_law 974 = .ok (.iaload, 1) := by decide +kernel
theorem dL_law_975 : decode cL_law 975 = .ok (.invokevirtual 143, 3) := by decide +kernel
theorem dL_law_978 : decode cL_law 978 = .ok (.aload_n 2, 1) := by decide +kernel
theorem dL_law_979 : decode cL_law 979 = .ok (.aload_n 0, 1) := by decide +kernel
theorem dL_law_980 : decode cL_law 980 = .ok (.iload_n 3, 1) := by decide +kernel
theorem dL_law_981 : decode cL_law 981 = .ok (.iconst 1, 1) := by decide +kernel
theorem dL_law_982 : decode cL_law 982 = .ok (.iadd, 1) := by decide +kernel
theorem dL_law_983 : decode cL_law 983 = .ok (.iaload, 1) := by decide +kernel
theorem dL_law_984 : decode cL_law 984 = .ok (.invokevirtual 146, 3) := by decide +kernel
theorem dL_law_987 : decode cL_law 987 = .ok (.if_icmp .eq 151, 3) := by decide +kernel
theorem dL_law_990 : decode cL_law 990 = .ok (.iconst 0, 1) := by decide +kernel
theorem dL_law_991 : decode cL_law 991 = .ok (.ireturn, 1) := by decide +kernel
theorem dL_law_992 : decode cL_law 992 = .ok (.aload_n 1, 1) := by decide +kernel
theorem dL_law_993 : decode cL_law 993 = .ok (.aload_n 0, 1) := by decide +kernel
theorem dL_law_994 : decode cL_law 994 = .ok (.iload_n 3, 1) := by decide +kernel
theorem dL_law_995 : decode cL_law 995 = .ok (.iconst 1, 1) := by decide +kernel
theorem dL_law_996 : decode cL_law 996 = .ok (.iadd, 1) := by decide +kernel
theorem dL_law_997 : decode cL_law 997 = .ok (.iaload, 1) := by decide +kernel
theorem dL_law_998 : decode cL_law 998 = .ok (.aload_n 0, 1) := by decide +kernel
theorem dL_law_999 : decode cL_law 999 = .ok (.iload_n 3, 1) := by decide +kernel
theorem dL_law_1000 : decode cL_law 1000 = .ok (.iconst 2, 1) := by decide +kernel
theorem dL_law_1001 : decode cL_law 1001 = .ok (.iadd, 1) := by decide +kernel
theorem dL_law_1002 : decode cL_law 1002 = .ok (.iaload, 1) := by decide +kernel
theorem dL_law_1003 : decode cL_law 1003 = .ok (.aload_n 0, 1) := by decide +kernel
theorem dL_law_1004 : decode cL_law 1004 = .ok (.iload_n 3, 1) := by decide +kernel
theorem dL_law_1005 : decode cL_law 1005 = .ok (.iconst 3, 1) := by decide +kernel
theorem dL_law_1006 : decode cL_law 1006 = .ok (.iadd, 1) := by decide +kernel
theorem dL_law_1007 : decode cL_law 1007 = .ok (.iaload, 1) := by decide +kernel
theorem dL_law_1008 : decode cL_law 1008 = .ok (.aload_n 0, 1) := by decide +kernel
theorem dL_law_1009 : decode cL_law 1009 = .ok (.iload_n 3, 1) := by decide +kernel
theorem dL_law_1010 : decode cL_law 1010 = .ok (.iconst 4, 1) := by decide +kernel
theorem dL_law_1011 : decode cL_law 1011 = .ok (.iadd, 1) := by decide +kernel
theorem dL_law_1012 : decode cL_law 1012 = .ok (.iaload, 1) := by decide +kernel
theorem dL_law_1013 : decode cL_law 1013 = .ok (.i2l, 1) := by decide +kernel
theorem dL_law_1014 : decode cL_law 1014 = .ok (.bipush 32, 2) := by decide +kernel
theorem dL_law_1016 : decode cL_law 1016 = .ok (.lshl, 1) := by decide +kernel
theorem dL_law_1017 : decode cL_law 1017 = .ok (.aload_n 0, 1) := by decide +kernel
theorem dL_law_1018 : decode cL_law 1018 = .ok (.iload_n 3, 1) := by decide +kernel
theorem dL_law_1019 : decode cL_law 1019 = .ok (.iconst 5, 1) := by decide +kernel
theorem dL_law_1020 : decode cL_law 1020 = .ok (.iadd, 1) := by decide +kernel
theorem dL_law_1021 : decode cL_law 1021 = .ok (.iaload, 1) := by decide +kernel
theorem dL_law_1022 : decode cL_law 1022 = .ok (.i2l, 1) := by decide +kernel
theorem dL_law_1023 : decode cL_law 1023 = .ok (.ldc2_w 147, 3) := by decide +kernel
theorem dL_law_1026 : decode cL_law 1026 = .ok (.land, 1) := by decide +kernel
theorem dL_law_1027 : decode cL_law 1027 = .ok (.lor, 1) := by decide +kernel
theorem dL_law_1028 : decode cL_law 1028 = .ok (.invokevirtual 149, 3) := by decide +kernel
theorem dL_law_1031 : decode cL_law 1031 = .ok (.aload_n 2, 1) := by decide +kernel
theorem dL_law_1032 : decode cL_law 1032 = .ok (.aload_n 0, 1) := by decide +kernel
theorem dL_law_1033 : decode cL_law 1033 = .ok (.iload_n 3, 1) := by decide +kernel
theorem dL_law_1034 : decode cL_law 1034 = .ok (.iconst 1, 1) := by decide +kernel
theorem dL_law_1035 : decode cL_law 1035 = .ok (.iadd, 1) := by decide +kernel
theorem dL_law_1036 : decode cL_law 1036 = .ok (.iaload, 1) := by decide +kernel
theorem dL_law_1037 : decode cL_law 1037 = .ok (.aload_n 0, 1) := by decide +kernel
theorem dL_law_1038 : decode cL_law 1038 = .ok (.iload_n 3, 1) := by decide +kernel
theorem dL_law_1039 : decode cL_law 1039 = .ok (.iconst 2, 1) := by decide +kernel
theorem dL_law_1040 : decode cL_law 1040 = .ok (.iadd, 1) := by decide +kernel
theorem dL_law_1041 : decode cL_law 1041 = .ok (.iaload, 1) := by decide +kernel
theorem dL_law_1042 : decode cL_law 1042 = .ok (.aload_n 0, 1) := by decide +kernel
theorem dL_law_1043 : decode cL_law 1043 = .ok (.iload_n 3, 1) := by decide +kernel
theorem dL_law_1044 : decode cL_law 1044 = .ok (.iconst 3, 1) := by decide +kernel
theorem dL_law_1045 : decode cL_law 1045 = .ok (.iadd, 1) := by decide +kernel
theorem dL_law_1046 : decode cL_law 1046 = .ok (.iaload, 1) := by decide +kernel
theorem dL_law_1047 : decode cL_law 1047 = .ok (.aload_n 0, 1) := by decide +kernel
theorem dL_law_1048 : decode cL_law 1048 = .ok (.iload_n 3, 1) := by decide +kernel
theorem dL_law_1049 : decode cL_law 1049 = .ok (.iconst 4, 1) := by decide +kernel
theorem dL_law_1050 : decode cL_law 1050 = .ok (.iadd, 1) := by decide +kernel
theorem dL_law_1051 : decode cL_law 1051 = .ok (.iaload, 1) := by decide +kernel
theorem dL_law_1052 : decode cL_law 1052 = .ok (.i2l, 1) := by decide +kernel
theorem dL_law_1053 : decode cL_law 1053 = .ok (.bipush 32, 2) := by decide +kernel
theorem dL_law_1055 : decode cL_law 1055 = .ok (.lshl, 1) := by decide +kernel
theorem dL_law_1056 : decode cL_law 1056 = .ok (.aload_n 0, 1) := by decide +kernel
theorem dL_law_1057 : decode cL_law 1057 = .ok (.iload_n 3, 1) := by decide +kernel
theorem dL_law_1058 : decode cL_law 1058 = .ok (.iconst 5, 1) := by decide +kernel
theorem dL_law_1059 : decode cL_law 1059 = .ok (.iadd, 1) := by decide +kernel
theorem dL_law_1060 : decode cL_law 1060 = .ok (.iaload, 1) := by decide +kernel
theorem dL_law_1061 : decode cL_law 1061 = .ok (.i2l, 1) := by decide +kernel
theorem dL_law_1062 : decode cL_law 1062 = .ok (.ldc2_w 147, 3) := by decide +kernel
theorem dL_law_1065 : decode cL_law 1065 = .ok (.land, 1) := by decide +kernel
theorem dL_law_1066 : decode cL_law 1066 = .ok (.lor, 1) := by decide +kernel
theorem dL_law_1067 : decode cL_law 1067 = .ok (.invokevirtual 153, 3) := by decide +kernel
theorem dL_law_1070 : decode cL_law 1070 = .ok (.if_icmp .eq 68, 3) := by decide +kernel
theorem dL_law_1073 : decode cL_law 1073 = .ok (.iconst 0, 1) := by decide +kernel
theorem dL_law_1074 : decode cL_law 1074 = .ok (.ireturn, 1) := by decide +kernel
theorem dL_law_1075 : decode cL_law 1075 = .ok (.aload_n 1, 1) := by decide +kernel
theorem dL_law_1076 : decode cL_law 1076 = .ok (.aload_n 0, 1) := by decide +kernel
theorem dL_law_1077 : decode cL_law 1077 = .ok (.iload_n 3, 1) := by decide +kernel
theorem dL_law_1078 : decode cL_law 1078 = .ok (.iconst 1, 1) := by decide +kernel
theorem dL_law_1079 : decode cL_law 1079 = .ok (.iadd, 1) := by decide +kernel
theorem dL_law_1080 : decode cL_law 1080 = .ok (.iaload, 1) := by decide +kernel
theorem dL_law_1081 : decode cL_law 1081 = .ok (.aload_n 0, 1) := by decide +kernel
theorem dL_law_1082 : decode cL_law 1082 = .ok (.iload_n 3, 1) := by decide +kernel
theorem dL_law_1083 : decode cL_law 1083 = .ok (.iconst 2, 1) := by decide +kernel
theorem dL_law_1084 : decode cL_law 1084 = .ok (.iadd, 1) := by decide +kernel
theorem dL_law_1085 : decode cL_law 1085 = .ok (.iaload, 1) := by decide +kernel
theorem dL_law_1086 : decode cL_law 1086 = .ok (.aload_n 0, 1) := by decide +kernel
theorem dL_law_1087 : decode cL_law 1087 = .ok (.iload_n 3, 1) := by decide +kernel
theorem dL_law_1088 : decode cL_law 1088 = .ok (.iconst 3, 1) := by decide +kernel
theorem dL_law_1089 : decode cL_law 1089 = .ok (.iadd, 1) := by decide +kernel
theorem dL_law_1090 : decode cL_law 1090 = .ok (.iaload, 1) := by decide +kernel
theorem dL_law_1091 : decode cL_law 1091 = .ok (.aload_n 0, 1) := by decide +kernel
theorem dL_law_1092 : decode cL_law 1092 = .ok (.iload_n 3, 1) := by decide +kernel
theorem dL_law_1093 : decode cL_law 1093 = .ok (.iconst 4, 1) := by decide +kernel
theorem dL_law_1094 : decode cL_law 1094 = .ok (.iadd, 1) := by decide +kernel
theorem dL_law_1095 : decode cL_law 1095 = .ok (.iaload, 1) := by decide +kernel
theorem dL_law_1096 : decode cL_law 1096 = .ok (.aload_n 0, 1) := by decide +kernel
theorem dL_law_1097 : decode cL_law 1097 = .ok (.iload_n 3, 1) := by decide +kernel
theorem dL_law_1098 : decode cL_law 1098 = .ok (.iconst 5, 1) := by decide +kernel
theorem dL_law_1099 : decode cL_law 1099 = .ok (.iadd, 1) := by decide +kernel
theorem dL_law_1100 : decode cL_law 1100 = .ok (.iaload, 1) := by decide +kernel
theorem dL_law_1101 : decode cL_law 1101 = .ok (.invokevirtual 154, 3) := by decide +kernel
theorem dL_law_1104 : decode cL_law 1104 = .ok (.aload_n 2, 1) := by decide +kernel
theorem dL_law_1105 : decode cL_law 1105 = .ok (.aload_n 0, 1) := by decide +kernel
theorem dL_law_1106 : decode cL_law 1106 = .ok (.iload_n 3, 1) := by decide +kernel
theorem dL_law_1107 : decode cL_law 1107 = .ok (.iconst 1, 1) := by decide +kernel
theorem dL_law_1108 : decode cL_law 1108 = .ok (.iadd, 1) := by decide +kernel
theorem dL_law_1109 : decode cL_law 1109 = .ok (.iaload, 1) := by decide +kernel
theorem dL_law_1110 : decode cL_law 1110 = .ok (.aload_n 0, 1) := by decide +kernel
theorem dL_law_1111 : decode cL_law 1111 = .ok (.iload_n 3, 1) := by decide +kernel
theorem dL_law_1112 : decode cL_law 1112 = .ok (.iconst 2, 1) := by decide +kernel
theorem dL_law_1113 : decode cL_law 1113 = .ok (.iadd, 1) := by decide +kernel
theorem dL_law_1114 : decode cL_law 1114 = .ok (.iaload, 1) := by decide +kernel
theorem dL_law_1115 : decode cL_law 1115 = .ok (.aload_n 0, 1) := by decide +kernel
theorem dL_law_1116 : decode cL_law 1116 = .ok (.iload_n 3, 1) := by decide +kernel
theorem dL_law_1117 : decode cL_law 1117 = .ok (.iconst 3, 1) := by decide +kernel
theorem dL_law_1118 : decode cL_law 1118 = .ok (.iadd, 1) := by decide +kernel
theorem dL_law_1119 : decode cL_law 1119 = .ok (.iaload, 1) := by decide +kernel
theorem dL_law_1120 : decode cL_law 1120 = .ok (.aload_n 0, 1) := by decide +kernel
theorem dL_law_1121 : decode cL_law 1121 = .ok (.iload_n 3, 1) := by decide +kernel
theorem dL_law_1122 : decode cL_law 1122 = .ok (.iconst 4, 1) := by decide +kernel
theorem dL_law_1123 : decode cL_law 1123 = .ok (.iadd, 1) := by decide +kernel
theorem dL_law_1124 : decode cL_law 1124 = .ok (.iaload, 1) := by decide +kernel
theorem dL_law_1125 : decode cL_law 1125 = .ok (.aload_n 0, 1) := by decide +kernel
theorem dL_law_1126 : decode cL_law 1126 = .ok (.iload_n 3, 1) := by decide +kernel
theorem dL_law_1127 : decode cL_law 1127 = .ok (.iconst 5, 1) := by decide +kernel
theorem dL_law_1128 : decode cL_law 1128 = .ok (.iadd, 1) := by decide +kernel
theorem dL_law_1129 : decode cL_law 1129 = .ok (.iaload, 1) := by decide +kernel
theorem dL_law_1130 : decode cL_law 1130 = .ok (.invokevirtual 158, 3) := by decide +kernel
theorem dL_law_1133 : decode cL_law 1133 = .ok (.if_icmp .eq 5, 3) := by decide +kernel
theorem dL_law_1136 : decode cL_law 1136 = .ok (.iconst 0, 1) := by decide +kernel
theorem dL_law_1137 : decode cL_law 1137 = .ok (.ireturn, 1) := by decide +kernel
theorem dL_law_1138 : decode cL_law 1138 = .ok (.iinc 3 6, 3) := by decide +kernel
theorem dL_law_1141 : decode cL_law 1141 = .ok (.goto (-1123), 3) := by decide +kernel
theorem dL_law_1144 : decode cL_law 1144 = .ok (.iconst 1, 1) := by decide +kernel
theorem dL_law_1145 : decode cL_law 1145 = .ok (.ireturn, 1) := by decide +kernel
end
section
/-! ===== a machine of numbers: values, a store, what the heap holds of it ===== -/
abbrev fV : Type := Int ⊕ (Int ⊕ (Nat × Nat))
abbrev vi (z : Int) : fV := Sum.inl z
abbrev vl (z : Int) : fV := Sum.inr (Sum.inl z)
abbrev vr (k i : Nat) : fV := Sum.inr (Sum.inr (k, i))
/-- the store: by kind of cell, number of cell, slot -/
abbrev fM : Type := Nat → Nat → Nat → Int
/-- what is fixed: the launch, the tables, the addresses of the cells, those of arrays -/
abbrev fG : Type := Launch × va_G × (Nat → Nat → Nat) × (Nat → ClassId)
/-- a method: name, code, locals, answer, frames, words of locals that it needs -/
abbrev fY : Type := MethodName × ByteArray × Nat × Option FieldType × Nat × Nat
abbrev R32 (z : Int) : Prop := -2147483648 ≤ z ∧ z ≤ 2147483647
abbrev R64 (z : Int) : Prop := -9223372036854775808 ≤ z ∧ z ≤ 9223372036854775807
theorem r32_ti {z : Int} (h : R32 z) : (Int32.ofInt z).toInt = z := Int32.toInt_ofInt_of_le (by have := h.1; omega) (by have := h.2; omega)
theorem r64_ti {z : Int} (h : R64 z) : (Int64.ofInt z).toInt = z := Int64.toInt_ofInt_of_le (by have := h.1; omega) (by have := h.2; omega)
theorem r32_eq {x y : Int} (hx : R32 x) (hy : R32 y) : Int32.ofInt x = Int32.ofInt y ↔ x = y := ⟨fun h => by have := congrArg Int32.toInt h; rwa [r32_ti hx, r32_ti hy] at this, fun h => by rw [h]⟩
theorem r32_lt {x y : Int} (hx : R32 x) (hy : R32 y) : Int32.ofInt x < Int32.ofInt y ↔ x < y := by rw [Int32.lt_iff_toInt_lt, r32_ti hx, r32_ti hy]
theorem r32_le {x y : Int} (hx : R32 x) (hy : R32 y) : Int32.ofInt x ≤ Int32.ofInt y ↔ x ≤ y := by rw [Int32.le_iff_toInt_le, r32_ti hx, r32_ti hy]
theorem r64_eq {x y : Int} (hx : R64 x) (hy : R64 y) : Int64.ofInt x = Int64.ofInt y ↔ x = y := ⟨fun h => by have := congrArg Int64.toInt h; rwa [r64_ti hx, r64_ti hy] at this, fun h => by rw [h]⟩
theorem r64_lt {x y : Int} (hx : R64 x) (hy : R64 y) : Int64.ofInt x < Int64.ofInt y ↔ x < y := by rw [Int64.lt_iff_toInt_lt, r64_ti hx, r64_ti hy]
theorem r32_0 : Int32.ofInt 0 = 0 := rfl
theorem r32_in (x : Int32) : R32 x.toInt := ⟨by have := Int32.le_toInt x; omega, by have := Int32.toInt_lt x; omega⟩
theorem r64_in (x : Int64) : R64 x.toInt := ⟨by have := Int64.le_toInt x; omega, by have := Int64.toInt_lt x; omega⟩
theorem r32_nat {z : Int} {j : Nat} (hz : z = (j : Int)) (h : R32 z) : (Int32.ofInt z).toNatClampNeg = j := by
  rw [← Int32.toNat_toInt, r32_ti h, hz]; rfl
/-! kinds of cells -/
def fcnt (k : Nat) : Nat := [1, 2, 21, 21, 21, 2, 1, 1, 1, 1, 11, 1, 1, 1, 1, 1, 1, 1, 1, 1, 4, 4, 1, 1, 1, 1, 1, 1, 1, 1, 1, 1, 1, 1, 1, 1, 1].getD k 0
def foff (k : Nat) : Nat := [0, 1, 3, 24, 45, 66, 68, 69, 70, 71, 72, 83, 84, 85, 86, 87, 88, 89, 90, 91, 92, 96, 100, 101, 102, 103, 104, 105, 106, 107, 108, 109, 110, 111, 112, 113, 114].getD k 115
def fids : List (Nat × Nat) := (List.range 37).flatMap (fun k => (List.range (fcnt k)).map (fun i => (k, i)))
/-- an object: which, and its slots: a number, or a cell by its kind and its number -/
def fobj (k : Nat) : Option (Nat × List (Option (Nat × (Nat → Nat)))) := match k with
  | 0 => some (6, [some (1, fun _ => 0), some (1, fun _ => 1), none, some (6, fun _ => 0), some (8, fun _ => 0), some (2, fun _ => 18), some (13, fun _ => 0), some (16, fun _ => 0), some (17, fun _ => 0), some (18, fun _ => 0), some (19, fun _ => 0)])
  | 1 => some (0, [none, none, some (2, fun i => 9 * i), none, some (5, fun i => i)])
  | 2 => some (3, [none, none, none, some (3, fun i => i), some (4, fun i => i)])
  | 6 => some (2, [none, some (2, fun _ => 19), some (7, fun _ => 0), none, none, none])
  | 8 => some (1, [some (9, fun _ => 0), some (11, fun _ => 0), some (12, fun _ => 0), none])
  | 13 => some (5, [some (14, fun _ => 0), some (15, fun _ => 0), none, none, some (2, fun _ => 20)])
  | 20 => some (4, [none, none, some (21, fun i => i)])
  | 22 => some (7, [some (23, fun _ => 0), some (24, fun _ => 0), some (25, fun _ => 0), none, some (26, fun _ => 0), none, none, some (27, fun _ => 0), some (28, fun _ => 0), none, some (29, fun _ => 0), some (30, fun _ => 0), some (31, fun _ => 0), some (32, fun _ => 0), none, some (33, fun _ => 0), some (34, fun _ => 0), some (35, fun _ => 0), some (36, fun _ => 0)])
  | _ => none
/-- an array of ints: its length -/
def fari (k : Nat) : Option Nat := match k with
  | 3 => some 11
  | 4 => some 6
  | 7 => some 70
  | 10 => some 12
  | 11 => some 11
  | 12 => some 97
  | 15 => some 11
  | 16 => some 32
  | 17 => some 6
  | 18 => some 6
  | 23 => some 21
  | 24 => some 156
  | 25 => some 12
  | 26 => some 70
  | 27 => some 17
  | 28 => some 168
  | 29 => some 12
  | 30 => some 32
  | 31 => some 21
  | 32 => some 168
  | 33 => some 4
  | 34 => some 4
  | _ => none
/-- an array of longs: its length -/
def farl (k : Nat) : Option Nat := match k with
  | 14 => some 12
  | 21 => some 24
  | 35 => some 96
  | 36 => some 24
  | _ => none
/-- an array of cells: which, its length, its cells -/
def fara (k : Nat) : Option (Nat × Nat × Nat × (Nat → Nat → Nat)) := match k with
  | 5 => some (2, 8, 2, fun i j => 9 * i + 1 + j)
  | 9 => some (4, 11, 10, fun _ j => j)
  | 19 => some (3, 4, 20, fun _ j => j)
  | _ => none
def fMv (g : fG) : fV → Value
  | .inl z => .int (Int32.ofInt z)
  | .inr (.inl z) => .long (Int64.ofInt z)
  | .inr (.inr q) => .ref (g.2.2.1 q.1 q.2)
def fsl (g : fG) (m : Nat → Int) (i : Nat) : Nat → List (Option (Nat × (Nat → Nat))) → List Value
  | _, [] => []
  | j, none :: t => .int (Int32.ofInt (m j)) :: fsl g m i (j + 1) t
  | j, some q :: t => .ref (g.2.2.1 q.1 (q.2 i)) :: fsl g m i (j + 1) t
def fcell (g : fG) (m : Nat → Int) (k i : Nat) : va_E := match fobj k with
  | some q => .inr (q.1, fsl g m i 0 q.2)
  | none => match fari k with
    | some n => .inl (g.2.2.2 0, n, .inl (fun j => Int32.ofInt (m j)))
    | none => match farl k with
      | some n => .inl (g.2.2.2 1, n, .inr (.inl (fun j => Int64.ofInt (m j))))
      | none => match fara k with
        | some q => .inl (g.2.2.2 q.1, q.2.1, .inr (.inr (.inr (.inr (fun j => some (g.2.2.1 q.2.2.1 (q.2.2.2 i j)))))))
        | none => .inr (0, [])
def fws (g : fG) (M : fM) : va_W := fids.map (fun q => (g.2.2.1 q.1 q.2, fcell g (M q.1 q.2) q.1 q.2))
def fA (g : fG) : Nat → Prop := fun q => ∃ k i, i < fcnt k ∧ q = g.2.2.1 k i
def fInj (g : fG) : Prop := ∀ k i k' i', i < fcnt k → i' < fcnt k' → g.2.2.1 k i = g.2.2.1 k' i' → k = k' ∧ i = i'
abbrev fcls : List vw_C := [(RX0, TX0, 5), (RX1, TX1, 4), (RX2, TX2, 6), (RX3, TX3, 5), (RX4, TX4, 3), (RX5, TX5, 5), (RX6, TX6, 11), (RX7, TX7, 19)]
abbrev fty (g : fG) : List (ClassId × FieldType) := [(g.2.2.2 0, .int), (g.2.2.2 1, .long), (g.2.2.2 2, .object "LeanDiagonals$Setting"), (g.2.2.2 3, .object "LeanDiagonals$Sheet"), (g.2.2.2 4, .array .int)]
theorem fcnt_big {k i : Nat} (h : i < fcnt k) : k < 37 := by
  rcases Nat.lt_or_ge k 37 with q | q
  · exact q
  · exfalso
    unfold fcnt at h
    rw [List.getD_eq_getElem?_getD, List.getElem?_eq_none (by simpa using q)] at h
    exact absurd h (Nat.not_lt_zero _)
theorem fpos0 : ∀ k, k < 37 → ∀ i, i < fcnt k → fids[foff k + i]? = some (k, i) := by decide +kernel
theorem fpos {k i : Nat} (h : i < fcnt k) : fids[foff k + i]? = some (k, i) := fpos0 k (fcnt_big h) i h
theorem finv0 : (List.range 115).all (fun n => match fids[n]? with | some q => decide (n = foff q.1 + q.2 ∧ q.2 < fcnt q.1) | none => true) = true := by decide +kernel
theorem flen : fids.length = 115 := by decide +kernel
theorem finv {n : Nat} {q : Nat × Nat} (h : fids[n]? = some q) : n = foff q.1 + q.2 ∧ q.2 < fcnt q.1 := by
  have hn : n < 115 := by rw [← flen]; exact (List.getElem?_eq_some_iff.mp h).1
  have h1 := List.all_eq_true.mp finv0 n (List.mem_range.mpr hn)
  rw [h] at h1
  exact of_decide_eq_true h1
theorem fws_at (g : fG) (M : fM) {k i : Nat} (h : i < fcnt k) : (fws g M)[foff k + i]? = some (g.2.2.1 k i, fcell g (M k i) k i) := by
  unfold fws
  rw [List.getElem?_map, fpos h]
  rfl
theorem fws_set (g : fG) {M M' : fM} {k i : Nat} (h : i < fcnt k) (ho : ∀ a b, (a ≠ k ∨ b ≠ i) → M' a b = M a b) : (fws g M).set (foff k + i) (g.2.2.1 k i, fcell g (M' k i) k i) = fws g M' := by
  apply List.ext_getElem?
  intro n
  have hl : foff k + i < (fws g M).length := (List.getElem?_eq_some_iff.mp (fws_at g M h)).1
  by_cases e : foff k + i = n
  · subst e
    rw [List.getElem?_set_self hl, fws_at g M' h]
  · rw [List.getElem?_set_ne e]
    unfold fws
    rw [List.getElem?_map, List.getElem?_map]
    cases hq : fids[n]? with
    | none => rfl
    | some q =>
      have hne : q.1 ≠ k ∨ q.2 ≠ i := by
        by_cases e1 : q.1 = k
        · by_cases e2 : q.2 = i
          · exfalso
            have := (finv hq).1
            rw [e1, e2] at this
            exact e this.symm
          · exact Or.inr e2
        · exact Or.inl e1
      show some (_, fcell g (M q.1 q.2) q.1 q.2) = some (_, fcell g (M' q.1 q.2) q.1 q.2)
      rw [ho _ _ hne]
theorem fws_D {g : fG} (hg : fInj g) (M : fM) : va_D (fA g) (fws g M) := by
  have key : ∀ (n : Nat) (x : Nat × va_E), (fws g M)[n]? = some x → ∃ q, fids[n]? = some q ∧ x.1 = g.2.2.1 q.1 q.2 := by
    intro n x hx
    unfold fws at hx
    rw [List.getElem?_map] at hx
    cases hq : fids[n]? with
    | none => rw [hq] at hx; cases hx
    | some q => rw [hq] at hx; cases hx; exact ⟨q, rfl, rfl⟩
  refine ⟨fun i j x y hi hj hxy => ?_, fun n x hx => ?_⟩
  · obtain ⟨q, h1, h2⟩ := key i x hi
    obtain ⟨r, h3, h4⟩ := key j y hj
    obtain ⟨e1, e2⟩ := hg q.1 q.2 r.1 r.2 (finv h1).2 (finv h3).2 (by rw [← h2, ← h4]; exact hxy)
    rw [(finv h1).1, (finv h3).1, e1, e2]
  · obtain ⟨q, h1, h2⟩ := key n x hx
    exact ⟨q.1, q.2, (finv h1).2, h2⟩
theorem fsl_len (g : fG) (m : Nat → Int) (i : Nat) : ∀ (sl : List (Option (Nat × (Nat → Nat)))) (n : Nat), (fsl g m i n sl).length = sl.length
  | [], _ => rfl
  | none :: t, n => by show (fsl g m i (n + 1) t).length + 1 = _; rw [fsl_len g m i t]; rfl
  | some q :: t, n => by show (fsl g m i (n + 1) t).length + 1 = _; rw [fsl_len g m i t]; rfl
theorem fsl_int (g : fG) (m : Nat → Int) (i : Nat) : ∀ (sl : List (Option (Nat × (Nat → Nat)))) (n j : Nat), sl[j]? = some none → (fsl g m i n sl)[j]? = some (.int (Int32.ofInt (m (n + j))))
  | [], _, _, h => by simp at h
  | none :: t, n, 0, _ => rfl
  | some q :: t, n, 0, h => by cases h
  | none :: t, n, j + 1, h => by show (fsl g m i (n + 1) t)[j]? = _; rw [fsl_int g m i t (n + 1) j h, Nat.add_assoc, Nat.add_comm 1 j]
  | some q :: t, n, j + 1, h => by show (fsl g m i (n + 1) t)[j]? = _; rw [fsl_int g m i t (n + 1) j h, Nat.add_assoc, Nat.add_comm 1 j]
theorem fsl_ref (g : fG) (m : Nat → Int) (i : Nat) {q : Nat × (Nat → Nat)} : ∀ (sl : List (Option (Nat × (Nat → Nat)))) (n j : Nat), sl[j]? = some (some q) → (fsl g m i n sl)[j]? = some (.ref (g.2.2.1 q.1 (q.2 i)))
  | [], _, _, h => by simp at h
  | none :: t, n, 0, h => by cases h
  | some r :: t, n, 0, h => by cases h; rfl
  | none :: t, n, j + 1, h => by show (fsl g m i (n + 1) t)[j]? = _; rw [fsl_ref g m i t (n + 1) j h]
  | some r :: t, n, j + 1, h => by show (fsl g m i (n + 1) t)[j]? = _; rw [fsl_ref g m i t (n + 1) j h]
theorem fsl_congr (g : fG) {m m' : Nat → Int} (i : Nat) : ∀ (sl : List (Option (Nat × (Nat → Nat)))) (n : Nat), (∀ j, n ≤ j → m j = m' j) → fsl g m i n sl = fsl g m' i n sl
  | [], _, _ => rfl
  | none :: t, n, h => by show _ :: _ = _ :: _; rw [h n (Nat.le_refl n), fsl_congr g i t (n + 1) (fun j hj => h j (by omega))]
  | some r :: t, n, h => by show _ :: _ = _ :: _; rw [fsl_congr g i t (n + 1) (fun j hj => h j (by omega))]
theorem fsl_set (g : fG) (m : Nat → Int) (i : Nat) (v : Int) : ∀ (sl : List (Option (Nat × (Nat → Nat)))) (n j : Nat), sl[j]? = some none → (fsl g m i n sl).set j (.int (Int32.ofInt v)) = fsl g (fun q => if q = n + j then v else m q) i n sl
  | [], _, _, h => by simp at h
  | none :: t, n, 0, _ => by
    show _ :: _ = Value.int (Int32.ofInt (if n = n + 0 then v else m n)) :: _
    rw [if_pos (Nat.add_zero n).symm, fsl_congr g (m' := fun q => if q = n + 0 then v else m q) i t (n + 1) (fun j hj => by rw [if_neg (by omega)])]
  | some q :: t, n, 0, h => by cases h
  | none :: t, n, j + 1, h => by
    show _ :: (fsl g m i (n + 1) t).set j _ = Value.int (Int32.ofInt (if n = n + (j + 1) then v else m n)) :: _
    rw [if_neg (by omega), fsl_set g m i v t (n + 1) j h, show n + 1 + j = n + (j + 1) by omega]
  | some q :: t, n, j + 1, h => by
    show _ :: (fsl g m i (n + 1) t).set j _ = _ :: _
    rw [fsl_set g m i v t (n + 1) j h, show n + 1 + j = n + (j + 1) by omega]
/-! the store changes at a place; a run of places is copied -/
def fup (M : fM) (k i j : Nat) (v : Int) : fM := fun a b c => if a = k ∧ b = i ∧ c = j then v else M a b c
def fcp (M : fM) (k i sp k' i' dp n : Nat) : fM := fun a b c => if a = k' ∧ b = i' ∧ dp ≤ c ∧ c < dp + n then M k i (sp + (c - dp)) else M a b c
theorem fup_off {M : fM} {k i j : Nat} {v : Int} {a b : Nat} (h : a ≠ k ∨ b ≠ i) : fup M k i j v a b = M a b := by
  funext c
  unfold fup
  rw [if_neg (by rintro ⟨h1, h2, -⟩; rcases h with q | q; exact q h1; exact q h2)]
theorem fup_at (M : fM) (k i j : Nat) (v : Int) : fup M k i j v k i = fun q => if q = j then v else M k i q := by
  funext c
  unfold fup
  simp
theorem fcp_off {M : fM} {k i sp k' i' dp n a b : Nat} (h : a ≠ k' ∨ b ≠ i') : fcp M k i sp k' i' dp n a b = M a b := by
  funext c
  unfold fcp
  rw [if_neg (by rintro ⟨h1, h2, -⟩; rcases h with q | q; exact q h1; exact q h2)]
theorem fcp_at (M : fM) (k i sp k' i' dp n : Nat) : fcp M k i sp k' i' dp n k' i' = fun c => if dp ≤ c ∧ c < dp + n then M k i (sp + (c - dp)) else M k' i' c := by
  funext c
  unfold fcp
  simp
/-! ranges -/
def fR : fV → Prop
  | .inl z => R32 z
  | .inr (.inl z) => R64 z
  | .inr (.inr q) => q.2 < fcnt q.1
def fRs : List fV → Prop
  | [] => True
  | v :: t => fR v ∧ fRs t
def fRl : List (Option fV) → Prop
  | [] => True
  | none :: t => fRl t
  | some v :: t => fR v ∧ fRl t
def fRM (M : fM) : Prop := ∀ a b c, if (farl a).isSome then R64 (M a b c) else R32 (M a b c)
def fRV (ls : List (Option fV)) (st : List fV) (M : fM) : Prop := fRl ls ∧ fRs st ∧ fRM M
theorem fRl_get : ∀ {ls : List (Option fV)} {k : Nat} {v : fV}, fRl ls → ls[k]? = some (some v) → fR v
  | [], _, _, _, h => by simp at h
  | none :: t, 0, _, _, h => by cases h
  | some w :: t, 0, _, hl, h => by cases h; exact hl.1
  | none :: t, k + 1, v, hl, h => fRl_get (ls := t) (k := k) hl h
  | some w :: t, k + 1, v, hl, h => fRl_get (ls := t) (k := k) hl.2 h
theorem fRl_set : ∀ {ls : List (Option fV)} {k : Nat} {v : fV}, fRl ls → fR v → fRl (ls.set k (some v))
  | [], _, _, _, _ => trivial
  | none :: t, 0, _, hl, h => ⟨h, hl⟩
  | some w :: t, 0, _, hl, h => ⟨h, hl.2⟩
  | none :: t, k + 1, v, hl, h => fRl_set (ls := t) (k := k) hl h
  | some w :: t, k + 1, v, hl, h => ⟨hl.1, fRl_set (ls := t) (k := k) hl.2 h⟩
theorem fRl_del : ∀ {ls : List (Option fV)} {k : Nat}, fRl ls → fRl (ls.set k none)
  | [], _, _ => trivial
  | none :: t, 0, hl => hl
  | some w :: t, 0, hl => hl.2
  | none :: t, k + 1, hl => fRl_del (ls := t) (k := k) hl
  | some w :: t, k + 1, hl => ⟨hl.1, fRl_del (ls := t) (k := k) hl.2⟩
theorem fRM_up {M : fM} {k i j : Nat} {v : Int} (h : fRM M) (hv : if (farl k).isSome then R64 v else R32 v) : fRM (fup M k i j v) := by
  intro a b c
  unfold fup
  by_cases e : a = k ∧ b = i ∧ c = j
  · rw [if_pos e, e.1]; exact hv
  · rw [if_neg e]; exact h a b c
theorem fRM_cp {M : fM} {k i sp k' i' dp n : Nat} (h : fRM M) (hk : (farl k).isSome = (farl k').isSome) : fRM (fcp M k i sp k' i' dp n) := by
  intro a b c
  unfold fcp
  by_cases e : a = k' ∧ b = i' ∧ dp ≤ c ∧ c < dp + n
  · rw [if_pos e, e.1, ← hk]; exact h k i _
  · rw [if_neg e]; exact h a b c
/-! locals -/
def fas (g : fG) : Nat → List (Option fV) → List (Nat × Value)
  | _, [] => []
  | n, none :: t => fas g (n + 1) t
  | n, some v :: t => (n, fMv g v) :: fas g (n + 1) t
theorem fas_mem (g : fG) : ∀ (ls : List (Option fV)) (n : Nat) (q : Nat × Value), q ∈ fas g n ls ↔ ∃ (j : Nat) (w : fV), ls[j]? = some (some w) ∧ q = (n + j, fMv g w)
  | [], n, q => ⟨fun h => (by cases h), fun ⟨j, w, h, _⟩ => (by simp at h)⟩
  | none :: t, n, q => by
    show q ∈ fas g (n + 1) t ↔ _
    rw [fas_mem g t (n + 1) q]
    constructor
    · rintro ⟨j, w, h1, h2⟩; exact ⟨j + 1, w, h1, by rw [h2]; congr 1; omega⟩
    · rintro ⟨j, w, h1, h2⟩
      cases j with
      | zero => cases h1
      | succ j => exact ⟨j, w, h1, by rw [h2]; congr 1; omega⟩
  | some v :: t, n, q => by
    show q ∈ (n, fMv g v) :: fas g (n + 1) t ↔ _
    rw [List.mem_cons, fas_mem g t (n + 1) q]
    constructor
    · rintro (h | ⟨j, w, h1, h2⟩)
      · exact ⟨0, v, rfl, h⟩
      · exact ⟨j + 1, w, h1, by rw [h2]; congr 1; omega⟩
    · rintro ⟨j, w, h1, h2⟩
      cases j with
      | zero => cases h1; exact Or.inl h2
      | succ j => exact Or.inr ⟨j, w, h1, by rw [h2]; congr 1; omega⟩
theorem fas_get {g : fG} {ar : Array Slot} {n : Nat} {ls : List (Option fV)} {k : Nat} {v : fV} (h : lv_has ar n (fas g 0 ls)) (hv : ls[k]? = some (some v)) : ar[k]? = some (.val (fMv g v)) := by
  have := h.2.2 (k, fMv g v) ((fas_mem g ls 0 _).mpr ⟨k, v, hv, by simp⟩)
  exact this
/-- no long stands just ahead of a place -/
def fnl (ls : List (Option fV)) : Nat → Bool
  | 0 => true
  | k + 1 => match ls[k]? with
    | some (some (.inr (.inl _))) => false
    | _ => true
theorem fnl_cat {g : fG} {ls : List (Option fV)} {k j : Nat} {w : fV} (h : fnl ls k = true) (hj : ls[j]? = some (some w)) (e : j + 1 = k) : (fMv g w).category = 1 := by
  subst e
  have h : (match ls[j]? with | some (some (.inr (.inl _))) => false | _ => true) = true := h
  rw [hj] at h
  match w, h with
  | .inl _, _ => rfl
  | .inr (.inr _), _ => rfl
theorem fas_st1 {g : fG} {ar : Array Slot} {n : Nat} {ls : List (Option fV)} {k : Nat} {v : fV} (hk : fnl ls k = true) (h : lv_has ar n ((k, fMv g v) :: (fas g 0 ls).filter (fun q => !(q.1 == k) && !(q.1 + 1 == k && q.2.category == 2)))) : lv_has ar n (fas g 0 (ls.set k (some v))) := by
  refine ⟨h.1, h.2.1, fun q hq => ?_⟩
  obtain ⟨j, w, h1, h2⟩ := (fas_mem g _ 0 q).mp hq
  rw [Nat.zero_add] at h2
  apply h.2.2 q
  by_cases e : j = k
  · subst e
    rw [List.getElem?_set_self (by have := (List.getElem?_eq_some_iff.mp h1).1; simpa using this)] at h1
    cases h1
    rw [h2]; exact List.mem_cons_self
  · rw [List.getElem?_set_ne (Ne.symm e)] at h1
    refine List.mem_cons_of_mem _ (List.mem_filter.mpr ⟨(fas_mem g ls 0 q).mpr ⟨j, w, h1, by rw [h2, Nat.zero_add]⟩, ?_⟩)
    rw [h2]
    by_cases e2 : j + 1 = k
    · have := fnl_cat (g := g) hk h1 e2
      simp [e, this]
    · simp [e, e2]
theorem fas_st2 {g : fG} {ar : Array Slot} {n : Nat} {ls : List (Option fV)} {k : Nat} {v : fV} (hk : fnl ls k = true) (h : lv_has ar n ((k, fMv g v) :: (fas g 0 ls).filter (fun q => !(q.1 == k) && (!(q.1 == k + 1) && !(q.1 + 1 == k && q.2.category == 2))))) : lv_has ar n (fas g 0 ((ls.set k (some v)).set (k + 1) none)) := by
  refine ⟨h.1, h.2.1, fun q hq => ?_⟩
  obtain ⟨j, w, h1, h2⟩ := (fas_mem g _ 0 q).mp hq
  rw [Nat.zero_add] at h2
  apply h.2.2 q
  by_cases e0 : j = k + 1
  · subst e0
    rw [List.getElem?_set_self (by have := (List.getElem?_eq_some_iff.mp h1).1; simpa using this)] at h1
    cases h1
  rw [List.getElem?_set_ne (Ne.symm e0)] at h1
  by_cases e : j = k
  · subst e
    rw [List.getElem?_set_self (by have := (List.getElem?_eq_some_iff.mp h1).1; simpa using this)] at h1
    cases h1
    rw [h2]; exact List.mem_cons_self
  · rw [List.getElem?_set_ne (Ne.symm e)] at h1
    refine List.mem_cons_of_mem _ (List.mem_filter.mpr ⟨(fas_mem g ls 0 q).mpr ⟨j, w, h1, by rw [h2, Nat.zero_add]⟩, ?_⟩)
    rw [h2]
    by_cases e2 : j + 1 = k
    · have := fnl_cat (g := g) hk h1 e2
      simp [e, e0, this]
    · simp [e, e0, e2]
/-! the good words of the tables -/
def ftb : List Cond := lw_tbl.filter goodWord
theorem ftb_in (n : Nat) {w : Cond} (h : lw_tbl[n]? = some w) (hg : goodWord w = true) : w ∈ ftb := List.mem_filter.mpr ⟨List.mem_of_getElem? h, hg⟩
theorem ftb_good {w : Cond} (h : w ∈ ftb) : goodWord w = true := (List.mem_filter.mp h).2
theorem ftb_tbl {w : Cond} (h : w ∈ ftb) : w ∈ lw_tbl := (List.mem_filter.mp h).1
end
section
/-! ===== the judgement: at a place of a method, with locals, stack and store, the method comes to an end with Q ===== -/
def fwd (Y : fY) : List Cond := .code Y.1 Y.2.1 Y.2.2.1 Y.2.2.2.1 :: ftb
def frm (Y : fY) : Room := { frames := Y.2.2.2.2.1, cells := 0, slots := 0, locals := Y.2.2.2.2.2 }
/-- the words of nest mates -/
def fnst : List Cond := [.methodLinkNest "LeanDiagonals$Wipes" 50 ⟨"LeanDiagonals", "power", "(JI)J"⟩ "LeanDiagonals"]
def fNw (U : State) : Prop := ∀ w ∈ fnst, va_Nw w U
def fEn (g : fG) (Y : fY) (p : Program) (s : State) (m : MethodId) (args : Array Value) (meth : Method) (c : Code) : Prop :=
  p.tables.exec = Jvm.exec ∧ c.code = Y.2.1 ∧ meth.sig.returnType = Y.2.2.2.1 ∧ c.maxLocals = Y.2.2.1 ∧ s.vm.findClass Y.1.cls = some m.cls ∧ (∀ w ∈ fwd Y, w.before args s = true) ∧ meth.locks = false ∧ va_K g.2.1 fcls (fty g) s ∧ fNw s ∧ fInj g
def fQc (g : fG) (Q : Option fV → fM → Prop) : Array Value → State → Outcome → State → Prop := fun _ st oc t =>
  (∃ (r : Option fV) (M' : fM), oc = .returned (r.map (fMv g)) ∧ Q r M' ∧ (∀ v, r = some v → fR v) ∧ fRM M' ∧ va_P g.2.1 fcls (fws g M') t.heap) ∧ va_F (fA g) st t
def fAt (g : fG) (Y : fY) (pc : Nat) (ls : List (Option fV)) (st : List fV) (M : fM) (Q : Option fV → fM → Prop) : Prop :=
  fRV ls st M → ∀ (p : Program) (e : Env) (s : State) (m : MethodId) (args : Array Value) (below : List Frame) (meth : Method) (c : Code) (H : Heap) (locs : List Loc) (ar : Array Slot),
    fEn g Y p s m args meth c → va_P g.2.1 fcls (fws g M) H → va_S (fA g) s.heap H locs → lv_has ar Y.2.2.1 (fas g 0 ls) →
    W p g.1 e (frm Y) s m args below meth c H locs 0 0 (MQ below (fQc g Q) args s 0 0 (fA g)) (F0 m pc ar (st.map (fMv g)))
/-- a method's contract at these arguments and this store -/
def fCt (g : fG) (Y : fY) (av : List fV) (M : fM) (Q : Option fV → fM → Prop) : Prop :=
  fInj g → fRs av → fRM M → Met g.1 Y.1 (fwd Y) (frm Y) (va_Pc (av.map (fMv g)) (fun U => va_K g.2.1 fcls (fty g) U ∧ fNw U ∧ va_P g.2.1 fcls (fws g M) U.heap)) (fQc g Q) 0 0 (fA g)
section FM1
variable {g : fG} {Y : fY} {pc : Nat} {ls : List (Option fV)} {st : List fV} {M : fM} {Q : Option fV → fM → Prop}
theorem fCt_of (av : List fV) (ls : List (Option fV)) (hy : plainName Y.1.cls = true) (hn : (lg_sl (av.map (fMv g))).length ≤ Y.2.2.1) (hl : lv_args 0 (av.map (fMv g)) = fas g 0 ls) (hr : fRs av → fRl ls) (h : fAt g Y 0 ls [] M Q) : fCt g Y av M Q := by
  intro hg hR hM
  refine Met.ofW (cc := Y.2.1) (maxL := Y.2.2.1) (ret := Y.2.2.2.1) hy rfl ?_
  intro p e s m args below meth c s₁ B hml hv
  obtain ⟨rfl, hK, hN, hP⟩ := hv
  have hts := atoms_spec (ws := fwd Y) B.pre
  have hlv := lv_entry (av.map (fMv g)) (n := Y.2.2.1) hn
  rw [hl] at hlv
  rw [lg_entry_eq]
  exact h ⟨hr hR, trivial, hM⟩ p e s m _ below meth c s.heap [] _ ⟨B.exec, B.bytes, B.returns, hml, findClass_of_methodNamed B.named, hts, B.notSynchronized, hK, hN, hg⟩ hP va_S.rf hlv
/-- the ranges of what is there may be used -/
theorem fAt_r (h : fRV ls st M → fAt g Y pc ls st M Q) : fAt g Y pc ls st M Q := fun hR => h hR hR
theorem fAt_ri {x : Int} (h : R32 x → fAt g Y pc ls (vi x :: st) M Q) : fAt g Y pc ls (vi x :: st) M Q := fun hR => h hR.2.1.1 hR
theorem fAt_rl {x : Int} (h : R64 x → fAt g Y pc ls (vl x :: st) M Q) : fAt g Y pc ls (vl x :: st) M Q := fun hR => h hR.2.1.1 hR
theorem fAt_rk {x : Int} (k : Nat) (hv : ls[k]? = some (some (vi x))) (h : R32 x → fAt g Y pc ls st M Q) : fAt g Y pc ls st M Q := fun hR => h (fRl_get hR.1 hv) hR
theorem fAt_rkl {x : Int} (k : Nat) (hv : ls[k]? = some (some (vl x))) (h : R64 x → fAt g Y pc ls st M Q) : fAt g Y pc ls st M Q := fun hR => h (fRl_get hR.1 hv) hR
/-- fewer locals -/
theorem fAt_w {ls' : List (Option fV)} (hs : ∀ (k : Nat) (v : fV), ls'[k]? = some (some v) → ls[k]? = some (some v)) (hr : fRl ls → fRl ls') (h : fAt g Y pc ls' st M Q) : fAt g Y pc ls st M Q := by
  intro hR p e s m args below meth c H locs ar hE hP hS hl
  refine h ⟨hr hR.1, hR.2⟩ p e s m args below meth c H locs ar hE hP hS ⟨hl.1, hl.2.1, fun q hq => ?_⟩
  obtain ⟨j, w, h1, h2⟩ := (fas_mem g ls' 0 q).mp hq
  exact hl.2.2 q ((fas_mem g ls 0 q).mpr ⟨j, w, hs j w h1, h2⟩)
theorem fAt_del (k : Nat) {ls' : List (Option fV)} (hl : ls.set k none = ls') (h : fAt g Y pc ls' st M Q) : fAt g Y pc ls st M Q := by
  refine fAt_w (ls' := ls') (fun j v hj => ?_) (fun hr => by rw [← hl]; exact fRl_del hr) h
  rw [← hl] at hj
  by_cases e : j = k
  · subst e
    rw [List.getElem?_set_self (by have := (List.getElem?_eq_some_iff.mp hj).1; simpa using this)] at hj
    cases hj
  · rw [List.getElem?_set_ne (Ne.symm e)] at hj
    exact hj
theorem fAt_p {pc' : Nat} {st' : List fV} (kk : fAt g Y pc' ls st' M Q) (hr : fRV ls st M → fRs st')
    (h : fRV ls st M → ∀ (p : Program) (e : Env) (s : State) (m : MethodId) (args : Array Value) (below : List Frame) (meth : Method) (c : Code) (H : Heap) (locs : List Loc) (ar : Array Slot) (Z : State → Prop), fEn g Y p s m args meth c → lv_has ar Y.2.2.1 (fas g 0 ls) → W p g.1 e (frm Y) s m args below meth c H locs 0 0 Z (F0 m pc' ar (st'.map (fMv g))) → W p g.1 e (frm Y) s m args below meth c H locs 0 0 Z (F0 m pc ar (st.map (fMv g)))) : fAt g Y pc ls st M Q := by
  intro hR p e s m args below meth c H locs ar hE hP hS hl
  exact h hR p e s m args below meth c H locs ar _ hE hl (kk ⟨hR.1, hr hR, hR.2.2⟩ p e s m args below meth c H locs ar hE hP hS hl)
/-! constants -/
theorem st_iconst {n : Int} (hd : decode Y.2.1 pc = .ok (.iconst n, 1)) (h : R32 n) (kk : fAt g Y (pc + 1) ls (vi n :: st) M Q) : fAt g Y pc ls st M Q :=
  fAt_p kk (fun hR => ⟨h, hR.2.1⟩) (fun _ p e s m args below meth c H locs ar Z hE hl k => lv_iconst hE.1 hE.2.1 hd rfl k)
theorem st_bipush {n : Int} (hd : decode Y.2.1 pc = .ok (.bipush n, 2)) (h : -128 ≤ n ∧ n ≤ 127) (kk : fAt g Y (pc + 2) ls (vi n :: st) M Q) : fAt g Y pc ls st M Q :=
  fAt_p kk (fun hR => ⟨show R32 n by omega, hR.2.1⟩) (fun _ p e s m args below meth c H locs ar Z hE hl k => lv_bipush hE.1 hE.2.1 hd (Int32.toInt_inj.mp (by rw [Int8.toInt_toInt32, Int8.toInt_ofInt_of_le (by omega) (by omega), r32_ti (by omega)])) k)
theorem st_sipush {n : Int} (hd : decode Y.2.1 pc = .ok (.sipush n, 3)) (h : -32768 ≤ n ∧ n ≤ 32767) (kk : fAt g Y (pc + 3) ls (vi n :: st) M Q) : fAt g Y pc ls st M Q :=
  fAt_p kk (fun hR => ⟨show R32 n by omega, hR.2.1⟩) (fun _ p e s m args below meth c H locs ar Z hE hl k => lv_sipush hE.1 hE.2.1 hd (Int32.toInt_inj.mp (by rw [Int16.toInt_toInt32, Int16.toInt_ofInt_of_le (by omega) (by omega), r32_ti (by omega)])) k)
theorem st_lconst0 (hd : decode Y.2.1 pc = .ok (.lconst 0, 1)) (kk : fAt g Y (pc + 1) ls (vl 0 :: st) M Q) : fAt g Y pc ls st M Q :=
  fAt_p kk (fun hR => ⟨⟨by decide, by decide⟩, hR.2.1⟩) (fun _ p e s m args below meth c H locs ar Z hE hl k => lv_lconst hE.1 hE.2.1 hd rfl k)
theorem st_lconst1 (hd : decode Y.2.1 pc = .ok (.lconst 1, 1)) (kk : fAt g Y (pc + 1) ls (vl 1 :: st) M Q) : fAt g Y pc ls st M Q :=
  fAt_p kk (fun hR => ⟨⟨by decide, by decide⟩, hR.2.1⟩) (fun _ p e s m args below meth c H locs ar Z hE hl k => lv_lconst hE.1 hE.2.1 hd rfl k)
theorem st_ldc {ix : Nat} {v : Int32} (n : Int) (hd : decode Y.2.1 pc = .ok (.ldc ix, 2)) (hw : Cond.constant Y.1.cls ix v ∈ ftb) (hv : v.toInt = n) (kk : fAt g Y (pc + 2) ls (vi n :: st) M Q) : fAt g Y pc ls st M Q :=
  fAt_p kk (fun hR => ⟨hv ▸ r32_in v, hR.2.1⟩) (fun _ p e s m args below meth c H locs ar Z hE hl k => lv_ldc hE.1 hE.2.1 hE.2.2.2.2.1 (hE.2.2.2.2.2.1 _ (List.mem_cons_of_mem _ hw)) hd (by rw [← Int32.ofInt_toInt v, hv]; exact k))
theorem st_ldc2 {ix : Nat} {v : Int64} (n : Int) (hd : decode Y.2.1 pc = .ok (.ldc2_w ix, 3)) (hw : Cond.constantLong Y.1.cls ix v ∈ ftb) (hv : v.toInt = n) (kk : fAt g Y (pc + 3) ls (vl n :: st) M Q) : fAt g Y pc ls st M Q :=
  fAt_p kk (fun hR => ⟨hv ▸ r64_in v, hR.2.1⟩) (fun _ p e s m args below meth c H locs ar Z hE hl k => lv_ldc2 hE.1 hE.2.1 hE.2.2.2.2.1 (hE.2.2.2.2.2.1 _ (List.mem_cons_of_mem _ hw)) hd (by rw [← Int64.ofInt_toInt v, hv]; exact k))
/-! locals -/
theorem st_iload_n {k : Fin 4} {x : Int} (hd : decode Y.2.1 pc = .ok (.iload_n k, 1)) (hv : ls[(k : Nat)]? = some (some (vi x))) (kk : fAt g Y (pc + 1) ls (vi x :: st) M Q) : fAt g Y pc ls st M Q :=
  fAt_p kk (fun hR => ⟨fRl_get hR.1 hv, hR.2.1⟩) (fun _ p e s m args below meth c H locs ar Z hE hl q => lv_iload_n hE.1 hE.2.1 hd rfl (fas_get hl hv) q)
theorem st_iload {k : Nat} {x : Int} (hd : decode Y.2.1 pc = .ok (.iload k, 2)) (hv : ls[k]? = some (some (vi x))) (kk : fAt g Y (pc + 2) ls (vi x :: st) M Q) : fAt g Y pc ls st M Q :=
  fAt_p kk (fun hR => ⟨fRl_get hR.1 hv, hR.2.1⟩) (fun _ p e s m args below meth c H locs ar Z hE hl q => lv_iload hE.1 hE.2.1 hd (fas_get hl hv) q)
theorem st_lload_n {k : Fin 4} {x : Int} (hd : decode Y.2.1 pc = .ok (.lload_n k, 1)) (hv : ls[(k : Nat)]? = some (some (vl x))) (kk : fAt g Y (pc + 1) ls (vl x :: st) M Q) : fAt g Y pc ls st M Q :=
  fAt_p kk (fun hR => ⟨fRl_get hR.1 hv, hR.2.1⟩) (fun _ p e s m args below meth c H locs ar Z hE hl q => lv_lload_n hE.1 hE.2.1 hd rfl (fas_get hl hv) q)
theorem st_lload {k : Nat} {x : Int} (hd : decode Y.2.1 pc = .ok (.lload k, 2)) (hv : ls[k]? = some (some (vl x))) (kk : fAt g Y (pc + 2) ls (vl x :: st) M Q) : fAt g Y pc ls st M Q :=
  fAt_p kk (fun hR => ⟨fRl_get hR.1 hv, hR.2.1⟩) (fun _ p e s m args below meth c H locs ar Z hE hl q => lv_lload hE.1 hE.2.1 hd (fas_get hl hv) q)
theorem st_aload_n {k : Fin 4} {a b : Nat} (hd : decode Y.2.1 pc = .ok (.aload_n k, 1)) (hv : ls[(k : Nat)]? = some (some (vr a b))) (kk : fAt g Y (pc + 1) ls (vr a b :: st) M Q) : fAt g Y pc ls st M Q :=
  fAt_p kk (fun hR => ⟨fRl_get hR.1 hv, hR.2.1⟩) (fun _ p e s m args below meth c H locs ar Z hE hl q => lv_aload_n hE.1 hE.2.1 hd rfl (fas_get hl hv) q)
theorem st_aload {k : Nat} {a b : Nat} (hd : decode Y.2.1 pc = .ok (.aload k, 2)) (hv : ls[k]? = some (some (vr a b))) (kk : fAt g Y (pc + 2) ls (vr a b :: st) M Q) : fAt g Y pc ls st M Q :=
  fAt_p kk (fun hR => ⟨fRl_get hR.1 hv, hR.2.1⟩) (fun _ p e s m args below meth c H locs ar Z hE hl q => lv_aload hE.1 hE.2.1 hd (fas_get hl hv) q)
theorem st_istore_n {k : Fin 4} {x : Int} {ls' : List (Option fV)} (hd : decode Y.2.1 pc = .ok (.istore_n k, 1)) (hn : (k : Nat) < Y.2.2.1) (hk : fnl ls k = true) (hs : ls.set k (some (vi x)) = ls') (kk : fAt g Y (pc + 1) ls' st M Q) : fAt g Y pc ls (vi x :: st) M Q := by
  intro hR p e s m args below meth c H locs ar hE hP hS hl
  refine lv_istore_n hE.1 hE.2.1 hd rfl hl hn rfl (fun ar' hl' => ?_)
  have hl2 := fas_st1 (g := g) (v := vi x) hk hl'
  rw [hs] at hl2
  exact kk ⟨by rw [← hs]; exact fRl_set hR.1 hR.2.1.1, hR.2.1.2, hR.2.2⟩ p e s m args below meth c H locs ar' hE hP hS hl2
theorem st_istore {k : Nat} {x : Int} {ls' : List (Option fV)} (hd : decode Y.2.1 pc = .ok (.istore k, 2)) (hn : k < Y.2.2.1) (hk : fnl ls k = true) (hs : ls.set k (some (vi x)) = ls') (kk : fAt g Y (pc + 2) ls' st M Q) : fAt g Y pc ls (vi x :: st) M Q := by
  intro hR p e s m args below meth c H locs ar hE hP hS hl
  refine lv_istore hE.1 hE.2.1 hd hl hn rfl (fun ar' hl' => ?_)
  have hl2 := fas_st1 (g := g) (v := vi x) hk hl'
  rw [hs] at hl2
  exact kk ⟨by rw [← hs]; exact fRl_set hR.1 hR.2.1.1, hR.2.1.2, hR.2.2⟩ p e s m args below meth c H locs ar' hE hP hS hl2
theorem st_astore_n {k : Fin 4} {a b : Nat} {ls' : List (Option fV)} (hd : decode Y.2.1 pc = .ok (.astore_n k, 1)) (hn : (k : Nat) < Y.2.2.1) (hk : fnl ls k = true) (hs : ls.set k (some (vr a b)) = ls') (kk : fAt g Y (pc + 1) ls' st M Q) : fAt g Y pc ls (vr a b :: st) M Q := by
  intro hR p e s m args below meth c H locs ar hE hP hS hl
  refine lv_astore_n hE.1 hE.2.1 hd rfl hl hn rfl (fun ar' hl' => ?_)
  have hl2 := fas_st1 (g := g) (v := vr a b) hk hl'
  rw [hs] at hl2
  exact kk ⟨by rw [← hs]; exact fRl_set hR.1 hR.2.1.1, hR.2.1.2, hR.2.2⟩ p e s m args below meth c H locs ar' hE hP hS hl2
theorem st_astore {k : Nat} {a b : Nat} {ls' : List (Option fV)} (hd : decode Y.2.1 pc = .ok (.astore k, 2)) (hn : k < Y.2.2.1) (hk : fnl ls k = true) (hs : ls.set k (some (vr a b)) = ls') (kk : fAt g Y (pc + 2) ls' st M Q) : fAt g Y pc ls (vr a b :: st) M Q := by
  intro hR p e s m args below meth c H locs ar hE hP hS hl
  refine lv_astore hE.1 hE.2.1 hd hl hn rfl (fun ar' hl' => ?_)
  have hl2 := fas_st1 (g := g) (v := vr a b) hk hl'
  rw [hs] at hl2
  exact kk ⟨by rw [← hs]; exact fRl_set hR.1 hR.2.1.1, hR.2.1.2, hR.2.2⟩ p e s m args below meth c H locs ar' hE hP hS hl2
theorem st_lstore_n {k : Fin 4} {x : Int} {ls' : List (Option fV)} (hd : decode Y.2.1 pc = .ok (.lstore_n k, 1)) (hn : (k : Nat) + 1 < Y.2.2.1) (hk : fnl ls k = true) (hs : (ls.set k (some (vl x))).set (k + 1) none = ls') (kk : fAt g Y (pc + 1) ls' st M Q) : fAt g Y pc ls (vl x :: st) M Q := by
  intro hR p e s m args below meth c H locs ar hE hP hS hl
  refine lv_lstore_n hE.1 hE.2.1 hd rfl hl hn rfl (fun ar' hl' => ?_)
  have hl2 := fas_st2 (g := g) (v := vl x) hk hl'
  rw [hs] at hl2
  exact kk ⟨by rw [← hs]; exact fRl_del (fRl_set hR.1 hR.2.1.1), hR.2.1.2, hR.2.2⟩ p e s m args below meth c H locs ar' hE hP hS hl2
theorem st_lstore {k : Nat} {x : Int} {ls' : List (Option fV)} (hd : decode Y.2.1 pc = .ok (.lstore k, 2)) (hn : k + 1 < Y.2.2.1) (hk : fnl ls k = true) (hs : (ls.set k (some (vl x))).set (k + 1) none = ls') (kk : fAt g Y (pc + 2) ls' st M Q) : fAt g Y pc ls (vl x :: st) M Q := by
  intro hR p e s m args below meth c H locs ar hE hP hS hl
  refine lv_lstore hE.1 hE.2.1 hd hl hn rfl (fun ar' hl' => ?_)
  have hl2 := fas_st2 (g := g) (v := vl x) hk hl'
  rw [hs] at hl2
  exact kk ⟨by rw [← hs]; exact fRl_del (fRl_set hR.1 hR.2.1.1), hR.2.1.2, hR.2.2⟩ p e s m args below meth c H locs ar' hE hP hS hl2
theorem st_iinc {k : Nat} {n x : Int} {ls' : List (Option fV)} (hd : decode Y.2.1 pc = .ok (.iinc k n, 3)) (hv : ls[k]? = some (some (vi x))) (h : R32 (x + n)) (hn : k < Y.2.2.1) (hk : fnl ls k = true) (hs : ls.set k (some (vi (x + n))) = ls') (kk : fAt g Y (pc + 3) ls' st M Q) : fAt g Y pc ls st M Q := by
  intro hR p e s m args below meth c H locs ar hE hP hS hl
  obtain ⟨j, hj⟩ := List.getElem?_of_mem ((fas_mem g ls 0 (k, fMv g (vi x))).mpr ⟨k, vi x, hv, by simp⟩)
  refine lv_iinc hE.1 hE.2.1 hd hl (k := j) hj (v := Int32.ofInt (x + n)) (by rw [Int32.ofInt_add]) hn rfl (fun ar' hl' => ?_)
  have hl2 := fas_st1 (g := g) (v := vi (x + n)) hk hl'
  rw [hs] at hl2
  exact kk ⟨by rw [← hs]; exact fRl_set hR.1 h, hR.2.1, hR.2.2⟩ p e s m args below meth c H locs ar' hE hP hS hl2
/-! arithmetic -/
theorem st_iadd {x y : Int} (hd : decode Y.2.1 pc = .ok (.iadd, 1)) (h : R32 (x + y)) (kk : fAt g Y (pc + 1) ls (vi (x + y) :: st) M Q) : fAt g Y pc ls (vi y :: vi x :: st) M Q :=
  fAt_p kk (fun hR => ⟨h, hR.2.1.2.2⟩) (fun _ p e s m args below meth c H locs ar Z hE hl k => lv_iadd hE.1 hE.2.1 hd (by rw [← Int32.ofInt_add]; exact k))
theorem st_isub {x y : Int} (hd : decode Y.2.1 pc = .ok (.isub, 1)) (h : R32 (x - y)) (kk : fAt g Y (pc + 1) ls (vi (x - y) :: st) M Q) : fAt g Y pc ls (vi y :: vi x :: st) M Q :=
  fAt_p kk (fun hR => ⟨h, hR.2.1.2.2⟩) (fun _ p e s m args below meth c H locs ar Z hE hl k => lv_isub hE.1 hE.2.1 hd (by rw [← Int32.ofInt_sub]; exact k))
theorem st_imul {x y : Int} (hd : decode Y.2.1 pc = .ok (.imul, 1)) (h : R32 (x * y)) (kk : fAt g Y (pc + 1) ls (vi (x * y) :: st) M Q) : fAt g Y pc ls (vi y :: vi x :: st) M Q :=
  fAt_p kk (fun hR => ⟨h, hR.2.1.2.2⟩) (fun _ p e s m args below meth c H locs ar Z hE hl k => lv_imul hE.1 hE.2.1 hd (by rw [← Int32.ofInt_mul]; exact k))
theorem r32_mod {x y : Int} (hx : 0 ≤ x) (hy : 0 < y) (h1 : R32 x) (h2 : R32 y) : Int32.ofInt x - Int32.ofInt x / Int32.ofInt y * Int32.ofInt y = Int32.ofInt (x % y) := by
  have h3 : R32 (x % y) := ⟨by have := Int.emod_nonneg x (by omega : y ≠ 0); omega, by have := Int.emod_lt_of_pos x hy; omega⟩
  apply Int32.toInt_inj.mp
  rw [rem_toInt, r32_ti h1, r32_ti h2, r32_ti h3, Int.tmod_eq_emod_of_nonneg hx]
theorem r32_div {x y : Int} (hx : 0 ≤ x) (hy : 0 < y) (h1 : R32 x) (h2 : R32 y) : Int32.ofInt x / Int32.ofInt y = Int32.ofInt (x / y) := by
  have h4 : x / y ≤ x := Int.ediv_le_self y hx
  have h5 : 0 ≤ x / y := Int.ediv_nonneg hx (by omega)
  have h3 : R32 (x / y) := ⟨by omega, by omega⟩
  apply Int32.toInt_inj.mp
  rw [Int32.toInt_div_of_ne_right _ _ (fun e => by have := congrArg Int32.toInt e; rw [r32_ti h2] at this; have e2 : (-1 : Int32).toInt = -1 := rfl; omega), r32_ti h1, r32_ti h2, r32_ti h3, Int.tdiv_eq_ediv_of_nonneg hx]
theorem st_irem {x y : Int} (hd : decode Y.2.1 pc = .ok (.irem, 1)) (hx : 0 ≤ x) (hy : 0 < y) (kk : fAt g Y (pc + 1) ls (vi (x % y) :: st) M Q) : fAt g Y pc ls (vi y :: vi x :: st) M Q :=
  fAt_p kk (fun hR => ⟨⟨by have := Int.emod_nonneg x (by omega : y ≠ 0); omega, by have := Int.emod_lt_of_pos x hy; have := hR.2.1.1.2; omega⟩, hR.2.1.2.2⟩) (fun hR p e s m args below meth c H locs ar Z hE hl k => lv_irem hE.1 hE.2.1 hd (fun e => by rw [← r32_0, r32_eq hR.2.1.1 (by omega)] at e; omega) (by rw [r32_mod hx hy hR.2.1.2.1 hR.2.1.1]; exact k))
theorem st_idiv {x y : Int} (hd : decode Y.2.1 pc = .ok (.idiv, 1)) (hx : 0 ≤ x) (hy : 0 < y) (kk : fAt g Y (pc + 1) ls (vi (x / y) :: st) M Q) : fAt g Y pc ls (vi y :: vi x :: st) M Q :=
  fAt_p kk (fun hR => ⟨⟨by have := Int.ediv_nonneg hx (by omega : 0 ≤ y); omega, by have := Int.ediv_le_self y hx; have := hR.2.1.2.1.2; omega⟩, hR.2.1.2.2⟩) (fun hR p e s m args below meth c H locs ar Z hE hl k => lv_idiv hE.1 hE.2.1 hd (fun e => by rw [← r32_0, r32_eq hR.2.1.1 (by omega)] at e; omega) (by rw [r32_div hx hy hR.2.1.2.1 hR.2.1.1]; exact k))
theorem st_ladd {x y : Int} (hd : decode Y.2.1 pc = .ok (.ladd, 1)) (h : R64 (x + y)) (kk : fAt g Y (pc + 1) ls (vl (x + y) :: st) M Q) : fAt g Y pc ls (vl y :: vl x :: st) M Q :=
  fAt_p kk (fun hR => ⟨h, hR.2.1.2.2⟩) (fun _ p e s m args below meth c H locs ar Z hE hl k => lv_ladd hE.1 hE.2.1 hd (by rw [← Int64.ofInt_add]; exact k))
theorem st_lmul {x y : Int} (hd : decode Y.2.1 pc = .ok (.lmul, 1)) (h : R64 (x * y)) (kk : fAt g Y (pc + 1) ls (vl (x * y) :: st) M Q) : fAt g Y pc ls (vl y :: vl x :: st) M Q :=
  fAt_p kk (fun hR => ⟨h, hR.2.1.2.2⟩) (fun _ p e s m args below meth c H locs ar Z hE hl k => lv_lmul hE.1 hE.2.1 hd (by rw [← Int64.ofInt_mul]; exact k))
theorem r64_mod {x y : Int} (hx : 0 ≤ x) (hy : 0 < y) (h1 : R64 x) (h2 : R64 y) : Int64.ofInt x - Int64.ofInt x / Int64.ofInt y * Int64.ofInt y = Int64.ofInt (x % y) := by
  have ex : Int64.ofInt x = lN x.toNat := by unfold lN; rw [← Int64.ofInt_eq_ofNat]; congr 1; omega
  have ey : Int64.ofInt y = lN y.toNat := by unfold lN; rw [← Int64.ofInt_eq_ofNat]; congr 1; omega
  rw [ex, ey, pk_lRem (by omega) (by omega) (by omega)]
  unfold lN
  rw [← Int64.ofInt_eq_ofNat]
  congr 1
  rw [Int.natCast_emod]
  congr 1 <;> omega
theorem r64_div {x y : Int} (hx : 0 ≤ x) (hy : 0 < y) (h1 : R64 x) (h2 : R64 y) : Int64.ofInt x / Int64.ofInt y = Int64.ofInt (x / y) := by
  have ex : Int64.ofInt x = lN x.toNat := by unfold lN; rw [← Int64.ofInt_eq_ofNat]; congr 1; omega
  have ey : Int64.ofInt y = lN y.toNat := by unfold lN; rw [← Int64.ofInt_eq_ofNat]; congr 1; omega
  rw [ex, ey, pk_lDiv (by omega) (by omega) (by omega)]
  unfold lN
  rw [← Int64.ofInt_eq_ofNat]
  congr 1
  rw [Int.natCast_ediv]
  congr 1 <;> omega
theorem r64_0 : Int64.ofInt 0 = 0 := rfl
theorem st_lrem {x y : Int} (hd : decode Y.2.1 pc = .ok (.lrem, 1)) (hx : 0 ≤ x) (hy : 0 < y) (kk : fAt g Y (pc + 1) ls (vl (x % y) :: st) M Q) : fAt g Y pc ls (vl y :: vl x :: st) M Q :=
  fAt_p kk (fun hR => ⟨⟨by have := Int.emod_nonneg x (by omega : y ≠ 0); omega, by have := Int.emod_lt_of_pos x hy; have := hR.2.1.1.2; omega⟩, hR.2.1.2.2⟩) (fun hR p e s m args below meth c H locs ar Z hE hl k => lv_lrem hE.1 hE.2.1 hd (fun e => by rw [← r64_0, r64_eq hR.2.1.1 (by omega)] at e; omega) (by rw [r64_mod hx hy hR.2.1.2.1 hR.2.1.1]; exact k))
theorem st_ldiv {x y : Int} (hd : decode Y.2.1 pc = .ok (.ldiv, 1)) (hx : 0 ≤ x) (hy : 0 < y) (kk : fAt g Y (pc + 1) ls (vl (x / y) :: st) M Q) : fAt g Y pc ls (vl y :: vl x :: st) M Q :=
  fAt_p kk (fun hR => ⟨⟨by have := Int.ediv_nonneg hx (by omega : 0 ≤ y); omega, by have := Int.ediv_le_self y hx; have := hR.2.1.2.1.2; omega⟩, hR.2.1.2.2⟩) (fun hR p e s m args below meth c H locs ar Z hE hl k => lv_ldiv hE.1 hE.2.1 hd (fun e => by rw [← r64_0, r64_eq hR.2.1.1 (by omega)] at e; omega) (by rw [r64_div hx hy hR.2.1.2.1 hR.2.1.1]; exact k))
theorem st_i2l {x : Int} (hd : decode Y.2.1 pc = .ok (.i2l, 1)) (kk : fAt g Y (pc + 1) ls (vl x :: st) M Q) : fAt g Y pc ls (vi x :: st) M Q :=
  fAt_p kk (fun hR => ⟨show R64 x by have := hR.2.1.1.1; have := hR.2.1.1.2; omega, hR.2.1.2⟩) (fun hR p e s m args below meth c H locs ar Z hE hl k => lv_i2l hE.1 hE.2.1 hd (Int64.toInt_inj.mp (by rw [Int32.toInt_toInt64, r32_ti hR.2.1.1, r64_ti (by have := hR.2.1.1.1; have := hR.2.1.1.2; omega)])) k)
/-- a long that is an int -/
theorem st_l2i {x : Int} (hd : decode Y.2.1 pc = .ok (.l2i, 1)) (h : R32 x) (kk : fAt g Y (pc + 1) ls (vi x :: st) M Q) : fAt g Y pc ls (vl x :: st) M Q :=
  fAt_p kk (fun hR => ⟨h, hR.2.1.2⟩) (fun hR p e s m args below meth c H locs ar Z hE hl k => lv_l2i hE.1 hE.2.1 hd (by rw [Int64.toInt32_ofInt]) k)
/-- any long: its lowest bits -/
theorem st_l2iw {x : Int} (hd : decode Y.2.1 pc = .ok (.l2i, 1)) (kk : fAt g Y (pc + 1) ls (vi (Int32.ofInt x).toInt :: st) M Q) : fAt g Y pc ls (vl x :: st) M Q :=
  fAt_p kk (fun hR => ⟨r32_in _, hR.2.1.2⟩) (fun hR p e s m args below meth c H locs ar Z hE hl k => lv_l2i hE.1 hE.2.1 hd (by rw [Int64.toInt32_ofInt, Int32.ofInt_toInt]) k)
theorem st_i2b {x : Int} (hd : decode Y.2.1 pc = .ok (.i2b, 1)) (kk : fAt g Y (pc + 1) ls (vi (Int32.ofInt x).toInt8.toInt32.toInt :: st) M Q) : fAt g Y pc ls (vi x :: st) M Q :=
  fAt_p kk (fun hR => ⟨r32_in _, hR.2.1.2⟩) (fun hR p e s m args below meth c H locs ar Z hE hl k => lv_i2b hE.1 hE.2.1 hd (by rw [Int32.ofInt_toInt]) k)
theorem st_i2s {x : Int} (hd : decode Y.2.1 pc = .ok (.i2s, 1)) (kk : fAt g Y (pc + 1) ls (vi (Int32.ofInt x).toInt16.toInt32.toInt :: st) M Q) : fAt g Y pc ls (vi x :: st) M Q :=
  fAt_p kk (fun hR => ⟨r32_in _, hR.2.1.2⟩) (fun hR p e s m args below meth c H locs ar Z hE hl k => lv_i2s hE.1 hE.2.1 hd (by rw [Int32.ofInt_toInt]) k)
/-! bits: the machine's own words for them -/
theorem st_iand {x y : Int} (hd : decode Y.2.1 pc = .ok (.iand, 1)) (kk : fAt g Y (pc + 1) ls (vi (Int32.ofInt x &&& Int32.ofInt y).toInt :: st) M Q) : fAt g Y pc ls (vi y :: vi x :: st) M Q :=
  fAt_p kk (fun hR => ⟨r32_in _, hR.2.1.2.2⟩) (fun hR p e s m args below meth c H locs ar Z hE hl k => lv_iand hE.1 hE.2.1 hd (by rw [← Int32.ofInt_toInt (Int32.ofInt x &&& Int32.ofInt y)]; exact k))
theorem st_ior {x y : Int} (hd : decode Y.2.1 pc = .ok (.ior, 1)) (kk : fAt g Y (pc + 1) ls (vi (Int32.ofInt x ||| Int32.ofInt y).toInt :: st) M Q) : fAt g Y pc ls (vi y :: vi x :: st) M Q :=
  fAt_p kk (fun hR => ⟨r32_in _, hR.2.1.2.2⟩) (fun hR p e s m args below meth c H locs ar Z hE hl k => lv_ior hE.1 hE.2.1 hd (by rw [← Int32.ofInt_toInt (Int32.ofInt x ||| Int32.ofInt y)]; exact k))
theorem st_ishl {x y : Int} (hd : decode Y.2.1 pc = .ok (.ishl, 1)) (kk : fAt g Y (pc + 1) ls (vi (Int32.ofInt x <<< (Int32.ofInt y &&& 31)).toInt :: st) M Q) : fAt g Y pc ls (vi y :: vi x :: st) M Q :=
  fAt_p kk (fun hR => ⟨r32_in _, hR.2.1.2.2⟩) (fun hR p e s m args below meth c H locs ar Z hE hl k => lv_ishl hE.1 hE.2.1 hd (by rw [← Int32.ofInt_toInt (Int32.ofInt x <<< (Int32.ofInt y &&& 31))]; exact k))
theorem st_ishr {x y : Int} (hd : decode Y.2.1 pc = .ok (.ishr, 1)) (kk : fAt g Y (pc + 1) ls (vi (Int32.ofInt x >>> (Int32.ofInt y &&& 31)).toInt :: st) M Q) : fAt g Y pc ls (vi y :: vi x :: st) M Q :=
  fAt_p kk (fun hR => ⟨r32_in _, hR.2.1.2.2⟩) (fun hR p e s m args below meth c H locs ar Z hE hl k => lv_ishr hE.1 hE.2.1 hd (by rw [← Int32.ofInt_toInt (Int32.ofInt x >>> (Int32.ofInt y &&& 31))]; exact k))
theorem st_land {x y : Int} (hd : decode Y.2.1 pc = .ok (.land, 1)) (kk : fAt g Y (pc + 1) ls (vl (Int64.ofInt x &&& Int64.ofInt y).toInt :: st) M Q) : fAt g Y pc ls (vl y :: vl x :: st) M Q :=
  fAt_p kk (fun hR => ⟨r64_in _, hR.2.1.2.2⟩) (fun hR p e s m args below meth c H locs ar Z hE hl k => lv_land hE.1 hE.2.1 hd (by rw [← Int64.ofInt_toInt (Int64.ofInt x &&& Int64.ofInt y)]; exact k))
/-! stack -/
theorem st_dup {v : fV} (hd : decode Y.2.1 pc = .ok (.dup, 1)) (hv : (fMv g v).category = 1) (kk : fAt g Y (pc + 1) ls (v :: v :: st) M Q) : fAt g Y pc ls (v :: st) M Q :=
  fAt_p kk (fun hR => ⟨hR.2.1.1, hR.2.1.1, hR.2.1.2⟩) (fun hR p e s m args below meth c H locs ar Z hE hl k => lv_dup hE.1 hE.2.1 hd hv k)
theorem st_pop {v : fV} (hd : decode Y.2.1 pc = .ok (.pop, 1)) (hv : (fMv g v).category = 1) (kk : fAt g Y (pc + 1) ls st M Q) : fAt g Y pc ls (v :: st) M Q :=
  fAt_p kk (fun hR => hR.2.1.2) (fun hR p e s m args below meth c H locs ar Z hE hl k => lv_pop hE.1 hE.2.1 hd hv k)
theorem st_dup2 {v w : fV} (hd : decode Y.2.1 pc = .ok (.dup2, 1)) (hv : (fMv g v).category = 1) (hw : (fMv g w).category = 1) (kk : fAt g Y (pc + 1) ls (v :: w :: v :: w :: st) M Q) : fAt g Y pc ls (v :: w :: st) M Q :=
  fAt_p kk (fun hR => ⟨hR.2.1.1, hR.2.1.2.1, hR.2.1.1, hR.2.1.2.1, hR.2.1.2.2⟩) (fun hR p e s m args below meth c H locs ar Z hE hl k => lv_dup2_11 hE.1 hE.2.1 hd hv hw k)
/-! branches -/
theorem st_goto {off : Int} (tgt : Nat) (hd : decode Y.2.1 pc = .ok (.goto off, 3)) (ht : (pc : Int) + off = (tgt : Int)) (kk : fAt g Y tgt ls st M Q) : fAt g Y pc ls st M Q :=
  fAt_p kk (fun hR => hR.2.1) (fun hR p e s m args below meth c H locs ar Z hE hl k => lv_goto hE.1 hE.2.1 hd ht k)
theorem r32_z {x : Int} (hx : R32 x) : Int32.ofInt x = 0 ↔ x = 0 := by rw [← r32_0, r32_eq hx (by omega)]
theorem r32_ltz {x : Int} (hx : R32 x) : Int32.ofInt x < 0 ↔ x < 0 := by rw [← r32_0, r32_lt hx (by omega)]
theorem r32_lez {x : Int} (hx : R32 x) : Int32.ofInt x ≤ 0 ↔ x ≤ 0 := by rw [← r32_0, r32_le hx (by omega)]
theorem r32_zlt {x : Int} (hx : R32 x) : (0 : Int32) < Int32.ofInt x ↔ 0 < x := by rw [← r32_0, r32_lt (by omega) hx]
theorem r32_zle {x : Int} (hx : R32 x) : (0 : Int32) ≤ Int32.ofInt x ↔ 0 ≤ x := by rw [← r32_0, r32_le (by omega) hx]
theorem st_icmp_eq {x y off : Int} (tgt : Nat) (hd : decode Y.2.1 pc = .ok (.if_icmp .eq off, 3)) (ht : (pc : Int) + off = (tgt : Int)) (kt : x = y → fAt g Y tgt ls st M Q) (kf : x ≠ y → fAt g Y (pc + 3) ls st M Q) : fAt g Y pc ls (vi y :: vi x :: st) M Q := by
  intro hR p e s m args below meth c H locs ar hE hP hS hl
  have hy : R32 y := hR.2.1.1
  have hx : R32 x := hR.2.1.2.1
  exact lv_icmp_eq hE.1 hE.2.1 hd ht (fun q => kt ((r32_eq hx hy).mp q) ⟨hR.1, hR.2.1.2.2, hR.2.2⟩ p e s m args below meth c H locs ar hE hP hS hl) (fun q => kf (fun z => q ((r32_eq hx hy).mpr z)) ⟨hR.1, hR.2.1.2.2, hR.2.2⟩ p e s m args below meth c H locs ar hE hP hS hl)
theorem st_if_eq {x off : Int} (tgt : Nat) (hd : decode Y.2.1 pc = .ok (.ifCond .eq off, 3)) (ht : (pc : Int) + off = (tgt : Int)) (kt : x = 0 → fAt g Y tgt ls st M Q) (kf : x ≠ 0 → fAt g Y (pc + 3) ls st M Q) : fAt g Y pc ls (vi x :: st) M Q := by
  intro hR p e s m args below meth c H locs ar hE hP hS hl
  have hx : R32 x := hR.2.1.1
  exact lv_if_eq hE.1 hE.2.1 hd ht (fun q => kt ((r32_z hx).mp q) ⟨hR.1, hR.2.1.2, hR.2.2⟩ p e s m args below meth c H locs ar hE hP hS hl) (fun q => kf (fun z => q ((r32_z hx).mpr z)) ⟨hR.1, hR.2.1.2, hR.2.2⟩ p e s m args below meth c H locs ar hE hP hS hl)
theorem st_icmp_ne {x y off : Int} (tgt : Nat) (hd : decode Y.2.1 pc = .ok (.if_icmp .ne off, 3)) (ht : (pc : Int) + off = (tgt : Int)) (kt : x ≠ y → fAt g Y tgt ls st M Q) (kf : x = y → fAt g Y (pc + 3) ls st M Q) : fAt g Y pc ls (vi y :: vi x :: st) M Q := by
  intro hR p e s m args below meth c H locs ar hE hP hS hl
  have hy : R32 y := hR.2.1.1
  have hx : R32 x := hR.2.1.2.1
  exact lv_icmp_ne hE.1 hE.2.1 hd ht (fun q => kt (fun z => q ((r32_eq hx hy).mpr z)) ⟨hR.1, hR.2.1.2.2, hR.2.2⟩ p e s m args below meth c H locs ar hE hP hS hl) (fun q => kf ((r32_eq hx hy).mp q) ⟨hR.1, hR.2.1.2.2, hR.2.2⟩ p e s m args below meth c H locs ar hE hP hS hl)
theorem st_if_ne {x off : Int} (tgt : Nat) (hd : decode Y.2.1 pc = .ok (.ifCond .ne off, 3)) (ht : (pc : Int) + off = (tgt : Int)) (kt : x ≠ 0 → fAt g Y tgt ls st M Q) (kf : x = 0 → fAt g Y (pc + 3) ls st M Q) : fAt g Y pc ls (vi x :: st) M Q := by
  intro hR p e s m args below meth c H locs ar hE hP hS hl
  have hx : R32 x := hR.2.1.1
  exact lv_if_ne hE.1 hE.2.1 hd ht (fun q => kt (fun z => q ((r32_z hx).mpr z)) ⟨hR.1, hR.2.1.2, hR.2.2⟩ p e s m args below meth c H locs ar hE hP hS hl) (fun q => kf ((r32_z hx).mp q) ⟨hR.1, hR.2.1.2, hR.2.2⟩ p e s m args below meth c H locs ar hE hP hS hl)
theorem st_icmp_lt {x y off : Int} (tgt : Nat) (hd : decode Y.2.1 pc = .ok (.if_icmp .lt off, 3)) (ht : (pc : Int) + off = (tgt : Int)) (kt : x < y → fAt g Y tgt ls st M Q) (kf : y ≤ x → fAt g Y (pc + 3) ls st M Q) : fAt g Y pc ls (vi y :: vi x :: st) M Q := by
  intro hR p e s m args below meth c H locs ar hE hP hS hl
  have hy : R32 y := hR.2.1.1
  have hx : R32 x := hR.2.1.2.1
  exact lv_icmp_lt hE.1 hE.2.1 hd ht (fun q => kt ((r32_lt hx hy).mp q) ⟨hR.1, hR.2.1.2.2, hR.2.2⟩ p e s m args below meth c H locs ar hE hP hS hl) (fun q => kf (Int.not_lt.mp (fun z => q ((r32_lt hx hy).mpr z))) ⟨hR.1, hR.2.1.2.2, hR.2.2⟩ p e s m args below meth c H locs ar hE hP hS hl)
theorem st_if_lt {x off : Int} (tgt : Nat) (hd : decode Y.2.1 pc = .ok (.ifCond .lt off, 3)) (ht : (pc : Int) + off = (tgt : Int)) (kt : x < 0 → fAt g Y tgt ls st M Q) (kf : 0 ≤ x → fAt g Y (pc + 3) ls st M Q) : fAt g Y pc ls (vi x :: st) M Q := by
  intro hR p e s m args below meth c H locs ar hE hP hS hl
  have hx : R32 x := hR.2.1.1
  exact lv_if_lt hE.1 hE.2.1 hd ht (fun q => kt ((r32_ltz hx).mp q) ⟨hR.1, hR.2.1.2, hR.2.2⟩ p e s m args below meth c H locs ar hE hP hS hl) (fun q => kf (Int.not_lt.mp (fun z => q ((r32_ltz hx).mpr z))) ⟨hR.1, hR.2.1.2, hR.2.2⟩ p e s m args below meth c H locs ar hE hP hS hl)
theorem st_icmp_ge {x y off : Int} (tgt : Nat) (hd : decode Y.2.1 pc = .ok (.if_icmp .ge off, 3)) (ht : (pc : Int) + off = (tgt : Int)) (kt : y ≤ x → fAt g Y tgt ls st M Q) (kf : x < y → fAt g Y (pc + 3) ls st M Q) : fAt g Y pc ls (vi y :: vi x :: st) M Q := by
  intro hR p e s m args below meth c H locs ar hE hP hS hl
  have hy : R32 y := hR.2.1.1
  have hx : R32 x := hR.2.1.2.1
  exact lv_icmp_ge hE.1 hE.2.1 hd ht (fun q => kt ((r32_le hy hx).mp q) ⟨hR.1, hR.2.1.2.2, hR.2.2⟩ p e s m args below meth c H locs ar hE hP hS hl) (fun q => kf (Int.not_le.mp (fun z => q ((r32_le hy hx).mpr z))) ⟨hR.1, hR.2.1.2.2, hR.2.2⟩ p e s m args below meth c H locs ar hE hP hS hl)
theorem st_if_ge {x off : Int} (tgt : Nat) (hd : decode Y.2.1 pc = .ok (.ifCond .ge off, 3)) (ht : (pc : Int) + off = (tgt : Int)) (kt : 0 ≤ x → fAt g Y tgt ls st M Q) (kf : x < 0 → fAt g Y (pc + 3) ls st M Q) : fAt g Y pc ls (vi x :: st) M Q := by
  intro hR p e s m args below meth c H locs ar hE hP hS hl
  have hx : R32 x := hR.2.1.1
  exact lv_if_ge hE.1 hE.2.1 hd ht (fun q => kt ((r32_zle hx).mp q) ⟨hR.1, hR.2.1.2, hR.2.2⟩ p e s m args below meth c H locs ar hE hP hS hl) (fun q => kf (Int.not_le.mp (fun z => q ((r32_zle hx).mpr z))) ⟨hR.1, hR.2.1.2, hR.2.2⟩ p e s m args below meth c H locs ar hE hP hS hl)
theorem st_icmp_gt {x y off : Int} (tgt : Nat) (hd : decode Y.2.1 pc = .ok (.if_icmp .gt off, 3)) (ht : (pc : Int) + off = (tgt : Int)) (kt : y < x → fAt g Y tgt ls st M Q) (kf : x ≤ y → fAt g Y (pc + 3) ls st M Q) : fAt g Y pc ls (vi y :: vi x :: st) M Q := by
  intro hR p e s m args below meth c H locs ar hE hP hS hl
  have hy : R32 y := hR.2.1.1
  have hx : R32 x := hR.2.1.2.1
  exact lv_icmp_gt hE.1 hE.2.1 hd ht (fun q => kt ((r32_lt hy hx).mp q) ⟨hR.1, hR.2.1.2.2, hR.2.2⟩ p e s m args below meth c H locs ar hE hP hS hl) (fun q => kf (Int.not_lt.mp (fun z => q ((r32_lt hy hx).mpr z))) ⟨hR.1, hR.2.1.2.2, hR.2.2⟩ p e s m args below meth c H locs ar hE hP hS hl)
theorem st_if_gt {x off : Int} (tgt : Nat) (hd : decode Y.2.1 pc = .ok (.ifCond .gt off, 3)) (ht : (pc : Int) + off = (tgt : Int)) (kt : 0 < x → fAt g Y tgt ls st M Q) (kf : x ≤ 0 → fAt g Y (pc + 3) ls st M Q) : fAt g Y pc ls (vi x :: st) M Q := by
  intro hR p e s m args below meth c H locs ar hE hP hS hl
  have hx : R32 x := hR.2.1.1
  exact lv_if_gt hE.1 hE.2.1 hd ht (fun q => kt ((r32_zlt hx).mp q) ⟨hR.1, hR.2.1.2, hR.2.2⟩ p e s m args below meth c H locs ar hE hP hS hl) (fun q => kf (Int.not_lt.mp (fun z => q ((r32_zlt hx).mpr z))) ⟨hR.1, hR.2.1.2, hR.2.2⟩ p e s m args below meth c H locs ar hE hP hS hl)
theorem st_icmp_le {x y off : Int} (tgt : Nat) (hd : decode Y.2.1 pc = .ok (.if_icmp .le off, 3)) (ht : (pc : Int) + off = (tgt : Int)) (kt : x ≤ y → fAt g Y tgt ls st M Q) (kf : y < x → fAt g Y (pc + 3) ls st M Q) : fAt g Y pc ls (vi y :: vi x :: st) M Q := by
  intro hR p e s m args below meth c H locs ar hE hP hS hl
  have hy : R32 y := hR.2.1.1
  have hx : R32 x := hR.2.1.2.1
  exact lv_icmp_le hE.1 hE.2.1 hd ht (fun q => kt ((r32_le hx hy).mp q) ⟨hR.1, hR.2.1.2.2, hR.2.2⟩ p e s m args below meth c H locs ar hE hP hS hl) (fun q => kf (Int.not_le.mp (fun z => q ((r32_le hx hy).mpr z))) ⟨hR.1, hR.2.1.2.2, hR.2.2⟩ p e s m args below meth c H locs ar hE hP hS hl)
theorem st_if_le {x off : Int} (tgt : Nat) (hd : decode Y.2.1 pc = .ok (.ifCond .le off, 3)) (ht : (pc : Int) + off = (tgt : Int)) (kt : x ≤ 0 → fAt g Y tgt ls st M Q) (kf : 0 < x → fAt g Y (pc + 3) ls st M Q) : fAt g Y pc ls (vi x :: st) M Q := by
  intro hR p e s m args below meth c H locs ar hE hP hS hl
  have hx : R32 x := hR.2.1.1
  exact lv_if_le hE.1 hE.2.1 hd ht (fun q => kt ((r32_lez hx).mp q) ⟨hR.1, hR.2.1.2, hR.2.2⟩ p e s m args below meth c H locs ar hE hP hS hl) (fun q => kf (Int.not_le.mp (fun z => q ((r32_lez hx).mpr z))) ⟨hR.1, hR.2.1.2, hR.2.2⟩ p e s m args below meth c H locs ar hE hP hS hl)
theorem st_tableIn {x dflt lo hi off : Int} {offs : Array Int} {len : Nat} (tgt : Nat) (hd : decode Y.2.1 pc = .ok (.tableswitch dflt lo hi offs, len)) (h1 : lo ≤ x) (h2 : x ≤ hi) (ho : offs[(x - lo).toNat]? = some off) (ht : (pc : Int) + off = (tgt : Int)) (kk : fAt g Y tgt ls st M Q) : fAt g Y pc ls (vi x :: st) M Q :=
  fAt_p kk (fun hR => hR.2.1.2) (fun hR p e s m args below meth c H locs ar Z hE hl k => lv_tableIn hE.1 hE.2.1 hd (by rw [r32_ti hR.2.1.1]; omega) (by rw [r32_ti hR.2.1.1]; omega) (by rw [r32_ti hR.2.1.1]; exact ho) ht k)
theorem st_tableOut {x dflt lo hi : Int} {offs : Array Int} {len : Nat} (tgt : Nat) (hd : decode Y.2.1 pc = .ok (.tableswitch dflt lo hi offs, len)) (h : x < lo ∨ hi < x) (ht : (pc : Int) + dflt = (tgt : Int)) (kk : fAt g Y tgt ls st M Q) : fAt g Y pc ls (vi x :: st) M Q :=
  fAt_p kk (fun hR => hR.2.1.2) (fun hR p e s m args below meth c H locs ar Z hE hl k => lv_tableOut hE.1 hE.2.1 hd (by rw [r32_ti hR.2.1.1]; exact h) ht k)
theorem st_lookup {x dflt off : Int} {ps : Array (Int × Int)} {len : Nat} (tgt : Nat) (hd : decode Y.2.1 pc = .ok (.lookupswitch dflt ps, len)) (hp : (ps.toList.zip (ps.toList.drop 1)).all (fun (a, next) => a.1 < next.1) = true) (ho : Op.lookupswitch.offset ps.toList dflt x = off) (ht : (pc : Int) + off = (tgt : Int)) (kk : fAt g Y tgt ls st M Q) : fAt g Y pc ls (vi x :: st) M Q :=
  fAt_p kk (fun hR => hR.2.1.2) (fun hR p e s m args below meth c H locs ar Z hE hl k => lv_lookup hE.1 hE.2.1 hd hp (by rw [r32_ti hR.2.1.1]; exact ho) ht k)
def fcmp (x y : Int) : Int := if y < x then 1 else if x = y then 0 else -1
theorem fcmp_in (x y : Int) : R32 (fcmp x y) := by
  unfold fcmp
  split
  · omega
  · split <;> omega
theorem fcmp_lt {x y : Int} : fcmp x y < 0 ↔ x < y := by
  unfold fcmp
  split
  · omega
  · split <;> omega
theorem fcmp_eq {x y : Int} : fcmp x y = 0 ↔ x = y := by
  unfold fcmp
  split
  · omega
  · split <;> omega
theorem fcmp_gt {x y : Int} : 0 < fcmp x y ↔ y < x := by
  unfold fcmp
  split
  · omega
  · split <;> omega
theorem fcmp_kit {x y : Int} (hx : R64 x) (hy : R64 y) : lg_cmp (Int64.ofInt x) (Int64.ofInt y) = Int32.ofInt (fcmp x y) := by
  unfold lg_cmp fcmp
  by_cases h : y < x
  · rw [if_pos h, if_pos ((r64_lt hy hx).mpr h)]; rfl
  · rw [if_neg h, if_neg (fun z => h ((r64_lt hy hx).mp z))]
    by_cases e : x = y
    · rw [if_pos e, if_pos ((r64_eq hx hy).mpr e)]; rfl
    · rw [if_neg e, if_neg (fun z => e ((r64_eq hx hy).mp z))]; rfl
theorem st_lcmp {x y : Int} (hd : decode Y.2.1 pc = .ok (.lcmp, 1)) (kk : fAt g Y (pc + 1) ls (vi (fcmp x y) :: st) M Q) : fAt g Y pc ls (vl y :: vl x :: st) M Q :=
  fAt_p kk (fun hR => ⟨fcmp_in x y, hR.2.1.2.2⟩) (fun hR p e s m args below meth c H locs ar Z hE hl k => W.lcmp hE.1 hE.2.1 hd (by rw [fcmp_kit hR.2.1.2.1 hR.2.1.1]; exact k))
/-! ends -/
theorem st_ireturn {x : Int} (hd : decode Y.2.1 pc = .ok (.ireturn, 1)) (hr : Y.2.2.2.1 = some .int) (hq : Q (some (vi x)) M) : fAt g Y pc ls [vi x] M Q := by
  intro hR p e s m args below meth c H locs ar hE hP hS hl
  have hlocks := hE.2.2.2.2.2.2.1
  exact W.iret hE.1 hE.2.1 (hE.2.2.1.trans hr) (fun t ht hW => ⟨⟨some (vi x), M, rfl, hq, fun v hv => by cases hv; exact hR.2.1.1, hR.2.2, by rw [ht]; exact hP⟩, hS.F ht⟩) hS.2.2 hd hlocks
theorem st_zreturn {x : Int} (hd : decode Y.2.1 pc = .ok (.ireturn, 1)) (hr : Y.2.2.2.1 = some .boolean) (hx : x = 0 ∨ x = 1) (hq : Q (some (vi x)) M) : fAt g Y pc ls [vi x] M Q := by
  intro hR p e s m args below meth c H locs ar hE hP hS hl
  have hlocks := hE.2.2.2.2.2.2.1
  exact W.zret hE.1 hE.2.1 (hE.2.2.1.trans hr) (by rcases hx with rfl | rfl <;> rfl) (fun t ht hW => ⟨⟨some (vi x), M, rfl, hq, fun v hv => by cases hv; exact hR.2.1.1, hR.2.2, by rw [ht]; exact hP⟩, hS.F ht⟩) hS.2.2 hd hlocks
theorem st_lreturn {x : Int} (hd : decode Y.2.1 pc = .ok (.lreturn, 1)) (hr : Y.2.2.2.1 = some .long) (hq : Q (some (vl x)) M) : fAt g Y pc ls [vl x] M Q := by
  intro hR p e s m args below meth c H locs ar hE hP hS hl
  have hlocks := hE.2.2.2.2.2.2.1
  exact W.lret hE.1 hE.2.1 (hE.2.2.1.trans hr) (fun t ht hW => ⟨⟨some (vl x), M, rfl, hq, fun v hv => by cases hv; exact hR.2.1.1, hR.2.2, by rw [ht]; exact hP⟩, hS.F ht⟩) hS.2.2 hd hlocks
theorem st_return (hd : decode Y.2.1 pc = .ok (.return_, 1)) (hr : Y.2.2.2.1 = none) (hq : Q none M) : fAt g Y pc ls [] M Q := by
  intro hR p e s m args below meth c H locs ar hE hP hS hl
  have hlocks := hE.2.2.2.2.2.2.1
  exact W.vret hE.1 hE.2.1 (hE.2.2.1.trans hr) (fun t ht hW => ⟨⟨none, M, rfl, hq, fun v hv => (by cases hv), hR.2.2, by rw [ht]; exact hP⟩, hS.F ht⟩) hS.2.2 hd hlocks
end FM1
end
section
/-! ===== fields, rows ===== -/
/-- a field's word: whose, which; it stands in the tables -/
def fFl (own : String) (ix c j : Nat) : Prop := ∃ (C : String) (T : u_T) (N : Nat) (ty : Nat → FieldType), fcls[c]? = some (C, T, N) ∧ (∀ w ∈ u_ws C T N, w ∈ ftb) ∧ j < N ∧ Cond.fieldLink own ix (T j).1 (T j).2.1 (T j).2.2.1 ∈ ftb ∧ (∀ k, k < N → parseFieldDescriptor (T k).2.2.1 = some (ty k)) ∧ (∀ a, a < N → ∀ b, b < N → a ≠ b → (T a).2.1 ≠ (T b).2.1) ∧ ((T j).2.2.2 = false → ty j = .int ∨ ty j = .boolean)
section FM2
variable {g : fG} {Y : fY} {pc : Nat} {ls : List (Option fV)} {st : List fV} {M : fM} {Q : Option fV → fM → Prop}
theorem fcell_o {m : Nat → Int} {k i : Nat} {q : Nat × List (Option (Nat × (Nat → Nat)))} (h : fobj k = some q) : fcell g m k i = .inr (q.1, fsl g m i 0 q.2) := by
  unfold fcell
  rw [h]
theorem fcell_i {m : Nat → Int} {k i n : Nat} (h0 : fobj k = none) (h : fari k = some n) : fcell g m k i = .inl (g.2.2.2 0, n, .inl (fun j => Int32.ofInt (m j))) := by
  unfold fcell
  rw [h0, h]
theorem fcell_l {m : Nat → Int} {k i n : Nat} (h0 : fobj k = none) (h1 : fari k = none) (h : farl k = some n) : fcell g m k i = .inl (g.2.2.2 1, n, .inr (.inl (fun j => Int64.ofInt (m j)))) := by
  unfold fcell
  rw [h0, h1, h]
theorem fcell_a {m : Nat → Int} {k i : Nat} {q : Nat × Nat × Nat × (Nat → Nat → Nat)} (h0 : fobj k = none) (h1 : fari k = none) (h2 : farl k = none) (h : fara k = some q) : fcell g m k i = .inl (g.2.2.2 q.1, q.2.1, .inr (.inr (.inr (.inr (fun j => some (g.2.2.1 q.2.2.1 (q.2.2.2 i j))))))) := by
  unfold fcell
  rw [h0, h1, h2, h]
theorem st_get {ix c j k i : Nat} {sl : List (Option (Nat × (Nat → Nat)))} (hd : decode Y.2.1 pc = .ok (.getfield ix, 3)) (hf : fFl Y.1.cls ix c j) (hk : fobj k = some (c, sl)) (hj : sl[j]? = some none) (hl0 : (farl k).isSome = false) (kk : fAt g Y (pc + 3) ls (vi (M k i j) :: st) M Q) : fAt g Y pc ls (vr k i :: st) M Q := by
  intro hR p e s m args below meth co H locs ar hE hP hS hl
  obtain ⟨C, T, N, ty, h1, h2, h3, h4, h5, h6, -⟩ := hf
  have hts := hE.2.2.2.2.2.1
  have hi : i < fcnt k := hR.2.1.1
  have he := fws_at g M hi
  rw [fcell_o hk] at he
  have hm : R32 (M k i j) := by have := hR.2.2 k i j; rw [hl0] at this; exact this
  refine va_get (D := g.2.1) (ci := c) (C := C) (T := T) (N := N) hE.1 hE.2.1 hts (fun w hw => List.mem_cons_of_mem _ (h2 w hw)) hE.2.2.2.2.1 hE.2.2.2.2.2.2.2.1 hP (foff k + i) he h1 j h3 (hts _ (List.mem_cons_of_mem _ h4)) (fun _ h9 => h9) (v := .int (Int32.ofInt (M k i j))) (by rw [fsl_int g _ i sl 0 j hj, Nat.zero_add]) hd ?_
  exact kk ⟨hR.1, ⟨hm, hR.2.1.2⟩, hR.2.2⟩ p e s m args below meth co H locs ar hE hP hS hl
theorem st_getr {ix c j k i k' i' : Nat} {f : Nat → Nat} {sl : List (Option (Nat × (Nat → Nat)))} (hd : decode Y.2.1 pc = .ok (.getfield ix, 3)) (hf : fFl Y.1.cls ix c j) (hk : fobj k = some (c, sl)) (hj : sl[j]? = some (some (k', f))) (hi' : f i = i') (hv : i < fcnt k → i' < fcnt k') (kk : fAt g Y (pc + 3) ls (vr k' i' :: st) M Q) : fAt g Y pc ls (vr k i :: st) M Q := by
  intro hR p e s m args below meth co H locs ar hE hP hS hl
  obtain ⟨C, T, N, ty, h1, h2, h3, h4, h5, h6, -⟩ := hf
  have hts := hE.2.2.2.2.2.1
  have hi : i < fcnt k := hR.2.1.1
  have he := fws_at g M hi
  rw [fcell_o hk] at he
  refine va_get (D := g.2.1) (ci := c) (C := C) (T := T) (N := N) hE.1 hE.2.1 hts (fun w hw => List.mem_cons_of_mem _ (h2 w hw)) hE.2.2.2.2.1 hE.2.2.2.2.2.2.2.1 hP (foff k + i) he h1 j h3 (hts _ (List.mem_cons_of_mem _ h4)) (fun _ h9 => h9) (v := .ref (g.2.2.1 k' i')) (by rw [fsl_ref g _ i sl 0 j hj]; show _ = some (Value.ref (g.2.2.1 k' i')); rw [← hi']) hd ?_
  exact kk ⟨hR.1, ⟨hv hi, hR.2.1.2⟩, hR.2.2⟩ p e s m args below meth co H locs ar hE hP hS hl
theorem st_put {ix c j k i : Nat} {v : Int} {sl : List (Option (Nat × (Nat → Nat)))} (hd : decode Y.2.1 pc = .ok (.putfield ix, 3)) (hf : fFl Y.1.cls ix c j) (hfin : ∀ q, fcls[c]? = some q → (q.2.1 j).2.2.2 = false) (hz : (∀ q, fcls[c]? = some q → parseFieldDescriptor (q.2.1 j).2.2.1 = some .int) ∨ v = 0 ∨ v = 1) (hk : fobj k = some (c, sl)) (hj : sl[j]? = some none) (hl0 : (farl k).isSome = false) (kk : fAt g Y (pc + 3) ls st (fup M k i j v) Q) : fAt g Y pc ls (vi v :: vr k i :: st) M Q := by
  intro hR p e s m args below meth co H locs ar hE hP hS hl
  obtain ⟨C, T, N, ty, h1, h2, h3, h4, h5, h6, h7⟩ := hf
  have hts := hE.2.2.2.2.2.1
  have hi : i < fcnt k := hR.2.1.2.1
  have he := fws_at g M hi
  rw [fcell_o hk] at he
  have hlen : j < (fsl g (M k i) i 0 sl).length := by rw [fsl_len]; exact (List.getElem?_eq_some_iff.mp hj).1
  have hfi : (T j).2.2.2 = false := hfin _ h1
  have hty : ∃ t, parseFieldDescriptor (T j).2.2.1 = some t ∧ narrow t (.int (Int32.ofInt v)) = .int (Int32.ofInt v) ∧ fits t (.int (Int32.ofInt v)) = true := by
    rcases hz with hz | hz
    · exact ⟨.int, hz _ h1, rfl, rfl⟩
    · rcases h7 hfi with e | e
      · exact ⟨.int, by rw [h5 j h3, e], rfl, rfl⟩
      · refine ⟨.boolean, by rw [h5 j h3, e], ?_, ?_⟩ <;> rcases hz with rfl | rfl <;> rfl
  obtain ⟨t, ht1, ht2, ht3⟩ := hty
  refine va_put (D := g.2.1) (ci := c) (C := C) (T := T) (N := N) hE.1 hE.2.1 hts (fun w hw => List.mem_cons_of_mem _ (h2 w hw)) ty h5 h6 hE.2.2.2.2.1 hE.2.2.2.2.2.2.2.1 hP (fws_D hE.2.2.2.2.2.2.2.2.2 M) hS (foff k + i) he h1 j h3 (hts _ (List.mem_cons_of_mem _ h4)) (fun _ h9 => h9) hfi ht1 ht2 ht3 hlen hd (fun H1 locs1 hP1 hD1 hS1 => ?_)
  have e1 : (g.2.2.1 k i, (Sum.inr (c, (fsl g (M k i) i 0 sl).set j (.int (Int32.ofInt v))) : va_E)) = (g.2.2.1 k i, fcell g (fup M k i j v k i) k i) := by
    rw [fcell_o hk, fsl_set g (M k i) i v sl 0 j hj, fup_at, Nat.zero_add]
  have hP2 : va_P g.2.1 fcls ((fws g M).set (foff k + i) (g.2.2.1 k i, Sum.inr (c, (fsl g (M k i) i 0 sl).set j (.int (Int32.ofInt v))))) H1 := hP1
  rw [e1, fws_set g hi (fun a b hab => fup_off hab)] at hP2
  exact kk ⟨hR.1, hR.2.1.2.2, fRM_up hR.2.2 (by rw [hl0]; exact hR.2.1.1)⟩ p e s m args below meth co H1 locs1 ar hE hP2 hS1 hl
theorem fin_of {z : Int} {j n : Nat} (hz : R32 z) (hj : z = (j : Int)) (hn : j < n) : vp_in (Int32.ofInt z) n := by
  rw [vp_in_iff, r32_ti hz]
  omega
theorem st_iald {k i j n : Nat} {z : Int} (hd : decode Y.2.1 pc = .ok (.iaload, 1)) (h0 : fobj k = none) (ha : fari k = some n) (hl0 : (farl k).isSome = false) (hj : z = (j : Int)) (hn : j < n) (kk : fAt g Y (pc + 1) ls (vi (M k i j) :: st) M Q) : fAt g Y pc ls (vi z :: vr k i :: st) M Q := by
  intro hR p e s m args below meth co H locs ar hE hP hS hl
  have hi : i < fcnt k := hR.2.1.2.1
  have he := fws_at g M hi
  rw [fcell_i h0 ha] at he
  have hm : R32 (M k i j) := by have := hR.2.2 k i j; rw [hl0] at this; exact this
  refine va_iald hE.1 hE.2.1 hE.2.2.2.2.2.2.2.1 hP (foff k + i) 0 he rfl (fin_of hR.2.1.1 hj hn) hd ?_
  rw [r32_nat hj hR.2.1.1]
  exact kk ⟨hR.1, ⟨hm, hR.2.1.2.2⟩, hR.2.2⟩ p e s m args below meth co H locs ar hE hP hS hl
theorem st_lald {k i j n : Nat} {z : Int} (hd : decode Y.2.1 pc = .ok (.laload, 1)) (h0 : fobj k = none) (h1 : fari k = none) (ha : farl k = some n) (hj : z = (j : Int)) (hn : j < n) (kk : fAt g Y (pc + 1) ls (vl (M k i j) :: st) M Q) : fAt g Y pc ls (vi z :: vr k i :: st) M Q := by
  intro hR p e s m args below meth co H locs ar hE hP hS hl
  have hi : i < fcnt k := hR.2.1.2.1
  have he := fws_at g M hi
  rw [fcell_l h0 h1 ha] at he
  have hm : R64 (M k i j) := by have := hR.2.2 k i j; rw [ha] at this; exact this
  refine va_lald hE.1 hE.2.1 hE.2.2.2.2.2.2.2.1 hP (foff k + i) 1 he rfl (fin_of hR.2.1.1 hj hn) hd ?_
  rw [r32_nat hj hR.2.1.1]
  exact kk ⟨hR.1, ⟨hm, hR.2.1.2.2⟩, hR.2.2⟩ p e s m args below meth co H locs ar hE hP hS hl
theorem st_aald {k i j : Nat} {z : Int} {q : Nat × Nat × Nat × (Nat → Nat → Nat)} {i' : Nat} (hd : decode Y.2.1 pc = .ok (.aaload, 1)) (h0 : fobj k = none) (h1 : fari k = none) (h2 : farl k = none) (ha : fara k = some q) (ht : ∃ ty, (fty g)[q.1]? = some (g.2.2.2 q.1, ty) ∧ ty.isReference = true) (hj : z = (j : Int)) (hn : j < q.2.1) (hi' : q.2.2.2 i j = i') (hv : i < fcnt k → i' < fcnt q.2.2.1) (kk : fAt g Y (pc + 1) ls (vr q.2.2.1 i' :: st) M Q) : fAt g Y pc ls (vi z :: vr k i :: st) M Q := by
  intro hR p e s m args below meth co H locs ar hE hP hS hl
  have hi : i < fcnt k := hR.2.1.2.1
  have he := fws_at g M hi
  rw [fcell_a h0 h1 h2 ha] at he
  obtain ⟨ty, ht1, ht2⟩ := ht
  have hin := fin_of hR.2.1.1 hj hn
  have hnat := r32_nat hj hR.2.1.1
  have hlt : (Int32.ofInt z).toNatClampNeg < q.2.1 := by rw [hnat]; exact hn
  refine W.aald (v := .ref (g.2.2.1 q.2.2.1 i')) (ty := ty) hE.1 hE.2.1 (hP (foff k + i) _ he) ((hE.2.2.2.2.2.2.2.1.2 q.1 _ ht1).1 q.2.1 (fun j => va_rf (some (g.2.2.1 q.2.2.1 (q.2.2.2 i j))))) ht2 (fun q => by cases q) (by show ¬ (_ ∨ (arrV _ _ _).slots.size ≤ _); rw [arrV_size]; exact hin) (by show (arrV _ _ _).slots[_]? = _; rw [arrV_read _ _ hlt, hnat]; show some (Value.ref (g.2.2.1 q.2.2.1 (q.2.2.2 i j))) = _; rw [hi']) rfl rfl hd ?_
  exact kk ⟨hR.1, ⟨hv hi, hR.2.1.2.2⟩, hR.2.2⟩ p e s m args below meth co H locs ar hE hP hS hl
theorem st_iast {k i j n : Nat} {z v : Int} (hd : decode Y.2.1 pc = .ok (.iastore, 1)) (h0 : fobj k = none) (ha : fari k = some n) (hl0 : (farl k).isSome = false) (hj : z = (j : Int)) (hn : j < n) (kk : fAt g Y (pc + 1) ls st (fup M k i j v) Q) : fAt g Y pc ls (vi v :: vi z :: vr k i :: st) M Q := by
  intro hR p e s m args below meth co H locs ar hE hP hS hl
  have hi : i < fcnt k := hR.2.1.2.2.1
  have he := fws_at g M hi
  rw [fcell_i h0 ha] at he
  refine va_iast hE.1 hE.2.1 hE.2.2.2.2.2.2.2.1 hP (fws_D hE.2.2.2.2.2.2.2.2.2 M) hS (foff k + i) 0 he rfl (fin_of hR.2.1.2.1 hj hn) hd (fun H1 locs1 hP1 hD1 hS1 => ?_)
  rw [r32_nat hj hR.2.1.2.1] at hP1
  have e1 : (g.2.2.1 k i, (Sum.inl (g.2.2.2 0, n, .inl (upd (fun j => Int32.ofInt (M k i j)) j (Int32.ofInt v))) : va_E)) = (g.2.2.1 k i, fcell g (fup M k i j v k i) k i) := by
    rw [fcell_i h0 ha, fup_at]
    congr 5
    funext a
    unfold upd
    by_cases h : a = j
    · simp [h]
    · simp [h]
  rw [e1, fws_set g hi (fun a b hab => fup_off hab)] at hP1
  exact kk ⟨hR.1, hR.2.1.2.2.2, fRM_up hR.2.2 (by rw [hl0]; exact hR.2.1.1)⟩ p e s m args below meth co H1 locs1 ar hE hP1 hS1 hl
theorem st_last {k i j n : Nat} {z v : Int} (hd : decode Y.2.1 pc = .ok (.lastore, 1)) (h0 : fobj k = none) (h1 : fari k = none) (ha : farl k = some n) (hj : z = (j : Int)) (hn : j < n) (kk : fAt g Y (pc + 1) ls st (fup M k i j v) Q) : fAt g Y pc ls (vl v :: vi z :: vr k i :: st) M Q := by
  intro hR p e s m args below meth co H locs ar hE hP hS hl
  have hi : i < fcnt k := hR.2.1.2.2.1
  have he := fws_at g M hi
  rw [fcell_l h0 h1 ha] at he
  refine va_last hE.1 hE.2.1 hE.2.2.2.2.2.2.2.1 hP (fws_D hE.2.2.2.2.2.2.2.2.2 M) hS (foff k + i) 1 he rfl (fin_of hR.2.1.2.1 hj hn) hd (fun H1 locs1 hP1 hD1 hS1 => ?_)
  rw [r32_nat hj hR.2.1.2.1] at hP1
  have e1 : (g.2.2.1 k i, (Sum.inl (g.2.2.2 1, n, .inr (.inl (vp_updL (fun j => Int64.ofInt (M k i j)) j (Int64.ofInt v)))) : va_E)) = (g.2.2.1 k i, fcell g (fup M k i j v k i) k i) := by
    rw [fcell_l h0 h1 ha, fup_at]
    congr 6
    funext a
    unfold vp_updL
    by_cases h : a = j
    · simp [h]
    · simp [h]
  rw [e1, fws_set g hi (fun a b hab => fup_off hab)] at hP1
  exact kk ⟨hR.1, hR.2.1.2.2.2, fRM_up hR.2.2 (by rw [ha]; exact hR.2.1.1)⟩ p e s m args below meth co H1 locs1 ar hE hP1 hS1 hl
end FM2
end
section
/-! ===== calls ===== -/
def fVl (own : String) (ix : Nat) (C : String) (Y' : fY) (np : Nat) : Prop := Cond.methodLink own ix Y'.1 ∈ ftb ∧ Cond.instanceMethod Y'.1 ∈ ftb ∧ Cond.selects C Y'.1 Y'.1 ∈ ftb ∧ Cond.initialized C ∈ ftb ∧ Cond.code Y'.1 Y'.2.1 Y'.2.2.1 Y'.2.2.2.1 ∈ ftb ∧ Y'.1.cls = C ∧ Y'.1.cls ≠ "java/lang/invoke/MethodHandle" ∧ Y'.1.cls ≠ "java/lang/invoke/VarHandle" ∧ (parseMethodDescriptor Y'.1.desc).map (fun d => d.parameters.length) = some np
def fSl (own : String) (ix : Nat) (Y' : fY) (np : Nat) : Prop := Cond.methodLink own ix Y'.1 ∈ ftb ∧ Cond.static Y'.1 ∈ ftb ∧ Cond.initialized Y'.1.cls ∈ ftb ∧ Cond.code Y'.1 Y'.2.1 Y'.2.2.1 Y'.2.2.2.1 ∈ ftb ∧ Y'.1.cls ≠ "java/lang/invoke/MethodHandle" ∧ Y'.1.cls ≠ "java/lang/invoke/VarHandle" ∧ (parseMethodDescriptor Y'.1.desc).map (fun d => d.parameters.length) = some np
def fNl (own : String) (ix : Nat) (Y' : fY) (host : String) (np : Nat) : Prop := Cond.methodLinkNest own ix Y'.1 host ∈ fnst ∧ Cond.static Y'.1 ∈ ftb ∧ Cond.initialized Y'.1.cls ∈ ftb ∧ Cond.code Y'.1 Y'.2.1 Y'.2.2.1 Y'.2.2.2.1 ∈ ftb ∧ Y'.1.cls ≠ "java/lang/invoke/MethodHandle" ∧ Y'.1.cls ≠ "java/lang/invoke/VarHandle" ∧ (parseMethodDescriptor Y'.1.desc).map (fun d => d.parameters.length) = some np
abbrev fRo (Y Y' : fY) : Prop := Y'.2.2.2.2.1 + 1 ≤ Y.2.2.2.2.1 ∧ 8 + (Y'.2.2.1 + 11) + Y'.2.2.2.2.2 ≤ Y.2.2.2.2.2
/-- contracts by what is answered -/
def fCi (g : fG) (Y : fY) (av : List fV) (M : fM) (P : Int → fM → Prop) : Prop := fCt g Y av M (fun r M' => ∃ z, r = some (vi z) ∧ P z M')
def fCl (g : fG) (Y : fY) (av : List fV) (M : fM) (P : Int → fM → Prop) : Prop := fCt g Y av M (fun r M' => ∃ z, r = some (vl z) ∧ P z M')
def fCv (g : fG) (Y : fY) (av : List fV) (M : fM) (P : fM → Prop) : Prop := fCt g Y av M (fun r M' => r = none ∧ P M')
theorem fwd_good {Y Y' : fY} (h : Cond.code Y'.1 Y'.2.1 Y'.2.2.1 Y'.2.2.2.1 ∈ ftb) : GoodIn (fwd Y) (fwd Y') := by
  intro w hw
  rcases List.mem_cons.mp hw with rfl | hw
  · exact ⟨List.mem_cons_of_mem _ h, good_of_word (ftb_good h)⟩
  · exact ⟨List.mem_cons_of_mem _ hw, good_of_word (ftb_good hw)⟩
theorem fwd_goodV {Y Y' : fY} {own C : String} {ix : Nat} (h1 : Cond.methodLink own ix Y'.1 ∈ ftb) (h2 : Cond.instanceMethod Y'.1 ∈ ftb) (h3 : Cond.selects C Y'.1 Y'.1 ∈ ftb) (h4 : Cond.initialized C ∈ ftb) (h5 : Cond.code Y'.1 Y'.2.1 Y'.2.2.1 Y'.2.2.2.1 ∈ ftb) : GoodIn (fwd Y) (wsV own ix C Y'.1 (fwd Y')) := by
  intro w hw
  unfold wsV at hw
  rcases List.mem_append.mp hw with hw | hw
  · have hm : w ∈ ftb := by
      simp only [List.mem_cons, List.not_mem_nil, or_false] at hw
      rcases hw with rfl | rfl | rfl | rfl
      · exact h1
      · exact h2
      · exact h3
      · exact h4
    exact ⟨List.mem_cons_of_mem _ hm, good_of_word (ftb_good hm)⟩
  · exact fwd_good h5 w hw
section FM3
variable {g : fG} {Y : fY} {pc : Nat} {ls : List (Option fV)} {st : List fV} {M : fM} {Q : Option fV → fM → Prop}
theorem fBlind (av : List fV) : FrameBlind (va_Pc (av.map (fMv g)) (fun U => va_K g.2.1 fcls (fty g) U ∧ fNw U ∧ va_P g.2.1 fcls (fws g M) U.heap)) := by
  intro a U gg mk q
  obtain ⟨q0, q1, q2, q3⟩ := q
  exact ⟨q0, va_K.moved (u := U) (U := U.calling gg mk a) (Vm.Alike.refl U.vm) q1, fun w hw => va_Nw.same (by simp only [fnst, List.mem_singleton] at hw; rw [hw]; rfl) (u := U) rfl (q2 w hw), q3⟩
theorem fNw_warm {s U : State} (hW : s.WarmedH U.vm) (h : fNw s) : fNw U := by
  intro w hw
  have h1 := h w hw
  simp only [fnst, List.mem_singleton] at hw
  subst hw
  exact va_Nw.warmM hW h1
theorem fcall {p : Program} {e : Env} {s : State} {m : MethodId} {args : Array Value} {below : List Frame} {meth : Method} {c : Code} {H : Heap} {locs : List Loc} {ar : Array Slot} {st0 rest : List Value} {Q' : Option fV → fM → Prop} {a : Array Value} {Z : State → Prop}
    (hr : va_Run p g.1 e (frm Y) s m args below meth c H locs 0 0 0 0 (F0 m pc ar st0) rest (fQc g Q' a) (fA g)) (hS : va_S (fA g) s.heap H locs)
    (kk : ∀ (r : Option fV) (M' : fM) (H1 : Heap) (locs1 : List Loc), Q' r M' → (∀ v, r = some v → fR v) → fRM M' → va_P g.2.1 fcls (fws g M') H1 → va_S (fA g) s.heap H1 locs1 → W p g.1 e (frm Y) s m args below meth c H1 locs1 0 0 Z (F0 m (pc + 3) ar ((r.map (fMv g)).toList ++ rest))) : W p g.1 e (frm Y) s m args below meth c H locs 0 0 Z (F0 m pc ar st0) := by
  intro T hT X
  obtain ⟨v, st₀, t, T', L, h0, X', hL, e1, e2, ⟨⟨r, M', hv, hq, hrr, hM', hP'⟩, hz, hk⟩, st⟩ := hr T hT X
  cases hv
  rw [h0] at hz hk
  obtain ⟨t2, a1, b1⟩ := kk r M' T'.heap (locs ++ L) hq hrr hM' (by rw [e1]; exact hP') ⟨Nat.le_trans hS.1 (by rw [e1]; exact hz), fun q h1 h2 => by rw [e1, hk q (Nat.lt_of_lt_of_le h1 hS.1) h2]; exact hS.2.1 q h1 h2, fun q hq => by
      rcases List.mem_append.mp hq with h | h
      · exact hS.2.2 q h
      · exact hL q h⟩ T' rfl X'
  exact ⟨t2, st t2 a1, b1⟩
theorem fRs_app : ∀ {a b : List fV}, fRs (a ++ b) ↔ fRs a ∧ fRs b
  | [], b => ⟨fun h => ⟨trivial, h⟩, fun h => h.2⟩
  | v :: t, b => by
    show fR v ∧ fRs (t ++ b) ↔ (fR v ∧ fRs t) ∧ fRs b
    rw [fRs_app, and_assoc]
theorem fRs_rev {a : List fV} (h : fRs a.reverse) : fRs a := by
  induction a with
  | nil => trivial
  | cons v t ih =>
    rw [List.reverse_cons, fRs_app] at h
    exact ⟨h.2.1, ih h.1⟩
theorem st_callV {Y' : fY} {ix k i c np : Nat} {C : String} {T : u_T} {N : Nat} {sl : List (Option (Nat × (Nat → Nat)))} {Q' : Option fV → fM → Prop} (As rest : List fV) (hd : decode Y.2.1 pc = .ok (.invokevirtual ix, 3)) (hv : fVl Y.1.cls ix C Y' np) (hk : fobj k = some (c, sl)) (hc : fcls[c]? = some (C, T, N)) (hn : As.length = np) (hs : st = As.reverse ++ vr k i :: rest) (hcat : ((rest.map (fMv g)).map fun v => v.category).sum ≤ 8) (hroom : fRo Y Y') (hct : fCt g Y' (vr k i :: As) M Q') (kk : ∀ r M', Q' r M' → fAt g Y (pc + 3) ls (r.toList ++ rest) M' Q) : fAt g Y pc ls st M Q := by
  subst hs
  intro hR p e s m args below meth co H locs ar hE hP hS hl
  obtain ⟨v1, v2, v3, v4, v5, v6, v7, v8, v9⟩ := hv
  have hts := hE.2.2.2.2.2.1
  have hrs := fRs_app.mp hR.2.1
  have hi : i < fcnt k := hrs.2.1
  have he := fws_at g M hi
  rw [fcell_o hk] at he
  have hM := hct hE.2.2.2.2.2.2.2.2.2 ⟨hi, fRs_rev hrs.1⟩ hR.2.2
  refine fcall (Q' := Q') (va_runV (As := As.map (fMv g)) (rest := rest.map (fMv g)) (b := g.2.2.1 k i) (C := C) ⟨hE.1, hE.2.1, hE.2.2.2.1, hE.2.2.2.2.1, hts⟩ hM (cwV np hts (fwd_goodV v1 v2 v3 v4 v5) rfl rfl rfl ⟨v6, v7, v8, v9⟩ hroom) ⟨fBlind (vr k i :: As), va_recv hE.2.2.2.2.2.2.2.1 hP hc he, fun U hU hW => ⟨rfl, va_K.moved hW.alike hE.2.2.2.2.2.2.2.1, fNw_warm hW hE.2.2.2.2.2.2.2.2.1, by rw [hU]; exact hP⟩⟩ rfl (by rw [List.length_map]; exact hn) hl.1 (by rw [List.map_append, List.map_reverse]; rfl) (lv_room hcat) hd ⟨Nat.le_refl _, Nat.le_refl _⟩) hS (fun r M' H1 locs1 hq hr hM1 hP1 hS1 => ?_)
  have k1 := kk r M' hq ⟨hR.1, fRs_app.mpr ⟨by cases r with | none => trivial | some v => exact ⟨hr v rfl, trivial⟩, hrs.2.2⟩, hM1⟩ p e s m args below meth co H1 locs1 ar hE hP1 hS1 hl
  rw [List.map_append] at k1
  cases r <;> exact k1
theorem st_callS {Y' : fY} {ix np : Nat} {Q' : Option fV → fM → Prop} (As rest : List fV) (hd : decode Y.2.1 pc = .ok (.invokestatic ix, 3)) (hv : fSl Y.1.cls ix Y' np) (hn : As.length = np) (hs : st = As.reverse ++ rest) (hcat : ((rest.map (fMv g)).map fun v => v.category).sum ≤ 8) (hroom : fRo Y Y') (hct : fCt g Y' As M Q') (kk : ∀ r M', Q' r M' → fAt g Y (pc + 3) ls (r.toList ++ rest) M' Q) : fAt g Y pc ls st M Q := by
  subst hs
  intro hR p e s m args below meth co H locs ar hE hP hS hl
  obtain ⟨v1, v3, v4, v5, v7, v8, v9⟩ := hv
  have hts := hE.2.2.2.2.2.1
  have hrs := fRs_app.mp hR.2.1
  have hM := hct hE.2.2.2.2.2.2.2.2.2 (fRs_rev hrs.1) hR.2.2
  refine fcall (Q' := Q') (va_runS (As := As.map (fMv g)) (rest := rest.map (fMv g)) ⟨hE.1, hE.2.1, hE.2.2.2.1, hE.2.2.2.2.1, hts⟩ hM ⟨callB_of np hts (fwd_good v5) rfl rfl rfl (hts _ (List.mem_cons_of_mem _ v4)) (hts _ (List.mem_cons_of_mem _ v1)) ⟨v7, v8, v9⟩ hroom, hts _ (List.mem_cons_of_mem _ v3)⟩ ⟨fBlind As, fun U hU hW => ⟨rfl, va_K.moved hW.alike hE.2.2.2.2.2.2.2.1, fNw_warm hW hE.2.2.2.2.2.2.2.2.1, by rw [hU]; exact hP⟩⟩ rfl (by rw [List.length_map]; exact hn) hl.1 (by rw [List.map_append, List.map_reverse]) (lv_room hcat) hd ⟨Nat.le_refl _, Nat.le_refl _⟩) hS (fun r M' H1 locs1 hq hr hM1 hP1 hS1 => ?_)
  have k1 := kk r M' hq ⟨hR.1, fRs_app.mpr ⟨by cases r with | none => trivial | some v => exact ⟨hr v rfl, trivial⟩, hrs.2⟩, hM1⟩ p e s m args below meth co H1 locs1 ar hE hP1 hS1 hl
  rw [List.map_append] at k1
  cases r <;> exact k1
theorem st_callN {Y' : fY} {ix np : Nat} {host : String} {Q' : Option fV → fM → Prop} (As rest : List fV) (hd : decode Y.2.1 pc = .ok (.invokestatic ix, 3)) (hv : fNl Y.1.cls ix Y' host np) (hn : As.length = np) (hs : st = As.reverse ++ rest) (hcat : ((rest.map (fMv g)).map fun v => v.category).sum ≤ 8) (hroom : fRo Y Y') (hct : fCt g Y' As M Q') (kk : ∀ r M', Q' r M' → fAt g Y (pc + 3) ls (r.toList ++ rest) M' Q) : fAt g Y pc ls st M Q := by
  subst hs
  intro hR p e s m args below meth co H locs ar hE hP hS hl
  obtain ⟨v1, v3, v4, v5, v7, v8, v9⟩ := hv
  have hts := hE.2.2.2.2.2.1
  have hrs := fRs_app.mp hR.2.1
  have hM := hct hE.2.2.2.2.2.2.2.2.2 (fRs_rev hrs.1) hR.2.2
  refine fcall (Q' := Q') (va_runSN (As := As.map (fMv g)) (rest := rest.map (fMv g)) ⟨hE.1, hE.2.1, hE.2.2.2.1, hE.2.2.2.2.1, hts⟩ hM ⟨va_cnB np hts (fwd_good v5) rfl rfl rfl (hE.2.2.2.2.2.2.2.2.1 _ v1) (hts _ (List.mem_cons_of_mem _ v4)) ⟨v7, v8, v9⟩ hroom, hts _ (List.mem_cons_of_mem _ v3), trivial⟩ ⟨fBlind As, fun U hU hW => ⟨rfl, va_K.moved hW.alike hE.2.2.2.2.2.2.2.1, fNw_warm hW hE.2.2.2.2.2.2.2.2.1, by rw [hU]; exact hP⟩⟩ rfl (by rw [List.length_map]; exact hn) hl.1 (by rw [List.map_append, List.map_reverse]) (lv_room hcat) hd ⟨Nat.le_refl _, Nat.le_refl _⟩) hS (fun r M' H1 locs1 hq hr hM1 hP1 hS1 => ?_)
  have k1 := kk r M' hq ⟨hR.1, fRs_app.mpr ⟨by cases r with | none => trivial | some v => exact ⟨hr v rfl, trivial⟩, hrs.2⟩, hM1⟩ p e s m args below meth co H1 locs1 ar hE hP1 hS1 hl
  rw [List.map_append] at k1
  cases r <;> exact k1
end FM3
end
section
/-! ===== calls by what they answer, and the members of the library ===== -/
abbrev fI (P : Int → fM → Prop) : Option fV → fM → Prop := fun r M' => ∃ z, r = some (vi z) ∧ P z M'
abbrev fL (P : Int → fM → Prop) : Option fV → fM → Prop := fun r M' => ∃ z, r = some (vl z) ∧ P z M'
abbrev fN (P : fM → Prop) : Option fV → fM → Prop := fun r M' => r = none ∧ P M'
section FM4
variable {g : fG} {Y : fY} {pc : Nat} {ls : List (Option fV)} {st : List fV} {M : fM} {Q : Option fV → fM → Prop}
theorem st_callVi {Y' : fY} {ix k i c np : Nat} {C : String} {T : u_T} {N : Nat} {sl : List (Option (Nat × (Nat → Nat)))} {P : Int → fM → Prop} (As rest : List fV) (hd : decode Y.2.1 pc = .ok (.invokevirtual ix, 3)) (hv : fVl Y.1.cls ix C Y' np) (hk : fobj k = some (c, sl)) (hc : fcls[c]? = some (C, T, N)) (hn : As.length = np) (hs : st = As.reverse ++ vr k i :: rest) (hcat : ((rest.map (fMv g)).map fun v => v.category).sum ≤ 8) (hroom : fRo Y Y') (hct : fCi g Y' (vr k i :: As) M P) (kk : ∀ z M', P z M' → fAt g Y (pc + 3) ls (vi z :: rest) M' Q) : fAt g Y pc ls st M Q :=
  st_callV As rest hd hv hk hc hn hs hcat hroom hct (fun r M' hq => by obtain ⟨z, rfl, h⟩ := hq; exact kk z M' h)
theorem st_callVl {Y' : fY} {ix k i c np : Nat} {C : String} {T : u_T} {N : Nat} {sl : List (Option (Nat × (Nat → Nat)))} {P : Int → fM → Prop} (As rest : List fV) (hd : decode Y.2.1 pc = .ok (.invokevirtual ix, 3)) (hv : fVl Y.1.cls ix C Y' np) (hk : fobj k = some (c, sl)) (hc : fcls[c]? = some (C, T, N)) (hn : As.length = np) (hs : st = As.reverse ++ vr k i :: rest) (hcat : ((rest.map (fMv g)).map fun v => v.category).sum ≤ 8) (hroom : fRo Y Y') (hct : fCl g Y' (vr k i :: As) M P) (kk : ∀ z M', P z M' → fAt g Y (pc + 3) ls (vl z :: rest) M' Q) : fAt g Y pc ls st M Q :=
  st_callV As rest hd hv hk hc hn hs hcat hroom hct (fun r M' hq => by obtain ⟨z, rfl, h⟩ := hq; exact kk z M' h)
theorem st_callVv {Y' : fY} {ix k i c np : Nat} {C : String} {T : u_T} {N : Nat} {sl : List (Option (Nat × (Nat → Nat)))} {P : fM → Prop} (As rest : List fV) (hd : decode Y.2.1 pc = .ok (.invokevirtual ix, 3)) (hv : fVl Y.1.cls ix C Y' np) (hk : fobj k = some (c, sl)) (hc : fcls[c]? = some (C, T, N)) (hn : As.length = np) (hs : st = As.reverse ++ vr k i :: rest) (hcat : ((rest.map (fMv g)).map fun v => v.category).sum ≤ 8) (hroom : fRo Y Y') (hct : fCv g Y' (vr k i :: As) M P) (kk : ∀ M', P M' → fAt g Y (pc + 3) ls rest M' Q) : fAt g Y pc ls st M Q :=
  st_callV As rest hd hv hk hc hn hs hcat hroom hct (fun r M' hq => by obtain ⟨rfl, h⟩ := hq; exact kk M' h)
theorem st_callSi {Y' : fY} {ix np : Nat} {P : Int → fM → Prop} (As rest : List fV) (hd : decode Y.2.1 pc = .ok (.invokestatic ix, 3)) (hv : fSl Y.1.cls ix Y' np) (hn : As.length = np) (hs : st = As.reverse ++ rest) (hcat : ((rest.map (fMv g)).map fun v => v.category).sum ≤ 8) (hroom : fRo Y Y') (hct : fCi g Y' As M P) (kk : ∀ z M', P z M' → fAt g Y (pc + 3) ls (vi z :: rest) M' Q) : fAt g Y pc ls st M Q :=
  st_callS As rest hd hv hn hs hcat hroom hct (fun r M' hq => by obtain ⟨z, rfl, h⟩ := hq; exact kk z M' h)
theorem st_callSl {Y' : fY} {ix np : Nat} {P : Int → fM → Prop} (As rest : List fV) (hd : decode Y.2.1 pc = .ok (.invokestatic ix, 3)) (hv : fSl Y.1.cls ix Y' np) (hn : As.length = np) (hs : st = As.reverse ++ rest) (hcat : ((rest.map (fMv g)).map fun v => v.category).sum ≤ 8) (hroom : fRo Y Y') (hct : fCl g Y' As M P) (kk : ∀ z M', P z M' → fAt g Y (pc + 3) ls (vl z :: rest) M' Q) : fAt g Y pc ls st M Q :=
  st_callS As rest hd hv hn hs hcat hroom hct (fun r M' hq => by obtain ⟨z, rfl, h⟩ := hq; exact kk z M' h)
theorem st_callNl {Y' : fY} {ix np : Nat} {host : String} {P : Int → fM → Prop} (As rest : List fV) (hd : decode Y.2.1 pc = .ok (.invokestatic ix, 3)) (hv : fNl Y.1.cls ix Y' host np) (hn : As.length = np) (hs : st = As.reverse ++ rest) (hcat : ((rest.map (fMv g)).map fun v => v.category).sum ≤ 8) (hroom : fRo Y Y') (hct : fCl g Y' As M P) (kk : ∀ z M', P z M' → fAt g Y (pc + 3) ls (vl z :: rest) M' Q) : fAt g Y pc ls st M Q :=
  st_callN As rest hd hv hn hs hcat hroom hct (fun r M' hq => by obtain ⟨z, rfl, h⟩ := hq; exact kk z M' h)
theorem st_abs {ix : Nat} {x : Int} (hd : decode Y.2.1 pc = .ok (.invokestatic ix, 3)) (h1 : Cond.methodLink Y.1.cls ix Lib.Math.abs.name ∈ ftb) (h2 : Cond.static Lib.Math.abs.name ∈ ftb) (h3 : Cond.initialized "java/lang/Math" ∈ ftb) (h4 : Cond.code Lib.Math.abs.name Lib.Math.abs.code 1 (some .int) ∈ ftb) (hf : 1 ≤ Y.2.2.2.2.1) (hlo : ((st.map (fMv g)).map fun v => v.category).sum + 13 ≤ Y.2.2.2.2.2) (hx : R32 (if 0 ≤ x then x else -x)) (kk : fAt g Y (pc + 3) ls (vi (if 0 ≤ x then x else -x) :: st) M Q) : fAt g Y pc ls (vi x :: st) M Q :=
  fAt_p kk (fun hR => ⟨hx, hR.2.1.2⟩) (fun hR p e s m args below meth c H locs ar Z hE hl k => va_mabs hE.1 hE.2.1 (hE.2.2.2.1.trans hl.1.symm) hE.2.2.2.2.1 (hE.2.2.2.2.2.1 _ (List.mem_cons_of_mem _ h1)) (hE.2.2.2.2.2.1 _ (List.mem_cons_of_mem _ h2)) (hE.2.2.2.2.2.1 _ (List.mem_cons_of_mem _ h3)) (hE.2.2.2.2.2.1 _ (List.mem_cons_of_mem _ h4)) hf hlo (Nat.le_refl _) (Nat.le_refl _) hd (by
    have e1 : (if (0 : Int32) ≤ Int32.ofInt x then Int32.ofInt x else 0 - Int32.ofInt x) = Int32.ofInt (if 0 ≤ x then x else -x) := by
      by_cases h : 0 ≤ x
      · rw [if_pos h, if_pos ((r32_zle hR.2.1.1).mpr h)]
      · rw [if_neg h, if_neg (fun z => h ((r32_zle hR.2.1.1).mp z)), ← r32_0, ← Int32.ofInt_sub]
        congr 1
        omega
    rw [e1]; exact k))
theorem st_minl {ix : Nat} {x y : Int} (hd : decode Y.2.1 pc = .ok (.invokestatic ix, 3)) (h1 : Cond.methodLink Y.1.cls ix Lib.MathLoose.min_long.x ∈ ftb) (h2 : Cond.static Lib.MathLoose.min_long.x ∈ ftb) (h3 : Cond.initialized "java/lang/Math" ∈ ftb) (h4 : Cond.code Lib.MathLoose.min_long.x Lib.MathLoose.min_long.code 4 (some .long) ∈ ftb) (hf : 1 ≤ Y.2.2.2.2.1) (hlo : ((st.map (fMv g)).map fun v => v.category).sum + 15 ≤ Y.2.2.2.2.2) (kk : fAt g Y (pc + 3) ls (vl (if y < x then y else x) :: st) M Q) : fAt g Y pc ls (vl y :: vl x :: st) M Q :=
  fAt_p kk (fun hR => ⟨by split; exact hR.2.1.1; exact hR.2.1.2.1, hR.2.1.2.2⟩) (fun hR p e s m args below meth c H locs ar Z hE hl k => va_mmin_long hE.1 hE.2.1 (hE.2.2.2.1.trans hl.1.symm) hE.2.2.2.2.1 (hE.2.2.2.2.2.1 _ (List.mem_cons_of_mem _ h1)) (hE.2.2.2.2.2.1 _ (List.mem_cons_of_mem _ h2)) (hE.2.2.2.2.2.1 _ (List.mem_cons_of_mem _ h3)) (hE.2.2.2.2.2.1 _ (List.mem_cons_of_mem _ h4)) hf hlo (Nat.le_refl _) (Nat.le_refl _) hd (by
    have e1 : (if Int64.ofInt y < Int64.ofInt x then Int64.ofInt y else Int64.ofInt x) = Int64.ofInt (if y < x then y else x) := by
      by_cases h : y < x
      · rw [if_pos h, if_pos ((r64_lt hR.2.1.1 hR.2.1.2.1).mpr h)]
      · rw [if_neg h, if_neg (fun z => h ((r64_lt hR.2.1.1 hR.2.1.2.1).mp z))]
    rw [e1]; exact k))
/-- System.arraycopy of ints -/
theorem st_copyi {ix k i k' i' a b n : Nat} {n0 n1 : Nat} {zs zd zn : Int} (hd : decode Y.2.1 pc = .ok (.invokestatic ix, 3)) (h1 : Cond.methodLink Y.1.cls ix arraycopyName ∈ ftb) (h2 : Cond.native arraycopyName ∈ ftb) (h3 : Cond.static arraycopyName ∈ ftb) (h4 : Cond.initialized "java/lang/System" ∈ ftb) (q0 : fobj k = none) (q1 : fari k = some n0) (q2 : fobj k' = none) (q3 : fari k' = some n1) (q4 : (farl k).isSome = (farl k').isSome) (hs : zs = (a : Int)) (hdp : zd = (b : Int)) (hn : zn = (n : Int)) (hb0 : a + n ≤ n0) (hb1 : b + n ≤ n1) (hf : 1 ≤ Y.2.2.2.2.1) (hlo : ((st.map (fMv g)).map fun v => v.category).sum + 18 ≤ Y.2.2.2.2.2) (kk : fAt g Y (pc + 3) ls st (fcp M k i a k' i' b n) Q) : fAt g Y pc ls (vi zn :: vi zd :: vr k' i' :: vi zs :: vr k i :: st) M Q := by
  intro hR p e s m args below meth co H locs ar hE hP hS hl
  obtain ⟨rn, rd, ri', rs, ri, rst⟩ := hR.2.1
  have hts := hE.2.2.2.2.2.1
  have he := fws_at g M ri
  have he' := fws_at g M ri'
  rw [fcell_i q0 q1] at he
  rw [fcell_i q2 q3] at he'
  have en := r32_nat hn rn
  have ed := r32_nat hdp rd
  have es := r32_nat hs rs
  have nz : ∀ {z : Int} {j : Nat}, z = (j : Int) → R32 z → ¬ Int32.ofInt z < 0 := fun hz hr q => by have := (r32_ltz hr).mp q; omega
  refine va_copyi hE.1 hE.2.1 (hE.2.2.2.1.trans hl.1.symm) hE.2.2.2.2.1 (hts _ (List.mem_cons_of_mem _ h1)) (hts _ (List.mem_cons_of_mem _ h2)) (hts _ (List.mem_cons_of_mem _ h3)) (hts _ (List.mem_cons_of_mem _ h4)) hE.2.2.2.2.2.2.2.1 hP (fws_D hE.2.2.2.2.2.2.2.2.2 M) hS (foff k + i) (foff k' + i') 0 0 he he' rfl rfl rfl (nz hs rs) (nz hdp rd) (nz hn rn) (by rw [es, en]; exact hb0) (by rw [ed, en]; exact hb1) (fun _ _ => rfl) hf hlo hd (fun H1 locs1 hP1 hD1 hS1 => ?_)
  rw [es, ed, en] at hP1
  have e1 : (g.2.2.1 k' i', (Sum.inl (g.2.2.2 0, n1, .inl (va_cpy (fun j => Int32.ofInt (M k i j)) (fun j => Int32.ofInt (M k' i' j)) a b n)) : va_E)) = (g.2.2.1 k' i', fcell g (fcp M k i a k' i' b n k' i') k' i') := by
    rw [fcell_i q2 q3, fcp_at]
    congr 5
    funext c
    unfold va_cpy
    by_cases h : b ≤ c ∧ c < b + n
    · rw [if_pos h]; simp [h]
    · rw [if_neg h]; simp [h]
  rw [e1, fws_set g ri' (fun a b hab => fcp_off hab)] at hP1
  exact kk ⟨hR.1, rst, fRM_cp hR.2.2 q4⟩ p e s m args below meth co H1 locs1 ar hE hP1 hS1 hl
/-- System.arraycopy of longs -/
theorem st_copyl {ix k i k' i' a b n : Nat} {n0 n1 : Nat} {zs zd zn : Int} (hd : decode Y.2.1 pc = .ok (.invokestatic ix, 3)) (h1 : Cond.methodLink Y.1.cls ix arraycopyName ∈ ftb) (h2 : Cond.native arraycopyName ∈ ftb) (h3 : Cond.static arraycopyName ∈ ftb) (h4 : Cond.initialized "java/lang/System" ∈ ftb) (q0 : fobj k = none) (qi : fari k = none) (q1 : farl k = some n0) (q2 : fobj k' = none) (qi' : fari k' = none) (q3 : farl k' = some n1) (hs : zs = (a : Int)) (hdp : zd = (b : Int)) (hn : zn = (n : Int)) (hb0 : a + n ≤ n0) (hb1 : b + n ≤ n1) (hf : 1 ≤ Y.2.2.2.2.1) (hlo : ((st.map (fMv g)).map fun v => v.category).sum + 18 ≤ Y.2.2.2.2.2) (kk : fAt g Y (pc + 3) ls st (fcp M k i a k' i' b n) Q) : fAt g Y pc ls (vi zn :: vi zd :: vr k' i' :: vi zs :: vr k i :: st) M Q := by
  intro hR p e s m args below meth co H locs ar hE hP hS hl
  obtain ⟨rn, rd, ri', rs, ri, rst⟩ := hR.2.1
  have hts := hE.2.2.2.2.2.1
  have he := fws_at g M ri
  have he' := fws_at g M ri'
  rw [fcell_l q0 qi q1] at he
  rw [fcell_l q2 qi' q3] at he'
  have en := r32_nat hn rn
  have ed := r32_nat hdp rd
  have es := r32_nat hs rs
  have nz : ∀ {z : Int} {j : Nat}, z = (j : Int) → R32 z → ¬ Int32.ofInt z < 0 := fun hz hr q => by have := (r32_ltz hr).mp q; omega
  refine va_copyl hE.1 hE.2.1 (hE.2.2.2.1.trans hl.1.symm) hE.2.2.2.2.1 (hts _ (List.mem_cons_of_mem _ h1)) (hts _ (List.mem_cons_of_mem _ h2)) (hts _ (List.mem_cons_of_mem _ h3)) (hts _ (List.mem_cons_of_mem _ h4)) hE.2.2.2.2.2.2.2.1 hP (fws_D hE.2.2.2.2.2.2.2.2.2 M) hS (foff k + i) (foff k' + i') 1 1 he he' rfl rfl rfl (nz hs rs) (nz hdp rd) (nz hn rn) (by rw [es, en]; exact hb0) (by rw [ed, en]; exact hb1) (fun _ _ => rfl) hf hlo hd (fun H1 locs1 hP1 hD1 hS1 => ?_)
  rw [es, ed, en] at hP1
  have e1 : (g.2.2.1 k' i', (Sum.inl (g.2.2.2 1, n1, .inr (.inl (va_cpy (fun j => Int64.ofInt (M k i j)) (fun j => Int64.ofInt (M k' i' j)) a b n))) : va_E)) = (g.2.2.1 k' i', fcell g (fcp M k i a k' i' b n k' i') k' i') := by
    rw [fcell_l q2 qi' q3, fcp_at]
    congr 6
    funext c
    unfold va_cpy
    by_cases h : b ≤ c ∧ c < b + n
    · rw [if_pos h]; simp [h]
    · rw [if_neg h]; simp [h]
  rw [e1, fws_set g ri' (fun a b hab => fcp_off hab)] at hP1
  exact kk ⟨hR.1, rst, fRM_cp hR.2.2 (by rw [q1, q3]; rfl)⟩ p e s m args below meth co H1 locs1 ar hE hP1 hS1 hl
end FM4
end
section
/-! ===== the methods, and the words by which they name fields and one another ===== -/
abbrev Y_X0_remember : fY := (yX0_remember, cX0_remember, 1, (Option.none : Option Jvm.ClassFile.FieldType), 2, 47)
abbrev Y_X0_stepBack : fY := (yX0_stepBack, cX0_stepBack, 1, (Option.some Jvm.ClassFile.FieldType.boolean), 2, 47)
abbrev Y_X0_forget : fY := (yX0_forget, cX0_forget, 1, (Option.none : Option Jvm.ClassFile.FieldType), 0, 0)
abbrev Y_X0_takeFrom : fY := (yX0_takeFrom, cX0_takeFrom, 3, (Option.none : Option Jvm.ClassFile.FieldType), 2, 47)
abbrev Y_X1_usePrime : fY := (yX1_usePrime, cX1_usePrime, 3, (Option.none : Option Jvm.ClassFile.FieldType), 0, 0)
abbrev Y_X1_fill : fY := (yX1_fill, cX1_fill, 6, (Option.none : Option Jvm.ClassFile.FieldType), 3, 70)
abbrev Y_X1_clearColumn : fY := (yX1_clearColumn, cX1_clearColumn, 4, (Option.none : Option Jvm.ClassFile.FieldType), 0, 0)
abbrev Y_X1_determinant : fY := (yX1_determinant, cX1_determinant, 6, (Option.some Jvm.ClassFile.FieldType.int), 2, 54)
abbrev Y_X1_solveLeast : fY := (yX1_solveLeast, cX1_solveLeast, 5, (Option.some Jvm.ClassFile.FieldType.int), 2, 55)
abbrev Y_X1_clearOthers : fY := (yX1_clearOthers, cX1_clearOthers, 7, (Option.none : Option Jvm.ClassFile.FieldType), 1, 29)
abbrev Y_X1_findPivot : fY := (yX1_findPivot, cX1_findPivot, 6, (Option.some Jvm.ClassFile.FieldType.boolean), 1, 29)
abbrev Y_X1_takeAway : fY := (yX1_takeAway, cX1_takeAway, 10, (Option.none : Option Jvm.ClassFile.FieldType), 0, 0)
abbrev Y_X2_takeLetter : fY := (yX2_takeLetter, cX2_takeLetter, 2, (Option.some Jvm.ClassFile.FieldType.boolean), 0, 0)
abbrev Y_X2_readMatrix : fY := (yX2_readMatrix, cX2_readMatrix, 3, (Option.some Jvm.ClassFile.FieldType.int), 4, 85)
abbrev Y_X2_readRow : fY := (yX2_readRow, cX2_readRow, 4, (Option.some Jvm.ClassFile.FieldType.int), 3, 62)
abbrev Y_X2_readSide : fY := (yX2_readSide, cX2_readSide, 3, (Option.some Jvm.ClassFile.FieldType.int), 3, 62)
abbrev Y_X2_clearSide : fY := (yX2_clearSide, cX2_clearSide, 2, (Option.none : Option Jvm.ClassFile.FieldType), 0, 0)
abbrev Y_X2_readNumber : fY := (yX2_readNumber, cX2_readNumber, 3, (Option.some Jvm.ClassFile.FieldType.int), 2, 40)
abbrev Y_X2_skipBlanks : fY := (yX2_skipBlanks, cX2_skipBlanks, 1, (Option.none : Option Jvm.ClassFile.FieldType), 1, 20)
abbrev Y_X2_isDigitHere : fY := (yX2_isDigitHere, cX2_isDigitHere, 1, (Option.some Jvm.ClassFile.FieldType.boolean), 1, 20)
abbrev Y_X2_letterHere : fY := (yX2_letterHere, cX2_letterHere, 1, (Option.some Jvm.ClassFile.FieldType.int), 0, 0)
abbrev Y_X2_faultHere : fY := (yX2_faultHere, cX2_faultHere, 1, (Option.some Jvm.ClassFile.FieldType.int), 0, 0)
abbrev Y_X2_kindOf : fY := (yX2_kindOf, cX2_kindOf, 1, (Option.some Jvm.ClassFile.FieldType.int), 0, 0)
abbrev Y_X3_rowLength : fY := (yX3_rowLength, cX3_rowLength, 1, (Option.some Jvm.ClassFile.FieldType.int), 0, 0)
abbrev Y_X3_takeFrom : fY := (yX3_takeFrom, cX3_takeFrom, 2, (Option.none : Option Jvm.ClassFile.FieldType), 1, 26)
abbrev Y_X3_cellAt : fY := (yX3_cellAt, cX3_cellAt, 6, (Option.some Jvm.ClassFile.FieldType.int), 2, 45)
abbrev Y_X3_placeAt : fY := (yX3_placeAt, cX3_placeAt, 5, (Option.some Jvm.ClassFile.FieldType.int), 1, 21)
abbrev Y_X3_leaveOver : fY := (yX3_leaveOver, cX3_leaveOver, 3, (Option.none : Option Jvm.ClassFile.FieldType), 1, 20)
abbrev Y_X3_addBorder : fY := (yX3_addBorder, cX3_addBorder, 2, (Option.none : Option Jvm.ClassFile.FieldType), 1, 26)
abbrev Y_X3_dropBorder : fY := (yX3_dropBorder, cX3_dropBorder, 1, (Option.none : Option Jvm.ClassFile.FieldType), 1, 26)
abbrev Y_X3_reverseRow : fY := (yX3_reverseRow, cX3_reverseRow, 4, (Option.none : Option Jvm.ClassFile.FieldType), 1, 20)
abbrev Y_X3_driftOnce : fY := (yX3_driftOnce, cX3_driftOnce, 2, (Option.none : Option Jvm.ClassFile.FieldType), 1, 20)
abbrev Y_X4_isMissing : fY := (yX4_isMissing, cX4_isMissing, 1, (Option.some Jvm.ClassFile.FieldType.boolean), 0, 0)
abbrev Y_X4_begin : fY := (yX4_begin, cX4_begin, 4, (Option.none : Option Jvm.ClassFile.FieldType), 0, 0)
abbrev Y_X4_lose : fY := (yX4_lose, cX4_lose, 1, (Option.none : Option Jvm.ClassFile.FieldType), 0, 0)
abbrev Y_X4_holds : fY := (yX4_holds, cX4_holds, 3, (Option.some Jvm.ClassFile.FieldType.boolean), 0, 0)
abbrev Y_X5_isOf : fY := (yX5_isOf, cX5_isOf, 4, (Option.some Jvm.ClassFile.FieldType.boolean), 1, 20)
abbrev Y_X5_begin : fY := (yX5_begin, cX5_begin, 5, (Option.none : Option Jvm.ClassFile.FieldType), 2, 47)
abbrev Y_X5_weighted : fY := (yX5_weighted, cX5_weighted, 5, (Option.some Jvm.ClassFile.FieldType.long), 1, 25)
abbrev Y_X6_prime : fY := (yX6_prime, cX6_prime, 3, (Option.some Jvm.ClassFile.FieldType.int), 2, 42)
abbrev Y_X6_type : fY := (yX6_type, cX6_type, 2, (Option.some Jvm.ClassFile.FieldType.int), 1, 21)
abbrev Y_X6_matrix : fY := (yX6_matrix, cX6_matrix, 3, (Option.some Jvm.ClassFile.FieldType.int), 5, 107)
abbrev Y_X6_line : fY := (yX6_line, cX6_line, 2, (Option.some Jvm.ClassFile.FieldType.int), 2, 41)
abbrev Y_X6_right : fY := (yX6_right, cX6_right, 2, (Option.some Jvm.ClassFile.FieldType.int), 1, 21)
abbrev Y_X6_entry : fY := (yX6_entry, cX6_entry, 3, (Option.some Jvm.ClassFile.FieldType.int), 3, 70)
abbrev Y_X6_count : fY := (yX6_count, cX6_count, 2, (Option.some Jvm.ClassFile.FieldType.int), 6, 139)
abbrev Y_X6_change : fY := (yX6_change, cX6_change, 4, (Option.some Jvm.ClassFile.FieldType.int), 3, 67)
abbrev Y_X6_put : fY := (yX6_put, cX6_put, 4, (Option.some Jvm.ClassFile.FieldType.int), 3, 67)
abbrev Y_X6_shape : fY := (yX6_shape, cX6_shape, 3, (Option.some Jvm.ClassFile.FieldType.int), 3, 67)
abbrev Y_X6_widen : fY := (yX6_widen, cX6_widen, 1, (Option.some Jvm.ClassFile.FieldType.int), 3, 67)
abbrev Y_X6_cut : fY := (yX6_cut, cX6_cut, 1, (Option.some Jvm.ClassFile.FieldType.int), 3, 67)
abbrev Y_X6_turn : fY := (yX6_turn, cX6_turn, 1, (Option.some Jvm.ClassFile.FieldType.int), 6, 137)
abbrev Y_X6_drift : fY := (yX6_drift, cX6_drift, 3, (Option.some Jvm.ClassFile.FieldType.int), 6, 137)
abbrev Y_X6_undo : fY := (yX6_undo, cX6_undo, 1, (Option.some Jvm.ClassFile.FieldType.int), 3, 67)
abbrev Y_X6_seed : fY := (yX6_seed, cX6_seed, 3, (Option.some Jvm.ClassFile.FieldType.int), 0, 0)
abbrev Y_X6_corner : fY := (yX6_corner, cX6_corner, 2, (Option.some Jvm.ClassFile.FieldType.int), 5, 117)
abbrev Y_X6_leap : fY := (yX6_leap, cX6_leap, 3, (Option.some Jvm.ClassFile.FieldType.int), 5, 117)
abbrev Y_X6_solved : fY := (yX6_solved, cX6_solved, 4, (Option.some Jvm.ClassFile.FieldType.long), 5, 117)
abbrev Y_X6_inverse : fY := (yX6_inverse, cX6_inverse, 5, (Option.some Jvm.ClassFile.FieldType.int), 6, 137)
abbrev Y_X6_weak : fY := (yX6_weak, cX6_weak, 6, (Option.some Jvm.ClassFile.FieldType.int), 5, 117)
abbrev Y_X6_mend : fY := (yX6_mend, cX6_mend, 4, (Option.some Jvm.ClassFile.FieldType.int), 6, 139)
abbrev Y_X6_term : fY := (yX6_term, cX6_term, 3, (Option.some Jvm.ClassFile.FieldType.int), 5, 126)
abbrev Y_X6_next : fY := (yX6_next, cX6_next, 7, (Option.some Jvm.ClassFile.FieldType.int), 5, 126)
abbrev Y_X6_wiped : fY := (yX6_wiped, cX6_wiped, 9, (Option.some Jvm.ClassFile.FieldType.long), 6, 140)
abbrev Y_X6_image : fY := (yX6_image, cX6_image, 1, (Option.some Jvm.ClassFile.FieldType.int), 3, 69)
abbrev Y_X6_restore : fY := (yX6_restore, cX6_restore, 1, (Option.some Jvm.ClassFile.FieldType.int), 3, 69)
abbrev Y_X6_came : fY := (yX6_came, cX6_came, 8, (Option.some Jvm.ClassFile.FieldType.int), 5, 116)
abbrev Y_X6_apply : fY := (yX6_apply, cX6_apply, 7, (Option.some Jvm.ClassFile.FieldType.int), 4, 94)
abbrev Y_X6_film : fY := (yX6_film, cX6_film, 9, (Option.some Jvm.ClassFile.FieldType.int), 5, 117)
abbrev Y_X6_sheet : fY := (yX6_sheet, cX6_sheet, 4, (Option.some Jvm.ClassFile.FieldType.int), 1, 23)
abbrev Y_X6_drop : fY := (yX6_drop, cX6_drop, 3, (Option.some Jvm.ClassFile.FieldType.int), 1, 20)
abbrev Y_X6_item : fY := (yX6_item, cX6_item, 7, (Option.some Jvm.ClassFile.FieldType.int), 2, 46)
abbrev Y_X6_copy : fY := (yX6_copy, cX6_copy, 8, (Option.some Jvm.ClassFile.FieldType.int), 1, 26)
abbrev Y_X6_isPrime : fY := (yX6_isPrime, cX6_isPrime, 2, (Option.some Jvm.ClassFile.FieldType.boolean), 0, 0)
abbrev Y_X6_isPlace : fY := (yX6_isPlace, cX6_isPlace, 2, (Option.some Jvm.ClassFile.FieldType.boolean), 1, 20)
abbrev Y_X6_isWithin : fY := (yX6_isWithin, cX6_isWithin, 2, (Option.some Jvm.ClassFile.FieldType.boolean), 0, 0)
abbrev Y_X6_isNumber : fY := (yX6_isNumber, cX6_isNumber, 3, (Option.some Jvm.ClassFile.FieldType.boolean), 0, 0)
abbrev Y_X6_isHalf : fY := (yX6_isHalf, cX6_isHalf, 1, (Option.some Jvm.ClassFile.FieldType.boolean), 0, 0)
abbrev Y_X6_isSheet : fY := (yX6_isSheet, cX6_isSheet, 1, (Option.some Jvm.ClassFile.FieldType.boolean), 0, 0)
abbrev Y_X6_isLane : fY := (yX6_isLane, cX6_isLane, 1, (Option.some Jvm.ClassFile.FieldType.boolean), 0, 0)
abbrev Y_X6_refusalOf : fY := (yX6_refusalOf, cX6_refusalOf, 5, (Option.some Jvm.ClassFile.FieldType.int), 1, 22)
abbrev Y_X6_cornerOf : fY := (yX6_cornerOf, cX6_cornerOf, 3, (Option.some Jvm.ClassFile.FieldType.int), 4, 95)
abbrev Y_X6_wholeCorner : fY := (yX6_wholeCorner, cX6_wholeCorner, 1, (Option.some Jvm.ClassFile.FieldType.int), 5, 117)
abbrev Y_X6_singularCorners : fY := (yX6_singularCorners, cX6_singularCorners, 3, (Option.some Jvm.ClassFile.FieldType.int), 5, 117)
abbrev Y_X6_rankOfMatrix : fY := (yX6_rankOfMatrix, cX6_rankOfMatrix, 2, (Option.some Jvm.ClassFile.FieldType.int), 4, 95)
abbrev Y_X6_solveMatrix : fY := (yX6_solveMatrix, cX6_solveMatrix, 3, (Option.some Jvm.ClassFile.FieldType.long), 4, 95)
abbrev Y_X6_leastMender : fY := (yX6_leastMender, cX6_leastMender, 3, (Option.some Jvm.ClassFile.FieldType.int), 5, 117)
abbrev Y_X6_findLaw : fY := (yX6_findLaw, cX6_findLaw, 3, (Option.some Jvm.ClassFile.FieldType.int), 4, 104)
abbrev Y_X6_fitsLaw : fY := (yX6_fitsLaw, cX6_fitsLaw, 6, (Option.some Jvm.ClassFile.FieldType.boolean), 3, 79)
abbrev Y_X6_countWipes : fY := (yX6_countWipes, cX6_countWipes, 4, (Option.none : Option Jvm.ClassFile.FieldType), 5, 117)
abbrev Y_X6_power : fY := (yX6_power, cX6_power, 6, (Option.some Jvm.ClassFile.FieldType.long), 0, 0)
abbrev Y_X6_greatestShared : fY := (yX6_greatestShared, cX6_greatestShared, 11, (Option.some Jvm.ClassFile.FieldType.long), 0, 0)
abbrev Y_X6_readNumbers : fY := (yX6_readNumbers, cX6_readNumbers, 5, (Option.some Jvm.ClassFile.FieldType.boolean), 1, 22)
abbrev Y_X6_rowTimesGiven : fY := (yX6_rowTimesGiven, cX6_rowTimesGiven, 5, (Option.some Jvm.ClassFile.FieldType.int), 3, 70)
abbrev Y_X6_comesBy : fY := (yX6_comesBy, cX6_comesBy, 3, (Option.some Jvm.ClassFile.FieldType.boolean), 4, 94)
abbrev Y_X6_lowestBits : fY := (yX6_lowestBits, cX6_lowestBits, 3, (Option.some Jvm.ClassFile.FieldType.long), 0, 0)
abbrev Y_X7_in : fY := (yX7_in, cX7_in, 6, (Option.some Jvm.ClassFile.FieldType.boolean), 0, 0)
abbrev Y_X7_lines : fY := (yX7_lines, cX7_lines, 1, (Option.some Jvm.ClassFile.FieldType.int), 0, 0)
abbrev Y_X7_isNumber : fY := (yX7_isNumber, cX7_isNumber, 3, (Option.some Jvm.ClassFile.FieldType.boolean), 1, 25)
abbrev Y_X7_isLine : fY := (yX7_isLine, cX7_isLine, 2, (Option.some Jvm.ClassFile.FieldType.boolean), 1, 25)
abbrev Y_X7_isRow : fY := (yX7_isRow, cX7_isRow, 2, (Option.some Jvm.ClassFile.FieldType.boolean), 1, 25)
abbrev Y_X7_entryBy : fY := (yX7_entryBy, cX7_entryBy, 7, (Option.some Jvm.ClassFile.FieldType.int), 0, 0)
abbrev Y_X7_inverseOf : fY := (yX7_inverseOf, cX7_inverseOf, 3, (Option.some Jvm.ClassFile.FieldType.int), 0, 0)
abbrev Y_X7_swaps : fY := (yX7_swaps, cX7_swaps, 5, (Option.none : Option Jvm.ClassFile.FieldType), 0, 0)
abbrev Y_X7_multiplies : fY := (yX7_multiplies, cX7_multiplies, 4, (Option.none : Option Jvm.ClassFile.FieldType), 0, 0)
abbrev Y_X7_takes : fY := (yX7_takes, cX7_takes, 6, (Option.none : Option Jvm.ClassFile.FieldType), 0, 0)
abbrev Y_X7_pivot : fY := (yX7_pivot, cX7_pivot, 6, (Option.some Jvm.ClassFile.FieldType.int), 0, 0)
abbrev Y_X7_fills : fY := (yX7_fills, cX7_fills, 5, (Option.none : Option Jvm.ClassFile.FieldType), 1, 26)
abbrev Y_X7_cornerOf : fY := (yX7_cornerOf, cX7_cornerOf, 8, (Option.some Jvm.ClassFile.FieldType.int), 2, 50)
abbrev Y_X7_worksOut : fY := (yX7_worksOut, cX7_worksOut, 6, (Option.some Jvm.ClassFile.FieldType.boolean), 1, 25)
abbrev Y_X7_least : fY := (yX7_least, cX7_least, 3, (Option.some Jvm.ClassFile.FieldType.int), 0, 0)
abbrev Y_X7_solves : fY := (yX7_solves, cX7_solves, 4, (Option.some Jvm.ClassFile.FieldType.boolean), 2, 50)
abbrev Y_X7_ways : fY := (yX7_ways, cX7_ways, 4, (Option.some Jvm.ClassFile.FieldType.long), 3, 73)
abbrev Y_X7_isPrime : fY := (yX7_isPrime, cX7_isPrime, 3, (Option.some Jvm.ClassFile.FieldType.boolean), 1, 25)
abbrev Y_X7_prime : fY := (yX7_prime, cX7_prime, 4, (Option.some Jvm.ClassFile.FieldType.int), 2, 47)
abbrev Y_X7_line : fY := (yX7_line, cX7_line, 2, (Option.some Jvm.ClassFile.FieldType.int), 2, 46)
abbrev Y_X7_right : fY := (yX7_right, cX7_right, 2, (Option.some Jvm.ClassFile.FieldType.int), 2, 46)
abbrev Y_X7_entry : fY := (yX7_entry, cX7_entry, 3, (Option.some Jvm.ClassFile.FieldType.int), 2, 46)
abbrev Y_X7_singular : fY := (yX7_singular, cX7_singular, 3, (Option.some Jvm.ClassFile.FieldType.int), 3, 77)
abbrev Y_X7_rankOf : fY := (yX7_rankOf, cX7_rankOf, 2, (Option.some Jvm.ClassFile.FieldType.int), 3, 73)
abbrev Y_X7_count : fY := (yX7_count, cX7_count, 2, (Option.some Jvm.ClassFile.FieldType.int), 4, 99)
abbrev Y_X7_type : fY := (yX7_type, cX7_type, 2, (Option.some Jvm.ClassFile.FieldType.int), 1, 25)
abbrev Y_X7_here : fY := (yX7_here, cX7_here, 1, (Option.some Jvm.ClassFile.FieldType.int), 0, 0)
abbrev Y_X7_has : fY := (yX7_has, cX7_has, 2, (Option.some Jvm.ClassFile.FieldType.boolean), 1, 20)
abbrev Y_X7_number : fY := (yX7_number, cX7_number, 3, (Option.some Jvm.ClassFile.FieldType.int), 2, 47)
abbrev Y_X7_kindBy : fY := (yX7_kindBy, cX7_kindBy, 1, (Option.some Jvm.ClassFile.FieldType.int), 0, 0)
abbrev Y_X7_numbers : fY := (yX7_numbers, cX7_numbers, 6, (Option.some Jvm.ClassFile.FieldType.int), 3, 69)
abbrev Y_X7_fault : fY := (yX7_fault, cX7_fault, 3, (Option.some Jvm.ClassFile.FieldType.int), 1, 20)
abbrev Y_X7_matrix : fY := (yX7_matrix, cX7_matrix, 6, (Option.some Jvm.ClassFile.FieldType.int), 4, 94)
abbrev Y_X7_notes : fY := (yX7_notes, cX7_notes, 2, (Option.none : Option Jvm.ClassFile.FieldType), 0, 0)
abbrev Y_X7_change : fY := (yX7_change, cX7_change, 4, (Option.some Jvm.ClassFile.FieldType.int), 2, 47)
abbrev Y_X7_put : fY := (yX7_put, cX7_put, 4, (Option.some Jvm.ClassFile.FieldType.int), 2, 47)
abbrev Y_X7_shape : fY := (yX7_shape, cX7_shape, 3, (Option.some Jvm.ClassFile.FieldType.int), 1, 25)
abbrev Y_X7_widen : fY := (yX7_widen, cX7_widen, 3, (Option.some Jvm.ClassFile.FieldType.int), 1, 21)
abbrev Y_X7_cut : fY := (yX7_cut, cX7_cut, 3, (Option.some Jvm.ClassFile.FieldType.int), 1, 21)
abbrev Y_X7_turn : fY := (yX7_turn, cX7_turn, 4, (Option.some Jvm.ClassFile.FieldType.int), 3, 77)
abbrev Y_X7_drift : fY := (yX7_drift, cX7_drift, 5, (Option.some Jvm.ClassFile.FieldType.int), 3, 77)
abbrev Y_X7_undo : fY := (yX7_undo, cX7_undo, 2, (Option.some Jvm.ClassFile.FieldType.int), 0, 0)
abbrev Y_X7_seed : fY := (yX7_seed, cX7_seed, 3, (Option.some Jvm.ClassFile.FieldType.int), 0, 0)
abbrev Y_X7_corner : fY := (yX7_corner, cX7_corner, 2, (Option.some Jvm.ClassFile.FieldType.int), 3, 77)
abbrev Y_X7_leap : fY := (yX7_leap, cX7_leap, 3, (Option.some Jvm.ClassFile.FieldType.int), 3, 77)
abbrev Y_X7_solved : fY := (yX7_solved, cX7_solved, 4, (Option.some Jvm.ClassFile.FieldType.long), 4, 96)
abbrev Y_X7_inverse : fY := (yX7_inverse, cX7_inverse, 4, (Option.some Jvm.ClassFile.FieldType.int), 3, 73)
abbrev Y_X7_weak : fY := (yX7_weak, cX7_weak, 7, (Option.some Jvm.ClassFile.FieldType.int), 3, 77)
abbrev Y_X7_mends : fY := (yX7_mends, cX7_mends, 5, (Option.some Jvm.ClassFile.FieldType.int), 3, 77)
abbrev Y_X7_mend : fY := (yX7_mend, cX7_mend, 4, (Option.some Jvm.ClassFile.FieldType.int), 4, 101)
abbrev Y_X7_isLaw : fY := (yX7_isLaw, cX7_isLaw, 5, (Option.some Jvm.ClassFile.FieldType.boolean), 2, 50)
abbrev Y_X7_law : fY := (yX7_law, cX7_law, 2, (Option.some Jvm.ClassFile.FieldType.int), 3, 74)
abbrev Y_X7_term : fY := (yX7_term, cX7_term, 2, (Option.some Jvm.ClassFile.FieldType.int), 4, 95)
abbrev Y_X7_next : fY := (yX7_next, cX7_next, 7, (Option.some Jvm.ClassFile.FieldType.int), 4, 95)
abbrev Y_X7_wiped : fY := (yX7_wiped, cX7_wiped, 14, (Option.some Jvm.ClassFile.FieldType.long), 3, 77)
abbrev Y_X7_image : fY := (yX7_image, cX7_image, 2, (Option.some Jvm.ClassFile.FieldType.int), 0, 0)
abbrev Y_X7_restore : fY := (yX7_restore, cX7_restore, 2, (Option.some Jvm.ClassFile.FieldType.int), 0, 0)
abbrev Y_X7_isSheet : fY := (yX7_isSheet, cX7_isSheet, 1, (Option.some Jvm.ClassFile.FieldType.boolean), 1, 25)
abbrev Y_X7_cutTo : fY := (yX7_cutTo, cX7_cutTo, 3, (Option.some Jvm.ClassFile.FieldType.long), 0, 0)
abbrev Y_X7_sheet : fY := (yX7_sheet, cX7_sheet, 5, (Option.some Jvm.ClassFile.FieldType.int), 2, 45)
abbrev Y_X7_drop : fY := (yX7_drop, cX7_drop, 2, (Option.some Jvm.ClassFile.FieldType.int), 2, 45)
abbrev Y_X7_why : fY := (yX7_why, cX7_why, 5, (Option.some Jvm.ClassFile.FieldType.int), 0, 0)
abbrev Y_X7_item : fY := (yX7_item, cX7_item, 7, (Option.some Jvm.ClassFile.FieldType.int), 2, 45)
abbrev Y_X7_copy : fY := (yX7_copy, cX7_copy, 7, (Option.some Jvm.ClassFile.FieldType.int), 2, 45)
abbrev Y_X7_areNumbers : fY := (yX7_areNumbers, cX7_areNumbers, 5, (Option.some Jvm.ClassFile.FieldType.boolean), 2, 47)
abbrev Y_X7_comes : fY := (yX7_comes, cX7_comes, 7, (Option.some Jvm.ClassFile.FieldType.int), 1, 26)
abbrev Y_X7_came : fY := (yX7_came, cX7_came, 11, (Option.some Jvm.ClassFile.FieldType.int), 3, 71)
abbrev Y_X7_apply : fY := (yX7_apply, cX7_apply, 8, (Option.some Jvm.ClassFile.FieldType.int), 3, 71)
abbrev Y_X7_film : fY := (yX7_film, cX7_film, 9, (Option.some Jvm.ClassFile.FieldType.int), 4, 96)
theorem ic_X0 : ∀ w ∈ u_ws RX0 TX0 5, w ∈ ftb := by decide +kernel
theorem ic_X1 : ∀ w ∈ u_ws RX1 TX1 4, w ∈ ftb := by decide +kernel
theorem ic_X2 : ∀ w ∈ u_ws RX2 TX2 6, w ∈ ftb := by decide +kernel
theorem ic_X3 : ∀ w ∈ u_ws RX3 TX3 5, w ∈ ftb := by decide +kernel
theorem ic_X4 : ∀ w ∈ u_ws RX4 TX4 3, w ∈ ftb := by decide +kernel
theorem ic_X5 : ∀ w ∈ u_ws RX5 TX5 5, w ∈ ftb := by decide +kernel
theorem ic_X6 : ∀ w ∈ u_ws RX6 TX6 11, w ∈ ftb := by decide +kernel
theorem ic_X7 : ∀ w ∈ u_ws RX7 TX7 19, w ∈ ftb := by decide +kernel
theorem fl_X3_9 : fFl RX3 9 3 0 := ⟨RX3, TX3, 5, tyX3, rfl, ic_X3, by decide, ftb_in 90 (by decide +kernel) rfl, tyX3_ok, nmX3, fun _ => Or.inl rfl⟩
theorem fl_X5_33 : fFl RX5 33 3 0 := ⟨RX3, TX3, 5, tyX3, rfl, ic_X3, by decide, ftb_in 91 (by decide +kernel) rfl, tyX3_ok, nmX3, fun _ => Or.inl rfl⟩
theorem fl_X6_106 : fFl RX6 106 3 0 := ⟨RX3, TX3, 5, tyX3, rfl, ic_X3, by decide, ftb_in 92 (by decide +kernel) rfl, tyX3_ok, nmX3, fun _ => Or.inl rfl⟩
theorem fl_X2_67 : fFl RX2 67 3 0 := ⟨RX3, TX3, 5, tyX3, rfl, ic_X3, by decide, ftb_in 93 (by decide +kernel) rfl, tyX3_ok, nmX3, fun _ => Or.inl rfl⟩
theorem fl_X3_15 : fFl RX3 15 3 1 := ⟨RX3, TX3, 5, tyX3, rfl, ic_X3, by decide, ftb_in 94 (by decide +kernel) rfl, tyX3_ok, nmX3, fun _ => Or.inl rfl⟩
theorem fl_X5_36 : fFl RX5 36 3 1 := ⟨RX3, TX3, 5, tyX3, rfl, ic_X3, by decide, ftb_in 95 (by decide +kernel) rfl, tyX3_ok, nmX3, fun _ => Or.inl rfl⟩
theorem fl_X2_46 : fFl RX2 46 3 1 := ⟨RX3, TX3, 5, tyX3, rfl, ic_X3, by decide, ftb_in 96 (by decide +kernel) rfl, tyX3_ok, nmX3, fun _ => Or.inl rfl⟩
theorem fl_X1_31 : fFl RX1 31 3 1 := ⟨RX3, TX3, 5, tyX3, rfl, ic_X3, by decide, ftb_in 97 (by decide +kernel) rfl, tyX3_ok, nmX3, fun _ => Or.inl rfl⟩
theorem fl_X6_121 : fFl RX6 121 3 1 := ⟨RX3, TX3, 5, tyX3, rfl, ic_X3, by decide, ftb_in 98 (by decide +kernel) rfl, tyX3_ok, nmX3, fun _ => Or.inl rfl⟩
theorem fl_X3_18 : fFl RX3 18 3 2 := ⟨RX3, TX3, 5, tyX3, rfl, ic_X3, by decide, ftb_in 99 (by decide +kernel) rfl, tyX3_ok, nmX3, fun _ => Or.inl rfl⟩
theorem fl_X6_96 : fFl RX6 96 3 2 := ⟨RX3, TX3, 5, tyX3, rfl, ic_X3, by decide, ftb_in 100 (by decide +kernel) rfl, tyX3_ok, nmX3, fun _ => Or.inl rfl⟩
theorem fl_X3_21 : fFl RX3 21 3 3 := ⟨RX3, TX3, 5, tyX3, rfl, ic_X3, by decide, ftb_in 101 (by decide +kernel) rfl, tyX3_ok, nmX3, fun h => absurd h (by decide)⟩
theorem fl_X5_43 : fFl RX5 43 3 3 := ⟨RX3, TX3, 5, tyX3, rfl, ic_X3, by decide, ftb_in 102 (by decide +kernel) rfl, tyX3_ok, nmX3, fun h => absurd h (by decide)⟩
theorem fl_X2_64 : fFl RX2 64 3 3 := ⟨RX3, TX3, 5, tyX3, rfl, ic_X3, by decide, ftb_in 103 (by decide +kernel) rfl, tyX3_ok, nmX3, fun h => absurd h (by decide)⟩
theorem fl_X6_112 : fFl RX6 112 3 3 := ⟨RX3, TX3, 5, tyX3, rfl, ic_X3, by decide, ftb_in 104 (by decide +kernel) rfl, tyX3_ok, nmX3, fun h => absurd h (by decide)⟩
theorem fl_X3_25 : fFl RX3 25 3 4 := ⟨RX3, TX3, 5, tyX3, rfl, ic_X3, by decide, ftb_in 105 (by decide +kernel) rfl, tyX3_ok, nmX3, fun h => absurd h (by decide)⟩
theorem fl_X2_70 : fFl RX2 70 3 4 := ⟨RX3, TX3, 5, tyX3, rfl, ic_X3, by decide, ftb_in 106 (by decide +kernel) rfl, tyX3_ok, nmX3, fun h => absurd h (by decide)⟩
theorem fl_X6_118 : fFl RX6 118 3 4 := ⟨RX3, TX3, 5, tyX3, rfl, ic_X3, by decide, ftb_in 107 (by decide +kernel) rfl, tyX3_ok, nmX3, fun h => absurd h (by decide)⟩
theorem fl_X0_9 : fFl RX0 9 0 0 := ⟨RX0, TX0, 5, tyX0, rfl, ic_X0, by decide, ftb_in 121 (by decide +kernel) rfl, tyX0_ok, nmX0, fun _ => Or.inl rfl⟩
theorem fl_X6_72 : fFl RX6 72 0 0 := ⟨RX0, TX0, 5, tyX0, rfl, ic_X0, by decide, ftb_in 122 (by decide +kernel) rfl, tyX0_ok, nmX0, fun _ => Or.inl rfl⟩
theorem fl_X0_15 : fFl RX0 15 0 1 := ⟨RX0, TX0, 5, tyX0, rfl, ic_X0, by decide, ftb_in 123 (by decide +kernel) rfl, tyX0_ok, nmX0, fun _ => Or.inl rfl⟩
theorem fl_X6_141 : fFl RX6 141 0 1 := ⟨RX0, TX0, 5, tyX0, rfl, ic_X0, by decide, ftb_in 124 (by decide +kernel) rfl, tyX0_ok, nmX0, fun _ => Or.inl rfl⟩
theorem fl_X0_21 : fFl RX0 21 0 2 := ⟨RX0, TX0, 5, tyX0, rfl, ic_X0, by decide, ftb_in 125 (by decide +kernel) rfl, tyX0_ok, nmX0, fun h => absurd h (by decide)⟩
theorem fl_X6_76 : fFl RX6 76 0 2 := ⟨RX0, TX0, 5, tyX0, rfl, ic_X0, by decide, ftb_in 126 (by decide +kernel) rfl, tyX0_ok, nmX0, fun h => absurd h (by decide)⟩
theorem fl_X0_25 : fFl RX0 25 0 3 := ⟨RX0, TX0, 5, tyX0, rfl, ic_X0, by decide, ftb_in 127 (by decide +kernel) rfl, tyX0_ok, nmX0, fun _ => Or.inl rfl⟩
theorem fl_X0_28 : fFl RX0 28 0 4 := ⟨RX0, TX0, 5, tyX0, rfl, ic_X0, by decide, ftb_in 128 (by decide +kernel) rfl, tyX0_ok, nmX0, fun h => absurd h (by decide)⟩
theorem fl_X2_9 : fFl RX2 9 2 0 := ⟨RX2, TX2, 6, tyX2, rfl, ic_X2, by decide, ftb_in 148 (by decide +kernel) rfl, tyX2_ok, nmX2, fun _ => Or.inl rfl⟩
theorem fl_X6_89 : fFl RX6 89 2 0 := ⟨RX2, TX2, 6, tyX2, rfl, ic_X2, by decide, ftb_in 149 (by decide +kernel) rfl, tyX2_ok, nmX2, fun _ => Or.inl rfl⟩
theorem fl_X2_18 : fFl RX2 18 2 1 := ⟨RX2, TX2, 6, tyX2, rfl, ic_X2, by decide, ftb_in 150 (by decide +kernel) rfl, tyX2_ok, nmX2, fun h => absurd h (by decide)⟩
theorem fl_X6_99 : fFl RX6 99 2 1 := ⟨RX2, TX2, 6, tyX2, rfl, ic_X2, by decide, ftb_in 151 (by decide +kernel) rfl, tyX2_ok, nmX2, fun h => absurd h (by decide)⟩
theorem fl_X2_22 : fFl RX2 22 2 2 := ⟨RX2, TX2, 6, tyX2, rfl, ic_X2, by decide, ftb_in 152 (by decide +kernel) rfl, tyX2_ok, nmX2, fun h => absurd h (by decide)⟩
theorem fl_X2_26 : fFl RX2 26 2 3 := ⟨RX2, TX2, 6, tyX2, rfl, ic_X2, by decide, ftb_in 153 (by decide +kernel) rfl, tyX2_ok, nmX2, fun _ => Or.inl rfl⟩
theorem fl_X2_29 : fFl RX2 29 2 4 := ⟨RX2, TX2, 6, tyX2, rfl, ic_X2, by decide, ftb_in 154 (by decide +kernel) rfl, tyX2_ok, nmX2, fun _ => Or.inl rfl⟩
theorem fl_X2_32 : fFl RX2 32 2 5 := ⟨RX2, TX2, 6, tyX2, rfl, ic_X2, by decide, ftb_in 155 (by decide +kernel) rfl, tyX2_ok, nmX2, fun _ => Or.inl rfl⟩
theorem fl_X1_11 : fFl RX1 11 1 0 := ⟨RX1, TX1, 4, tyX1, rfl, ic_X1, by decide, ftb_in 177 (by decide +kernel) rfl, tyX1_ok, nmX1, fun h => absurd h (by decide)⟩
theorem fl_X6_186 : fFl RX6 186 1 0 := ⟨RX1, TX1, 4, tyX1, rfl, ic_X1, by decide, ftb_in 178 (by decide +kernel) rfl, tyX1_ok, nmX1, fun h => absurd h (by decide)⟩
theorem fl_X1_16 : fFl RX1 16 1 1 := ⟨RX1, TX1, 4, tyX1, rfl, ic_X1, by decide, ftb_in 179 (by decide +kernel) rfl, tyX1_ok, nmX1, fun h => absurd h (by decide)⟩
theorem fl_X6_179 : fFl RX6 179 1 1 := ⟨RX1, TX1, 4, tyX1, rfl, ic_X1, by decide, ftb_in 180 (by decide +kernel) rfl, tyX1_ok, nmX1, fun h => absurd h (by decide)⟩
theorem fl_X1_20 : fFl RX1 20 1 2 := ⟨RX1, TX1, 4, tyX1, rfl, ic_X1, by decide, ftb_in 181 (by decide +kernel) rfl, tyX1_ok, nmX1, fun h => absurd h (by decide)⟩
theorem fl_X1_23 : fFl RX1 23 1 3 := ⟨RX1, TX1, 4, tyX1, rfl, ic_X1, by decide, ftb_in 182 (by decide +kernel) rfl, tyX1_ok, nmX1, fun _ => Or.inl rfl⟩
theorem fl_X5_9 : fFl RX5 9 5 0 := ⟨RX5, TX5, 5, tyX5, rfl, ic_X5, by decide, ftb_in 202 (by decide +kernel) rfl, tyX5_ok, nmX5, fun h => absurd h (by decide)⟩
theorem fl_X6_306 : fFl RX6 306 5 0 := ⟨RX5, TX5, 5, tyX5, rfl, ic_X5, by decide, ftb_in 203 (by decide +kernel) rfl, tyX5_ok, nmX5, fun h => absurd h (by decide)⟩
theorem fl_X5_15 : fFl RX5 15 5 1 := ⟨RX5, TX5, 5, tyX5, rfl, ic_X5, by decide, ftb_in 204 (by decide +kernel) rfl, tyX5_ok, nmX5, fun h => absurd h (by decide)⟩
theorem fl_X6_303 : fFl RX6 303 5 1 := ⟨RX5, TX5, 5, tyX5, rfl, ic_X5, by decide, ftb_in 205 (by decide +kernel) rfl, tyX5_ok, nmX5, fun h => absurd h (by decide)⟩
theorem fl_X5_19 : fFl RX5 19 5 2 := ⟨RX5, TX5, 5, tyX5, rfl, ic_X5, by decide, ftb_in 206 (by decide +kernel) rfl, tyX5_ok, nmX5, fun _ => Or.inl rfl⟩
theorem fl_X6_222 : fFl RX6 222 5 2 := ⟨RX5, TX5, 5, tyX5, rfl, ic_X5, by decide, ftb_in 207 (by decide +kernel) rfl, tyX5_ok, nmX5, fun _ => Or.inl rfl⟩
theorem fl_X5_23 : fFl RX5 23 5 3 := ⟨RX5, TX5, 5, tyX5, rfl, ic_X5, by decide, ftb_in 208 (by decide +kernel) rfl, tyX5_ok, nmX5, fun _ => Or.inl rfl⟩
theorem fl_X5_29 : fFl RX5 29 5 4 := ⟨RX5, TX5, 5, tyX5, rfl, ic_X5, by decide, ftb_in 209 (by decide +kernel) rfl, tyX5_ok, nmX5, fun h => absurd h (by decide)⟩
theorem fl_X4_11 : fFl RX4 11 4 0 := ⟨RX4, TX4, 3, tyX4, rfl, ic_X4, by decide, ftb_in 229 (by decide +kernel) rfl, tyX4_ok, nmX4, fun _ => Or.inl rfl⟩
theorem fl_X6_281 : fFl RX6 281 4 0 := ⟨RX4, TX4, 3, tyX4, rfl, ic_X4, by decide, ftb_in 230 (by decide +kernel) rfl, tyX4_ok, nmX4, fun _ => Or.inl rfl⟩
theorem fl_X4_15 : fFl RX4 15 4 1 := ⟨RX4, TX4, 3, tyX4, rfl, ic_X4, by decide, ftb_in 231 (by decide +kernel) rfl, tyX4_ok, nmX4, fun _ => Or.inl rfl⟩
theorem fl_X6_273 : fFl RX6 273 4 1 := ⟨RX4, TX4, 3, tyX4, rfl, ic_X4, by decide, ftb_in 232 (by decide +kernel) rfl, tyX4_ok, nmX4, fun _ => Or.inl rfl⟩
theorem fl_X4_18 : fFl RX4 18 4 2 := ⟨RX4, TX4, 3, tyX4, rfl, ic_X4, by decide, ftb_in 233 (by decide +kernel) rfl, tyX4_ok, nmX4, fun h => absurd h (by decide)⟩
theorem fl_X6_246 : fFl RX6 246 4 2 := ⟨RX4, TX4, 3, tyX4, rfl, ic_X4, by decide, ftb_in 234 (by decide +kernel) rfl, tyX4_ok, nmX4, fun h => absurd h (by decide)⟩
theorem fl_X6_12 : fFl RX6 12 6 0 := ⟨RX6, TX6, 11, tyX6, rfl, ic_X6, by decide, ftb_in 242 (by decide +kernel) rfl, tyX6_ok, nmX6, fun h => absurd h (by decide)⟩
theorem fl_X6_16 : fFl RX6 16 6 1 := ⟨RX6, TX6, 11, tyX6, rfl, ic_X6, by decide, ftb_in 243 (by decide +kernel) rfl, tyX6_ok, nmX6, fun h => absurd h (by decide)⟩
theorem fl_X6_19 : fFl RX6 19 6 2 := ⟨RX6, TX6, 11, tyX6, rfl, ic_X6, by decide, ftb_in 244 (by decide +kernel) rfl, tyX6_ok, nmX6, fun _ => Or.inr rfl⟩
theorem fl_X6_26 : fFl RX6 26 6 3 := ⟨RX6, TX6, 11, tyX6, rfl, ic_X6, by decide, ftb_in 245 (by decide +kernel) rfl, tyX6_ok, nmX6, fun h => absurd h (by decide)⟩
theorem fl_X6_33 : fFl RX6 33 6 4 := ⟨RX6, TX6, 11, tyX6, rfl, ic_X6, by decide, ftb_in 246 (by decide +kernel) rfl, tyX6_ok, nmX6, fun h => absurd h (by decide)⟩
theorem fl_X6_40 : fFl RX6 40 6 5 := ⟨RX6, TX6, 11, tyX6, rfl, ic_X6, by decide, ftb_in 247 (by decide +kernel) rfl, tyX6_ok, nmX6, fun h => absurd h (by decide)⟩
theorem fl_X6_47 : fFl RX6 47 6 6 := ⟨RX6, TX6, 11, tyX6, rfl, ic_X6, by decide, ftb_in 248 (by decide +kernel) rfl, tyX6_ok, nmX6, fun h => absurd h (by decide)⟩
theorem fl_X6_51 : fFl RX6 51 6 7 := ⟨RX6, TX6, 11, tyX6, rfl, ic_X6, by decide, ftb_in 249 (by decide +kernel) rfl, tyX6_ok, nmX6, fun h => absurd h (by decide)⟩
theorem fl_X6_55 : fFl RX6 55 6 8 := ⟨RX6, TX6, 11, tyX6, rfl, ic_X6, by decide, ftb_in 250 (by decide +kernel) rfl, tyX6_ok, nmX6, fun h => absurd h (by decide)⟩
theorem fl_X6_58 : fFl RX6 58 6 9 := ⟨RX6, TX6, 11, tyX6, rfl, ic_X6, by decide, ftb_in 251 (by decide +kernel) rfl, tyX6_ok, nmX6, fun h => absurd h (by decide)⟩
theorem fl_X6_63 : fFl RX6 63 6 10 := ⟨RX6, TX6, 11, tyX6, rfl, ic_X6, by decide, ftb_in 252 (by decide +kernel) rfl, tyX6_ok, nmX6, fun h => absurd h (by decide)⟩
theorem fl_X7_7 : fFl RX7 7 7 0 := ⟨RX7, TX7, 19, tyX7, rfl, ic_X7, by decide, ftb_in 689 (by decide +kernel) rfl, tyX7_ok, nmX7, fun h => absurd h (by decide)⟩
theorem fl_X7_13 : fFl RX7 13 7 1 := ⟨RX7, TX7, 19, tyX7, rfl, ic_X7, by decide, ftb_in 690 (by decide +kernel) rfl, tyX7_ok, nmX7, fun h => absurd h (by decide)⟩
theorem fl_X7_16 : fFl RX7 16 7 2 := ⟨RX7, TX7, 19, tyX7, rfl, ic_X7, by decide, ftb_in 691 (by decide +kernel) rfl, tyX7_ok, nmX7, fun h => absurd h (by decide)⟩
theorem fl_X7_87 : fFl RX7 87 7 3 := ⟨RX7, TX7, 19, tyX7, rfl, ic_X7, by decide, ftb_in 692 (by decide +kernel) rfl, tyX7_ok, nmX7, fun _ => Or.inl rfl⟩
theorem fl_X7_19 : fFl RX7 19 7 4 := ⟨RX7, TX7, 19, tyX7, rfl, ic_X7, by decide, ftb_in 693 (by decide +kernel) rfl, tyX7_ok, nmX7, fun h => absurd h (by decide)⟩
theorem fl_X7_133 : fFl RX7 133 7 5 := ⟨RX7, TX7, 19, tyX7, rfl, ic_X7, by decide, ftb_in 694 (by decide +kernel) rfl, tyX7_ok, nmX7, fun _ => Or.inl rfl⟩
theorem fl_X7_136 : fFl RX7 136 7 6 := ⟨RX7, TX7, 19, tyX7, rfl, ic_X7, by decide, ftb_in 695 (by decide +kernel) rfl, tyX7_ok, nmX7, fun _ => Or.inl rfl⟩
theorem fl_X7_22 : fFl RX7 22 7 7 := ⟨RX7, TX7, 19, tyX7, rfl, ic_X7, by decide, ftb_in 696 (by decide +kernel) rfl, tyX7_ok, nmX7, fun h => absurd h (by decide)⟩
theorem fl_X7_25 : fFl RX7 25 7 8 := ⟨RX7, TX7, 19, tyX7, rfl, ic_X7, by decide, ftb_in 697 (by decide +kernel) rfl, tyX7_ok, nmX7, fun h => absurd h (by decide)⟩
theorem fl_X7_108 : fFl RX7 108 7 9 := ⟨RX7, TX7, 19, tyX7, rfl, ic_X7, by decide, ftb_in 698 (by decide +kernel) rfl, tyX7_ok, nmX7, fun _ => Or.inl rfl⟩
theorem fl_X7_28 : fFl RX7 28 7 10 := ⟨RX7, TX7, 19, tyX7, rfl, ic_X7, by decide, ftb_in 699 (by decide +kernel) rfl, tyX7_ok, nmX7, fun h => absurd h (by decide)⟩
theorem fl_X7_31 : fFl RX7 31 7 11 := ⟨RX7, TX7, 19, tyX7, rfl, ic_X7, by decide, ftb_in 700 (by decide +kernel) rfl, tyX7_ok, nmX7, fun h => absurd h (by decide)⟩
theorem fl_X7_34 : fFl RX7 34 7 12 := ⟨RX7, TX7, 19, tyX7, rfl, ic_X7, by decide, ftb_in 701 (by decide +kernel) rfl, tyX7_ok, nmX7, fun h => absurd h (by decide)⟩
theorem fl_X7_37 : fFl RX7 37 7 13 := ⟨RX7, TX7, 19, tyX7, rfl, ic_X7, by decide, ftb_in 702 (by decide +kernel) rfl, tyX7_ok, nmX7, fun h => absurd h (by decide)⟩
theorem fl_X7_40 : fFl RX7 40 7 14 := ⟨RX7, TX7, 19, tyX7, rfl, ic_X7, by decide, ftb_in 703 (by decide +kernel) rfl, tyX7_ok, nmX7, fun _ => Or.inl rfl⟩
theorem fl_X7_44 : fFl RX7 44 7 15 := ⟨RX7, TX7, 19, tyX7, rfl, ic_X7, by decide, ftb_in 704 (by decide +kernel) rfl, tyX7_ok, nmX7, fun h => absurd h (by decide)⟩
theorem fl_X7_47 : fFl RX7 47 7 16 := ⟨RX7, TX7, 19, tyX7, rfl, ic_X7, by decide, ftb_in 705 (by decide +kernel) rfl, tyX7_ok, nmX7, fun h => absurd h (by decide)⟩
theorem fl_X7_50 : fFl RX7 50 7 17 := ⟨RX7, TX7, 19, tyX7, rfl, ic_X7, by decide, ftb_in 706 (by decide +kernel) rfl, tyX7_ok, nmX7, fun h => absurd h (by decide)⟩
theorem fl_X7_54 : fFl RX7 54 7 18 := ⟨RX7, TX7, 19, tyX7, rfl, ic_X7, by decide, ftb_in 707 (by decide +kernel) rfl, tyX7_ok, nmX7, fun h => absurd h (by decide)⟩
theorem sl_X6_68 : fSl RX6 68 Y_X6_isPrime 1 := ⟨ftb_in 280 (by decide +kernel) rfl, ftb_in 281 (by decide +kernel) rfl, ftb_in 59 (by decide +kernel) rfl, ftb_in 282 (by decide +kernel) rfl, by decide +kernel, by decide +kernel, by decide +kernel⟩
theorem vl_X6_79 : fVl RX6 79 RX3 Y_X3_leaveOver 1 := ⟨ftb_in 283 (by decide +kernel) rfl, ftb_in 284 (by decide +kernel) rfl, ftb_in 285 (by decide +kernel) rfl, ftb_in 61 (by decide +kernel) rfl, ftb_in 286 (by decide +kernel) rfl, rfl, by decide +kernel, by decide +kernel, by decide +kernel⟩
theorem vl_X6_83 : fVl RX6 83 RX0 Y_X0_forget 0 := ⟨ftb_in 291 (by decide +kernel) rfl, ftb_in 292 (by decide +kernel) rfl, ftb_in 293 (by decide +kernel) rfl, ftb_in 60 (by decide +kernel) rfl, ftb_in 294 (by decide +kernel) rfl, rfl, by decide +kernel, by decide +kernel, by decide +kernel⟩
theorem vl_X6_86 : fVl RX6 86 RX2 Y_X2_takeLetter 1 := ⟨ftb_in 299 (by decide +kernel) rfl, ftb_in 300 (by decide +kernel) rfl, ftb_in 301 (by decide +kernel) rfl, ftb_in 62 (by decide +kernel) rfl, ftb_in 302 (by decide +kernel) rfl, rfl, by decide +kernel, by decide +kernel, by decide +kernel⟩
theorem vl_X6_92 : fVl RX6 92 RX2 Y_X2_readMatrix 1 := ⟨ftb_in 307 (by decide +kernel) rfl, ftb_in 308 (by decide +kernel) rfl, ftb_in 309 (by decide +kernel) rfl, ftb_in 62 (by decide +kernel) rfl, ftb_in 310 (by decide +kernel) rfl, rfl, by decide +kernel, by decide +kernel, by decide +kernel⟩
theorem vl_X6_102 : fVl RX6 102 RX3 Y_X3_takeFrom 1 := ⟨ftb_in 346 (by decide +kernel) rfl, ftb_in 347 (by decide +kernel) rfl, ftb_in 348 (by decide +kernel) rfl, ftb_in 61 (by decide +kernel) rfl, ftb_in 349 (by decide +kernel) rfl, rfl, by decide +kernel, by decide +kernel, by decide +kernel⟩
theorem vl_X6_109 : fVl RX6 109 RX6 Y_X6_isPlace 1 := ⟨ftb_in 357 (by decide +kernel) rfl, ftb_in 359 (by decide +kernel) rfl, ftb_in 8 (by decide +kernel) rfl, ftb_in 59 (by decide +kernel) rfl, ftb_in 360 (by decide +kernel) rfl, rfl, by decide +kernel, by decide +kernel, by decide +kernel⟩
theorem vl_X6_115 : fVl RX6 115 RX6 Y_X6_isWithin 1 := ⟨ftb_in 366 (by decide +kernel) rfl, ftb_in 368 (by decide +kernel) rfl, ftb_in 9 (by decide +kernel) rfl, ftb_in 59 (by decide +kernel) rfl, ftb_in 369 (by decide +kernel) rfl, rfl, by decide +kernel, by decide +kernel, by decide +kernel⟩
theorem vl_X6_124 : fVl RX6 124 RX3 Y_X3_cellAt 4 := ⟨ftb_in 374 (by decide +kernel) rfl, ftb_in 375 (by decide +kernel) rfl, ftb_in 376 (by decide +kernel) rfl, ftb_in 61 (by decide +kernel) rfl, ftb_in 377 (by decide +kernel) rfl, rfl, by decide +kernel, by decide +kernel, by decide +kernel⟩
theorem vl_X6_128 : fVl RX6 128 RX6 Y_X6_rankOfMatrix 0 := ⟨ftb_in 389 (by decide +kernel) rfl, ftb_in 391 (by decide +kernel) rfl, ftb_in 11 (by decide +kernel) rfl, ftb_in 59 (by decide +kernel) rfl, ftb_in 392 (by decide +kernel) rfl, rfl, by decide +kernel, by decide +kernel, by decide +kernel⟩
theorem vl_X6_132 : fVl RX6 132 RX6 Y_X6_singularCorners 0 := ⟨ftb_in 422 (by decide +kernel) rfl, ftb_in 424 (by decide +kernel) rfl, ftb_in 15 (by decide +kernel) rfl, ftb_in 59 (by decide +kernel) rfl, ftb_in 425 (by decide +kernel) rfl, rfl, by decide +kernel, by decide +kernel, by decide +kernel⟩
theorem vl_X6_135 : fVl RX6 135 RX6 Y_X6_wholeCorner 0 := ⟨ftb_in 434 (by decide +kernel) rfl, ftb_in 436 (by decide +kernel) rfl, ftb_in 17 (by decide +kernel) rfl, ftb_in 59 (by decide +kernel) rfl, ftb_in 437 (by decide +kernel) rfl, rfl, by decide +kernel, by decide +kernel, by decide +kernel⟩
theorem vl_X6_138 : fVl RX6 138 RX6 Y_X6_findLaw 0 := ⟨ftb_in 438 (by decide +kernel) rfl, ftb_in 440 (by decide +kernel) rfl, ftb_in 18 (by decide +kernel) rfl, ftb_in 59 (by decide +kernel) rfl, ftb_in 441 (by decide +kernel) rfl, rfl, by decide +kernel, by decide +kernel, by decide +kernel⟩
theorem vl_X6_144 : fVl RX6 144 RX6 Y_X6_isNumber 1 := ⟨ftb_in 451 (by decide +kernel) rfl, ftb_in 453 (by decide +kernel) rfl, ftb_in 20 (by decide +kernel) rfl, ftb_in 59 (by decide +kernel) rfl, ftb_in 454 (by decide +kernel) rfl, rfl, by decide +kernel, by decide +kernel, by decide +kernel⟩
theorem vl_X6_148 : fVl RX6 148 RX0 Y_X0_remember 0 := ⟨ftb_in 455 (by decide +kernel) rfl, ftb_in 456 (by decide +kernel) rfl, ftb_in 457 (by decide +kernel) rfl, ftb_in 60 (by decide +kernel) rfl, ftb_in 458 (by decide +kernel) rfl, rfl, by decide +kernel, by decide +kernel, by decide +kernel⟩
theorem vl_X6_151 : fVl RX6 151 RX3 Y_X3_addBorder 0 := ⟨ftb_in 472 (by decide +kernel) rfl, ftb_in 473 (by decide +kernel) rfl, ftb_in 474 (by decide +kernel) rfl, ftb_in 61 (by decide +kernel) rfl, ftb_in 475 (by decide +kernel) rfl, rfl, by decide +kernel, by decide +kernel, by decide +kernel⟩
theorem vl_X6_154 : fVl RX6 154 RX3 Y_X3_dropBorder 0 := ⟨ftb_in 480 (by decide +kernel) rfl, ftb_in 481 (by decide +kernel) rfl, ftb_in 482 (by decide +kernel) rfl, ftb_in 61 (by decide +kernel) rfl, ftb_in 483 (by decide +kernel) rfl, rfl, by decide +kernel, by decide +kernel, by decide +kernel⟩
theorem vl_X6_157 : fVl RX6 157 RX3 Y_X3_reverseRow 0 := ⟨ftb_in 488 (by decide +kernel) rfl, ftb_in 489 (by decide +kernel) rfl, ftb_in 490 (by decide +kernel) rfl, ftb_in 61 (by decide +kernel) rfl, ftb_in 491 (by decide +kernel) rfl, rfl, by decide +kernel, by decide +kernel, by decide +kernel⟩
theorem vl_X6_160 : fVl RX6 160 RX3 Y_X3_driftOnce 1 := ⟨ftb_in 496 (by decide +kernel) rfl, ftb_in 497 (by decide +kernel) rfl, ftb_in 498 (by decide +kernel) rfl, ftb_in 61 (by decide +kernel) rfl, ftb_in 499 (by decide +kernel) rfl, rfl, by decide +kernel, by decide +kernel, by decide +kernel⟩
theorem vl_X6_163 : fVl RX6 163 RX0 Y_X0_stepBack 0 := ⟨ftb_in 508 (by decide +kernel) rfl, ftb_in 509 (by decide +kernel) rfl, ftb_in 510 (by decide +kernel) rfl, ftb_in 60 (by decide +kernel) rfl, ftb_in 511 (by decide +kernel) rfl, rfl, by decide +kernel, by decide +kernel, by decide +kernel⟩
theorem vl_X6_167 : fVl RX6 167 RX6 Y_X6_cornerOf 2 := ⟨ftb_in 426 (by decide +kernel) rfl, ftb_in 428 (by decide +kernel) rfl, ftb_in 16 (by decide +kernel) rfl, ftb_in 59 (by decide +kernel) rfl, ftb_in 429 (by decide +kernel) rfl, rfl, by decide +kernel, by decide +kernel, by decide +kernel⟩
theorem vl_X6_173 : fVl RX6 173 RX6 Y_X6_solveMatrix 0 := ⟨ftb_in 529 (by decide +kernel) rfl, ftb_in 531 (by decide +kernel) rfl, ftb_in 21 (by decide +kernel) rfl, ftb_in 59 (by decide +kernel) rfl, ftb_in 532 (by decide +kernel) rfl, rfl, by decide +kernel, by decide +kernel, by decide +kernel⟩
theorem vl_X6_182 : fVl RX6 182 RX1 Y_X1_fill 3 := ⟨ftb_in 393 (by decide +kernel) rfl, ftb_in 394 (by decide +kernel) rfl, ftb_in 395 (by decide +kernel) rfl, ftb_in 63 (by decide +kernel) rfl, ftb_in 396 (by decide +kernel) rfl, rfl, by decide +kernel, by decide +kernel, by decide +kernel⟩
theorem vl_X6_190 : fVl RX6 190 RX1 Y_X1_solveLeast 2 := ⟨ftb_in 406 (by decide +kernel) rfl, ftb_in 407 (by decide +kernel) rfl, ftb_in 408 (by decide +kernel) rfl, ftb_in 63 (by decide +kernel) rfl, ftb_in 409 (by decide +kernel) rfl, rfl, by decide +kernel, by decide +kernel, by decide +kernel⟩
theorem sl_X6_194 : fSl RX6 194 Y_X6_isHalf 1 := ⟨ftb_in 545 (by decide +kernel) rfl, ftb_in 546 (by decide +kernel) rfl, ftb_in 59 (by decide +kernel) rfl, ftb_in 547 (by decide +kernel) rfl, by decide +kernel, by decide +kernel, by decide +kernel⟩
theorem vl_X6_197 : fVl RX6 197 RX3 Y_X3_rowLength 0 := ⟨ftb_in 361 (by decide +kernel) rfl, ftb_in 288 (by decide +kernel) rfl, ftb_in 289 (by decide +kernel) rfl, ftb_in 61 (by decide +kernel) rfl, ftb_in 290 (by decide +kernel) rfl, rfl, by decide +kernel, by decide +kernel, by decide +kernel⟩
theorem vl_X6_200 : fVl RX6 200 RX6 Y_X6_leastMender 1 := ⟨ftb_in 552 (by decide +kernel) rfl, ftb_in 554 (by decide +kernel) rfl, ftb_in 22 (by decide +kernel) rfl, ftb_in 59 (by decide +kernel) rfl, ftb_in 555 (by decide +kernel) rfl, rfl, by decide +kernel, by decide +kernel, by decide +kernel⟩
theorem vl_X6_209 : fVl RX6 209 RX5 Y_X5_isOf 2 := ⟨ftb_in 569 (by decide +kernel) rfl, ftb_in 570 (by decide +kernel) rfl, ftb_in 571 (by decide +kernel) rfl, ftb_in 64 (by decide +kernel) rfl, ftb_in 572 (by decide +kernel) rfl, rfl, by decide +kernel, by decide +kernel, by decide +kernel⟩
theorem vl_X6_213 : fVl RX6 213 RX6 Y_X6_countWipes 0 := ⟨ftb_in 574 (by decide +kernel) rfl, ftb_in 576 (by decide +kernel) rfl, ftb_in 23 (by decide +kernel) rfl, ftb_in 59 (by decide +kernel) rfl, ftb_in 577 (by decide +kernel) rfl, rfl, by decide +kernel, by decide +kernel, by decide +kernel⟩
theorem vl_X6_216 : fVl RX6 216 RX5 Y_X5_weighted 1 := ⟨ftb_in 589 (by decide +kernel) rfl, ftb_in 590 (by decide +kernel) rfl, ftb_in 591 (by decide +kernel) rfl, ftb_in 64 (by decide +kernel) rfl, ftb_in 592 (by decide +kernel) rfl, rfl, by decide +kernel, by decide +kernel, by decide +kernel⟩
theorem sl_X6_225 : fSl RX6 225 Y_X6_power 2 := ⟨ftb_in 533 (by decide +kernel) rfl, ftb_in 534 (by decide +kernel) rfl, ftb_in 59 (by decide +kernel) rfl, ftb_in 535 (by decide +kernel) rfl, by decide +kernel, by decide +kernel, by decide +kernel⟩
theorem sl_X6_229 : fSl RX6 229 Y_X6_greatestShared 2 := ⟨ftb_in 595 (by decide +kernel) rfl, ftb_in 596 (by decide +kernel) rfl, ftb_in 59 (by decide +kernel) rfl, ftb_in 597 (by decide +kernel) rfl, by decide +kernel, by decide +kernel, by decide +kernel⟩
theorem vl_X6_233 : fVl RX6 233 RX0 Y_X0_takeFrom 1 := ⟨ftb_in 602 (by decide +kernel) rfl, ftb_in 603 (by decide +kernel) rfl, ftb_in 604 (by decide +kernel) rfl, ftb_in 60 (by decide +kernel) rfl, ftb_in 605 (by decide +kernel) rfl, rfl, by decide +kernel, by decide +kernel, by decide +kernel⟩
theorem vl_X6_236 : fVl RX6 236 RX6 Y_X6_refusalOf 4 := ⟨ftb_in 614 (by decide +kernel) rfl, ftb_in 616 (by decide +kernel) rfl, ftb_in 24 (by decide +kernel) rfl, ftb_in 59 (by decide +kernel) rfl, ftb_in 617 (by decide +kernel) rfl, rfl, by decide +kernel, by decide +kernel, by decide +kernel⟩
theorem vl_X6_239 : fVl RX6 239 RX6 Y_X6_readNumbers 3 := ⟨ftb_in 632 (by decide +kernel) rfl, ftb_in 634 (by decide +kernel) rfl, ftb_in 25 (by decide +kernel) rfl, ftb_in 59 (by decide +kernel) rfl, ftb_in 635 (by decide +kernel) rfl, rfl, by decide +kernel, by decide +kernel, by decide +kernel⟩
theorem vl_X6_243 : fVl RX6 243 RX6 Y_X6_comesBy 1 := ⟨ftb_in 636 (by decide +kernel) rfl, ftb_in 638 (by decide +kernel) rfl, ftb_in 26 (by decide +kernel) rfl, ftb_in 59 (by decide +kernel) rfl, ftb_in 639 (by decide +kernel) rfl, rfl, by decide +kernel, by decide +kernel, by decide +kernel⟩
theorem vl_X6_250 : fVl RX6 250 RX6 Y_X6_rowTimesGiven 2 := ⟨ftb_in 640 (by decide +kernel) rfl, ftb_in 642 (by decide +kernel) rfl, ftb_in 27 (by decide +kernel) rfl, ftb_in 59 (by decide +kernel) rfl, ftb_in 643 (by decide +kernel) rfl, rfl, by decide +kernel, by decide +kernel, by decide +kernel⟩
theorem sl_X6_260 : fSl RX6 260 Y_X6_isSheet 1 := ⟨ftb_in 618 (by decide +kernel) rfl, ftb_in 619 (by decide +kernel) rfl, ftb_in 59 (by decide +kernel) rfl, ftb_in 620 (by decide +kernel) rfl, by decide +kernel, by decide +kernel, by decide +kernel⟩
theorem sl_X6_263 : fSl RX6 263 Y_X6_isLane 1 := ⟨ftb_in 621 (by decide +kernel) rfl, ftb_in 622 (by decide +kernel) rfl, ftb_in 59 (by decide +kernel) rfl, ftb_in 623 (by decide +kernel) rfl, by decide +kernel, by decide +kernel, by decide +kernel⟩
theorem vl_X6_266 : fVl RX6 266 RX4 Y_X4_begin 2 := ⟨ftb_in 660 (by decide +kernel) rfl, ftb_in 661 (by decide +kernel) rfl, ftb_in 662 (by decide +kernel) rfl, ftb_in 65 (by decide +kernel) rfl, ftb_in 663 (by decide +kernel) rfl, rfl, by decide +kernel, by decide +kernel, by decide +kernel⟩
theorem vl_X6_270 : fVl RX6 270 RX4 Y_X4_isMissing 0 := ⟨ftb_in 624 (by decide +kernel) rfl, ftb_in 625 (by decide +kernel) rfl, ftb_in 626 (by decide +kernel) rfl, ftb_in 65 (by decide +kernel) rfl, ftb_in 627 (by decide +kernel) rfl, rfl, by decide +kernel, by decide +kernel, by decide +kernel⟩
theorem vl_X6_274 : fVl RX6 274 RX4 Y_X4_lose 0 := ⟨ftb_in 668 (by decide +kernel) rfl, ftb_in 669 (by decide +kernel) rfl, ftb_in 670 (by decide +kernel) rfl, ftb_in 65 (by decide +kernel) rfl, ftb_in 671 (by decide +kernel) rfl, rfl, by decide +kernel, by decide +kernel, by decide +kernel⟩
theorem sl_X6_277 : fSl RX6 277 Y_X6_lowestBits 2 := ⟨ftb_in 676 (by decide +kernel) rfl, ftb_in 677 (by decide +kernel) rfl, ftb_in 59 (by decide +kernel) rfl, ftb_in 678 (by decide +kernel) rfl, by decide +kernel, by decide +kernel, by decide +kernel⟩
theorem vl_X6_284 : fVl RX6 284 RX4 Y_X4_holds 2 := ⟨ftb_in 628 (by decide +kernel) rfl, ftb_in 629 (by decide +kernel) rfl, ftb_in 630 (by decide +kernel) rfl, ftb_in 65 (by decide +kernel) rfl, ftb_in 631 (by decide +kernel) rfl, rfl, by decide +kernel, by decide +kernel, by decide +kernel⟩
theorem vl_X6_288 : fVl RX6 288 RX1 Y_X1_determinant 1 := ⟨ftb_in 430 (by decide +kernel) rfl, ftb_in 431 (by decide +kernel) rfl, ftb_in 432 (by decide +kernel) rfl, ftb_in 63 (by decide +kernel) rfl, ftb_in 433 (by decide +kernel) rfl, rfl, by decide +kernel, by decide +kernel, by decide +kernel⟩
theorem vl_X6_291 : fVl RX6 291 RX1 Y_X1_clearColumn 2 := ⟨ftb_in 402 (by decide +kernel) rfl, ftb_in 403 (by decide +kernel) rfl, ftb_in 404 (by decide +kernel) rfl, ftb_in 63 (by decide +kernel) rfl, ftb_in 405 (by decide +kernel) rfl, rfl, by decide +kernel, by decide +kernel, by decide +kernel⟩
theorem vl_X6_294 : fVl RX6 294 RX6 Y_X6_fitsLaw 1 := ⟨ftb_in 442 (by decide +kernel) rfl, ftb_in 444 (by decide +kernel) rfl, ftb_in 19 (by decide +kernel) rfl, ftb_in 59 (by decide +kernel) rfl, ftb_in 445 (by decide +kernel) rfl, rfl, by decide +kernel, by decide +kernel, by decide +kernel⟩
theorem vl_X6_297 : fVl RX6 297 RX1 Y_X1_usePrime 1 := ⟨ftb_in 446 (by decide +kernel) rfl, ftb_in 398 (by decide +kernel) rfl, ftb_in 399 (by decide +kernel) rfl, ftb_in 63 (by decide +kernel) rfl, ftb_in 400 (by decide +kernel) rfl, rfl, by decide +kernel, by decide +kernel, by decide +kernel⟩
theorem vl_X6_300 : fVl RX6 300 RX5 Y_X5_begin 2 := ⟨ftb_in 578 (by decide +kernel) rfl, ftb_in 579 (by decide +kernel) rfl, ftb_in 580 (by decide +kernel) rfl, ftb_in 64 (by decide +kernel) rfl, ftb_in 581 (by decide +kernel) rfl, rfl, by decide +kernel, by decide +kernel, by decide +kernel⟩
theorem sl_X7_57 : fSl RX7 57 Y_X7_in 3 := ⟨ftb_in 756 (by decide +kernel) rfl, ftb_in 757 (by decide +kernel) rfl, ftb_in 66 (by decide +kernel) rfl, ftb_in 758 (by decide +kernel) rfl, by decide +kernel, by decide +kernel, by decide +kernel⟩
theorem vl_X7_61 : fVl RX7 61 RX7 Y_X7_lines 0 := ⟨ftb_in 767 (by decide +kernel) rfl, ftb_in 769 (by decide +kernel) rfl, ftb_in 29 (by decide +kernel) rfl, ftb_in 66 (by decide +kernel) rfl, ftb_in 770 (by decide +kernel) rfl, rfl, by decide +kernel, by decide +kernel, by decide +kernel⟩
theorem vl_X7_65 : fVl RX7 65 RX7 Y_X7_entryBy 3 := ⟨ftb_in 783 (by decide +kernel) rfl, ftb_in 785 (by decide +kernel) rfl, ftb_in 31 (by decide +kernel) rfl, ftb_in 66 (by decide +kernel) rfl, ftb_in 786 (by decide +kernel) rfl, rfl, by decide +kernel, by decide +kernel, by decide +kernel⟩
theorem vl_X7_69 : fVl RX7 69 RX7 Y_X7_fills 2 := ⟨ftb_in 799 (by decide +kernel) rfl, ftb_in 801 (by decide +kernel) rfl, ftb_in 34 (by decide +kernel) rfl, ftb_in 66 (by decide +kernel) rfl, ftb_in 802 (by decide +kernel) rfl, rfl, by decide +kernel, by decide +kernel, by decide +kernel⟩
theorem vl_X7_73 : fVl RX7 73 RX7 Y_X7_pivot 3 := ⟨ftb_in 807 (by decide +kernel) rfl, ftb_in 809 (by decide +kernel) rfl, ftb_in 36 (by decide +kernel) rfl, ftb_in 66 (by decide +kernel) rfl, ftb_in 810 (by decide +kernel) rfl, rfl, by decide +kernel, by decide +kernel, by decide +kernel⟩
theorem vl_X7_76 : fVl RX7 76 RX7 Y_X7_swaps 2 := ⟨ftb_in 811 (by decide +kernel) rfl, ftb_in 813 (by decide +kernel) rfl, ftb_in 37 (by decide +kernel) rfl, ftb_in 66 (by decide +kernel) rfl, ftb_in 814 (by decide +kernel) rfl, rfl, by decide +kernel, by decide +kernel, by decide +kernel⟩
theorem vl_X7_79 : fVl RX7 79 RX7 Y_X7_inverseOf 1 := ⟨ftb_in 815 (by decide +kernel) rfl, ftb_in 817 (by decide +kernel) rfl, ftb_in 38 (by decide +kernel) rfl, ftb_in 66 (by decide +kernel) rfl, ftb_in 818 (by decide +kernel) rfl, rfl, by decide +kernel, by decide +kernel, by decide +kernel⟩
theorem vl_X7_83 : fVl RX7 83 RX7 Y_X7_takes 3 := ⟨ftb_in 823 (by decide +kernel) rfl, ftb_in 825 (by decide +kernel) rfl, ftb_in 40 (by decide +kernel) rfl, ftb_in 66 (by decide +kernel) rfl, ftb_in 826 (by decide +kernel) rfl, rfl, by decide +kernel, by decide +kernel, by decide +kernel⟩
theorem vl_X7_90 : fVl RX7 90 RX7 Y_X7_multiplies 2 := ⟨ftb_in 819 (by decide +kernel) rfl, ftb_in 821 (by decide +kernel) rfl, ftb_in 39 (by decide +kernel) rfl, ftb_in 66 (by decide +kernel) rfl, ftb_in 822 (by decide +kernel) rfl, rfl, by decide +kernel, by decide +kernel, by decide +kernel⟩
theorem vl_X7_93 : fVl RX7 93 RX7 Y_X7_worksOut 2 := ⟨ftb_in 803 (by decide +kernel) rfl, ftb_in 805 (by decide +kernel) rfl, ftb_in 35 (by decide +kernel) rfl, ftb_in 66 (by decide +kernel) rfl, ftb_in 806 (by decide +kernel) rfl, rfl, by decide +kernel, by decide +kernel, by decide +kernel⟩
theorem vl_X7_97 : fVl RX7 97 RX7 Y_X7_solves 1 := ⟨ftb_in 795 (by decide +kernel) rfl, ftb_in 797 (by decide +kernel) rfl, ftb_in 33 (by decide +kernel) rfl, ftb_in 66 (by decide +kernel) rfl, ftb_in 798 (by decide +kernel) rfl, rfl, by decide +kernel, by decide +kernel, by decide +kernel⟩
theorem sl_X7_105 : fSl RX7 105 Y_X7_isPrime 1 := ⟨ftb_in 751 (by decide +kernel) rfl, ftb_in 752 (by decide +kernel) rfl, ftb_in 66 (by decide +kernel) rfl, ftb_in 753 (by decide +kernel) rfl, by decide +kernel, by decide +kernel, by decide +kernel⟩
theorem vl_X7_111 : fVl RX7 111 RX7 Y_X7_isLine 1 := ⟨ftb_in 763 (by decide +kernel) rfl, ftb_in 765 (by decide +kernel) rfl, ftb_in 28 (by decide +kernel) rfl, ftb_in 66 (by decide +kernel) rfl, ftb_in 766 (by decide +kernel) rfl, rfl, by decide +kernel, by decide +kernel, by decide +kernel⟩
theorem vl_X7_114 : fVl RX7 114 RX7 Y_X7_isRow 1 := ⟨ftb_in 775 (by decide +kernel) rfl, ftb_in 777 (by decide +kernel) rfl, ftb_in 30 (by decide +kernel) rfl, ftb_in 66 (by decide +kernel) rfl, ftb_in 778 (by decide +kernel) rfl, rfl, by decide +kernel, by decide +kernel, by decide +kernel⟩
theorem vl_X7_117 : fVl RX7 117 RX7 Y_X7_cornerOf 1 := ⟨ftb_in 831 (by decide +kernel) rfl, ftb_in 833 (by decide +kernel) rfl, ftb_in 42 (by decide +kernel) rfl, ftb_in 66 (by decide +kernel) rfl, ftb_in 834 (by decide +kernel) rfl, rfl, by decide +kernel, by decide +kernel, by decide +kernel⟩
theorem vl_X7_120 : fVl RX7 120 RX7 Y_X7_rankOf 0 := ⟨ftb_in 791 (by decide +kernel) rfl, ftb_in 793 (by decide +kernel) rfl, ftb_in 32 (by decide +kernel) rfl, ftb_in 66 (by decide +kernel) rfl, ftb_in 794 (by decide +kernel) rfl, rfl, by decide +kernel, by decide +kernel, by decide +kernel⟩
theorem vl_X7_123 : fVl RX7 123 RX7 Y_X7_singular 0 := ⟨ftb_in 827 (by decide +kernel) rfl, ftb_in 829 (by decide +kernel) rfl, ftb_in 41 (by decide +kernel) rfl, ftb_in 66 (by decide +kernel) rfl, ftb_in 830 (by decide +kernel) rfl, rfl, by decide +kernel, by decide +kernel, by decide +kernel⟩
theorem vl_X7_126 : fVl RX7 126 RX7 Y_X7_law 0 := ⟨ftb_in 835 (by decide +kernel) rfl, ftb_in 837 (by decide +kernel) rfl, ftb_in 43 (by decide +kernel) rfl, ftb_in 66 (by decide +kernel) rfl, ftb_in 838 (by decide +kernel) rfl, rfl, by decide +kernel, by decide +kernel, by decide +kernel⟩
theorem vl_X7_139 : fVl RX7 139 RX7 Y_X7_here 0 := ⟨ftb_in 857 (by decide +kernel) rfl, ftb_in 859 (by decide +kernel) rfl, ftb_in 46 (by decide +kernel) rfl, ftb_in 66 (by decide +kernel) rfl, ftb_in 860 (by decide +kernel) rfl, rfl, by decide +kernel, by decide +kernel, by decide +kernel⟩
theorem vl_X7_146 : fVl RX7 146 RX7 Y_X7_isNumber 1 := ⟨ftb_in 878 (by decide +kernel) rfl, ftb_in 880 (by decide +kernel) rfl, ftb_in 50 (by decide +kernel) rfl, ftb_in 66 (by decide +kernel) rfl, ftb_in 881 (by decide +kernel) rfl, rfl, by decide +kernel, by decide +kernel, by decide +kernel⟩
theorem vl_X7_150 : fVl RX7 150 RX7 Y_X7_number 0 := ⟨ftb_in 872 (by decide +kernel) rfl, ftb_in 874 (by decide +kernel) rfl, ftb_in 49 (by decide +kernel) rfl, ftb_in 66 (by decide +kernel) rfl, ftb_in 875 (by decide +kernel) rfl, rfl, by decide +kernel, by decide +kernel, by decide +kernel⟩
theorem vl_X7_153 : fVl RX7 153 RX7 Y_X7_has 1 := ⟨ftb_in 882 (by decide +kernel) rfl, ftb_in 884 (by decide +kernel) rfl, ftb_in 51 (by decide +kernel) rfl, ftb_in 66 (by decide +kernel) rfl, ftb_in 885 (by decide +kernel) rfl, rfl, by decide +kernel, by decide +kernel, by decide +kernel⟩
theorem sl_X7_156 : fSl RX7 156 Y_X7_kindBy 1 := ⟨ftb_in 861 (by decide +kernel) rfl, ftb_in 862 (by decide +kernel) rfl, ftb_in 66 (by decide +kernel) rfl, ftb_in 863 (by decide +kernel) rfl, by decide +kernel, by decide +kernel, by decide +kernel⟩
theorem vl_X7_159 : fVl RX7 159 RX7 Y_X7_fault 0 := ⟨ftb_in 864 (by decide +kernel) rfl, ftb_in 866 (by decide +kernel) rfl, ftb_in 47 (by decide +kernel) rfl, ftb_in 66 (by decide +kernel) rfl, ftb_in 867 (by decide +kernel) rfl, rfl, by decide +kernel, by decide +kernel, by decide +kernel⟩
theorem vl_X7_162 : fVl RX7 162 RX7 Y_X7_numbers 2 := ⟨ftb_in 868 (by decide +kernel) rfl, ftb_in 870 (by decide +kernel) rfl, ftb_in 48 (by decide +kernel) rfl, ftb_in 66 (by decide +kernel) rfl, ftb_in 871 (by decide +kernel) rfl, rfl, by decide +kernel, by decide +kernel, by decide +kernel⟩
theorem vl_X7_166 : fVl RX7 166 RX7 Y_X7_notes 0 := ⟨ftb_in 890 (by decide +kernel) rfl, ftb_in 892 (by decide +kernel) rfl, ftb_in 52 (by decide +kernel) rfl, ftb_in 66 (by decide +kernel) rfl, ftb_in 893 (by decide +kernel) rfl, rfl, by decide +kernel, by decide +kernel, by decide +kernel⟩
theorem vl_X7_182 : fVl RX7 182 RX7 Y_X7_ways 0 := ⟨ftb_in 945 (by decide +kernel) rfl, ftb_in 947 (by decide +kernel) rfl, ftb_in 53 (by decide +kernel) rfl, ftb_in 66 (by decide +kernel) rfl, ftb_in 948 (by decide +kernel) rfl, rfl, by decide +kernel, by decide +kernel, by decide +kernel⟩
theorem vl_X7_188 : fVl RX7 188 RX7 Y_X7_least 2 := ⟨ftb_in 843 (by decide +kernel) rfl, ftb_in 845 (by decide +kernel) rfl, ftb_in 45 (by decide +kernel) rfl, ftb_in 66 (by decide +kernel) rfl, ftb_in 846 (by decide +kernel) rfl, rfl, by decide +kernel, by decide +kernel, by decide +kernel⟩
theorem vl_X7_191 : fVl RX7 191 RX7 Y_X7_mends 1 := ⟨ftb_in 962 (by decide +kernel) rfl, ftb_in 964 (by decide +kernel) rfl, ftb_in 54 (by decide +kernel) rfl, ftb_in 66 (by decide +kernel) rfl, ftb_in 965 (by decide +kernel) rfl, rfl, by decide +kernel, by decide +kernel, by decide +kernel⟩
theorem vl_X7_194 : fVl RX7 194 RX7 Y_X7_isLaw 1 := ⟨ftb_in 839 (by decide +kernel) rfl, ftb_in 841 (by decide +kernel) rfl, ftb_in 44 (by decide +kernel) rfl, ftb_in 66 (by decide +kernel) rfl, ftb_in 842 (by decide +kernel) rfl, rfl, by decide +kernel, by decide +kernel, by decide +kernel⟩
theorem sl_X7_203 : fSl RX7 203 Y_X7_isSheet 1 := ⟨ftb_in 992 (by decide +kernel) rfl, ftb_in 993 (by decide +kernel) rfl, ftb_in 66 (by decide +kernel) rfl, ftb_in 994 (by decide +kernel) rfl, by decide +kernel, by decide +kernel, by decide +kernel⟩
theorem vl_X7_206 : fVl RX7 206 RX7 Y_X7_why 4 := ⟨ftb_in 1004 (by decide +kernel) rfl, ftb_in 1006 (by decide +kernel) rfl, ftb_in 55 (by decide +kernel) rfl, ftb_in 66 (by decide +kernel) rfl, ftb_in 1007 (by decide +kernel) rfl, rfl, by decide +kernel, by decide +kernel, by decide +kernel⟩
theorem sl_X7_210 : fSl RX7 210 Y_X7_cutTo 2 := ⟨ftb_in 1008 (by decide +kernel) rfl, ftb_in 1009 (by decide +kernel) rfl, ftb_in 66 (by decide +kernel) rfl, ftb_in 1010 (by decide +kernel) rfl, by decide +kernel, by decide +kernel, by decide +kernel⟩
theorem vl_X7_214 : fVl RX7 214 RX7 Y_X7_areNumbers 2 := ⟨ftb_in 1019 (by decide +kernel) rfl, ftb_in 1021 (by decide +kernel) rfl, ftb_in 56 (by decide +kernel) rfl, ftb_in 66 (by decide +kernel) rfl, ftb_in 1022 (by decide +kernel) rfl, rfl, by decide +kernel, by decide +kernel, by decide +kernel⟩
theorem vl_X7_217 : fVl RX7 217 RX7 Y_X7_comes 3 := ⟨ftb_in 1023 (by decide +kernel) rfl, ftb_in 1025 (by decide +kernel) rfl, ftb_in 57 (by decide +kernel) rfl, ftb_in 66 (by decide +kernel) rfl, ftb_in 1026 (by decide +kernel) rfl, rfl, by decide +kernel, by decide +kernel, by decide +kernel⟩
theorem vl_X0_32 : fVl RX0 32 RX3 Y_X3_takeFrom 1 := ⟨ftb_in 459 (by decide +kernel) rfl, ftb_in 347 (by decide +kernel) rfl, ftb_in 348 (by decide +kernel) rfl, ftb_in 61 (by decide +kernel) rfl, ftb_in 349 (by decide +kernel) rfl, rfl, by decide +kernel, by decide +kernel, by decide +kernel⟩
theorem vl_X1_27 : fVl RX1 27 RX1 Y_X1_usePrime 1 := ⟨ftb_in 397 (by decide +kernel) rfl, ftb_in 398 (by decide +kernel) rfl, ftb_in 399 (by decide +kernel) rfl, ftb_in 63 (by decide +kernel) rfl, ftb_in 400 (by decide +kernel) rfl, rfl, by decide +kernel, by decide +kernel, by decide +kernel⟩
theorem vl_X1_36 : fVl RX1 36 RX3 Y_X3_cellAt 4 := ⟨ftb_in 401 (by decide +kernel) rfl, ftb_in 375 (by decide +kernel) rfl, ftb_in 376 (by decide +kernel) rfl, ftb_in 61 (by decide +kernel) rfl, ftb_in 377 (by decide +kernel) rfl, rfl, by decide +kernel, by decide +kernel, by decide +kernel⟩
theorem vl_X1_40 : fVl RX1 40 RX1 Y_X1_findPivot 4 := ⟨ftb_in 410 (by decide +kernel) rfl, ftb_in 412 (by decide +kernel) rfl, ftb_in 12 (by decide +kernel) rfl, ftb_in 63 (by decide +kernel) rfl, ftb_in 413 (by decide +kernel) rfl, rfl, by decide +kernel, by decide +kernel, by decide +kernel⟩
theorem vl_X1_44 : fVl RX1 44 RX1 Y_X1_takeAway 5 := ⟨ftb_in 414 (by decide +kernel) rfl, ftb_in 416 (by decide +kernel) rfl, ftb_in 13 (by decide +kernel) rfl, ftb_in 63 (by decide +kernel) rfl, ftb_in 417 (by decide +kernel) rfl, rfl, by decide +kernel, by decide +kernel, by decide +kernel⟩
theorem vl_X1_48 : fVl RX1 48 RX1 Y_X1_clearOthers 4 := ⟨ftb_in 418 (by decide +kernel) rfl, ftb_in 420 (by decide +kernel) rfl, ftb_in 14 (by decide +kernel) rfl, ftb_in 63 (by decide +kernel) rfl, ftb_in 421 (by decide +kernel) rfl, rfl, by decide +kernel, by decide +kernel, by decide +kernel⟩
theorem vl_X2_35 : fVl RX2 35 RX2 Y_X2_skipBlanks 0 := ⟨ftb_in 311 (by decide +kernel) rfl, ftb_in 313 (by decide +kernel) rfl, ftb_in 0 (by decide +kernel) rfl, ftb_in 62 (by decide +kernel) rfl, ftb_in 314 (by decide +kernel) rfl, rfl, by decide +kernel, by decide +kernel, by decide +kernel⟩
theorem vl_X2_38 : fVl RX2 38 RX2 Y_X2_letterHere 0 := ⟨ftb_in 315 (by decide +kernel) rfl, ftb_in 317 (by decide +kernel) rfl, ftb_in 1 (by decide +kernel) rfl, ftb_in 62 (by decide +kernel) rfl, ftb_in 318 (by decide +kernel) rfl, rfl, by decide +kernel, by decide +kernel, by decide +kernel⟩
theorem sl_X2_42 : fSl RX2 42 Y_X2_kindOf 1 := ⟨ftb_in 319 (by decide +kernel) rfl, ftb_in 320 (by decide +kernel) rfl, ftb_in 62 (by decide +kernel) rfl, ftb_in 321 (by decide +kernel) rfl, by decide +kernel, by decide +kernel, by decide +kernel⟩
theorem vl_X2_49 : fVl RX2 49 RX2 Y_X2_faultHere 0 := ⟨ftb_in 322 (by decide +kernel) rfl, ftb_in 324 (by decide +kernel) rfl, ftb_in 2 (by decide +kernel) rfl, ftb_in 62 (by decide +kernel) rfl, ftb_in 325 (by decide +kernel) rfl, rfl, by decide +kernel, by decide +kernel, by decide +kernel⟩
theorem vl_X2_52 : fVl RX2 52 RX2 Y_X2_readRow 0 := ⟨ftb_in 326 (by decide +kernel) rfl, ftb_in 328 (by decide +kernel) rfl, ftb_in 3 (by decide +kernel) rfl, ftb_in 62 (by decide +kernel) rfl, ftb_in 329 (by decide +kernel) rfl, rfl, by decide +kernel, by decide +kernel, by decide +kernel⟩
theorem vl_X2_55 : fVl RX2 55 RX2 Y_X2_clearSide 0 := ⟨ftb_in 338 (by decide +kernel) rfl, ftb_in 340 (by decide +kernel) rfl, ftb_in 6 (by decide +kernel) rfl, ftb_in 62 (by decide +kernel) rfl, ftb_in 341 (by decide +kernel) rfl, rfl, by decide +kernel, by decide +kernel, by decide +kernel⟩
theorem vl_X2_58 : fVl RX2 58 RX2 Y_X2_readSide 0 := ⟨ftb_in 342 (by decide +kernel) rfl, ftb_in 344 (by decide +kernel) rfl, ftb_in 7 (by decide +kernel) rfl, ftb_in 62 (by decide +kernel) rfl, ftb_in 345 (by decide +kernel) rfl, rfl, by decide +kernel, by decide +kernel, by decide +kernel⟩
theorem vl_X2_61 : fVl RX2 61 RX2 Y_X2_readNumber 0 := ⟨ftb_in 330 (by decide +kernel) rfl, ftb_in 332 (by decide +kernel) rfl, ftb_in 4 (by decide +kernel) rfl, ftb_in 62 (by decide +kernel) rfl, ftb_in 333 (by decide +kernel) rfl, rfl, by decide +kernel, by decide +kernel, by decide +kernel⟩
theorem vl_X2_73 : fVl RX2 73 RX2 Y_X2_isDigitHere 0 := ⟨ftb_in 334 (by decide +kernel) rfl, ftb_in 336 (by decide +kernel) rfl, ftb_in 5 (by decide +kernel) rfl, ftb_in 62 (by decide +kernel) rfl, ftb_in 337 (by decide +kernel) rfl, rfl, by decide +kernel, by decide +kernel, by decide +kernel⟩
theorem vl_X3_34 : fVl RX3 34 RX3 Y_X3_placeAt 3 := ⟨ftb_in 378 (by decide +kernel) rfl, ftb_in 380 (by decide +kernel) rfl, ftb_in 10 (by decide +kernel) rfl, ftb_in 61 (by decide +kernel) rfl, ftb_in 381 (by decide +kernel) rfl, rfl, by decide +kernel, by decide +kernel, by decide +kernel⟩
theorem vl_X3_44 : fVl RX3 44 RX3 Y_X3_rowLength 0 := ⟨ftb_in 287 (by decide +kernel) rfl, ftb_in 288 (by decide +kernel) rfl, ftb_in 289 (by decide +kernel) rfl, ftb_in 61 (by decide +kernel) rfl, ftb_in 290 (by decide +kernel) rfl, rfl, by decide +kernel, by decide +kernel, by decide +kernel⟩
theorem vl_X5_39 : fVl RX5 39 RX3 Y_X3_rowLength 0 := ⟨ftb_in 573 (by decide +kernel) rfl, ftb_in 288 (by decide +kernel) rfl, ftb_in 289 (by decide +kernel) rfl, ftb_in 61 (by decide +kernel) rfl, ftb_in 290 (by decide +kernel) rfl, rfl, by decide +kernel, by decide +kernel, by decide +kernel⟩
theorem vl_X5_46 : fVl RX5 46 RX3 Y_X3_takeFrom 1 := ⟨ftb_in 582 (by decide +kernel) rfl, ftb_in 347 (by decide +kernel) rfl, ftb_in 348 (by decide +kernel) rfl, ftb_in 61 (by decide +kernel) rfl, ftb_in 349 (by decide +kernel) rfl, rfl, by decide +kernel, by decide +kernel, by decide +kernel⟩
theorem nl_X5_50 : fNl RX5 50 Y_X6_power "LeanDiagonals" 2 := ⟨by decide +kernel, ftb_in 534 (by decide +kernel) rfl, ftb_in 59 (by decide +kernel) rfl, ftb_in 535 (by decide +kernel) rfl, by decide +kernel, by decide +kernel, by decide +kernel⟩
theorem vl_L_13 : fVl "LeanDiagonalsLaw" 13 RX6 Y_X6_prime 1 := ⟨ftb_in 276 (by decide +kernel) rfl, ftb_in 277 (by decide +kernel) rfl, ftb_in 278 (by decide +kernel) rfl, ftb_in 59 (by decide +kernel) rfl, ftb_in 279 (by decide +kernel) rfl, rfl, by decide +kernel, by decide +kernel, by decide +kernel⟩
theorem vl_L_17 : fVl "LeanDiagonalsLaw" 17 RX7 Y_X7_prime 1 := ⟨ftb_in 747 (by decide +kernel) rfl, ftb_in 748 (by decide +kernel) rfl, ftb_in 749 (by decide +kernel) rfl, ftb_in 66 (by decide +kernel) rfl, ftb_in 750 (by decide +kernel) rfl, rfl, by decide +kernel, by decide +kernel, by decide +kernel⟩
theorem vl_L_18 : fVl "LeanDiagonalsLaw" 18 RX6 Y_X6_type 1 := ⟨ftb_in 295 (by decide +kernel) rfl, ftb_in 296 (by decide +kernel) rfl, ftb_in 297 (by decide +kernel) rfl, ftb_in 59 (by decide +kernel) rfl, ftb_in 298 (by decide +kernel) rfl, rfl, by decide +kernel, by decide +kernel, by decide +kernel⟩
theorem vl_L_21 : fVl "LeanDiagonalsLaw" 21 RX7 Y_X7_type 1 := ⟨ftb_in 847 (by decide +kernel) rfl, ftb_in 848 (by decide +kernel) rfl, ftb_in 849 (by decide +kernel) rfl, ftb_in 66 (by decide +kernel) rfl, ftb_in 850 (by decide +kernel) rfl, rfl, by decide +kernel, by decide +kernel, by decide +kernel⟩
theorem vl_L_22 : fVl "LeanDiagonalsLaw" 22 RX6 Y_X6_matrix 0 := ⟨ftb_in 303 (by decide +kernel) rfl, ftb_in 304 (by decide +kernel) rfl, ftb_in 305 (by decide +kernel) rfl, ftb_in 59 (by decide +kernel) rfl, ftb_in 306 (by decide +kernel) rfl, rfl, by decide +kernel, by decide +kernel, by decide +kernel⟩
theorem vl_L_26 : fVl "LeanDiagonalsLaw" 26 RX7 Y_X7_matrix 0 := ⟨ftb_in 853 (by decide +kernel) rfl, ftb_in 854 (by decide +kernel) rfl, ftb_in 855 (by decide +kernel) rfl, ftb_in 66 (by decide +kernel) rfl, ftb_in 856 (by decide +kernel) rfl, rfl, by decide +kernel, by decide +kernel, by decide +kernel⟩
theorem vl_L_27 : fVl "LeanDiagonalsLaw" 27 RX6 Y_X6_line 1 := ⟨ftb_in 353 (by decide +kernel) rfl, ftb_in 354 (by decide +kernel) rfl, ftb_in 355 (by decide +kernel) rfl, ftb_in 59 (by decide +kernel) rfl, ftb_in 356 (by decide +kernel) rfl, rfl, by decide +kernel, by decide +kernel, by decide +kernel⟩
theorem vl_L_30 : fVl "LeanDiagonalsLaw" 30 RX7 Y_X7_line 1 := ⟨ftb_in 759 (by decide +kernel) rfl, ftb_in 760 (by decide +kernel) rfl, ftb_in 761 (by decide +kernel) rfl, ftb_in 66 (by decide +kernel) rfl, ftb_in 762 (by decide +kernel) rfl, rfl, by decide +kernel, by decide +kernel, by decide +kernel⟩
theorem vl_L_31 : fVl "LeanDiagonalsLaw" 31 RX6 Y_X6_right 1 := ⟨ftb_in 362 (by decide +kernel) rfl, ftb_in 363 (by decide +kernel) rfl, ftb_in 364 (by decide +kernel) rfl, ftb_in 59 (by decide +kernel) rfl, ftb_in 365 (by decide +kernel) rfl, rfl, by decide +kernel, by decide +kernel, by decide +kernel⟩
theorem vl_L_34 : fVl "LeanDiagonalsLaw" 34 RX7 Y_X7_right 1 := ⟨ftb_in 771 (by decide +kernel) rfl, ftb_in 772 (by decide +kernel) rfl, ftb_in 773 (by decide +kernel) rfl, ftb_in 66 (by decide +kernel) rfl, ftb_in 774 (by decide +kernel) rfl, rfl, by decide +kernel, by decide +kernel, by decide +kernel⟩
theorem vl_L_35 : fVl "LeanDiagonalsLaw" 35 RX6 Y_X6_entry 2 := ⟨ftb_in 370 (by decide +kernel) rfl, ftb_in 371 (by decide +kernel) rfl, ftb_in 372 (by decide +kernel) rfl, ftb_in 59 (by decide +kernel) rfl, ftb_in 373 (by decide +kernel) rfl, rfl, by decide +kernel, by decide +kernel, by decide +kernel⟩
theorem vl_L_39 : fVl "LeanDiagonalsLaw" 39 RX7 Y_X7_entry 2 := ⟨ftb_in 779 (by decide +kernel) rfl, ftb_in 780 (by decide +kernel) rfl, ftb_in 781 (by decide +kernel) rfl, ftb_in 66 (by decide +kernel) rfl, ftb_in 782 (by decide +kernel) rfl, rfl, by decide +kernel, by decide +kernel, by decide +kernel⟩
theorem vl_L_40 : fVl "LeanDiagonalsLaw" 40 RX6 Y_X6_count 1 := ⟨ftb_in 385 (by decide +kernel) rfl, ftb_in 386 (by decide +kernel) rfl, ftb_in 387 (by decide +kernel) rfl, ftb_in 59 (by decide +kernel) rfl, ftb_in 388 (by decide +kernel) rfl, rfl, by decide +kernel, by decide +kernel, by decide +kernel⟩
theorem vl_L_43 : fVl "LeanDiagonalsLaw" 43 RX7 Y_X7_count 1 := ⟨ftb_in 787 (by decide +kernel) rfl, ftb_in 788 (by decide +kernel) rfl, ftb_in 789 (by decide +kernel) rfl, ftb_in 66 (by decide +kernel) rfl, ftb_in 790 (by decide +kernel) rfl, rfl, by decide +kernel, by decide +kernel, by decide +kernel⟩
theorem vl_L_44 : fVl "LeanDiagonalsLaw" 44 RX6 Y_X6_change 2 := ⟨ftb_in 447 (by decide +kernel) rfl, ftb_in 448 (by decide +kernel) rfl, ftb_in 449 (by decide +kernel) rfl, ftb_in 59 (by decide +kernel) rfl, ftb_in 450 (by decide +kernel) rfl, rfl, by decide +kernel, by decide +kernel, by decide +kernel⟩
theorem vl_L_47 : fVl "LeanDiagonalsLaw" 47 RX7 Y_X7_change 2 := ⟨ftb_in 886 (by decide +kernel) rfl, ftb_in 887 (by decide +kernel) rfl, ftb_in 888 (by decide +kernel) rfl, ftb_in 66 (by decide +kernel) rfl, ftb_in 889 (by decide +kernel) rfl, rfl, by decide +kernel, by decide +kernel, by decide +kernel⟩
theorem vl_L_48 : fVl "LeanDiagonalsLaw" 48 RX6 Y_X6_put 2 := ⟨ftb_in 460 (by decide +kernel) rfl, ftb_in 461 (by decide +kernel) rfl, ftb_in 462 (by decide +kernel) rfl, ftb_in 59 (by decide +kernel) rfl, ftb_in 463 (by decide +kernel) rfl, rfl, by decide +kernel, by decide +kernel, by decide +kernel⟩
theorem vl_L_51 : fVl "LeanDiagonalsLaw" 51 RX7 Y_X7_put 2 := ⟨ftb_in 894 (by decide +kernel) rfl, ftb_in 895 (by decide +kernel) rfl, ftb_in 896 (by decide +kernel) rfl, ftb_in 66 (by decide +kernel) rfl, ftb_in 897 (by decide +kernel) rfl, rfl, by decide +kernel, by decide +kernel, by decide +kernel⟩
theorem vl_L_52 : fVl "LeanDiagonalsLaw" 52 RX6 Y_X6_shape 1 := ⟨ftb_in 464 (by decide +kernel) rfl, ftb_in 465 (by decide +kernel) rfl, ftb_in 466 (by decide +kernel) rfl, ftb_in 59 (by decide +kernel) rfl, ftb_in 467 (by decide +kernel) rfl, rfl, by decide +kernel, by decide +kernel, by decide +kernel⟩
theorem vl_L_55 : fVl "LeanDiagonalsLaw" 55 RX7 Y_X7_shape 1 := ⟨ftb_in 898 (by decide +kernel) rfl, ftb_in 899 (by decide +kernel) rfl, ftb_in 900 (by decide +kernel) rfl, ftb_in 66 (by decide +kernel) rfl, ftb_in 901 (by decide +kernel) rfl, rfl, by decide +kernel, by decide +kernel, by decide +kernel⟩
theorem vl_L_56 : fVl "LeanDiagonalsLaw" 56 RX6 Y_X6_widen 0 := ⟨ftb_in 468 (by decide +kernel) rfl, ftb_in 469 (by decide +kernel) rfl, ftb_in 470 (by decide +kernel) rfl, ftb_in 59 (by decide +kernel) rfl, ftb_in 471 (by decide +kernel) rfl, rfl, by decide +kernel, by decide +kernel, by decide +kernel⟩
theorem vl_L_59 : fVl "LeanDiagonalsLaw" 59 RX7 Y_X7_widen 0 := ⟨ftb_in 903 (by decide +kernel) rfl, ftb_in 904 (by decide +kernel) rfl, ftb_in 905 (by decide +kernel) rfl, ftb_in 66 (by decide +kernel) rfl, ftb_in 906 (by decide +kernel) rfl, rfl, by decide +kernel, by decide +kernel, by decide +kernel⟩
theorem vl_L_60 : fVl "LeanDiagonalsLaw" 60 RX6 Y_X6_cut 0 := ⟨ftb_in 476 (by decide +kernel) rfl, ftb_in 477 (by decide +kernel) rfl, ftb_in 478 (by decide +kernel) rfl, ftb_in 59 (by decide +kernel) rfl, ftb_in 479 (by decide +kernel) rfl, rfl, by decide +kernel, by decide +kernel, by decide +kernel⟩
theorem vl_L_63 : fVl "LeanDiagonalsLaw" 63 RX7 Y_X7_cut 0 := ⟨ftb_in 907 (by decide +kernel) rfl, ftb_in 908 (by decide +kernel) rfl, ftb_in 909 (by decide +kernel) rfl, ftb_in 66 (by decide +kernel) rfl, ftb_in 910 (by decide +kernel) rfl, rfl, by decide +kernel, by decide +kernel, by decide +kernel⟩
theorem vl_L_64 : fVl "LeanDiagonalsLaw" 64 RX6 Y_X6_turn 0 := ⟨ftb_in 484 (by decide +kernel) rfl, ftb_in 485 (by decide +kernel) rfl, ftb_in 486 (by decide +kernel) rfl, ftb_in 59 (by decide +kernel) rfl, ftb_in 487 (by decide +kernel) rfl, rfl, by decide +kernel, by decide +kernel, by decide +kernel⟩
theorem vl_L_67 : fVl "LeanDiagonalsLaw" 67 RX7 Y_X7_turn 0 := ⟨ftb_in 911 (by decide +kernel) rfl, ftb_in 912 (by decide +kernel) rfl, ftb_in 913 (by decide +kernel) rfl, ftb_in 66 (by decide +kernel) rfl, ftb_in 914 (by decide +kernel) rfl, rfl, by decide +kernel, by decide +kernel, by decide +kernel⟩
theorem vl_L_68 : fVl "LeanDiagonalsLaw" 68 RX6 Y_X6_drift 1 := ⟨ftb_in 492 (by decide +kernel) rfl, ftb_in 493 (by decide +kernel) rfl, ftb_in 494 (by decide +kernel) rfl, ftb_in 59 (by decide +kernel) rfl, ftb_in 495 (by decide +kernel) rfl, rfl, by decide +kernel, by decide +kernel, by decide +kernel⟩
theorem vl_L_71 : fVl "LeanDiagonalsLaw" 71 RX7 Y_X7_drift 1 := ⟨ftb_in 915 (by decide +kernel) rfl, ftb_in 916 (by decide +kernel) rfl, ftb_in 917 (by decide +kernel) rfl, ftb_in 66 (by decide +kernel) rfl, ftb_in 918 (by decide +kernel) rfl, rfl, by decide +kernel, by decide +kernel, by decide +kernel⟩
theorem vl_L_72 : fVl "LeanDiagonalsLaw" 72 RX6 Y_X6_undo 0 := ⟨ftb_in 504 (by decide +kernel) rfl, ftb_in 505 (by decide +kernel) rfl, ftb_in 506 (by decide +kernel) rfl, ftb_in 59 (by decide +kernel) rfl, ftb_in 507 (by decide +kernel) rfl, rfl, by decide +kernel, by decide +kernel, by decide +kernel⟩
theorem vl_L_75 : fVl "LeanDiagonalsLaw" 75 RX7 Y_X7_undo 0 := ⟨ftb_in 924 (by decide +kernel) rfl, ftb_in 925 (by decide +kernel) rfl, ftb_in 926 (by decide +kernel) rfl, ftb_in 66 (by decide +kernel) rfl, ftb_in 927 (by decide +kernel) rfl, rfl, by decide +kernel, by decide +kernel, by decide +kernel⟩
theorem vl_L_76 : fVl "LeanDiagonalsLaw" 76 RX6 Y_X6_seed 1 := ⟨ftb_in 512 (by decide +kernel) rfl, ftb_in 513 (by decide +kernel) rfl, ftb_in 514 (by decide +kernel) rfl, ftb_in 59 (by decide +kernel) rfl, ftb_in 515 (by decide +kernel) rfl, rfl, by decide +kernel, by decide +kernel, by decide +kernel⟩
theorem vl_L_79 : fVl "LeanDiagonalsLaw" 79 RX7 Y_X7_seed 1 := ⟨ftb_in 928 (by decide +kernel) rfl, ftb_in 929 (by decide +kernel) rfl, ftb_in 930 (by decide +kernel) rfl, ftb_in 66 (by decide +kernel) rfl, ftb_in 931 (by decide +kernel) rfl, rfl, by decide +kernel, by decide +kernel, by decide +kernel⟩
theorem vl_L_80 : fVl "LeanDiagonalsLaw" 80 RX6 Y_X6_corner 1 := ⟨ftb_in 516 (by decide +kernel) rfl, ftb_in 517 (by decide +kernel) rfl, ftb_in 518 (by decide +kernel) rfl, ftb_in 59 (by decide +kernel) rfl, ftb_in 519 (by decide +kernel) rfl, rfl, by decide +kernel, by decide +kernel, by decide +kernel⟩
theorem vl_L_83 : fVl "LeanDiagonalsLaw" 83 RX7 Y_X7_corner 1 := ⟨ftb_in 932 (by decide +kernel) rfl, ftb_in 933 (by decide +kernel) rfl, ftb_in 934 (by decide +kernel) rfl, ftb_in 66 (by decide +kernel) rfl, ftb_in 935 (by decide +kernel) rfl, rfl, by decide +kernel, by decide +kernel, by decide +kernel⟩
theorem vl_L_84 : fVl "LeanDiagonalsLaw" 84 RX6 Y_X6_leap 1 := ⟨ftb_in 520 (by decide +kernel) rfl, ftb_in 521 (by decide +kernel) rfl, ftb_in 522 (by decide +kernel) rfl, ftb_in 59 (by decide +kernel) rfl, ftb_in 523 (by decide +kernel) rfl, rfl, by decide +kernel, by decide +kernel, by decide +kernel⟩
theorem vl_L_87 : fVl "LeanDiagonalsLaw" 87 RX7 Y_X7_leap 1 := ⟨ftb_in 936 (by decide +kernel) rfl, ftb_in 937 (by decide +kernel) rfl, ftb_in 938 (by decide +kernel) rfl, ftb_in 66 (by decide +kernel) rfl, ftb_in 939 (by decide +kernel) rfl, rfl, by decide +kernel, by decide +kernel, by decide +kernel⟩
theorem vl_L_88 : fVl "LeanDiagonalsLaw" 88 RX6 Y_X6_solved 1 := ⟨ftb_in 524 (by decide +kernel) rfl, ftb_in 525 (by decide +kernel) rfl, ftb_in 526 (by decide +kernel) rfl, ftb_in 59 (by decide +kernel) rfl, ftb_in 527 (by decide +kernel) rfl, rfl, by decide +kernel, by decide +kernel, by decide +kernel⟩
theorem vl_L_92 : fVl "LeanDiagonalsLaw" 92 RX7 Y_X7_solved 1 := ⟨ftb_in 940 (by decide +kernel) rfl, ftb_in 941 (by decide +kernel) rfl, ftb_in 942 (by decide +kernel) rfl, ftb_in 66 (by decide +kernel) rfl, ftb_in 943 (by decide +kernel) rfl, rfl, by decide +kernel, by decide +kernel, by decide +kernel⟩
theorem vl_L_93 : fVl "LeanDiagonalsLaw" 93 RX6 Y_X6_inverse 2 := ⟨ftb_in 537 (by decide +kernel) rfl, ftb_in 538 (by decide +kernel) rfl, ftb_in 539 (by decide +kernel) rfl, ftb_in 59 (by decide +kernel) rfl, ftb_in 540 (by decide +kernel) rfl, rfl, by decide +kernel, by decide +kernel, by decide +kernel⟩
theorem vl_L_96 : fVl "LeanDiagonalsLaw" 96 RX7 Y_X7_inverse 2 := ⟨ftb_in 950 (by decide +kernel) rfl, ftb_in 951 (by decide +kernel) rfl, ftb_in 952 (by decide +kernel) rfl, ftb_in 66 (by decide +kernel) rfl, ftb_in 953 (by decide +kernel) rfl, rfl, by decide +kernel, by decide +kernel, by decide +kernel⟩
theorem vl_L_97 : fVl "LeanDiagonalsLaw" 97 RX6 Y_X6_weak 2 := ⟨ftb_in 541 (by decide +kernel) rfl, ftb_in 542 (by decide +kernel) rfl, ftb_in 543 (by decide +kernel) rfl, ftb_in 59 (by decide +kernel) rfl, ftb_in 544 (by decide +kernel) rfl, rfl, by decide +kernel, by decide +kernel, by decide +kernel⟩
theorem vl_L_100 : fVl "LeanDiagonalsLaw" 100 RX7 Y_X7_weak 2 := ⟨ftb_in 954 (by decide +kernel) rfl, ftb_in 955 (by decide +kernel) rfl, ftb_in 956 (by decide +kernel) rfl, ftb_in 66 (by decide +kernel) rfl, ftb_in 957 (by decide +kernel) rfl, rfl, by decide +kernel, by decide +kernel, by decide +kernel⟩
theorem vl_L_101 : fVl "LeanDiagonalsLaw" 101 RX6 Y_X6_mend 1 := ⟨ftb_in 548 (by decide +kernel) rfl, ftb_in 549 (by decide +kernel) rfl, ftb_in 550 (by decide +kernel) rfl, ftb_in 59 (by decide +kernel) rfl, ftb_in 551 (by decide +kernel) rfl, rfl, by decide +kernel, by decide +kernel, by decide +kernel⟩
theorem vl_L_104 : fVl "LeanDiagonalsLaw" 104 RX7 Y_X7_mend 1 := ⟨ftb_in 958 (by decide +kernel) rfl, ftb_in 959 (by decide +kernel) rfl, ftb_in 960 (by decide +kernel) rfl, ftb_in 66 (by decide +kernel) rfl, ftb_in 961 (by decide +kernel) rfl, rfl, by decide +kernel, by decide +kernel, by decide +kernel⟩
theorem vl_L_105 : fVl "LeanDiagonalsLaw" 105 RX6 Y_X6_term 1 := ⟨ftb_in 556 (by decide +kernel) rfl, ftb_in 557 (by decide +kernel) rfl, ftb_in 558 (by decide +kernel) rfl, ftb_in 59 (by decide +kernel) rfl, ftb_in 559 (by decide +kernel) rfl, rfl, by decide +kernel, by decide +kernel, by decide +kernel⟩
theorem vl_L_108 : fVl "LeanDiagonalsLaw" 108 RX7 Y_X7_term 1 := ⟨ftb_in 966 (by decide +kernel) rfl, ftb_in 967 (by decide +kernel) rfl, ftb_in 968 (by decide +kernel) rfl, ftb_in 66 (by decide +kernel) rfl, ftb_in 969 (by decide +kernel) rfl, rfl, by decide +kernel, by decide +kernel, by decide +kernel⟩
theorem vl_L_109 : fVl "LeanDiagonalsLaw" 109 RX6 Y_X6_next 1 := ⟨ftb_in 560 (by decide +kernel) rfl, ftb_in 561 (by decide +kernel) rfl, ftb_in 562 (by decide +kernel) rfl, ftb_in 59 (by decide +kernel) rfl, ftb_in 563 (by decide +kernel) rfl, rfl, by decide +kernel, by decide +kernel, by decide +kernel⟩
theorem vl_L_112 : fVl "LeanDiagonalsLaw" 112 RX7 Y_X7_next 1 := ⟨ftb_in 970 (by decide +kernel) rfl, ftb_in 971 (by decide +kernel) rfl, ftb_in 972 (by decide +kernel) rfl, ftb_in 66 (by decide +kernel) rfl, ftb_in 973 (by decide +kernel) rfl, rfl, by decide +kernel, by decide +kernel, by decide +kernel⟩
theorem vl_L_113 : fVl "LeanDiagonalsLaw" 113 RX6 Y_X6_wiped 2 := ⟨ftb_in 565 (by decide +kernel) rfl, ftb_in 566 (by decide +kernel) rfl, ftb_in 567 (by decide +kernel) rfl, ftb_in 59 (by decide +kernel) rfl, ftb_in 568 (by decide +kernel) rfl, rfl, by decide +kernel, by decide +kernel, by decide +kernel⟩
theorem vl_L_117 : fVl "LeanDiagonalsLaw" 117 RX7 Y_X7_wiped 2 := ⟨ftb_in 975 (by decide +kernel) rfl, ftb_in 976 (by decide +kernel) rfl, ftb_in 977 (by decide +kernel) rfl, ftb_in 66 (by decide +kernel) rfl, ftb_in 978 (by decide +kernel) rfl, rfl, by decide +kernel, by decide +kernel, by decide +kernel⟩
theorem vl_L_118 : fVl "LeanDiagonalsLaw" 118 RX6 Y_X6_image 0 := ⟨ftb_in 598 (by decide +kernel) rfl, ftb_in 599 (by decide +kernel) rfl, ftb_in 600 (by decide +kernel) rfl, ftb_in 59 (by decide +kernel) rfl, ftb_in 601 (by decide +kernel) rfl, rfl, by decide +kernel, by decide +kernel, by decide +kernel⟩
theorem vl_L_121 : fVl "LeanDiagonalsLaw" 121 RX7 Y_X7_image 0 := ⟨ftb_in 980 (by decide +kernel) rfl, ftb_in 981 (by decide +kernel) rfl, ftb_in 982 (by decide +kernel) rfl, ftb_in 66 (by decide +kernel) rfl, ftb_in 983 (by decide +kernel) rfl, rfl, by decide +kernel, by decide +kernel, by decide +kernel⟩
theorem vl_L_122 : fVl "LeanDiagonalsLaw" 122 RX6 Y_X6_restore 0 := ⟨ftb_in 606 (by decide +kernel) rfl, ftb_in 607 (by decide +kernel) rfl, ftb_in 608 (by decide +kernel) rfl, ftb_in 59 (by decide +kernel) rfl, ftb_in 609 (by decide +kernel) rfl, rfl, by decide +kernel, by decide +kernel, by decide +kernel⟩
theorem vl_L_125 : fVl "LeanDiagonalsLaw" 125 RX7 Y_X7_restore 0 := ⟨ftb_in 984 (by decide +kernel) rfl, ftb_in 985 (by decide +kernel) rfl, ftb_in 986 (by decide +kernel) rfl, ftb_in 66 (by decide +kernel) rfl, ftb_in 987 (by decide +kernel) rfl, rfl, by decide +kernel, by decide +kernel, by decide +kernel⟩
theorem vl_L_126 : fVl "LeanDiagonalsLaw" 126 RX6 Y_X6_came 3 := ⟨ftb_in 610 (by decide +kernel) rfl, ftb_in 611 (by decide +kernel) rfl, ftb_in 612 (by decide +kernel) rfl, ftb_in 59 (by decide +kernel) rfl, ftb_in 613 (by decide +kernel) rfl, rfl, by decide +kernel, by decide +kernel, by decide +kernel⟩
theorem vl_L_130 : fVl "LeanDiagonalsLaw" 130 RX7 Y_X7_came 3 := ⟨ftb_in 1015 (by decide +kernel) rfl, ftb_in 1016 (by decide +kernel) rfl, ftb_in 1017 (by decide +kernel) rfl, ftb_in 66 (by decide +kernel) rfl, ftb_in 1018 (by decide +kernel) rfl, rfl, by decide +kernel, by decide +kernel, by decide +kernel⟩
theorem vl_L_131 : fVl "LeanDiagonalsLaw" 131 RX6 Y_X6_apply 3 := ⟨ftb_in 644 (by decide +kernel) rfl, ftb_in 645 (by decide +kernel) rfl, ftb_in 646 (by decide +kernel) rfl, ftb_in 59 (by decide +kernel) rfl, ftb_in 647 (by decide +kernel) rfl, rfl, by decide +kernel, by decide +kernel, by decide +kernel⟩
theorem vl_L_134 : fVl "LeanDiagonalsLaw" 134 RX7 Y_X7_apply 3 := ⟨ftb_in 1027 (by decide +kernel) rfl, ftb_in 1028 (by decide +kernel) rfl, ftb_in 1029 (by decide +kernel) rfl, ftb_in 66 (by decide +kernel) rfl, ftb_in 1030 (by decide +kernel) rfl, rfl, by decide +kernel, by decide +kernel, by decide +kernel⟩
theorem vl_L_135 : fVl "LeanDiagonalsLaw" 135 RX6 Y_X6_film 3 := ⟨ftb_in 648 (by decide +kernel) rfl, ftb_in 649 (by decide +kernel) rfl, ftb_in 650 (by decide +kernel) rfl, ftb_in 59 (by decide +kernel) rfl, ftb_in 651 (by decide +kernel) rfl, rfl, by decide +kernel, by decide +kernel, by decide +kernel⟩
theorem vl_L_138 : fVl "LeanDiagonalsLaw" 138 RX7 Y_X7_film 3 := ⟨ftb_in 1031 (by decide +kernel) rfl, ftb_in 1032 (by decide +kernel) rfl, ftb_in 1033 (by decide +kernel) rfl, ftb_in 66 (by decide +kernel) rfl, ftb_in 1034 (by decide +kernel) rfl, rfl, by decide +kernel, by decide +kernel, by decide +kernel⟩
theorem vl_L_139 : fVl "LeanDiagonalsLaw" 139 RX6 Y_X6_sheet 3 := ⟨ftb_in 656 (by decide +kernel) rfl, ftb_in 657 (by decide +kernel) rfl, ftb_in 658 (by decide +kernel) rfl, ftb_in 59 (by decide +kernel) rfl, ftb_in 659 (by decide +kernel) rfl, rfl, by decide +kernel, by decide +kernel, by decide +kernel⟩
theorem vl_L_142 : fVl "LeanDiagonalsLaw" 142 RX7 Y_X7_sheet 3 := ⟨ftb_in 988 (by decide +kernel) rfl, ftb_in 989 (by decide +kernel) rfl, ftb_in 990 (by decide +kernel) rfl, ftb_in 66 (by decide +kernel) rfl, ftb_in 991 (by decide +kernel) rfl, rfl, by decide +kernel, by decide +kernel, by decide +kernel⟩
theorem vl_L_143 : fVl "LeanDiagonalsLaw" 143 RX6 Y_X6_drop 1 := ⟨ftb_in 664 (by decide +kernel) rfl, ftb_in 665 (by decide +kernel) rfl, ftb_in 666 (by decide +kernel) rfl, ftb_in 59 (by decide +kernel) rfl, ftb_in 667 (by decide +kernel) rfl, rfl, by decide +kernel, by decide +kernel, by decide +kernel⟩
theorem vl_L_146 : fVl "LeanDiagonalsLaw" 146 RX7 Y_X7_drop 1 := ⟨ftb_in 996 (by decide +kernel) rfl, ftb_in 997 (by decide +kernel) rfl, ftb_in 998 (by decide +kernel) rfl, ftb_in 66 (by decide +kernel) rfl, ftb_in 999 (by decide +kernel) rfl, rfl, by decide +kernel, by decide +kernel, by decide +kernel⟩
theorem vl_L_149 : fVl "LeanDiagonalsLaw" 149 RX6 Y_X6_item 4 := ⟨ftb_in 672 (by decide +kernel) rfl, ftb_in 673 (by decide +kernel) rfl, ftb_in 674 (by decide +kernel) rfl, ftb_in 59 (by decide +kernel) rfl, ftb_in 675 (by decide +kernel) rfl, rfl, by decide +kernel, by decide +kernel, by decide +kernel⟩
theorem vl_L_153 : fVl "LeanDiagonalsLaw" 153 RX7 Y_X7_item 4 := ⟨ftb_in 1000 (by decide +kernel) rfl, ftb_in 1001 (by decide +kernel) rfl, ftb_in 1002 (by decide +kernel) rfl, ftb_in 66 (by decide +kernel) rfl, ftb_in 1003 (by decide +kernel) rfl, rfl, by decide +kernel, by decide +kernel, by decide +kernel⟩
theorem vl_L_154 : fVl "LeanDiagonalsLaw" 154 RX6 Y_X6_copy 5 := ⟨ftb_in 679 (by decide +kernel) rfl, ftb_in 680 (by decide +kernel) rfl, ftb_in 681 (by decide +kernel) rfl, ftb_in 59 (by decide +kernel) rfl, ftb_in 682 (by decide +kernel) rfl, rfl, by decide +kernel, by decide +kernel, by decide +kernel⟩
theorem vl_L_158 : fVl "LeanDiagonalsLaw" 158 RX7 Y_X7_copy 5 := ⟨ftb_in 1011 (by decide +kernel) rfl, ftb_in 1012 (by decide +kernel) rfl, ftb_in 1013 (by decide +kernel) rfl, ftb_in 66 (by decide +kernel) rfl, ftb_in 1014 (by decide +kernel) rfl, rfl, by decide +kernel, by decide +kernel, by decide +kernel⟩
theorem lb_copy_X6 : Cond.methodLink RX6 203 arraycopyName ∈ ftb := ftb_in 564 (by decide +kernel) rfl
theorem lb_min_X6 : Cond.methodLink RX6 255 Lib.MathLoose.min_long.x ∈ ftb := ftb_in 653 (by decide +kernel) rfl
theorem lb_copy_X3 : Cond.methodLink RX3 28 arraycopyName ∈ ftb := ftb_in 350 (by decide +kernel) rfl
theorem lb_abs_X3 : Cond.methodLink RX3 38 Lib.Math.abs.name ∈ ftb := ftb_in 382 (by decide +kernel) rfl
theorem lb_math : Cond.initialized "java/lang/Math" ∈ ftb := ftb_in 68 (by decide +kernel) rfl
theorem lb_sys : Cond.initialized "java/lang/System" ∈ ftb := ftb_in 67 (by decide +kernel) rfl
theorem lb_abs_s : Cond.static Lib.Math.abs.name ∈ ftb := ftb_in 383 (by decide +kernel) rfl
theorem lb_abs_c : Cond.code Lib.Math.abs.name Lib.Math.abs.code 1 (some .int) ∈ ftb := ftb_in 384 (by decide +kernel) rfl
theorem lb_min_s : Cond.static Lib.MathLoose.min_long.x ∈ ftb := ftb_in 654 (by decide +kernel) rfl
theorem lb_min_c : Cond.code Lib.MathLoose.min_long.x Lib.MathLoose.min_long.code 4 (some .long) ∈ ftb := ftb_in 655 (by decide +kernel) rfl
theorem lb_copy_n : Cond.native arraycopyName ∈ ftb := ftb_in 352 (by decide +kernel) rfl
theorem lb_copy_s : Cond.static arraycopyName ∈ ftb := ftb_in 351 (by decide +kernel) rfl
end
section
/-! ===== fields that are written ===== -/
theorem fp_X0_0 : (∀ q, fcls[0]? = some q → (q.2.1 0).2.2.2 = false) ∧ (∀ q, fcls[0]? = some q → parseFieldDescriptor (q.2.1 0).2.2.1 = some .int) := ⟨fun q h => by rw [← Option.some.inj (show some (RX0, TX0, 5) = some q from h)]; rfl, fun q h => by rw [← Option.some.inj (show some (RX0, TX0, 5) = some q from h)]; exact tyX0_ok 0 (by decide)⟩
theorem fp_X0_1 : (∀ q, fcls[0]? = some q → (q.2.1 1).2.2.2 = false) ∧ (∀ q, fcls[0]? = some q → parseFieldDescriptor (q.2.1 1).2.2.1 = some .int) := ⟨fun q h => by rw [← Option.some.inj (show some (RX0, TX0, 5) = some q from h)]; rfl, fun q h => by rw [← Option.some.inj (show some (RX0, TX0, 5) = some q from h)]; exact tyX0_ok 1 (by decide)⟩
theorem fp_X0_3 : (∀ q, fcls[0]? = some q → (q.2.1 3).2.2.2 = false) ∧ (∀ q, fcls[0]? = some q → parseFieldDescriptor (q.2.1 3).2.2.1 = some .int) := ⟨fun q h => by rw [← Option.some.inj (show some (RX0, TX0, 5) = some q from h)]; rfl, fun q h => by rw [← Option.some.inj (show some (RX0, TX0, 5) = some q from h)]; exact tyX0_ok 3 (by decide)⟩
theorem fp_X1_3 : (∀ q, fcls[1]? = some q → (q.2.1 3).2.2.2 = false) ∧ (∀ q, fcls[1]? = some q → parseFieldDescriptor (q.2.1 3).2.2.1 = some .int) := ⟨fun q h => by rw [← Option.some.inj (show some (RX1, TX1, 4) = some q from h)]; rfl, fun q h => by rw [← Option.some.inj (show some (RX1, TX1, 4) = some q from h)]; exact tyX1_ok 3 (by decide)⟩
theorem fp_X2_0 : (∀ q, fcls[2]? = some q → (q.2.1 0).2.2.2 = false) ∧ (∀ q, fcls[2]? = some q → parseFieldDescriptor (q.2.1 0).2.2.1 = some .int) := ⟨fun q h => by rw [← Option.some.inj (show some (RX2, TX2, 6) = some q from h)]; rfl, fun q h => by rw [← Option.some.inj (show some (RX2, TX2, 6) = some q from h)]; exact tyX2_ok 0 (by decide)⟩
theorem fp_X2_3 : (∀ q, fcls[2]? = some q → (q.2.1 3).2.2.2 = false) ∧ (∀ q, fcls[2]? = some q → parseFieldDescriptor (q.2.1 3).2.2.1 = some .int) := ⟨fun q h => by rw [← Option.some.inj (show some (RX2, TX2, 6) = some q from h)]; rfl, fun q h => by rw [← Option.some.inj (show some (RX2, TX2, 6) = some q from h)]; exact tyX2_ok 3 (by decide)⟩
theorem fp_X2_4 : (∀ q, fcls[2]? = some q → (q.2.1 4).2.2.2 = false) ∧ (∀ q, fcls[2]? = some q → parseFieldDescriptor (q.2.1 4).2.2.1 = some .int) := ⟨fun q h => by rw [← Option.some.inj (show some (RX2, TX2, 6) = some q from h)]; rfl, fun q h => by rw [← Option.some.inj (show some (RX2, TX2, 6) = some q from h)]; exact tyX2_ok 4 (by decide)⟩
theorem fp_X2_5 : (∀ q, fcls[2]? = some q → (q.2.1 5).2.2.2 = false) ∧ (∀ q, fcls[2]? = some q → parseFieldDescriptor (q.2.1 5).2.2.1 = some .int) := ⟨fun q h => by rw [← Option.some.inj (show some (RX2, TX2, 6) = some q from h)]; rfl, fun q h => by rw [← Option.some.inj (show some (RX2, TX2, 6) = some q from h)]; exact tyX2_ok 5 (by decide)⟩
theorem fp_X3_0 : (∀ q, fcls[3]? = some q → (q.2.1 0).2.2.2 = false) ∧ (∀ q, fcls[3]? = some q → parseFieldDescriptor (q.2.1 0).2.2.1 = some .int) := ⟨fun q h => by rw [← Option.some.inj (show some (RX3, TX3, 5) = some q from h)]; rfl, fun q h => by rw [← Option.some.inj (show some (RX3, TX3, 5) = some q from h)]; exact tyX3_ok 0 (by decide)⟩
theorem fp_X3_1 : (∀ q, fcls[3]? = some q → (q.2.1 1).2.2.2 = false) ∧ (∀ q, fcls[3]? = some q → parseFieldDescriptor (q.2.1 1).2.2.1 = some .int) := ⟨fun q h => by rw [← Option.some.inj (show some (RX3, TX3, 5) = some q from h)]; rfl, fun q h => by rw [← Option.some.inj (show some (RX3, TX3, 5) = some q from h)]; exact tyX3_ok 1 (by decide)⟩
theorem fp_X3_2 : (∀ q, fcls[3]? = some q → (q.2.1 2).2.2.2 = false) ∧ (∀ q, fcls[3]? = some q → parseFieldDescriptor (q.2.1 2).2.2.1 = some .int) := ⟨fun q h => by rw [← Option.some.inj (show some (RX3, TX3, 5) = some q from h)]; rfl, fun q h => by rw [← Option.some.inj (show some (RX3, TX3, 5) = some q from h)]; exact tyX3_ok 2 (by decide)⟩
theorem fp_X4_0 : (∀ q, fcls[4]? = some q → (q.2.1 0).2.2.2 = false) ∧ (∀ q, fcls[4]? = some q → parseFieldDescriptor (q.2.1 0).2.2.1 = some .int) := ⟨fun q h => by rw [← Option.some.inj (show some (RX4, TX4, 3) = some q from h)]; rfl, fun q h => by rw [← Option.some.inj (show some (RX4, TX4, 3) = some q from h)]; exact tyX4_ok 0 (by decide)⟩
theorem fp_X4_1 : (∀ q, fcls[4]? = some q → (q.2.1 1).2.2.2 = false) ∧ (∀ q, fcls[4]? = some q → parseFieldDescriptor (q.2.1 1).2.2.1 = some .int) := ⟨fun q h => by rw [← Option.some.inj (show some (RX4, TX4, 3) = some q from h)]; rfl, fun q h => by rw [← Option.some.inj (show some (RX4, TX4, 3) = some q from h)]; exact tyX4_ok 1 (by decide)⟩
theorem fp_X5_2 : (∀ q, fcls[5]? = some q → (q.2.1 2).2.2.2 = false) ∧ (∀ q, fcls[5]? = some q → parseFieldDescriptor (q.2.1 2).2.2.1 = some .int) := ⟨fun q h => by rw [← Option.some.inj (show some (RX5, TX5, 5) = some q from h)]; rfl, fun q h => by rw [← Option.some.inj (show some (RX5, TX5, 5) = some q from h)]; exact tyX5_ok 2 (by decide)⟩
theorem fp_X5_3 : (∀ q, fcls[5]? = some q → (q.2.1 3).2.2.2 = false) ∧ (∀ q, fcls[5]? = some q → parseFieldDescriptor (q.2.1 3).2.2.1 = some .int) := ⟨fun q h => by rw [← Option.some.inj (show some (RX5, TX5, 5) = some q from h)]; rfl, fun q h => by rw [← Option.some.inj (show some (RX5, TX5, 5) = some q from h)]; exact tyX5_ok 3 (by decide)⟩
theorem fp_X6_2 : (∀ q, fcls[6]? = some q → (q.2.1 2).2.2.2 = false) ∧ (∀ q, fcls[6]? = some q → parseFieldDescriptor (q.2.1 2).2.2.1 = some .boolean) := ⟨fun q h => by rw [← Option.some.inj (show some (RX6, TX6, 11) = some q from h)]; rfl, fun q h => by rw [← Option.some.inj (show some (RX6, TX6, 11) = some q from h)]; exact tyX6_ok 2 (by decide)⟩
theorem fp_X7_3 : (∀ q, fcls[7]? = some q → (q.2.1 3).2.2.2 = false) ∧ (∀ q, fcls[7]? = some q → parseFieldDescriptor (q.2.1 3).2.2.1 = some .int) := ⟨fun q h => by rw [← Option.some.inj (show some (RX7, TX7, 19) = some q from h)]; rfl, fun q h => by rw [← Option.some.inj (show some (RX7, TX7, 19) = some q from h)]; exact tyX7_ok 3 (by decide)⟩
theorem fp_X7_5 : (∀ q, fcls[7]? = some q → (q.2.1 5).2.2.2 = false) ∧ (∀ q, fcls[7]? = some q → parseFieldDescriptor (q.2.1 5).2.2.1 = some .int) := ⟨fun q h => by rw [← Option.some.inj (show some (RX7, TX7, 19) = some q from h)]; rfl, fun q h => by rw [← Option.some.inj (show some (RX7, TX7, 19) = some q from h)]; exact tyX7_ok 5 (by decide)⟩
theorem fp_X7_6 : (∀ q, fcls[7]? = some q → (q.2.1 6).2.2.2 = false) ∧ (∀ q, fcls[7]? = some q → parseFieldDescriptor (q.2.1 6).2.2.1 = some .int) := ⟨fun q h => by rw [← Option.some.inj (show some (RX7, TX7, 19) = some q from h)]; rfl, fun q h => by rw [← Option.some.inj (show some (RX7, TX7, 19) = some q from h)]; exact tyX7_ok 6 (by decide)⟩
theorem fp_X7_9 : (∀ q, fcls[7]? = some q → (q.2.1 9).2.2.2 = false) ∧ (∀ q, fcls[7]? = some q → parseFieldDescriptor (q.2.1 9).2.2.1 = some .int) := ⟨fun q h => by rw [← Option.some.inj (show some (RX7, TX7, 19) = some q from h)]; rfl, fun q h => by rw [← Option.some.inj (show some (RX7, TX7, 19) = some q from h)]; exact tyX7_ok 9 (by decide)⟩
theorem fp_X7_14 : (∀ q, fcls[7]? = some q → (q.2.1 14).2.2.2 = false) ∧ (∀ q, fcls[7]? = some q → parseFieldDescriptor (q.2.1 14).2.2.1 = some .int) := ⟨fun q h => by rw [← Option.some.inj (show some (RX7, TX7, 19) = some q from h)]; rfl, fun q h => by rw [← Option.some.inj (show some (RX7, TX7, 19) = some q from h)]; exact tyX7_ok 14 (by decide)⟩
end
section
/-! ===== small helps ===== -/
section FA
variable {g : fG} {Y : fY} {pc : Nat} {ls : List (Option fV)} {st : List fV} {M : fM} {Q : Option fV → fM → Prop}
theorem fAt_m {M' : fM} (h : M = M') (kk : fAt g Y pc ls st M' Q) : fAt g Y pc ls st M Q := h ▸ kk
theorem fAt_v {x x' : Int} (h : x = x') (kk : fAt g Y pc ls (vi x' :: st) M Q) : fAt g Y pc ls (vi x :: st) M Q := h ▸ kk
theorem fAt_vl {x x' : Int} (h : x = x') (kk : fAt g Y pc ls (vl x' :: st) M Q) : fAt g Y pc ls (vl x :: st) M Q := h ▸ kk
theorem fAt_ls {ls' : List (Option fV)} (h : ls = ls') (kk : fAt g Y pc ls' st M Q) : fAt g Y pc ls st M Q := h ▸ kk
theorem fAt_q {Q' : Option fV → fM → Prop} (h : ∀ r M', Q' r M' → Q r M') (kk : fAt g Y pc ls st M Q') : fAt g Y pc ls st M Q := by
  intro hR p e s m args below meth c H locs ar hE hP hS hl T hT X
  obtain ⟨t, a1, o, b1, b2, ⟨⟨r, M', c1, c2, c3⟩, c4⟩, b4⟩ := kk hR p e s m args below meth c H locs ar hE hP hS hl T hT X
  exact ⟨t, a1, o, b1, b2, ⟨⟨r, M', c1, h r M' c2, c3⟩, c4⟩, b4⟩
end FA
theorem fCi_of {g : fG} {Y : fY} {M : fM} {P : Int → fM → Prop} (av : List fV) (ls : List (Option fV)) (hy : plainName Y.1.cls = true) (hn : (lg_sl (av.map (fMv g))).length ≤ Y.2.2.1) (hl : lv_args 0 (av.map (fMv g)) = fas g 0 ls) (hr : fRs av → fRl ls) (h : fAt g Y 0 ls [] M (fI P)) : fCi g Y av M P := fCt_of av ls hy hn hl hr h
theorem fCl_of {g : fG} {Y : fY} {M : fM} {P : Int → fM → Prop} (av : List fV) (ls : List (Option fV)) (hy : plainName Y.1.cls = true) (hn : (lg_sl (av.map (fMv g))).length ≤ Y.2.2.1) (hl : lv_args 0 (av.map (fMv g)) = fas g 0 ls) (hr : fRs av → fRl ls) (h : fAt g Y 0 ls [] M (fL P)) : fCl g Y av M P := fCt_of av ls hy hn hl hr h
theorem fCv_of {g : fG} {Y : fY} {M : fM} {P : fM → Prop} (av : List fV) (ls : List (Option fV)) (hy : plainName Y.1.cls = true) (hn : (lg_sl (av.map (fMv g))).length ≤ Y.2.2.1) (hl : lv_args 0 (av.map (fMv g)) = fas g 0 ls) (hr : fRs av → fRl ls) (h : fAt g Y 0 ls [] M (fN P)) : fCv g Y av M P := fCt_of av ls hy hn hl hr h
theorem mulb {x y a b : Int} (hx : 0 ≤ x) (hy : 0 ≤ y) (ha : x ≤ a) (hb : y ≤ b) : 0 ≤ x * y ∧ x * y ≤ a * b := ⟨Int.mul_nonneg hx hy, Int.mul_le_mul ha hb hy (by omega)⟩
theorem modb {x p : Int} (hp : 0 < p) : 0 ≤ x % p ∧ x % p < p := ⟨Int.emod_nonneg x (by omega), Int.emod_lt_of_pos x hp⟩
theorem fup_eq {M : fM} {k i j : Nat} {v : Int} : fup M k i j v k i j = v := by simp [fup]
theorem fup_ne {M : fM} {k i j : Nat} {v : Int} {a b c : Nat} (h : ¬ (a = k ∧ b = i ∧ c = j)) : fup M k i j v a b c = M a b c := by unfold fup; rw [if_neg h]
end
section
/-! ===== determinants ===== -/
def sm : Nat → (Nat → Int) → Int
  | 0, _ => 0
  | n + 1, f => sm n f + f n
theorem sm_congr {f h : Nat → Int} : ∀ {n : Nat}, (∀ i, i < n → f i = h i) → sm n f = sm n h
  | 0, _ => rfl
  | n + 1, e => by show sm n f + f n = sm n h + h n; rw [sm_congr (fun i hi => e i (by omega)), e n (by omega)]
theorem sm_add (f h : Nat → Int) : ∀ n : Nat, sm n (fun i => f i + h i) = sm n f + sm n h
  | 0 => rfl
  | n + 1 => by show sm n _ + (f n + h n) = (sm n f + f n) + (sm n h + h n); rw [sm_add f h n]; omega
theorem sm_mul (t : Int) (f : Nat → Int) : ∀ n : Nat, sm n (fun i => t * f i) = t * sm n f
  | 0 => by show (0 : Int) = t * 0; rw [Int.mul_zero]
  | n + 1 => by show sm n _ + t * f n = t * (sm n f + f n); rw [sm_mul t f n, Int.mul_add]
theorem sm_zero {f : Nat → Int} : ∀ {n : Nat}, (∀ i, i < n → f i = 0) → sm n f = 0
  | 0, _ => rfl
  | n + 1, e => by show sm n f + f n = 0; rw [sm_zero (fun i hi => e i (by omega)), e n (by omega)]; rfl
theorem sm_first (f : Nat → Int) : ∀ n : Nat, sm (n + 1) f = f 0 + sm n (fun i => f (i + 1))
  | 0 => by show (0 : Int) + f 0 = f 0 + 0; omega
  | n + 1 => by show sm (n + 1) f + f (n + 1) = f 0 + (sm n (fun i => f (i + 1)) + f (n + 1)); rw [sm_first f n]; omega
theorem sm_mod {p : Int} {f h : Nat → Int} : ∀ {n : Nat}, (∀ i, i < n → f i % p = h i % p) → sm n f % p = sm n h % p
  | 0, _ => rfl
  | n + 1, e => by
    show (sm n f + f n) % p = (sm n h + h n) % p
    rw [Int.add_emod, sm_mod (fun i hi => e i (by omega)), e n (by omega), ← Int.add_emod]
theorem sm_adj {f h : Nat → Int} {k : Nat} (e1 : h k = - f (k + 1)) (e2 : h (k + 1) = - f k) : ∀ {n : Nat}, k + 1 < n → (∀ i, i < n → i ≠ k → i ≠ k + 1 → h i = - f i) → sm n h = - sm n f
  | 0, hk, _ => absurd hk (by omega)
  | n + 1, hk, e => by
    show sm n h + h n = - (sm n f + f n)
    by_cases q : k + 1 = n
    · subst q
      show (sm k h + h k) + h (k + 1) = - ((sm k f + f k) + f (k + 1))
      rw [e1, e2, show sm k h = sm k (fun i => -1 * f i) from sm_congr (fun i hi => by rw [e i (by omega) (by omega) (by omega)]; omega), sm_mul]
      omega
    · rw [sm_adj e1 e2 (by omega) (fun i hi => e i (by omega)), e n (by omega) (by omega) (by omega)]
      omega
def sgn : Nat → Int
  | 0 => 1
  | n + 1 => - sgn n
def mnr (i : Nat) (A : Nat → Nat → Int) : Nat → Nat → Int := fun a b => A (if a < i then a else a + 1) (b + 1)
def dt : Nat → (Nat → Nat → Int) → Int
  | 0, _ => 1
  | n + 1, A => sm (n + 1) (fun i => sgn i * A i 0 * dt n (mnr i A))
theorem dt_succ (n : Nat) (A : Nat → Nat → Int) : dt (n + 1) A = sm (n + 1) (fun i => sgn i * A i 0 * dt n (mnr i A)) := rfl
theorem mnr_lt {n i a : Nat} (hi : i < n + 1) (ha : a < n) : (if a < i then a else a + 1) < n + 1 := by split <;> omega
theorem dt_congr : ∀ {n : Nat} {A B : Nat → Nat → Int}, (∀ i j, i < n → j < n → A i j = B i j) → dt n A = dt n B
  | 0, _, _, _ => rfl
  | n + 1, A, B, h => by
    rw [dt_succ, dt_succ]
    exact sm_congr (fun i hi => by rw [h i 0 hi (by omega), dt_congr (A := mnr i A) (B := mnr i B) (fun a b ha hb => h _ (b + 1) (mnr_lt hi ha) (by omega))])
theorem dt_mod {p : Int} : ∀ {n : Nat} {A B : Nat → Nat → Int}, (∀ i j, i < n → j < n → A i j % p = B i j % p) → dt n A % p = dt n B % p
  | 0, _, _, _ => rfl
  | n + 1, A, B, h => by
    rw [dt_succ, dt_succ]
    refine sm_mod (fun i hi => ?_)
    have h1 : dt n (mnr i A) % p = dt n (mnr i B) % p := dt_mod (fun a b ha hb => h _ (b + 1) (mnr_lt hi ha) (by omega))
    rw [Int.mul_emod, Int.mul_emod (sgn i), h i 0 hi (by omega), h1, ← Int.mul_emod (sgn i), ← Int.mul_emod]
def swp (a b : Nat) (A : Nat → Nat → Int) : Nat → Nat → Int := fun i => if i = a then A b else if i = b then A a else A i
theorem mnr_swp {k i : Nat} {A : Nat → Nat → Int} (h1 : i ≠ k) (h2 : i ≠ k + 1) : mnr i (swp k (k + 1) A) = if i < k then swp (k - 1) k (mnr i A) else swp k (k + 1) (mnr i A) := by
  funext a b
  by_cases q : i < k
  · rw [if_pos q]
    unfold mnr swp
    by_cases e1 : a = k - 1
    · subst e1
      have a1 : ¬ (k - 1 < i) := by omega
      have a2 : k - 1 + 1 = k := by omega
      have a3 : ¬ (k < i) := by omega
      simp only [a1, a2, a3, if_true, if_false]
    · by_cases e2 : a = k
      · subst e2
        have a1 : ¬ (a < i) := by omega
        have a2 : ¬ (a + 1 = a) := by omega
        have a3 : ¬ (a - 1 < i) := by omega
        have a4 : a - 1 + 1 = a := by omega
        have a5 : ¬ (a = a - 1) := by omega
        simp only [a1, a2, a3, a4, a5, if_true, if_false]
      · have a1 : ¬ ((if a < i then a else a + 1) = k) := by split <;> omega
        have a2 : ¬ ((if a < i then a else a + 1) = k + 1) := by split <;> omega
        simp only [a1, a2, e1, e2, if_false]
  · rw [if_neg q]
    unfold mnr swp
    by_cases e1 : a = k
    · subst e1
      have a1 : a < i := by omega
      have a2 : a + 1 < i := by omega
      simp only [a1, a2, if_true]
    · by_cases e2 : a = k + 1
      · subst e2
        have a1 : k + 1 < i := by omega
        have a2 : k < i := by omega
        have a3 : ¬ (k + 1 = k) := by omega
        simp only [a1, a2, a3, if_true, if_false]
      · have a1 : ¬ ((if a < i then a else a + 1) = k) := by split <;> omega
        have a2 : ¬ ((if a < i then a else a + 1) = k + 1) := by split <;> omega
        simp only [a1, a2, e1, e2, if_false]
theorem mnr_swp_k (k : Nat) (A : Nat → Nat → Int) : mnr k (swp k (k + 1) A) = mnr (k + 1) A := by
  funext a b
  unfold mnr swp
  by_cases e : a < k
  · have a1 : ¬ (a = k) := by omega
    have a2 : ¬ (a = k + 1) := by omega
    have a3 : a < k + 1 := by omega
    simp only [e, a1, a2, a3, if_true, if_false]
  · by_cases e2 : a = k
    · subst e2
      have a1 : ¬ (a < a) := by omega
      have a2 : ¬ (a + 1 = a) := by omega
      have a3 : a < a + 1 := by omega
      simp only [a1, a2, a3, if_true, if_false]
    · have a1 : ¬ (a + 1 = k) := by omega
      have a2 : ¬ (a + 1 = k + 1) := by omega
      have a3 : ¬ (a < k + 1) := by omega
      simp only [e, a1, a2, a3, if_false]
theorem mnr_swp_k1 (k : Nat) (A : Nat → Nat → Int) : mnr (k + 1) (swp k (k + 1) A) = mnr k A := by
  have h := mnr_swp_k k (swp k (k + 1) A)
  have e : swp k (k + 1) (swp k (k + 1) A) = A := by
    funext i
    unfold swp
    by_cases e1 : i = k
    · subst e1
      have a1 : ¬ (i + 1 = i) := by omega
      simp only [a1, if_true, if_false]
    · by_cases e2 : i = k + 1
      · subst e2
        have a1 : ¬ (k + 1 = k) := by omega
        simp only [a1, if_true, if_false]
      · simp only [e1, e2, if_false]
  rw [e] at h
  exact h.symm
theorem dt_adj : ∀ {n k : Nat} (A : Nat → Nat → Int), k + 1 < n → dt n (swp k (k + 1) A) = - dt n A
  | 0, _, _, h => absurd h (by omega)
  | n + 1, k, A, h => by
    rw [dt_succ, dt_succ]
    refine sm_adj (k := k) ?_ ?_ h (fun i hi h1 h2 => ?_)
    · show sgn k * swp k (k + 1) A k 0 * _ = - (- sgn k * A (k + 1) 0 * _)
      rw [mnr_swp_k, show swp k (k + 1) A k = A (k + 1) by unfold swp; rw [if_pos rfl], Int.neg_mul, Int.neg_mul, Int.neg_neg]
    · show - sgn k * swp k (k + 1) A (k + 1) 0 * _ = - (sgn k * A k 0 * _)
      rw [mnr_swp_k1, show swp k (k + 1) A (k + 1) = A k by unfold swp; rw [if_neg (by omega), if_pos rfl], Int.neg_mul, Int.neg_mul]
    · show sgn i * swp k (k + 1) A i 0 * _ = - (sgn i * A i 0 * _)
      rw [mnr_swp h1 h2, show swp k (k + 1) A i = A i by unfold swp; rw [if_neg h1, if_neg h2]]
      have e : dt n (if i < k then swp (k - 1) k (mnr i A) else swp k (k + 1) (mnr i A)) = - dt n (mnr i A) := by
        by_cases q : i < k
        · rw [if_pos q]
          have := dt_adj (n := n) (k := k - 1) (mnr i A) (by omega)
          rw [show k - 1 + 1 = k by omega] at this
          exact this
        · rw [if_neg q]
          exact dt_adj (n := n) (k := k) (mnr i A) (by omega)
      rw [e, Int.mul_neg]
theorem swp_conj {a b : Nat} (h : a < b) (A : Nat → Nat → Int) : swp a (b + 1) A = swp b (b + 1) (swp a b (swp b (b + 1) A)) := by
  funext i
  unfold swp
  by_cases e1 : i = a
  · subst e1
    have a1 : ¬ (i = b) := by omega
    have a2 : ¬ (i = b + 1) := by omega
    have a3 : ¬ (b = i) := by omega
    simp only [a1, a2, if_true, if_false]
  · by_cases e2 : i = b
    · subst e2
      have a1 : ¬ (i + 1 = a) := by omega
      have a2 : ¬ (i = i + 1) := by omega
      have a3 : ¬ (i + 1 = i) := by omega
      simp only [e1, a1, a2, a3, if_true, if_false]
    · by_cases e3 : i = b + 1
      · subst e3
        have a1 : ¬ (b + 1 = b) := by omega
        have a2 : ¬ (b = a) := by omega
        have a3 : ¬ (a = b) := by omega
        have a4 : ¬ (a = b + 1) := by omega
        simp only [e1, a1, a2, a3, a4, if_true, if_false]
      · simp only [e1, e2, e3, if_false]
theorem dt_swap : ∀ (d : Nat) {n a b : Nat} (A : Nat → Nat → Int), b = a + 1 + d → b < n → dt n (swp a b A) = - dt n A
  | 0, n, a, b, A, e, h => by subst e; exact dt_adj A h
  | d + 1, n, a, b, A, e, h => by
    have e2 : b = (a + 1 + d) + 1 := by omega
    subst e2
    rw [swp_conj (by omega), dt_adj _ h, dt_swap d _ rfl (by omega), dt_adj _ h]
    omega
theorem dt_same {n a b : Nat} {A : Nat → Nat → Int} (hab : a < b) (hb : b < n) (h : A a = A b) : dt n A = 0 := by
  have e : swp a b A = A := by
    funext i
    unfold swp
    by_cases e1 : i = a
    · rw [if_pos e1, e1, h]
    · rw [if_neg e1]
      by_cases e2 : i = b
      · rw [if_pos e2, e2, h]
      · rw [if_neg e2]
  have := dt_swap (b - a - 1) A (show b = a + 1 + (b - a - 1) by omega) hb
  rw [e] at this
  omega
def rep (s : Nat) (u : Nat → Int) (A : Nat → Nat → Int) : Nat → Nat → Int := fun i => if i = s then u else A i
theorem mnr_rep_self (s : Nat) (u : Nat → Int) (A : Nat → Nat → Int) : mnr s (rep s u A) = mnr s A := by
  funext a b
  unfold mnr rep
  rw [if_neg (by split <;> omega)]
theorem mnr_rep_ne {i s : Nat} (h : i ≠ s) (u : Nat → Int) (A : Nat → Nat → Int) : mnr i (rep s u A) = rep (if s < i then s else s - 1) (fun j => u (j + 1)) (mnr i A) := by
  funext a b
  unfold mnr rep
  by_cases e : (if a < i then a else a + 1) = s
  · have e2 : a = (if s < i then s else s - 1) := by
      revert e
      split <;> split <;> omega
    rw [if_pos e, if_pos e2]
  · have e2 : ¬ a = (if s < i then s else s - 1) := by
      revert e
      split <;> split <;> omega
    rw [if_neg e, if_neg e2]
theorem dt_lin : ∀ {n s : Nat} (u v : Nat → Int) (t : Int) (A : Nat → Nat → Int), s < n → dt n (rep s (fun j => u j + t * v j) A) = dt n (rep s u A) + t * dt n (rep s v A)
  | 0, _, _, _, _, _, h => absurd h (by omega)
  | n + 1, s, u, v, t, A, h => by
    rw [dt_succ, dt_succ, dt_succ, ← sm_mul, ← sm_add]
    refine sm_congr (fun i hi => ?_)
    by_cases e : i = s
    · subst e
      rw [mnr_rep_self, mnr_rep_self, mnr_rep_self, show rep i (fun j => u j + t * v j) A i = fun j => u j + t * v j by unfold rep; rw [if_pos rfl], show rep i u A i = u by unfold rep; rw [if_pos rfl], show rep i v A i = v by unfold rep; rw [if_pos rfl]]
      show sgn i * (u 0 + t * v 0) * dt n (mnr i A) = sgn i * u 0 * dt n (mnr i A) + t * (sgn i * v 0 * dt n (mnr i A))
      rw [Int.mul_add, Int.add_mul, Int.mul_left_comm (sgn i) t, Int.mul_assoc t]
    · rw [mnr_rep_ne e, mnr_rep_ne e, mnr_rep_ne e, dt_lin (fun j => u (j + 1)) (fun j => v (j + 1)) t (mnr i A) (by split <;> omega)]
      rw [show rep s (fun j => u j + t * v j) A i = A i by unfold rep; rw [if_neg e], show rep s u A i = A i by unfold rep; rw [if_neg e], show rep s v A i = A i by unfold rep; rw [if_neg e]]
      rw [Int.mul_add, Int.mul_left_comm (sgn i * A i 0) t]
theorem dt_addrow {n s r : Nat} (t : Int) (A : Nat → Nat → Int) (hs : s < n) (hr : r < n) (hne : s ≠ r) : dt n (rep s (fun j => A s j + t * A r j) A) = dt n A := by
  rw [dt_lin (A s) (A r) t A hs]
  have e1 : rep s (A s) A = A := by
    funext i
    unfold rep
    by_cases e : i = s
    · rw [if_pos e, e]
    · rw [if_neg e]
  have e2 : dt n (rep s (A r) A) = 0 := by
    have es : rep s (A r) A s = A r := by unfold rep; rw [if_pos rfl]
    have er : rep s (A r) A r = A r := by unfold rep; rw [if_neg (Ne.symm hne)]
    rcases Nat.lt_or_gt_of_ne hne with q | q
    · exact dt_same q hr (by rw [es, er])
    · exact dt_same q hs (by rw [es, er])
  rw [e1, e2, Int.mul_zero, Int.add_zero]
theorem dt_col0 {n : Nat} {A : Nat → Nat → Int} (h : ∀ i, i < n + 1 → A i 0 = 0) : dt (n + 1) A = 0 := by
  rw [dt_succ]
  exact sm_zero (fun i hi => by rw [h i hi, Int.mul_zero, Int.zero_mul])
theorem dt_col1 {n : Nat} {A : Nat → Nat → Int} (h : ∀ i, 0 < i → i < n + 1 → A i 0 = 0) : dt (n + 1) A = A 0 0 * dt n (fun a b => A (a + 1) (b + 1)) := by
  rw [dt_succ, sm_first, sm_zero (n := n) (fun i hi => by rw [h (i + 1) (by omega) (by omega), Int.mul_zero, Int.zero_mul]), Int.add_zero]
  show 1 * A 0 0 * dt n (mnr 0 A) = _
  rw [Int.one_mul]
  rfl
end
section
/-! ===== rows of a grid by a prime ===== -/
def wC (M : fM) (C : Nat → Nat → Int) : fM := fun k => if k = 10 then C else M k
theorem wC_10 (M : fM) (C : Nat → Nat → Int) : wC M C 10 = C := by unfold wC; rw [if_pos rfl]
theorem wC_ne {M : fM} {C : Nat → Nat → Int} {k : Nat} (h : k ≠ 10) : wC M C k = M k := by unfold wC; rw [if_neg h]
theorem wC_wC (M : fM) (C D : Nat → Nat → Int) : wC (wC M C) D = wC M D := by
  funext k
  unfold wC
  by_cases e : k = 10
  · rw [if_pos e, if_pos e]
  · rw [if_neg e, if_neg e, if_neg e]
theorem wC_self (M : fM) : wC M (M 10) = M := by
  funext k
  unfold wC
  by_cases e : k = 10
  · rw [if_pos e, e]
  · rw [if_neg e]
theorem wC_up (M : fM) (C : Nat → Nat → Int) (i j : Nat) (v : Int) : fup (wC M C) 10 i j v = wC M (fun a b => if a = i ∧ b = j then v else C a b) := by
  funext k a b
  unfold fup wC
  by_cases e : k = 10
  · subst e
    by_cases e2 : a = i ∧ b = j
    · rw [if_pos ⟨rfl, e2⟩, if_pos rfl]; rw [if_pos e2]
    · rw [if_neg (fun h => e2 h.2), if_pos rfl, if_pos rfl]; rw [if_neg e2]
  · rw [if_neg (fun h => e h.1), if_neg e, if_neg e]
def rTk (p : Int) (C : Nat → Nat → Int) (row other : Nat) (t : Int) (a b : Nat) : Nat → Nat → Int := fun i j => if i = row ∧ a ≤ j ∧ j < b then (C row j + (p - t) * C other j) % p else C i j
theorem rTk_rng {p : Int} {C : Nat → Nat → Int} {row other : Nat} {t : Int} {a b R K : Nat} (hp : 0 < p) (h : ∀ i j, i < R → j < K → 0 ≤ C i j ∧ C i j < p) : ∀ i j, i < R → j < K → 0 ≤ rTk p C row other t a b i j ∧ rTk p C row other t a b i j < p := by
  intro i j hi hj
  unfold rTk
  split
  · exact modb hp
  · exact h i j hi hj
theorem rTk_ne {p : Int} {C : Nat → Nat → Int} {row other : Nat} {t : Int} {a b i j : Nat} (h : ¬ (i = row ∧ a ≤ j ∧ j < b)) : rTk p C row other t a b i j = C i j := by unfold rTk; rw [if_neg h]
theorem rTk_at {p : Int} {C : Nat → Nat → Int} {row other : Nat} {t : Int} {a b j : Nat} (h1 : a ≤ j) (h2 : j < b) : rTk p C row other t a b row j = (C row j + (p - t) * C other j) % p := by unfold rTk; rw [if_pos ⟨rfl, h1, h2⟩]
theorem emm (a b p : Int) : (a % p * b) % p = (a * b) % p := by rw [Int.mul_emod, Int.emod_emod, ← Int.mul_emod]
theorem mem' (a b p : Int) : (a * (b % p)) % p = (a * b) % p := by rw [Int.mul_emod, Int.emod_emod, ← Int.mul_emod]
abbrev sbm (c : Nat) (C : Nat → Nat → Int) : Nat → Nat → Int := fun a b => C (c + a) (c + b)
theorem rTk_dt {p : Int} {C : Nat → Nat → Int} {s r : Nat} {t : Int} {a n c : Nat} (ha : a ≤ c) (h1 : c ≤ s) (h2 : s < n) (h3 : c ≤ r) (h4 : r < n) (h5 : s ≠ r) : dt (n - c) (sbm c (rTk p C s r t a n)) % p = dt (n - c) (sbm c C) % p := by
  rw [← dt_addrow (n := n - c) (s := s - c) (r := r - c) (p - t) (sbm c C) (by omega) (by omega) (by omega)]
  refine dt_mod (fun i j hi hj => ?_)
  show rTk p C s r t a n (c + i) (c + j) % p = rep (s - c) (fun j => C (c + (s - c)) (c + j) + (p - t) * C (c + (r - c)) (c + j)) (sbm c C) i j % p
  unfold rep
  by_cases e : i = s - c
  · have e1 : c + i = s := by omega
    have e2 : c + (s - c) = s := by omega
    have e3 : c + (r - c) = r := by omega
    rw [if_pos e, e1, e2, e3, rTk_at (by omega) (by omega), Int.emod_emod]
  · rw [if_neg e, rTk_ne (by omega)]
/-- the determinant so far -/
def dI (p : Int) (n : Nat) (A : Nat → Nat → Int) (c : Nat) (prod : Int) (C : Nat → Nat → Int) : Prop := (∀ i j, i < n → j < n → 0 ≤ C i j ∧ C i j < p) ∧ (prod * dt (n - c) (sbm c C)) % p = dt n A % p
theorem dI_0 {p : Int} {n : Nat} {A : Nat → Nat → Int} (h : ∀ i j, i < n → j < n → 0 ≤ A i j ∧ A i j < p) : dI p n A 0 1 A := by
  refine ⟨h, ?_⟩
  rw [Int.one_mul, Nat.sub_zero]
  congr 1
  exact dt_congr (fun i j _ _ => by show A (0 + i) (0 + j) = A i j; rw [Nat.zero_add, Nat.zero_add])
theorem dI_tk {p : Int} {n : Nat} {A : Nat → Nat → Int} {c : Nat} {prod : Int} {C : Nat → Nat → Int} {s r : Nat} {t : Int} {a : Nat} (hp : 0 < p) (h : dI p n A c prod C) (ha : a ≤ c) (h1 : c ≤ s) (h2 : s < n) (h3 : c ≤ r) (h4 : r < n) (h5 : s ≠ r) : dI p n A c prod (rTk p C s r t a n) := by
  refine ⟨rTk_rng hp h.1, ?_⟩
  rw [Int.mul_emod, rTk_dt ha h1 h2 h3 h4 h5, ← Int.mul_emod]
  exact h.2
theorem dI_none {p : Int} {n : Nat} {A : Nat → Nat → Int} {c : Nat} {prod : Int} {C : Nat → Nat → Int} (hc : c < n) (h : dI p n A c prod C) (h0 : ∀ r, c ≤ r → r < n → C r c = 0) : dt n A % p = 0 := by
  rw [← h.2, show n - c = (n - c - 1) + 1 by omega, dt_col0 (fun i hi => h0 (c + i) (by omega) (by omega)), Int.mul_zero, Int.zero_emod]
theorem dI_next {p : Int} {n : Nat} {A : Nat → Nat → Int} {c : Nat} {prod : Int} {C : Nat → Nat → Int} (hc : c < n) (h : dI p n A c prod C) (h0 : ∀ r, c < r → r < n → C r c = 0) : dI p n A (c + 1) ((prod * C c c) % p) C := by
  refine ⟨h.1, ?_⟩
  rw [← h.2, show n - c = (n - (c + 1)) + 1 by omega, dt_col1 (A := sbm c C) (fun i h1 h2 => h0 (c + i) (by omega) (by omega)), ← Int.mul_assoc, emm]
  have e : dt (n - (c + 1)) (sbm (c + 1) C) = dt (n - (c + 1)) (fun a b => sbm c C (a + 1) (b + 1)) := dt_congr (fun i j _ _ => by show C (c + 1 + i) (c + 1 + j) = C (c + (i + 1)) (c + (j + 1)); rw [show c + 1 + i = c + (i + 1) by omega, show c + 1 + j = c + (j + 1) by omega])
  rw [e]
  rfl
theorem dI_end {p : Int} {n : Nat} {A : Nat → Nat → Int} {prod : Int} {C : Nat → Nat → Int} (h : dI p n A n prod C) (h1 : 0 ≤ prod) (h2 : prod < p) : prod = dt n A % p := by
  have := h.2
  rw [Nat.sub_self] at this
  rw [← this]
  show prod = (prod * 1) % p
  rw [Int.mul_one, Int.emod_eq_of_lt h1 h2]
/-- what is taken away makes 0 -/
theorem clr0 {p x s v : Int} (hs : (v * s) % p = 1) (hp : 1 < p) : (x + (p - (x * s) % p) * v) % p = 0 := by
  have h1 : (p - (x * s) % p) * v = p * v - ((x * s) % p) * v := Int.sub_mul _ _ _
  have h2 : (((x * s) % p) * v) % p = x % p := by
    rw [emm, Int.mul_assoc, Int.mul_comm s v, Int.mul_emod, hs, Int.mul_one, Int.emod_emod]
  rw [h1, ← Int.add_sub_assoc, Int.sub_emod, h2, Int.add_mul_emod_self_left, Int.sub_self, Int.zero_emod]
theorem clr1 {p x v : Int} (hv : v % p = 1) : (x + (p - x) * v) % p = 0 := by
  have h1 : (p - x) * v = p * v - x * v := Int.sub_mul _ _ _
  have h2 : (x * v) % p = x % p := by rw [Int.mul_emod, hv, Int.mul_one, Int.emod_emod]
  rw [h1, ← Int.add_sub_assoc, Int.sub_emod, h2, Int.add_mul_emod_self_left, Int.sub_self, Int.zero_emod]
end
section
/-! ===== equations by a prime, and how they are worked out from the last unknown on ===== -/
def lf (β : Int) (u : Nat) (x v : Nat → Int) : Int := sm u (fun c => v c * x c) - β * v u
theorem lf_lin (β : Int) (u : Nat) (x v w : Nat → Int) (t : Int) : lf β u x (fun j => v j + t * w j) = lf β u x v + t * lf β u x w := by
  unfold lf
  rw [show (fun c => (v c + t * w c) * x c) = (fun c => v c * x c + t * (w c * x c)) by funext c; rw [Int.add_mul, Int.mul_assoc], sm_add (fun c => v c * x c) (fun c => t * (w c * x c)), sm_mul, Int.mul_add, Int.mul_sub, Int.mul_left_comm β t]
  omega
theorem lf_mod {p β : Int} {u : Nat} {x v w : Nat → Int} (h : ∀ j, j ≤ u → v j % p = w j % p) : lf β u x v % p = lf β u x w % p := by
  unfold lf
  have h1 : sm u (fun c => v c * x c) % p = sm u (fun c => w c * x c) % p := sm_mod (fun c hc => by rw [Int.mul_emod, h c (by omega), ← Int.mul_emod])
  have h2 : (β * v u) % p = (β * w u) % p := by rw [Int.mul_emod, h u (Nat.le_refl u), ← Int.mul_emod]
  rw [Int.sub_emod, h1, h2, ← Int.sub_emod]
/-- every equation holds: with the right sides (β 1), or with 0 there (β 0) -/
def Ev (β p : Int) (R u : Nat) (C : Nat → Nat → Int) (x : Nat → Int) : Prop := ∀ r, r < R → lf β u x (C r) % p = 0
theorem zmod {a b p : Int} (h : a % p = b % p) : a % p = 0 ↔ b % p = 0 := by rw [h]
theorem Ev_tk {β p : Int} {R u : Nat} {C : Nat → Nat → Int} {s q : Nat} {t : Int} (hs : s < R) (hq : q < R) (hne : s ≠ q) (x : Nat → Int) : Ev β p R u (rTk p C s q t 0 (u + 1)) x ↔ Ev β p R u C x := by
  have e : lf β u x (rTk p C s q t 0 (u + 1) s) % p = (lf β u x (C s) + (p - t) * lf β u x (C q)) % p := by
    rw [← lf_lin]
    exact lf_mod (fun j hj => by rw [rTk_at (Nat.zero_le _) (by omega), Int.emod_emod])
  have o : ∀ r, r ≠ s → rTk p C s q t 0 (u + 1) r = C r := fun r hr => by funext j; exact rTk_ne (fun h => hr h.1)
  constructor
  · intro h r hr
    by_cases es : r = s
    · subst es
      have h1 := h r hr
      have h2 := h q hq
      rw [e] at h1
      rw [o q (Ne.symm hne)] at h2
      rw [Int.add_emod, Int.mul_emod, h2, Int.mul_zero, Int.zero_emod, Int.add_zero, Int.emod_emod] at h1
      exact h1
    · have := h r hr
      rw [o r es] at this
      exact this
  · intro h r hr
    by_cases es : r = s
    · subst es
      rw [e, Int.add_emod, Int.mul_emod, h q hq, h r hr, Int.mul_zero, Int.zero_emod, Int.add_zero, Int.zero_emod]
    · rw [o r es]
      exact h r hr
/-- a row many times -/
def rSc (p : Int) (C : Nat → Nat → Int) (s : Nat) (v : Int) (b : Nat) : Nat → Nat → Int := fun i j => if i = s ∧ j < b then (C s j * v) % p else C i j
theorem rSc_at {p : Int} {C : Nat → Nat → Int} {s : Nat} {v : Int} {b j : Nat} (h : j < b) : rSc p C s v b s j = (C s j * v) % p := by unfold rSc; rw [if_pos ⟨rfl, h⟩]
theorem rSc_ne {p : Int} {C : Nat → Nat → Int} {s : Nat} {v : Int} {b i j : Nat} (h : ¬ (i = s ∧ j < b)) : rSc p C s v b i j = C i j := by unfold rSc; rw [if_neg h]
theorem rSc_rng {p : Int} {C : Nat → Nat → Int} {s : Nat} {v : Int} {b R K : Nat} (hp : 0 < p) (h : ∀ i j, i < R → j < K → 0 ≤ C i j ∧ C i j < p) : ∀ i j, i < R → j < K → 0 ≤ rSc p C s v b i j ∧ rSc p C s v b i j < p := by
  intro i j hi hj
  unfold rSc
  split
  · exact modb hp
  · exact h i j hi hj
theorem lf_mul (β : Int) (u : Nat) (x w : Nat → Int) (t : Int) : lf β u x (fun j => t * w j) = t * lf β u x w := by
  have h := lf_lin β u x (fun _ => 0) w t
  have h0 : lf β u x (fun _ => 0) = 0 := by
    unfold lf
    rw [sm_zero (fun i _ => Int.zero_mul _), Int.mul_zero]
    rfl
  rw [h0, Int.zero_add] at h
  rw [← h]
  congr 1
  funext j
  rw [Int.zero_add]
theorem Ev_sc {β p : Int} {R u : Nat} {C : Nat → Nat → Int} {s : Nat} {v w : Int} (hs : s < R) (hv : (w * v) % p = 1) (x : Nat → Int) : Ev β p R u (rSc p C s v (u + 1)) x ↔ Ev β p R u C x := by
  have e : lf β u x (rSc p C s v (u + 1) s) % p = (v * lf β u x (C s)) % p := by
    rw [← lf_mul]
    exact lf_mod (fun j hj => by rw [rSc_at (by omega), Int.emod_emod, Int.mul_comm])
  have o : ∀ r, r ≠ s → rSc p C s v (u + 1) r = C r := fun r hr => by funext j; exact rSc_ne (fun h => hr h.1)
  constructor
  · intro h r hr
    by_cases es : r = s
    · subst es
      have h1 := h r hr
      rw [e] at h1
      have h2 : (w * (v * lf β u x (C r))) % p = 0 := by rw [← mem', h1, Int.mul_zero, Int.zero_emod]
      rw [← Int.mul_assoc, ← emm, hv, Int.one_mul] at h2
      exact h2
    · have := h r hr
      rw [o r es] at this
      exact this
  · intro h r hr
    by_cases es : r = s
    · subst es
      rw [e, ← mem', h r hr, Int.mul_zero, Int.zero_emod]
    · rw [o r es]
      exact h r hr
theorem Ev_swp {β p : Int} {R u : Nat} {C : Nat → Nat → Int} {a b : Nat} (ha : a < R) (hb : b < R) (x : Nat → Int) : Ev β p R u (swp a b C) x ↔ Ev β p R u C x := by
  constructor
  · intro h r hr
    by_cases e1 : r = a
    · subst e1
      have := h b hb
      unfold swp at this
      by_cases e2 : b = r
      · rw [if_pos e2, e2] at this; exact this
      · rw [if_neg e2, if_pos rfl] at this; exact this
    · by_cases e2 : r = b
      · subst e2
        have := h a ha
        unfold swp at this
        rw [if_pos rfl] at this
        exact this
      · have := h r hr
        unfold swp at this
        rw [if_neg e1, if_neg e2] at this
        exact this
  · intro h r hr
    unfold swp
    by_cases e1 : r = a
    · rw [if_pos e1]; exact h b hb
    · rw [if_neg e1]
      by_cases e2 : r = b
      · rw [if_pos e2]; exact h a ha
      · rw [if_neg e2]; exact h r hr
theorem Ev_congr {β p : Int} {R u : Nat} {C D : Nat → Nat → Int} (h : ∀ i j, i < R → j ≤ u → C i j = D i j) (x : Nat → Int) : Ev β p R u C x ↔ Ev β p R u D x := by
  have e : ∀ r, r < R → lf β u x (C r) % p = lf β u x (D r) % p := fun r hr => lf_mod (fun j hj => by rw [h r j hr hj])
  exact ⟨fun k r hr => by rw [← e r hr]; exact k r hr, fun k r hr => by rw [e r hr]; exact k r hr⟩
/-! what is told of them -/
def InP (p : Int) (u : Nat) (x : Nat → Int) : Prop := ∀ c, c < u → 0 ≤ x c ∧ x c < p
def Least (p : Int) (R u : Nat) (C : Nat → Nat → Int) (x : Nat → Int) : Prop := InP p u x ∧ Ev 1 p R u C x ∧ ∀ y, InP p u y → Ev 1 p R u C y → (∀ c, c < u → x c = y c) ∨ ∃ c, c < u ∧ (∀ j, j < c → x j = y j) ∧ x c < y c
theorem Least_one {p : Int} {R u : Nat} {C : Nat → Nat → Int} {x y : Nat → Int} (hx : Least p R u C x) (hy : Least p R u C y) : ∀ c, c < u → x c = y c := by
  rcases hx.2.2 y hy.1 hy.2.1 with h | ⟨c, h1, h2, h3⟩
  · exact h
  · rcases hy.2.2 x hx.1 hx.2.1 with h | ⟨d, k1, k2, k3⟩
    · exact fun c hc => (h c hc).symm
    · exfalso
      rcases Nat.lt_trichotomy c d with q | q | q
      · have := k2 c q; omega
      · subst q; omega
      · have := h2 d q; omega
/-- an unknown that others ahead of it don't tell -/
def Fr (p : Int) (R u : Nat) (C : Nat → Nat → Int) (c : Nat) : Prop := ∃ h, Ev 0 p R u C h ∧ (∀ j, j < c → h j % p = 0) ∧ h c % p ≠ 0
def ctB (f : Nat → Bool) : Nat → Nat → Nat
  | _, 0 => 0
  | c, n + 1 => (if f c then 1 else 0) + ctB f (c + 1) n
theorem ctB_congr {f h : Nat → Bool} : ∀ {n c : Nat}, (∀ i, c ≤ i → i < c + n → f i = h i) → ctB f c n = ctB h c n
  | 0, _, _ => rfl
  | n + 1, c, e => by
    show (if f c then 1 else 0) + ctB f (c + 1) n = (if h c then 1 else 0) + ctB h (c + 1) n
    rw [e c (Nat.le_refl c) (by omega), ctB_congr (fun i h1 h2 => e i (by omega) (by omega))]
def LSpec (p : Int) (R u : Nat) (C : Nat → Nat → Int) (ok : Prop) (rank : Nat) (ans : Nat → Int) : Prop :=
  (∃ tl : Nat → Bool, (∀ c, c < u → (tl c = false ↔ Fr p R u C c)) ∧ rank = ctB tl 0 u) ∧ (ok ↔ ∃ x, Ev 1 p R u C x) ∧ (ok → Least p R u C ans)
theorem LSpec_one {p : Int} {R u : Nat} {C : Nat → Nat → Int} {ok ok' : Prop} {k k' : Nat} {a a' : Nat → Int} (h : LSpec p R u C ok k a) (h' : LSpec p R u C ok' k' a') : (ok ↔ ok') ∧ k = k' ∧ (ok → ∀ c, c < u → a c = a' c) := by
  obtain ⟨⟨t, t1, t2⟩, o1, l1⟩ := h
  obtain ⟨⟨t', t1', t2'⟩, o1', l1'⟩ := h'
  have e : ok ↔ ok' := o1.trans o1'.symm
  refine ⟨e, ?_, fun hk => Least_one (l1 hk) (l1' (e.mp hk))⟩
  rw [t2, t2']
  refine ctB_congr (fun i _ hi => ?_)
  have q := (t1 i (by omega)).trans (t1' i (by omega)).symm
  cases h1 : t i <;> cases h2 : t' i
  · rfl
  · rw [h1, h2] at q; exact absurd (q.mp rfl) (by decide)
  · rw [h1, h2] at q; exact absurd (q.mpr rfl) (by decide)
  · rfl
/-- worked out down to column c: k rows tell an unknown each -/
def El (p : Int) (R u : Nat) (A : Nat → Nat → Int) (c : Nat) (C : Nat → Nat → Int) (k : Nat) (T : Nat → Option Nat) : Prop :=
  (∀ i j, i < R → j < u + 1 → 0 ≤ C i j ∧ C i j < p) ∧ (∀ β x, Ev β p R u C x ↔ Ev β p R u A x) ∧ k ≤ R ∧
  (∀ d, c ≤ d → d < u → ∀ r, T d = some r → r < k ∧ C r d = 1 ∧ (∀ i, i < R → i ≠ r → C i d = 0) ∧ (∀ e, d < e → e < u → C r e = 0)) ∧
  (∀ r, r < k → ∃ d, c ≤ d ∧ d < u ∧ T d = some r) ∧ (∀ r, k ≤ r → r < R → ∀ d, c ≤ d → d < u → C r d = 0) ∧ k = ctB (fun d => (T d).isSome) c (u - c)
theorem El_0 {p : Int} {R u : Nat} {A : Nat → Nat → Int} (h : ∀ i j, i < R → j < u + 1 → 0 ≤ A i j ∧ A i j < p) (T : Nat → Option Nat) : El p R u A u A 0 T := by
  refine ⟨h, fun _ _ => Iff.rfl, Nat.zero_le _, fun d h1 h2 => absurd h2 (by omega), fun r hr => absurd hr (by omega), fun r _ _ d h1 h2 => absurd h2 (by omega), ?_⟩
  rw [Nat.sub_self]
  rfl
theorem El_none {p : Int} {R u : Nat} {A : Nat → Nat → Int} {c : Nat} {C : Nat → Nat → Int} {k : Nat} {T T' : Nat → Option Nat} (hc : c < u) (h : El p R u A (c + 1) C k T) (h0 : ∀ r, k ≤ r → r < R → C r c = 0) (hT : T' c = none) (hT' : ∀ d, c < d → d < u → T' d = T d) : El p R u A c C k T' := by
  obtain ⟨e0, e1, e2, e3, e4, e5, e6⟩ := h
  refine ⟨e0, e1, e2, fun d h1 h2 r hr => ?_, fun r hr => ?_, fun r h1 h2 d h3 h4 => ?_, ?_⟩
  · by_cases q : d = c
    · rw [q, hT] at hr; cases hr
    · rw [hT' d (by omega) h2] at hr
      exact e3 d (by omega) h2 r hr
  · obtain ⟨d, h1, h2, h3⟩ := e4 r hr
    exact ⟨d, by omega, h2, by rw [hT' d (by omega) h2]; exact h3⟩
  · by_cases q : d = c
    · rw [q]; exact h0 r h1 h2
    · exact e5 r h1 h2 d (by omega) h4
  · rw [e6, show u - c = (u - (c + 1)) + 1 by omega]
    show _ = (if (T' c).isSome then 1 else 0) + ctB _ (c + 1) _
    rw [hT]
    show _ = 0 + _
    rw [Nat.zero_add]
    exact ctB_congr (fun i h1 h2 => by show (T i).isSome = (T' i).isSome; rw [hT' i (by omega) (by omega)])
theorem El_some {p : Int} {R u : Nat} {A : Nat → Nat → Int} {c : Nat} {C C' : Nat → Nat → Int} {k : Nat} {T T' : Nat → Option Nat} (hc : c < u) (h : El p R u A (c + 1) C k T) (hk : k < R)
    (r0 : ∀ i j, i < R → j < u + 1 → 0 ≤ C' i j ∧ C' i j < p) (r1 : ∀ β x, Ev β p R u C' x ↔ Ev β p R u C x) (r2 : C' k c = 1) (r3 : ∀ i, i < R → i ≠ k → C' i c = 0) (r4 : ∀ i d, i < R → c < d → d < u → C' i d = C i d)
    (hT : T' c = some k) (hT' : ∀ d, c < d → d < u → T' d = T d) : El p R u A c C' (k + 1) T' := by
  obtain ⟨e0, e1, e2, e3, e4, e5, e6⟩ := h
  refine ⟨r0, fun β x => (r1 β x).trans (e1 β x), by omega, fun d h1 h2 r hr => ?_, fun r hr => ?_, fun r h1 h2 d h3 h4 => ?_, ?_⟩
  · by_cases q : d = c
    · subst q
      rw [hT] at hr
      cases hr
      exact ⟨by omega, r2, r3, fun e h3 h4 => by rw [r4 k e hk h3 h4]; exact e5 k (Nat.le_refl k) hk e (by omega) h4⟩
    · rw [hT' d (by omega) h2] at hr
      obtain ⟨a1, a2, a3, a4⟩ := e3 d (by omega) h2 r hr
      exact ⟨by omega, by rw [r4 r d (by omega) (by omega) h2]; exact a2, fun i hi hne => by rw [r4 i d hi (by omega) h2]; exact a3 i hi hne, fun e h3 h4 => by rw [r4 r e (by omega) (by omega) h4]; exact a4 e h3 h4⟩
  · by_cases q : r = k
    · exact ⟨c, Nat.le_refl c, hc, by rw [q]; exact hT⟩
    · obtain ⟨d, h1, h2, h3⟩ := e4 r (by omega)
      exact ⟨d, by omega, h2, by rw [hT' d (by omega) h2]; exact h3⟩
  · by_cases q : d = c
    · rw [q]; exact r3 r h2 (by omega)
    · rw [r4 r d h2 (by omega) h4]; exact e5 r (by omega) h2 d (by omega) h4
  · rw [e6, show u - c = (u - (c + 1)) + 1 by omega]
    show _ = (if (T' c).isSome then 1 else 0) + ctB _ (c + 1) _
    rw [hT, Nat.add_comm]
    show _ = 1 + _
    congr 1
    exact ctB_congr (fun i h1 h2 => by show (T i).isSome = (T' i).isSome; rw [hT' i (by omega) (by omega)])
theorem sm_one {f : Nat → Int} {a : Nat} : ∀ {n : Nat}, a < n → (∀ i, i < n → i ≠ a → f i = 0) → sm n f = f a
  | 0, h, _ => absurd h (by omega)
  | n + 1, h, e => by
    show sm n f + f n = f a
    by_cases q : a = n
    · subst q
      rw [sm_zero (fun i hi => e i (by omega) (by omega)), Int.zero_add]
    · rw [sm_one (by omega) (fun i hi => e i (by omega)), e n (by omega) (by omega), Int.add_zero]
theorem sm_two {f : Nat → Int} {a b : Nat} {n : Nat} (ha : a < n) (hb : b < n) (hab : a ≠ b) (e : ∀ i, i < n → i ≠ a → i ≠ b → f i = 0) : sm n f = f a + f b := by
  have h1 : sm n f = sm n (fun i => (if i = a then f a else 0) + (if i = b then f b else 0)) := sm_congr (fun i hi => by
    by_cases q1 : i = a
    · subst q1; rw [if_pos rfl, if_neg hab, Int.add_zero]
    · by_cases q2 : i = b
      · subst q2; rw [if_neg q1, if_pos rfl, Int.zero_add]
      · rw [if_neg q1, if_neg q2, e i hi q1 q2]; rfl)
  rw [h1, sm_add (fun i => if i = a then f a else 0) (fun i => if i = b then f b else 0), sm_one (f := fun i => if i = a then f a else 0) ha (fun i _ q => if_neg q), sm_one (f := fun i => if i = b then f b else 0) hb (fun i _ q => if_neg q), if_pos rfl, if_pos rfl]
/-- the least one: what is free is 0 -/
def ansT (C : Nat → Nat → Int) (u : Nat) (T : Nat → Option Nat) (c : Nat) : Int := match T c with
  | some r => C r u
  | none => 0
theorem El_spec {p : Int} {R u : Nat} {A : Nat → Nat → Int} {C : Nat → Nat → Int} {k : Nat} {T : Nat → Option Nat} (hp : 2 ≤ p) (h : El p R u A 0 C k T) : LSpec p R u A (∀ r, k ≤ r → r < R → C r u = 0) k (ansT C u T) := by
  obtain ⟨e0, e1, e2, e3, e4, e5, e6⟩ := h
  have tell : ∀ r, r < k → ∃ c, c < u ∧ T c = some r ∧ C r c = 1 ∧ (∀ d, d < u → c < d → C r d = 0) ∧ (∀ d, d < u → d ≠ c → ∀ r', T d = some r' → C r d = 0) := by
    intro r hr
    obtain ⟨c, -, h2, h3⟩ := e4 r hr
    obtain ⟨-, b2, b3, b4⟩ := e3 c (Nat.zero_le _) h2 r h3
    refine ⟨c, h2, h3, b2, fun d hd hcd => b4 d hcd hd, fun d hd hne r' hr' => ?_⟩
    obtain ⟨-, c2, c3, c4⟩ := e3 d (Nat.zero_le _) hd r' hr'
    by_cases q : r = r'
    · subst q
      rcases Nat.lt_or_gt_of_ne hne with z | z
      · have := c4 c z h2; omega
      · have := b4 d z hd; omega
    · exact c3 r (by omega) q
  have inp : InP p u (ansT C u T) := by
    intro c hc
    unfold ansT
    cases ht : T c with
    | none => show (0 : Int) ≤ 0 ∧ (0 : Int) < p; omega
    | some r => exact e0 r u (by have := (e3 c (Nat.zero_le _) hc r ht).1; omega) (by omega)
  have hans : (∀ r, k ≤ r → r < R → C r u = 0) → Ev 1 p R u C (ansT C u T) := by
    intro hok r hr
    unfold lf
    rw [Int.one_mul]
    by_cases q : r < k
    · obtain ⟨d, g1, g2, g3, g4, g5⟩ := tell r q
      rw [sm_one g1 (fun i hi i1 => by
        unfold ansT
        cases ht : T i with
        | none => exact Int.mul_zero _
        | some r' => rw [g5 i hi i1 r' ht, Int.zero_mul])]
      unfold ansT
      rw [g2, g3]
      show (1 * C r u - C r u) % p = 0
      rw [Int.one_mul, Int.sub_self, Int.zero_emod]
    · rw [sm_zero (fun i hi => by rw [e5 r (by omega) hr i (Nat.zero_le _) hi, Int.zero_mul]), hok r (by omega) hr]
      exact Int.zero_emod p
  refine ⟨⟨fun c => (T c).isSome, fun c hc => ?_, by rw [e6, Nat.sub_zero]⟩, ⟨fun hok => ⟨ansT C u T, (e1 1 _).mp (hans hok)⟩, fun ⟨x, hx⟩ r h1 h2 => ?_⟩, fun hok => ⟨inp, (e1 1 _).mp (hans hok), fun y hy1 hy2 => ?_⟩⟩
  · constructor
    · intro hn
      have hn : (T c).isSome = false := hn
      have hn : T c = none := by cases ht : T c with
        | none => rfl
        | some r => rw [ht] at hn; cases hn
      let hh : Nat → Int := fun d => if d = c then 1 else match T d with
        | some r => - C r c
        | none => 0
      refine ⟨hh, (e1 0 _).mp (fun r hr => ?_), fun j hj => ?_, ?_⟩
      · unfold lf
        rw [Int.zero_mul, Int.sub_zero]
        by_cases q : r < k
        · obtain ⟨d, g1, g2, g3, g4, g5⟩ := tell r q
          have hdc : d ≠ c := fun z => by rw [z, hn] at g2; cases g2
          rw [sm_two g1 hc hdc (fun i hi i1 i2 => by
            show C r i * (if i = c then 1 else match T i with | some r => - C r c | none => 0) = 0
            rw [if_neg i2]
            cases ht : T i with
            | none => exact Int.mul_zero _
            | some r' => rw [g5 i hi i1 r' ht, Int.zero_mul])]
          show (C r d * (if d = c then 1 else match T d with | some r => - C r c | none => 0) + C r c * (if c = c then 1 else match T c with | some r => - C r c | none => 0)) % p = 0
          rw [if_neg hdc, g2, g3, if_pos rfl]
          show (1 * - C r c + C r c * 1) % p = 0
          rw [Int.one_mul, Int.mul_one, Int.add_comm, Int.add_right_neg, Int.zero_emod]
        · rw [sm_zero (fun i hi => by rw [e5 r (by omega) hr i (Nat.zero_le _) hi, Int.zero_mul]), Int.zero_emod]
      · show (if j = c then 1 else match T j with | some r => - C r c | none => 0) % p = 0
        rw [if_neg (by omega)]
        cases ht : T j with
        | none => exact Int.zero_emod p
        | some r =>
          show (- C r c) % p = 0
          rw [(e3 j (Nat.zero_le _) (by omega) r ht).2.2.2 c hj hc]
          exact Int.zero_emod p
      · show (if c = c then 1 else match T c with | some r => - C r c | none => 0) % p ≠ 0
        rw [if_pos rfl, Int.emod_eq_of_lt (by omega) (by omega)]
        decide
    · rintro ⟨hh, g1, g2, g3⟩
      show (T c).isSome = false
      cases ht : T c with
      | none => rfl
      | some r =>
        exfalso
        obtain ⟨b1, b2, b3, b4⟩ := e3 c (Nat.zero_le _) hc r ht
        have := (e1 0 hh).mpr g1 r (by omega)
        unfold lf at this
        rw [Int.zero_mul, Int.sub_zero, sm_mod (h := fun d => if d = c then hh c else 0) (fun d hd => by
          show (C r d * hh d) % p = (if d = c then hh c else 0) % p
          by_cases q : d = c
          · rw [if_pos q, q, b2, Int.one_mul]
          · rw [if_neg q]
            rcases Nat.lt_or_gt_of_ne q with z | z
            · rw [← mem', g2 d z, Int.mul_zero]
            · rw [b4 d z hd, Int.zero_mul]), sm_one hc (fun i _ q => if_neg q), if_pos rfl] at this
        exact g3 this
  · have g := (e1 1 x).mpr hx r h2
    unfold lf at g
    rw [sm_zero (fun i hi => by rw [e5 r h1 h2 i (Nat.zero_le _) hi, Int.zero_mul]), Int.one_mul, Int.zero_sub] at g
    have b := e0 r u h2 (by omega)
    have g2 : p ∣ C r u := Int.dvd_neg.mp (Int.dvd_of_emod_eq_zero g)
    have g3 := Int.emod_eq_zero_of_dvd g2
    rwa [Int.emod_eq_of_lt b.1 b.2] at g3
  · by_cases hall : ∀ c, c < u → ansT C u T c = y c
    · exact Or.inl hall
    · right
      have hex : ∃ c, c < u ∧ ansT C u T c ≠ y c := Classical.byContradiction (fun hno => hall (fun c hc => Classical.byContradiction (fun hne => hno ⟨c, hc, hne⟩)))
      obtain ⟨c, ⟨hc, hne⟩, hmin⟩ := pk_least _ hex
      have hsame : ∀ j, j < c → ansT C u T j = y j := fun j hj => Classical.byContradiction (fun h => hmin j hj ⟨by omega, h⟩)
      refine ⟨c, hc, hsame, ?_⟩
      have hyc := hy1 c hc
      have hac := inp c hc
      cases ht : T c with
      | none =>
        have e : ansT C u T c = 0 := by unfold ansT; rw [ht]
        omega
      | some r =>
        exfalso
        obtain ⟨b1, b2, b3, b4⟩ := e3 c (Nat.zero_le _) hc r ht
        have g1 := (e1 1 y).mpr hy2 r (by omega)
        have g2 := hans hok r (by omega)
        unfold lf at g1 g2
        have g3 := Int.dvd_sub (Int.dvd_of_emod_eq_zero g1) (Int.dvd_of_emod_eq_zero g2)
        have g4 : (sm u (fun c => C r c * y c) - 1 * C r u) - (sm u (fun c => C r c * ansT C u T c) - 1 * C r u) = y c - ansT C u T c := by
          have g5 : sm u (fun d => C r d * y d + (-1) * (C r d * ansT C u T d)) = y c - ansT C u T c := by
            rw [sm_one hc (fun d hd q => by
              show C r d * y d + (-1) * (C r d * ansT C u T d) = 0
              rcases Nat.lt_or_gt_of_ne q with z | z
              · rw [hsame d z]; omega
              · rw [b4 d z hd, Int.zero_mul, Int.zero_mul]; rfl)]
            show C r c * y c + (-1) * (C r c * ansT C u T c) = _
            rw [b2]; omega
          rw [sm_add (fun d => C r d * y d) (fun d => (-1) * (C r d * ansT C u T d)), sm_mul] at g5
          omega
        rw [g4] at g3
        have g6 := Int.emod_eq_emod_iff_emod_sub_eq_zero.mpr (Int.emod_eq_zero_of_dvd g3)
        rw [Int.emod_eq_of_lt hyc.1 hyc.2, Int.emod_eq_of_lt hac.1 hac.2] at g6
        exact hne g6.symm
theorem ctB_le (f : Nat → Bool) : ∀ (n c : Nat), ctB f c n ≤ n
  | 0, _ => Nat.le_refl 0
  | n + 1, c => by
    show (if f c then 1 else 0) + ctB f (c + 1) n ≤ n + 1
    have := ctB_le f n (c + 1)
    split <;> omega
theorem LSpec_ok {p : Int} {R u : Nat} {C : Nat → Nat → Int} {ok ok' : Prop} {k : Nat} {a : Nat → Int} (e : ok ↔ ok') (h : LSpec p R u C ok k a) : LSpec p R u C ok' k a := ⟨h.1, e.symm.trans h.2.1, fun q => h.2.2 (e.mpr q)⟩
theorem LSpec_ans {p : Int} {R u : Nat} {C : Nat → Nat → Int} {ok : Prop} {k : Nat} {a a' : Nat → Int} (e : ∀ c, c < u → a c = a' c) (h : LSpec p R u C ok k a) : LSpec p R u C ok k a' := by
  refine ⟨h.1, h.2.1, fun q => ?_⟩
  obtain ⟨h1, h2, h3⟩ := h.2.2 q
  have ev : Ev 1 p R u C a' := fun r hr => by
    have := h2 r hr
    unfold lf at this ⊢
    rw [← sm_congr (f := fun c => C r c * a c) (fun c hc => by rw [e c hc])]
    exact this
  refine ⟨fun c hc => by rw [← e c hc]; exact h1 c hc, ev, fun y y1 y2 => ?_⟩
  rcases h3 y y1 y2 with z | ⟨c, z1, z2, z3⟩
  · exact Or.inl (fun c hc => by rw [← e c hc]; exact z c hc)
  · exact Or.inr ⟨c, z1, fun j hj => by rw [← e j (by omega)]; exact z2 j hj, by rw [← e c z1]; exact z3⟩
theorem LSpec_le {p : Int} {R u : Nat} {C : Nat → Nat → Int} {ok : Prop} {k : Nat} {a : Nat → Int} (h : LSpec p R u C ok k a) : k ≤ u := by
  obtain ⟨t, -, e⟩ := h.1
  rw [e]; exact ctB_le t u 0
theorem LSpec_congr {p : Int} {R u : Nat} {C D : Nat → Nat → Int} {ok : Prop} {k : Nat} {a : Nat → Int} (e : ∀ i j, i < R → j ≤ u → C i j = D i j) (h : LSpec p R u C ok k a) : LSpec p R u D ok k a := by
  obtain ⟨⟨t, t1, t2⟩, o1, l1⟩ := h
  refine ⟨⟨t, fun c hc => (t1 c hc).trans ?_, t2⟩, o1.trans ⟨fun ⟨x, hx⟩ => ⟨x, (Ev_congr e x).mp hx⟩, fun ⟨x, hx⟩ => ⟨x, (Ev_congr e x).mpr hx⟩⟩, fun q => ?_⟩
  · exact ⟨fun ⟨h, h1, h2⟩ => ⟨h, (Ev_congr e h).mp h1, h2⟩, fun ⟨h, h1, h2⟩ => ⟨h, (Ev_congr e h).mpr h1, h2⟩⟩
  · obtain ⟨h1, h2, h3⟩ := l1 q
    exact ⟨h1, (Ev_congr e a).mp h2, fun y y1 y2 => h3 y y1 ((Ev_congr e y).mpr y2)⟩
/-- a row's equations worked out: one column cleared but for row k -/
def clP (p : Int) (R u : Nat) (C : Nat → Nat → Int) (k c : Nat) (D : Nat → Nat → Int) : Prop :=
  (∀ i j, i < R → j < u + 1 → 0 ≤ D i j ∧ D i j < p) ∧ (∀ β x, Ev β p R u D x ↔ Ev β p R u C x) ∧ D k c = 1 ∧ (∀ i d, i < R → d < u + 1 → C k d = 0 → D i d = C i d)
theorem clP_sc {p : Int} {R u : Nat} {C : Nat → Nat → Int} {k c : Nat} {sc : Int} (hp : 2 ≤ p) (hk : k < R) (hc : c < u + 1) (hr : ∀ i j, i < R → j < u + 1 → 0 ≤ C i j ∧ C i j < p) (hs : (C k c * sc) % p = 1) : clP p R u C k c (rSc p C k sc (u + 1)) := by
  refine ⟨rSc_rng (by omega) hr, fun β x => Ev_sc hk hs x, by rw [rSc_at hc]; exact hs, fun i d hi hd h0 => ?_⟩
  by_cases e : i = k
  · rw [e, rSc_at hd, h0, Int.zero_mul, Int.zero_emod]
  · exact rSc_ne (fun h => e h.1)
theorem clP_tk {p : Int} {R u : Nat} {C D : Nat → Nat → Int} {k c r : Nat} (hp : 2 ≤ p) (hk : k < R) (hr : r < R) (hne : r ≠ k) (h : clP p R u C k c D) : clP p R u C k c (rTk p D r k (D r c) 0 (u + 1)) := by
  obtain ⟨h1, h2, h3, h4⟩ := h
  refine ⟨rTk_rng (by omega) h1, fun β x => (Ev_tk hr hk hne x).trans (h2 β x), by rw [rTk_ne (by omega)]; exact h3, fun i d hi hd h0 => ?_⟩
  by_cases e : i = r
  · subst e
    have z : D k d = 0 := by rw [h4 k d hk hd h0]; exact h0
    rw [rTk_at (Nat.zero_le _) hd, z, Int.mul_zero, Int.add_zero, Int.emod_eq_of_lt (h1 i d hi hd).1 (h1 i d hi hd).2]
    exact h4 i d hi hd h0
  · rw [rTk_ne (fun q => e q.1)]; exact h4 i d hi hd h0
theorem clP_0 {p : Int} {R u : Nat} {C D : Nat → Nat → Int} {k c r : Nat} (hp : 2 ≤ p) (hc : c < u + 1) (h : clP p R u C k c D) : rTk p D r k (D r c) 0 (u + 1) r c = 0 := by
  rw [rTk_at (Nat.zero_le _) hc]
  exact clr1 (by rw [h.2.2.1, Int.emod_eq_of_lt (by omega) (by omega)])
theorem rSc_0 (p : Int) (C : Nat → Nat → Int) (s : Nat) (v : Int) : rSc p C s v 0 = C := by
  funext i j
  exact rSc_ne (by omega)
theorem rSc_s (p : Int) (C : Nat → Nat → Int) (s : Nat) (v : Int) (b : Nat) : (fun i j => if i = s ∧ j = b then (C s b * v) % p else rSc p C s v b i j) = rSc p C s v (b + 1) := by
  funext i j
  unfold rSc
  by_cases e : i = s ∧ j = b
  · rw [if_pos e, if_pos ⟨e.1, by omega⟩, e.2]
  · rw [if_neg e]
    by_cases e2 : i = s ∧ j < b
    · rw [if_pos e2, if_pos ⟨e2.1, by omega⟩]
    · rw [if_neg e2, if_neg (by omega)]
end
section
/-! ===== Grid ===== -/
def gTk (p : Int) (M : fM) (row other : Nat) (t : Int) (a b : Nat) : fM := fun k i j => if k = 10 ∧ i = row ∧ a ≤ j ∧ j < b then (M 10 row j + (p - t) * M 10 other j) % p else M k i j
theorem gTk_0 (p : Int) (M : fM) (row other : Nat) (t : Int) (a : Nat) : gTk p M row other t a a = M := by
  funext k i j
  unfold gTk
  rw [if_neg (by omega)]
theorem gTk_off {p : Int} {M : fM} {row other : Nat} {t : Int} {a b k i j : Nat} (h : ¬ (k = 10 ∧ i = row ∧ a ≤ j ∧ j < b)) : gTk p M row other t a b k i j = M k i j := by
  unfold gTk
  rw [if_neg h]
theorem gTk_s {p : Int} {M : fM} {row other : Nat} {t : Int} {a c : Nat} (h : a ≤ c) : fup (gTk p M row other t a c) 10 row c ((M 10 row c + (p - t) * M 10 other c) % p) = gTk p M row other t a (c + 1) := by
  funext k i j
  unfold fup gTk
  by_cases e : k = 10 ∧ i = row ∧ j = c
  · obtain ⟨rfl, rfl, rfl⟩ := e
    rw [if_pos ⟨rfl, rfl, rfl⟩, if_pos ⟨rfl, rfl, h, by omega⟩]
  · rw [if_neg e]
    by_cases e2 : k = 10 ∧ i = row ∧ a ≤ j ∧ j < c
    · rw [if_pos e2, if_pos ⟨e2.1, e2.2.1, e2.2.2.1, by omega⟩]
    · rw [if_neg e2, if_neg (by omega)]
set_option maxHeartbeats 4000000 in
set_option maxRecDepth 100000 in
theorem takeAway_l {g : fG} {M : fM} {p t : Int} {row other a b : Nat} (hp : M 8 0 3 = p) (hp2 : 2 ≤ p ∧ p ≤ 97) (hrow : row < 11) (hoth : other < 11) (ht : 0 ≤ t ∧ t < p) (hb : b ≤ 12) (hr : ∀ j, a ≤ j → j < b → 0 ≤ M 10 row j ∧ M 10 row j < p) (ho : ∀ j, a ≤ j → j < b → 0 ≤ M 10 other j ∧ M 10 other j < p) :
    ∀ (n c : Nat), a ≤ c → c ≤ b → c + n = b → fAt g Y_X1_takeAway 33 [some (vr 8 0), some (vi (row : Int)), some (vi (other : Int)), some (vi t), some (vi (a : Int)), some (vi (b : Int)), some (vr 10 row), some (vr 10 other), some (vi (p - t)), some (vi (c : Int))] [] (gTk p M row other t a c) (fN (fun M' => M' = gTk p M row other t a b)) := by
  intro n
  induction n with
  | zero =>
    intro c ha hc hn
    have e : c = b := by omega
    subst e
    refine st_iload dX1_takeAway_33 rfl ?_
    refine st_iload dX1_takeAway_35 rfl ?_
    refine st_icmp_ge 70 dX1_takeAway_37 (by decide) (fun h37 => ?_) (fun h37 => ?_)
    · skip
      refine st_return dX1_takeAway_70 rfl ⟨rfl, rfl⟩
    · skip
      exact absurd h37 (by omega)
  | succ n ih =>
    intro c ha hc hn
    refine st_iload dX1_takeAway_33 rfl ?_
    refine st_iload dX1_takeAway_35 rfl ?_
    refine st_icmp_ge 70 dX1_takeAway_37 (by decide) (fun h37 => ?_) (fun h37 => ?_)
    · skip
      exact absurd h37 (by omega)
    · skip
      refine st_aload dX1_takeAway_40 rfl ?_
      refine st_iload dX1_takeAway_42 rfl ?_
      refine st_aload dX1_takeAway_44 rfl ?_
      refine st_iload dX1_takeAway_46 rfl ?_
      refine st_iald (j := c) dX1_takeAway_48 rfl rfl rfl rfl (by omega) ?_
      refine fAt_v (x' := M 10 row c) (gTk_off (by omega)) ?_
      refine st_iload dX1_takeAway_49 rfl ?_
      refine st_aload dX1_takeAway_51 rfl ?_
      refine st_iload dX1_takeAway_53 rfl ?_
      refine st_iald (j := c) dX1_takeAway_55 rfl rfl rfl rfl (by omega) ?_
      refine fAt_v (x' := M 10 other c) (gTk_off (by omega)) ?_
      have hm := mulb (x := p - t) (y := M 10 other c) (a := 97) (b := 97) (by omega) (ho c (by omega) (by omega)).1 (by omega) (by have := (ho c (by omega) (by omega)).2; omega)
      have hr1 := hr c (by omega) (by omega)
      refine st_imul dX1_takeAway_56 (by omega) ?_
      refine st_iadd dX1_takeAway_57 (by omega) ?_
      refine st_aload_n dX1_takeAway_58 rfl ?_
      refine st_get dX1_takeAway_59 fl_X1_23 rfl rfl rfl ?_
      refine fAt_v (x' := p) (by rw [gTk_off (by omega)]; exact hp) ?_
      refine st_irem dX1_takeAway_62 (by omega) (by omega) ?_
      refine st_iast (j := c) dX1_takeAway_63 rfl rfl rfl rfl (by omega) ?_
      refine fAt_m (gTk_s ha) ?_
      refine st_iinc (ls' := [some (vr 8 0), some (vi (row : Int)), some (vi (other : Int)), some (vi t), some (vi (a : Int)), some (vi (b : Int)), some (vr 10 row), some (vr 10 other), some (vi (p - t)), some (vi ((c : Int) + 1))]) dX1_takeAway_64 rfl (by omega) (by decide) rfl rfl ?_
      refine st_goto 33 dX1_takeAway_67 (by decide) ?_
      exact ih (c + 1) (by omega) (by omega) (by omega)
set_option maxHeartbeats 4000000 in
set_option maxRecDepth 100000 in
theorem c_takeAway {g : fG} {M : fM} {p t : Int} {row other a b : Nat} (hp : M 8 0 3 = p) (hp2 : 2 ≤ p ∧ p ≤ 97) (hrow : row < 11) (hoth : other < 11) (ht : 0 ≤ t ∧ t < p) (hab : a ≤ b) (hb : b ≤ 12) (hr : ∀ j, a ≤ j → j < b → 0 ≤ M 10 row j ∧ M 10 row j < p) (ho : ∀ j, a ≤ j → j < b → 0 ≤ M 10 other j ∧ M 10 other j < p) :
    fCv g Y_X1_takeAway [vr 8 0, vi row, vi other, vi t, vi a, vi b] M (fun M' => M' = gTk p M row other t a b) := by
  refine fCv_of _ [some (vr 8 0), some (vi (row : Int)), some (vi (other : Int)), some (vi t), some (vi (a : Int)), some (vi (b : Int)), none, none, none, none] (by decide) (Nat.le_of_ble_eq_true rfl) rfl (fun h => h) ?_
  refine st_iload_n dX1_takeAway_0 rfl ?_
  refine st_if_ne 5 dX1_takeAway_1 (by decide) (fun h1 => ?_) (fun h1 => ?_)
  · skip
    refine st_aload_n dX1_takeAway_5 rfl ?_
    refine st_getr (i' := 0) dX1_takeAway_6 fl_X1_11 rfl rfl rfl (fun _ => by decide) ?_
    refine st_iload_n dX1_takeAway_9 rfl ?_
    refine st_aald (j := row) (i' := row) dX1_takeAway_10 rfl rfl rfl rfl ⟨_, rfl, rfl⟩ rfl (show row < 11 from by omega) rfl (fun _ => show row < 11 from by omega) ?_
    refine st_astore (ls' := [some (vr 8 0), some (vi (row : Int)), some (vi (other : Int)), some (vi t), some (vi (a : Int)), some (vi (b : Int)), some (vr 10 row), none, none, none]) dX1_takeAway_11 (by decide) rfl rfl ?_
    refine st_aload_n dX1_takeAway_13 rfl ?_
    refine st_getr (i' := 0) dX1_takeAway_14 fl_X1_11 rfl rfl rfl (fun _ => by decide) ?_
    refine st_iload_n dX1_takeAway_17 rfl ?_
    refine st_aald (j := other) (i' := other) dX1_takeAway_18 rfl rfl rfl rfl ⟨_, rfl, rfl⟩ rfl (show other < 11 from by omega) rfl (fun _ => show other < 11 from by omega) ?_
    refine st_astore (ls' := [some (vr 8 0), some (vi (row : Int)), some (vi (other : Int)), some (vi t), some (vi (a : Int)), some (vi (b : Int)), some (vr 10 row), some (vr 10 other), none, none]) dX1_takeAway_19 (by decide) rfl rfl ?_
    refine st_aload_n dX1_takeAway_21 rfl ?_
    refine st_get dX1_takeAway_22 fl_X1_23 rfl rfl rfl ?_
    refine fAt_v (x' := p) hp ?_
    refine st_iload_n dX1_takeAway_25 rfl ?_
    refine st_isub dX1_takeAway_26 (by omega) ?_
    refine st_istore (ls' := [some (vr 8 0), some (vi (row : Int)), some (vi (other : Int)), some (vi t), some (vi (a : Int)), some (vi (b : Int)), some (vr 10 row), some (vr 10 other), some (vi (p - t)), none]) dX1_takeAway_27 (by decide) rfl rfl ?_
    refine st_iload dX1_takeAway_29 rfl ?_
    refine st_istore (ls' := [some (vr 8 0), some (vi (row : Int)), some (vi (other : Int)), some (vi t), some (vi (a : Int)), some (vi (b : Int)), some (vr 10 row), some (vr 10 other), some (vi (p - t)), some (vi (a : Int))]) dX1_takeAway_31 (by decide) rfl rfl ?_
    refine fAt_m (gTk_0 p M row other t a).symm ?_
    exact takeAway_l hp hp2 hrow hoth ht hb hr ho (b - a) a (Nat.le_refl a) hab (by omega)
  · skip
    subst h1
    refine st_return dX1_takeAway_4 rfl ⟨rfl, (by funext k i j; unfold gTk; split; (next e => have := hr j e.2.2.1 e.2.2.2; rw [e.1, e.2.1, Int.sub_zero, Int.add_mul_emod_self_left, Int.emod_eq_of_lt this.1 this.2]); rfl)⟩
theorem gTk_w (p : Int) (M : fM) (C : Nat → Nat → Int) (row other : Nat) (t : Int) (a b : Nat) : gTk p (wC M C) row other t a b = wC M (rTk p C row other t a b) := by
  funext k i j
  unfold gTk wC rTk
  by_cases e : k = 10
  · subst e
    by_cases e2 : i = row ∧ a ≤ j ∧ j < b
    · rw [if_pos ⟨rfl, e2⟩, if_pos rfl, if_pos rfl]; rw [if_pos e2]
    · rw [if_neg (fun h => e2 h.2), if_pos rfl, if_pos rfl]; rw [if_neg e2]
  · rw [if_neg (fun h => e h.1), if_neg e, if_neg e]
/-- the grid's prime and inverses -/
def gOk (p : Int) (M : fM) : Prop := M 8 0 3 = p ∧ (2 ≤ p ∧ p ≤ 97) ∧ ∀ a : Nat, 1 ≤ a → (a : Int) < p → 0 ≤ M 12 0 a ∧ M 12 0 a < p ∧ ((a : Int) * M 12 0 a) % p = 1
theorem gOk_w {p : Int} {M : fM} {C : Nat → Nat → Int} (h : gOk p M) : gOk p (wC M C) := ⟨h.1, h.2.1, fun a h1 h2 => h.2.2 a h1 h2⟩
theorem c_takeAway_w {g : fG} {M : fM} {p t : Int} {C : Nat → Nat → Int} {row other a b : Nat} (hg : gOk p M) (hrow : row < 11) (hoth : other < 11) (ht : 0 ≤ t ∧ t < p) (hab : a ≤ b) (hb : b ≤ 12) (hr : ∀ j, a ≤ j → j < b → 0 ≤ C row j ∧ C row j < p) (ho : ∀ j, a ≤ j → j < b → 0 ≤ C other j ∧ C other j < p) :
    fCv g Y_X1_takeAway [vr 8 0, vi row, vi other, vi t, vi a, vi b] (wC M C) (fun M' => M' = wC M (rTk p C row other t a b)) := by
  rw [← gTk_w]
  exact c_takeAway (M := wC M C) hg.1 hg.2.1 hrow hoth ht hab hb hr ho
theorem lt_sN {a i : Nat} {P : Nat → Prop} (h : ∀ q, a ≤ q → q < i → P q) (hi : P i) : ∀ q, a ≤ q → q < i + 1 → P q := fun q h1 h2 => by
  rcases Nat.lt_or_ge q i with e | e
  · exact h q h1 e
  · have : q = i := by omega
    rw [this]; exact hi
set_option maxHeartbeats 4000000 in
set_option maxRecDepth 100000 in
theorem findPivot_l {g : fG} {M : fM} {p : Int} {C : Nat → Nat → Int} {col row rows cols : Nat} (hg : gOk p M) (hc : col < cols) (hcols : cols ≤ 12) (hrows : rows ≤ 11) (hR : ∀ i j, i < rows → j < cols → 0 ≤ C i j ∧ C i j < p) :
    ∀ (n r : Nat), row ≤ r → r + n = rows → (∀ q, row ≤ q → q < r → C q col = 0) → fAt g Y_X1_findPivot 3 [some (vr 8 0), some (vi (col : Int)), some (vi (row : Int)), some (vi (rows : Int)), some (vi (cols : Int)), some (vi (r : Int))] [] (wC M C) (fI (fun z M' => (z = 0 ∧ M' = wC M C ∧ ∀ r, row ≤ r → r < rows → C r col = 0) ∨ (z = 1 ∧ ∃ r, row ≤ r ∧ r < rows ∧ C r col ≠ 0 ∧ (∀ q, row ≤ q → q < r → C q col = 0) ∧ M' = wC M (if r = row then C else rTk p C row r (p - 1) 0 cols)))) := by
  intro n
  induction n with
  | zero =>
    intro r hr hn h0
    have e : r = rows := by omega
    subst e
    refine st_iload dX1_findPivot_3 rfl ?_
    refine st_iload_n dX1_findPivot_5 rfl ?_
    refine st_icmp_ge 51 dX1_findPivot_6 (by decide) (fun h6 => ?_) (fun h6 => ?_)
    · skip
      refine st_iconst dX1_findPivot_51 (by decide) ?_
      refine st_zreturn dX1_findPivot_52 rfl (by omega) ⟨_, rfl, Or.inl ⟨rfl, rfl, fun q h1 h2 => h0 q h1 h2⟩⟩
    · skip
      exact absurd h6 (by omega)
  | succ n ih =>
    intro r hr hn h0
    have hp2 := hg.2.1
    refine st_iload dX1_findPivot_3 rfl ?_
    refine st_iload_n dX1_findPivot_5 rfl ?_
    refine st_icmp_ge 51 dX1_findPivot_6 (by decide) (fun h6 => ?_) (fun h6 => ?_)
    · skip
      exact absurd h6 (by omega)
    · skip
      refine st_aload_n dX1_findPivot_9 rfl ?_
      refine st_getr (i' := 0) dX1_findPivot_10 fl_X1_11 rfl rfl rfl (fun _ => by decide) ?_
      refine st_iload dX1_findPivot_13 rfl ?_
      refine st_aald (j := r) (i' := r) dX1_findPivot_15 rfl rfl rfl rfl ⟨_, rfl, rfl⟩ rfl (show r < 11 from by omega) rfl (fun _ => show r < 11 from by omega) ?_
      refine st_iload_n dX1_findPivot_16 rfl ?_
      refine st_iald (j := col) dX1_findPivot_17 rfl rfl rfl rfl (by omega) ?_
      refine fAt_v (x' := C r col) rfl ?_
      refine st_if_eq 45 dX1_findPivot_18 (by decide) (fun h18 => ?_) (fun h18 => ?_)
      · skip
        refine st_iinc (ls' := [some (vr 8 0), some (vi (col : Int)), some (vi (row : Int)), some (vi (rows : Int)), some (vi (cols : Int)), some (vi ((r : Int) + 1))]) dX1_findPivot_45 rfl (by omega) (by decide) rfl rfl ?_
        refine st_goto 3 dX1_findPivot_48 (by decide) ?_
        exact ih (r + 1) (by omega) (by omega) (lt_sN h0 h18)
      · skip
        refine st_iload dX1_findPivot_21 rfl ?_
        refine st_iload_n dX1_findPivot_23 rfl ?_
        refine st_icmp_eq 43 dX1_findPivot_24 (by decide) (fun h24 => ?_) (fun h24 => ?_)
        · skip
          have e24 : r = row := by omega
          refine st_iconst dX1_findPivot_43 (by decide) ?_
          refine st_zreturn dX1_findPivot_44 rfl (by omega) ⟨_, rfl, ?_⟩
          first
            | exact Or.inr ⟨rfl, r, by omega, by omega, h18, fun q h1 h2 => h0 q h1 h2, by rw [if_pos e24]⟩
            | exact Or.inr ⟨rfl, r, by omega, by omega, h18, fun q h1 h2 => h0 q h1 h2, by rw [if_neg (by omega)]⟩
        · skip
          refine st_aload_n dX1_findPivot_27 rfl ?_
          refine st_iload_n dX1_findPivot_28 rfl ?_
          refine st_iload dX1_findPivot_29 rfl ?_
          refine st_aload_n dX1_findPivot_31 rfl ?_
          refine st_get dX1_findPivot_32 fl_X1_23 rfl rfl rfl ?_
          refine fAt_v (x' := p) hg.1 ?_
          refine st_iconst dX1_findPivot_35 (by decide) ?_
          refine st_isub dX1_findPivot_36 (by omega) ?_
          refine st_iconst dX1_findPivot_37 (by decide) ?_
          refine st_iload dX1_findPivot_38 rfl ?_
          refine st_callVv [vi (row : Int), vi (r : Int), vi (p - 1), vi 0, vi (cols : Int)] [] dX1_findPivot_40 vl_X1_44 rfl rfl rfl rfl (Nat.le_of_ble_eq_true rfl) (by decide) (c_takeAway_w (a := 0) hg (by omega) (by omega) (by omega) (by omega) hcols (fun j _ hj => hR row j (by omega) hj) (fun j _ hj => hR r j (by omega) hj)) (fun M1 q1 => ?_)
          subst q1
          refine st_iconst dX1_findPivot_43 (by decide) ?_
          refine st_zreturn dX1_findPivot_44 rfl (by omega) ⟨_, rfl, ?_⟩
          first
            | exact Or.inr ⟨rfl, r, by omega, by omega, h18, fun q h1 h2 => h0 q h1 h2, by rw [if_pos e24]⟩
            | exact Or.inr ⟨rfl, r, by omega, by omega, h18, fun q h1 h2 => h0 q h1 h2, by rw [if_neg (by omega)]⟩
set_option maxHeartbeats 4000000 in
set_option maxRecDepth 100000 in
theorem c_findPivot {g : fG} {M : fM} {p : Int} {C : Nat → Nat → Int} {col row rows cols : Nat} (hg : gOk p M) (hc : col < cols) (hcols : cols ≤ 12) (hrows : rows ≤ 11) (hR : ∀ i j, i < rows → j < cols → 0 ≤ C i j ∧ C i j < p) (hrr : row ≤ rows) :
    fCi g Y_X1_findPivot [vr 8 0, vi col, vi row, vi rows, vi cols] (wC M C) (fun z M' => (z = 0 ∧ M' = wC M C ∧ ∀ r, row ≤ r → r < rows → C r col = 0) ∨ (z = 1 ∧ ∃ r, row ≤ r ∧ r < rows ∧ C r col ≠ 0 ∧ (∀ q, row ≤ q → q < r → C q col = 0) ∧ M' = wC M (if r = row then C else rTk p C row r (p - 1) 0 cols))) := by
  refine fCi_of _ [some (vr 8 0), some (vi (col : Int)), some (vi (row : Int)), some (vi (rows : Int)), some (vi (cols : Int)), none] (by decide) (Nat.le_of_ble_eq_true rfl) rfl (fun h => h) ?_
  refine st_iload_n dX1_findPivot_0 rfl ?_
  refine st_istore (ls' := [some (vr 8 0), some (vi (col : Int)), some (vi (row : Int)), some (vi (rows : Int)), some (vi (cols : Int)), some (vi (row : Int))]) dX1_findPivot_1 (by decide) rfl rfl ?_
  exact findPivot_l hg hc hcols hrows hR (rows - row) row (Nat.le_refl row) (by omega) (fun q h1 h2 => absurd h2 (by omega))
end
section
set_option maxHeartbeats 4000000 in
set_option maxRecDepth 100000 in
theorem determinant_i {g : fG} {M : fM} {p prod pr sc piv : Int} {A : Nat → Nat → Int} {n c : Nat} {Q : Option fV → fM → Prop} (hg : gOk p M) (hn : n ≤ 11) (hc : c < n) (hpr : pr = (prod * piv) % p) (hsc0 : 0 ≤ sc ∧ sc < p) (hsc : (piv * sc) % p = 1)
    (hk : ∀ C, dI p n A (c + 1) pr C → fAt g Y_X1_determinant 4 [some (vr 8 0), some (vi (n : Int)), some (vi pr), some (vi ((c : Int) + 1)), none, none] [] (wC M C) Q) :
    ∀ (m b : Nat) (C : Nat → Nat → Int), c < b → b + m = n → dI p n A c prod C → C c c = piv → (∀ r, c < r → r < b → C r c = 0) → fAt g Y_X1_determinant 58 [some (vr 8 0), some (vi (n : Int)), some (vi pr), some (vi (c : Int)), some (vi sc), some (vi (b : Int))] [] (wC M C) Q := by
  have hp2 := hg.2.1
  intro m
  induction m with
  | zero =>
    intro b C hb hm0 hd hpv h0
    have e : b = n := by omega
    subst e
    refine st_iload dX1_determinant_58 rfl ?_
    refine st_iload_n dX1_determinant_60 rfl ?_
    refine st_icmp_ge 96 dX1_determinant_61 (by decide) (fun h61 => ?_) (fun h61 => ?_)
    · skip
      refine st_iinc (ls' := [some (vr 8 0), some (vi (b : Int)), some (vi pr), some (vi ((c : Int) + 1)), some (vi sc), some (vi (b : Int))]) dX1_determinant_96 rfl (by omega) (by decide) rfl rfl ?_
      refine st_goto 4 dX1_determinant_99 (by decide) ?_
      refine fAt_del 4 rfl ?_
      refine fAt_del 5 rfl ?_
      exact hk C (by rw [hpr, ← hpv]; exact dI_next (by omega) hd (fun r h1 h2 => h0 r h1 h2))
    · skip
      exact absurd h61 (by omega)
  | succ m ih =>
    intro b C hb hm0 hd hpv h0
    refine st_iload dX1_determinant_58 rfl ?_
    refine st_iload_n dX1_determinant_60 rfl ?_
    refine st_icmp_ge 96 dX1_determinant_61 (by decide) (fun h61 => ?_) (fun h61 => ?_)
    · skip
      exact absurd h61 (by omega)
    · skip
      refine st_aload_n dX1_determinant_64 rfl ?_
      refine st_iload dX1_determinant_65 rfl ?_
      refine st_iload_n dX1_determinant_67 rfl ?_
      refine st_aload_n dX1_determinant_68 rfl ?_
      refine st_getr (i' := 0) dX1_determinant_69 fl_X1_11 rfl rfl rfl (fun _ => by decide) ?_
      refine st_iload dX1_determinant_72 rfl ?_
      refine st_aald (j := b) (i' := b) dX1_determinant_74 rfl rfl rfl rfl ⟨_, rfl, rfl⟩ rfl (show b < 11 from by omega) rfl (fun _ => show b < 11 from by omega) ?_
      refine st_iload_n dX1_determinant_75 rfl ?_
      refine st_iald (j := c) dX1_determinant_76 rfl rfl rfl rfl (by omega) ?_
      refine fAt_v (x' := C b c) rfl ?_
      have hbc := hd.1 b c (by omega) (by omega)
      have hm := mulb (x := C b c) (y := sc) (a := 97) (b := 97) hbc.1 hsc0.1 (by omega) (by omega)
      refine st_iload dX1_determinant_77 rfl ?_
      refine st_imul dX1_determinant_79 (by omega) ?_
      refine st_aload_n dX1_determinant_80 rfl ?_
      refine st_get dX1_determinant_81 fl_X1_23 rfl rfl rfl ?_
      refine fAt_v (x' := p) hg.1 ?_
      refine st_irem dX1_determinant_84 (by omega) (by omega) ?_
      refine st_iload_n dX1_determinant_85 rfl ?_
      refine st_iload_n dX1_determinant_86 rfl ?_
      refine st_callVv [vi (b : Int), vi (c : Int), vi (((C b c) * sc) % p), vi (c : Int), vi (n : Int)] [] dX1_determinant_87 vl_X1_44 rfl rfl rfl rfl (Nat.le_of_ble_eq_true rfl) (by decide) (c_takeAway_w (row := b) (other := c) hg (by omega) (by omega) (modb (by omega)) (by omega) (by omega) (fun j _ hj => hd.1 b j (by omega) hj) (fun j _ hj => hd.1 c j (by omega) hj)) (fun M1 q1 => ?_)
      subst q1
      refine st_iinc (ls' := [some (vr 8 0), some (vi (n : Int)), some (vi pr), some (vi (c : Int)), some (vi sc), some (vi ((b : Int) + 1))]) dX1_determinant_90 rfl (by omega) (by decide) rfl rfl ?_
      refine st_goto 58 dX1_determinant_93 (by decide) ?_
      refine ih (b + 1) (rTk p C b c ((C b c * sc) % p) c n) (by omega) (by omega) (dI_tk (by omega) hd (Nat.le_refl c) (by omega) (by omega) (Nat.le_refl c) (by omega) (by omega)) (by rw [rTk_ne (by omega)]; exact hpv) ?_
      intro r h1 h2
      by_cases e : r = b
      · rw [e, rTk_at (Nat.le_refl c) (by omega), hpv]; exact clr0 hsc (by omega)
      · rw [rTk_ne (by omega)]; exact h0 r h1 (by omega)
set_option maxHeartbeats 4000000 in
set_option maxRecDepth 100000 in
theorem determinant_o {g : fG} {M : fM} {p : Int} {A : Nat → Nat → Int} {n : Nat} (hg : gOk p M) (hn : n ≤ 11) :
    ∀ (m c : Nat) (prod : Int) (C : Nat → Nat → Int), c + m = n → 0 ≤ prod → prod < p → dI p n A c prod C → fAt g Y_X1_determinant 4 [some (vr 8 0), some (vi (n : Int)), some (vi prod), some (vi (c : Int)), none, none] [] (wC M C) (fI (fun z M' => z = dt n A % p ∧ ∃ C', M' = wC M C')) := by
  have hp2 := hg.2.1
  intro m
  induction m with
  | zero =>
    intro c prod C hm0 hp0 hp1 hd
    have e : c = n := by omega
    subst e
    refine st_iload_n dX1_determinant_4 rfl ?_
    refine st_iload_n dX1_determinant_5 rfl ?_
    refine st_icmp_ge 102 dX1_determinant_6 (by decide) (fun h6 => ?_) (fun h6 => ?_)
    · skip
      refine st_iload_n dX1_determinant_102 rfl ?_
      refine st_ireturn dX1_determinant_103 rfl ⟨_, rfl, ⟨dI_end hd hp0 hp1, C, rfl⟩⟩
    · skip
      exact absurd h6 (by omega)
  | succ m ih =>
    intro c prod C hm0 hp0 hp1 hd
    refine st_iload_n dX1_determinant_4 rfl ?_
    refine st_iload_n dX1_determinant_5 rfl ?_
    refine st_icmp_ge 102 dX1_determinant_6 (by decide) (fun h6 => ?_) (fun h6 => ?_)
    · skip
      exact absurd h6 (by omega)
    · skip
      refine st_aload_n dX1_determinant_9 rfl ?_
      refine st_iload_n dX1_determinant_10 rfl ?_
      refine st_iload_n dX1_determinant_11 rfl ?_
      refine st_iload_n dX1_determinant_12 rfl ?_
      refine st_iload_n dX1_determinant_13 rfl ?_
      refine st_callVi [vi (c : Int), vi (c : Int), vi (n : Int), vi (n : Int)] [] dX1_determinant_14 vl_X1_40 rfl rfl rfl rfl (Nat.le_of_ble_eq_true rfl) (by decide) (c_findPivot (col := c) (row := c) hg (by omega) (by omega) (by omega) hd.1 (by omega)) (fun z M1 q14 => ?_)
      rcases q14 with ⟨rfl, rfl, h0⟩ | ⟨rfl, r, hr1, hr2, hr3, hr4, rfl⟩
      · skip
        refine st_if_ne 22 dX1_determinant_17 (by decide) (fun h17 => ?_) (fun h17 => ?_)
        · skip
          exact absurd rfl h17
        · skip
          refine st_iconst dX1_determinant_20 (by decide) ?_
          refine st_ireturn dX1_determinant_21 rfl ⟨_, rfl, ⟨(dI_none (by omega) hd h0).symm, C, rfl⟩⟩
      · skip
        have hd1 : dI p n A c prod (if r = c then C else rTk p C c r (p - 1) 0 n) := by
          split
          · exact hd
          · exact dI_tk (by omega) hd (Nat.zero_le _) (Nat.le_refl _) (by omega) (by omega) (by omega) (by omega)
        have hnz : (if r = c then C else rTk p C c r (p - 1) 0 n) c c ≠ 0 := by
          split
          · rename_i e; rw [e] at hr3; exact hr3
          · have hrc := hd.1 r c (by omega) (by omega)
            rw [rTk_at (Nat.zero_le _) (by omega), hr4 c (Nat.le_refl c) (by omega), show p - (p - 1) = 1 by omega, Int.one_mul, Int.zero_add, Int.emod_eq_of_lt hrc.1 hrc.2]
            exact hr3
        generalize (if r = c then C else rTk p C c r (p - 1) 0 n) = C1 at hd1 hnz ⊢
        have hcc := hd1.1 c c (by omega) (by omega)
        have hnat : ((C1 c c).toNat : Int) = C1 c c := Int.toNat_of_nonneg hcc.1
        have hinv := hg.2.2 (C1 c c).toNat (by omega) (by omega)
        rw [hnat] at hinv
        refine st_if_ne 22 dX1_determinant_17 (by decide) (fun h17 => ?_) (fun h17 => ?_)
        · skip
          refine st_iload_n dX1_determinant_22 rfl ?_
          refine st_aload_n dX1_determinant_23 rfl ?_
          refine st_getr (i' := 0) dX1_determinant_24 fl_X1_11 rfl rfl rfl (fun _ => by decide) ?_
          refine st_iload_n dX1_determinant_27 rfl ?_
          refine st_aald (j := c) (i' := c) dX1_determinant_28 rfl rfl rfl rfl ⟨_, rfl, rfl⟩ rfl (show c < 11 from by omega) rfl (fun _ => show c < 11 from by omega) ?_
          refine st_iload_n dX1_determinant_29 rfl ?_
          refine st_iald (j := c) dX1_determinant_30 rfl rfl rfl rfl (by omega) ?_
          refine fAt_v (x' := C1 c c) rfl ?_
          have hm := mulb (x := prod) (y := C1 c c) (a := 97) (b := 97) (by omega) hcc.1 (by omega) (by omega)
          refine st_imul dX1_determinant_31 (by omega) ?_
          refine st_aload_n dX1_determinant_32 rfl ?_
          refine st_get dX1_determinant_33 fl_X1_23 rfl rfl rfl ?_
          refine fAt_v (x' := p) hg.1 ?_
          refine st_irem dX1_determinant_36 (by omega) (by omega) ?_
          refine st_istore_n (ls' := [some (vr 8 0), some (vi (n : Int)), some (vi ((prod * (C1 c c)) % p)), some (vi (c : Int)), none, none]) dX1_determinant_37 (by decide) rfl rfl ?_
          refine st_aload_n dX1_determinant_38 rfl ?_
          refine st_getr (i' := 0) dX1_determinant_39 fl_X1_20 rfl rfl rfl (fun _ => by decide) ?_
          refine st_aload_n dX1_determinant_42 rfl ?_
          refine st_getr (i' := 0) dX1_determinant_43 fl_X1_11 rfl rfl rfl (fun _ => by decide) ?_
          refine st_iload_n dX1_determinant_46 rfl ?_
          refine st_aald (j := c) (i' := c) dX1_determinant_47 rfl rfl rfl rfl ⟨_, rfl, rfl⟩ rfl (show c < 11 from by omega) rfl (fun _ => show c < 11 from by omega) ?_
          refine st_iload_n dX1_determinant_48 rfl ?_
          refine st_iald (j := c) dX1_determinant_49 rfl rfl rfl rfl (by omega) ?_
          refine fAt_v (x' := C1 c c) rfl ?_
          refine st_iald (j := (C1 c c).toNat) dX1_determinant_50 rfl rfl rfl hnat.symm (by omega) ?_
          refine fAt_v (x' := M 12 0 (C1 c c).toNat) rfl ?_
          refine st_istore (ls' := [some (vr 8 0), some (vi (n : Int)), some (vi ((prod * (C1 c c)) % p)), some (vi (c : Int)), some (vi (M 12 0 (C1 c c).toNat)), none]) dX1_determinant_51 (by decide) rfl rfl ?_
          refine st_iload_n dX1_determinant_53 rfl ?_
          refine st_iconst dX1_determinant_54 (by decide) ?_
          refine st_iadd dX1_determinant_55 (by omega) ?_
          refine st_istore (ls' := [some (vr 8 0), some (vi (n : Int)), some (vi ((prod * (C1 c c)) % p)), some (vi (c : Int)), some (vi (M 12 0 (C1 c c).toNat)), some (vi ((c : Int) + 1))]) dX1_determinant_56 (by decide) rfl rfl ?_
          exact determinant_i hg hn (by omega) rfl ⟨hinv.1, hinv.2.1⟩ hinv.2.2 (fun C2 h2 => ih (c + 1) _ C2 (by omega) (modb (by omega)).1 (modb (by omega)).2 h2) (n - (c + 1)) (c + 1) C1 (by omega) (by omega) hd1 rfl (fun r h1 h2 => absurd h2 (by omega))
        · skip
          exact absurd h17 (by omega)
set_option maxHeartbeats 4000000 in
set_option maxRecDepth 100000 in
theorem c_determinant {g : fG} {M : fM} {p : Int} {A : Nat → Nat → Int} {n : Nat} (hg : gOk p M) (hn : n ≤ 11) (hA : ∀ i j, i < n → j < n → 0 ≤ A i j ∧ A i j < p) :
    fCi g Y_X1_determinant [vr 8 0, vi n] (wC M A) (fun z M' => z = dt n A % p ∧ ∃ C', M' = wC M C') := by
  have hp2 := hg.2.1
  refine fCi_of _ [some (vr 8 0), some (vi (n : Int)), none, none, none, none] (by decide) (Nat.le_of_ble_eq_true rfl) rfl (fun h => h) ?_
  refine st_iconst dX1_determinant_0 (by decide) ?_
  refine st_istore_n (ls' := [some (vr 8 0), some (vi (n : Int)), some (vi 1), none, none, none]) dX1_determinant_1 (by decide) rfl rfl ?_
  refine st_iconst dX1_determinant_2 (by decide) ?_
  refine st_istore_n (ls' := [some (vr 8 0), some (vi (n : Int)), some (vi 1), some (vi 0), none, none]) dX1_determinant_3 (by decide) rfl rfl ?_
  exact determinant_o hg hn n 0 1 A (by omega) (by omega) (by omega) (dI_0 hA)
end
section
set_option maxHeartbeats 4000000 in
set_option maxRecDepth 100000 in
theorem clearOthers_2 {g : fG} {M : fM} {p sc : Int} {C : Nat → Nat → Int} {k c R u : Nat} (hg : gOk p M) (hu : u ≤ 11) (hR : R ≤ 11) (hk : k < R) (hc : c < u) :
    ∀ (n r : Nat) (D : Nat → Nat → Int), r + n = R → clP p R u C k c D → (∀ i, i < R → i < r → i ≠ k → D i c = 0) → fAt g Y_X1_clearOthers 60 [some (vr 8 0), some (vi (k : Int)), some (vi (c : Int)), some (vi (R : Int)), some (vi (u : Int)), some (vi sc), some (vi (r : Int))] [] (wC M D) (fN (fun M' => ∃ D, M' = wC M D ∧ clP p R u C k c D ∧ ∀ i, i < R → i ≠ k → D i c = 0)) := by
  have hp2 := hg.2.1
  intro n
  induction n with
  | zero =>
    intro r D hn hD h0
    have e : r = R := by omega
    subst e
    refine st_iload dX1_clearOthers_60 rfl ?_
    refine st_iload_n dX1_clearOthers_62 rfl ?_
    refine st_icmp_ge 99 dX1_clearOthers_63 (by decide) (fun h63 => ?_) (fun h63 => ?_)
    · skip
      refine st_return dX1_clearOthers_99 rfl ⟨rfl, ⟨D, rfl, hD, fun i h1 h2 => h0 i h1 h1 h2⟩⟩
    · skip
      exact absurd h63 (by omega)
  | succ n ih =>
    intro r D hn hD h0
    refine st_iload dX1_clearOthers_60 rfl ?_
    refine st_iload_n dX1_clearOthers_62 rfl ?_
    refine st_icmp_ge 99 dX1_clearOthers_63 (by decide) (fun h63 => ?_) (fun h63 => ?_)
    · skip
      exact absurd h63 (by omega)
    · skip
      refine st_iload dX1_clearOthers_66 rfl ?_
      refine st_iload_n dX1_clearOthers_68 rfl ?_
      refine st_icmp_eq 93 dX1_clearOthers_69 (by decide) (fun h69 => ?_) (fun h69 => ?_)
      · skip
        have e69 : r = k := by omega
        refine st_iinc (ls' := [some (vr 8 0), some (vi (k : Int)), some (vi (c : Int)), some (vi (R : Int)), some (vi (u : Int)), some (vi sc), some (vi ((r : Int) + 1))]) dX1_clearOthers_93 rfl (by omega) (by decide) rfl rfl ?_
        refine st_goto 60 dX1_clearOthers_96 (by decide) ?_
        exact ih (r + 1) D (by omega) hD (fun i h1 h2 h3 => h0 i h1 (by omega) h3)
      · skip
        have e69 : r ≠ k := by omega
        have hrr := hD.1
        refine st_aload_n dX1_clearOthers_72 rfl ?_
        refine st_iload dX1_clearOthers_73 rfl ?_
        refine st_iload_n dX1_clearOthers_75 rfl ?_
        refine st_aload_n dX1_clearOthers_76 rfl ?_
        refine st_getr (i' := 0) dX1_clearOthers_77 fl_X1_11 rfl rfl rfl (fun _ => by decide) ?_
        refine st_iload dX1_clearOthers_80 rfl ?_
        refine st_aald (j := r) (i' := r) dX1_clearOthers_82 rfl rfl rfl rfl ⟨_, rfl, rfl⟩ rfl (show r < 11 from by omega) rfl (fun _ => show r < 11 from by omega) ?_
        refine st_iload_n dX1_clearOthers_83 rfl ?_
        refine st_iald (j := c) dX1_clearOthers_84 rfl rfl rfl rfl (by omega) ?_
        refine fAt_v (x' := D r c) rfl ?_
        refine st_iconst dX1_clearOthers_85 (by decide) ?_
        refine st_iload dX1_clearOthers_86 rfl ?_
        refine st_iconst dX1_clearOthers_88 (by decide) ?_
        refine st_iadd dX1_clearOthers_89 (by omega) ?_
        refine st_callVv [vi (r : Int), vi (k : Int), vi (D r c), vi 0, vi ((u : Int) + 1)] [] dX1_clearOthers_90 vl_X1_44 rfl rfl rfl rfl (Nat.le_of_ble_eq_true rfl) (by decide) (c_takeAway_w (row := r) (other := k) (a := 0) (b := u + 1) hg (by omega) (by omega) (hrr r c (by omega) (by omega)) (by omega) (by omega) (fun j _ hj => hrr r j (by omega) hj) (fun j _ hj => hrr k j (by omega) hj)) (fun M1 q1 => ?_)
        subst q1
        refine st_iinc (ls' := [some (vr 8 0), some (vi (k : Int)), some (vi (c : Int)), some (vi (R : Int)), some (vi (u : Int)), some (vi sc), some (vi ((r : Int) + 1))]) dX1_clearOthers_93 rfl (by omega) (by decide) rfl rfl ?_
        refine st_goto 60 dX1_clearOthers_96 (by decide) ?_
        refine ih (r + 1) _ (by omega) (clP_tk (by omega) hk (by omega) e69 hD) ?_
        intro i h1 h2 h3
        by_cases e : i = r
        · rw [e]; exact clP_0 (by omega) (by omega) hD
        · rw [rTk_ne (fun q => e q.1)]; exact h0 i h1 (by omega) h3
set_option maxHeartbeats 4000000 in
set_option maxRecDepth 100000 in
theorem clearOthers_1 {g : fG} {M : fM} {p sc : Int} {C : Nat → Nat → Int} {k c R u : Nat} (hg : gOk p M) (hu : u ≤ 11) (hR : R ≤ 11) (hk : k < R) (hc : c < u) (hr : ∀ i j, i < R → j < u + 1 → 0 ≤ C i j ∧ C i j < p) (hs0 : 0 ≤ sc ∧ sc < p) (hs : (C k c * sc) % p = 1) :
    ∀ (n j : Nat), j + n = u + 1 → fAt g Y_X1_clearOthers 18 [some (vr 8 0), some (vi (k : Int)), some (vi (c : Int)), some (vi (R : Int)), some (vi (u : Int)), some (vi sc), some (vi (j : Int))] [] (wC M (rSc p C k sc j)) (fN (fun M' => ∃ D, M' = wC M D ∧ clP p R u C k c D ∧ ∀ i, i < R → i ≠ k → D i c = 0)) := by
  have hp2 := hg.2.1
  intro n
  induction n with
  | zero =>
    intro j hn
    have e : j = u + 1 := by omega
    subst e
    refine st_iload dX1_clearOthers_18 rfl ?_
    refine st_iload dX1_clearOthers_20 rfl ?_
    refine st_icmp_gt 57 dX1_clearOthers_22 (by decide) (fun h22 => ?_) (fun h22 => ?_)
    · skip
      refine st_iconst dX1_clearOthers_57 (by decide) ?_
      refine st_istore (ls' := [some (vr 8 0), some (vi (k : Int)), some (vi (c : Int)), some (vi (R : Int)), some (vi (u : Int)), some (vi sc), some (vi 0)]) dX1_clearOthers_58 (by decide) rfl rfl ?_
      exact clearOthers_2 hg hu hR hk hc R 0 _ (by omega) (clP_sc (by omega) hk (by omega) hr hs) (fun i h1 h2 h3 => absurd h2 (by omega))
    · skip
      exact absurd h22 (by omega)
  | succ n ih =>
    intro j hn
    refine st_iload dX1_clearOthers_18 rfl ?_
    refine st_iload dX1_clearOthers_20 rfl ?_
    refine st_icmp_gt 57 dX1_clearOthers_22 (by decide) (fun h22 => ?_) (fun h22 => ?_)
    · skip
      exact absurd h22 (by omega)
    · skip
      refine st_aload_n dX1_clearOthers_25 rfl ?_
      refine st_getr (i' := 0) dX1_clearOthers_26 fl_X1_11 rfl rfl rfl (fun _ => by decide) ?_
      refine st_iload_n dX1_clearOthers_29 rfl ?_
      refine st_aald (j := k) (i' := k) dX1_clearOthers_30 rfl rfl rfl rfl ⟨_, rfl, rfl⟩ rfl (show k < 11 from by omega) rfl (fun _ => show k < 11 from by omega) ?_
      refine st_iload dX1_clearOthers_31 rfl ?_
      refine st_aload_n dX1_clearOthers_33 rfl ?_
      refine st_getr (i' := 0) dX1_clearOthers_34 fl_X1_11 rfl rfl rfl (fun _ => by decide) ?_
      refine st_iload_n dX1_clearOthers_37 rfl ?_
      refine st_aald (j := k) (i' := k) dX1_clearOthers_38 rfl rfl rfl rfl ⟨_, rfl, rfl⟩ rfl (show k < 11 from by omega) rfl (fun _ => show k < 11 from by omega) ?_
      refine st_iload dX1_clearOthers_39 rfl ?_
      refine st_iald (j := j) dX1_clearOthers_41 rfl rfl rfl rfl (by omega) ?_
      refine fAt_v (x' := C k j) (rSc_ne (by omega)) ?_
      have hkj := hr k j hk (by omega)
      have hm := mulb (x := C k j) (y := sc) (a := 97) (b := 97) hkj.1 hs0.1 (by omega) (by omega)
      refine st_iload dX1_clearOthers_42 rfl ?_
      refine st_imul dX1_clearOthers_44 (by omega) ?_
      refine st_aload_n dX1_clearOthers_45 rfl ?_
      refine st_get dX1_clearOthers_46 fl_X1_23 rfl rfl rfl ?_
      refine fAt_v (x' := p) hg.1 ?_
      refine st_irem dX1_clearOthers_49 (by omega) (by omega) ?_
      refine st_iast (j := j) dX1_clearOthers_50 rfl rfl rfl rfl (by omega) ?_
      refine fAt_m (wC_up _ _ _ _ _) ?_
      refine fAt_m (by rw [rSc_s]) ?_
      refine st_iinc (ls' := [some (vr 8 0), some (vi (k : Int)), some (vi (c : Int)), some (vi (R : Int)), some (vi (u : Int)), some (vi sc), some (vi ((j : Int) + 1))]) dX1_clearOthers_51 rfl (by omega) (by decide) rfl rfl ?_
      refine st_goto 18 dX1_clearOthers_54 (by decide) ?_
      exact ih (j + 1) (by omega)
set_option maxHeartbeats 4000000 in
set_option maxRecDepth 100000 in
theorem c_clearOthers {g : fG} {M : fM} {p : Int} {C : Nat → Nat → Int} {k c R u : Nat} (hg : gOk p M) (hu : u ≤ 11) (hR : R ≤ 11) (hk : k < R) (hc : c < u) (hr : ∀ i j, i < R → j < u + 1 → 0 ≤ C i j ∧ C i j < p) (hnz : C k c ≠ 0) :
    fCv g Y_X1_clearOthers [vr 8 0, vi k, vi c, vi R, vi u] (wC M C) (fun M' => ∃ D, M' = wC M D ∧ clP p R u C k c D ∧ ∀ i, i < R → i ≠ k → D i c = 0) := by
  have hp2 := hg.2.1
  have hkc := hr k c hk (by omega)
  have hnat : ((C k c).toNat : Int) = C k c := Int.toNat_of_nonneg hkc.1
  have hinv := hg.2.2 (C k c).toNat (by omega) (by omega)
  rw [hnat] at hinv
  refine fCv_of _ [some (vr 8 0), some (vi (k : Int)), some (vi (c : Int)), some (vi (R : Int)), some (vi (u : Int)), none, none] (by decide) (Nat.le_of_ble_eq_true rfl) rfl (fun h => h) ?_
  refine st_aload_n dX1_clearOthers_0 rfl ?_
  refine st_getr (i' := 0) dX1_clearOthers_1 fl_X1_20 rfl rfl rfl (fun _ => by decide) ?_
  refine st_aload_n dX1_clearOthers_4 rfl ?_
  refine st_getr (i' := 0) dX1_clearOthers_5 fl_X1_11 rfl rfl rfl (fun _ => by decide) ?_
  refine st_iload_n dX1_clearOthers_8 rfl ?_
  refine st_aald (j := k) (i' := k) dX1_clearOthers_9 rfl rfl rfl rfl ⟨_, rfl, rfl⟩ rfl (show k < 11 from by omega) rfl (fun _ => show k < 11 from by omega) ?_
  refine st_iload_n dX1_clearOthers_10 rfl ?_
  refine st_iald (j := c) dX1_clearOthers_11 rfl rfl rfl rfl (by omega) ?_
  refine fAt_v (x' := C k c) rfl ?_
  refine st_iald (j := (C k c).toNat) dX1_clearOthers_12 rfl rfl rfl hnat.symm (by omega) ?_
  refine fAt_v (x' := M 12 0 (C k c).toNat) rfl ?_
  refine st_istore (ls' := [some (vr 8 0), some (vi (k : Int)), some (vi (c : Int)), some (vi (R : Int)), some (vi (u : Int)), some (vi (M 12 0 (C k c).toNat)), none]) dX1_clearOthers_13 (by decide) rfl rfl ?_
  refine st_iconst dX1_clearOthers_15 (by decide) ?_
  refine st_istore (ls' := [some (vr 8 0), some (vi (k : Int)), some (vi (c : Int)), some (vi (R : Int)), some (vi (u : Int)), some (vi (M 12 0 (C k c).toNat)), some (vi 0)]) dX1_clearOthers_16 (by decide) rfl rfl ?_
  refine fAt_m (show wC M C = wC M (rSc p C k (M 12 0 (C k c).toNat) 0) by rw [rSc_0]) ?_
  exact clearOthers_1 hg hu hR hk hc hr ⟨hinv.1, hinv.2.1⟩ hinv.2.2 (u + 1) 0 (by omega)
end
section
/-- the grid's answers replaced -/
def wA (M : fM) (a : Nat → Int) : fM := fun k i j => if k = 11 ∧ i = 0 then a j else M k i j
theorem wA_up (M : fM) (a : Nat → Int) (C : Nat → Nat → Int) (j : Nat) (v : Int) : fup (wC (wA M a) C) 11 0 j v = wC (wA M (fun q => if q = j then v else a q)) C := by
  funext k i q
  unfold fup wC wA
  by_cases e : k = 10
  · subst e; rw [if_neg (by omega), if_pos rfl, if_pos rfl]
  · rw [if_neg e, if_neg e]
    show (if k = 11 ∧ i = 0 ∧ q = j then v else if k = 11 ∧ i = 0 then a q else M k i q) = if k = 11 ∧ i = 0 then (if q = j then v else a q) else M k i q
    by_cases e2 : k = 11 ∧ i = 0
    · rw [if_pos e2, if_pos e2]
      by_cases e3 : q = j
      · rw [if_pos ⟨e2.1, e2.2, e3⟩, if_pos e3]
      · rw [if_neg (fun h => e3 h.2.2), if_neg e3]
    · rw [if_neg e2, if_neg e2, if_neg (fun h => e2 ⟨h.1, h.2.1⟩)]
theorem wA_self (M : fM) : wA M (M 11 0) = M := by
  funext k i j
  unfold wA
  by_cases e : k = 11 ∧ i = 0
  · rw [if_pos e, e.1, e.2]
  · rw [if_neg e]
theorem wA_at (M : fM) (a : Nat → Int) (C : Nat → Nat → Int) (j : Nat) : wC (wA M a) C 11 0 j = a j := by
  unfold wC wA
  rw [if_neg (by decide), if_pos ⟨rfl, rfl⟩]
theorem gOk_A {p : Int} {M : fM} {a : Nat → Int} (h : gOk p M) : gOk p (wA M a) := ⟨h.1, h.2.1, fun a h1 h2 => h.2.2 a h1 h2⟩
def tO (a : Nat → Int) (d : Nat) : Option Nat := if a d < 0 then none else some (a d).toNat
theorem tO_n {a : Nat → Int} {d : Nat} (h : a d < 0) : tO a d = none := by unfold tO; rw [if_pos h]
theorem tO_s {a : Nat → Int} {d k : Nat} (h : a d = (k : Int)) : tO a d = some k := by unfold tO; rw [if_neg (by omega), h]; rfl
theorem tO_e {a b : Nat → Int} {d : Nat} (h : a d = b d) : tO a d = tO b d := by unfold tO; rw [h]
set_option maxHeartbeats 4000000 in
set_option maxRecDepth 100000 in
theorem solveLeast_3 {g : fG} {M : fM} {p : Int} {A C : Nat → Nat → Int} {R u k : Nat} {a0 : Nat → Int} (hg : gOk p M) (hu : u ≤ 11) (hR : R ≤ 11) (hE : El p R u A 0 C k (tO a0)) (hok : ∀ r, k ≤ r → r < R → C r u = 0) :
    ∀ (n c : Nat) (a : Nat → Int), c + n = u → (∀ d, d < c → a d = ansT C u (tO a0) d) → (∀ d, c ≤ d → d < u → a d = a0 d) → fAt g Y_X1_solveLeast 92 [some (vr 8 0), some (vi (R : Int)), some (vi (u : Int)), some (vi (k : Int)), some (vi (c : Int))] [] (wC (wA M a) C) (fI (fun z M' => ∃ C' a' k, M' = wC (wA M a') C' ∧ ((z = -1 ∧ LSpec p R u A False k a') ∨ (z = ((k : Nat) : Int) ∧ LSpec p R u A True k a')))) := by
  have hp2 := hg.2.1
  intro n
  induction n with
  | zero =>
    intro c a hn ha1 ha2
    have e : c = u := by omega
    subst e
    refine st_iload dX1_solveLeast_92 rfl ?_
    refine st_iload_n dX1_solveLeast_94 rfl ?_
    refine st_icmp_ge 139 dX1_solveLeast_95 (by decide) (fun h95 => ?_) (fun h95 => ?_)
    · skip
      refine st_iload_n dX1_solveLeast_139 rfl ?_
      refine st_ireturn dX1_solveLeast_140 rfl ⟨_, rfl, ⟨C, a, k, rfl, Or.inr ⟨rfl, LSpec_ans (fun d hd => (ha1 d hd).symm) (LSpec_ok ⟨fun _ => trivial, fun _ => hok⟩ (El_spec (by omega) hE))⟩⟩⟩
    · skip
      exact absurd h95 (by omega)
  | succ n ih =>
    intro c a hn ha1 ha2
    refine st_iload dX1_solveLeast_92 rfl ?_
    refine st_iload_n dX1_solveLeast_94 rfl ?_
    refine st_icmp_ge 139 dX1_solveLeast_95 (by decide) (fun h95 => ?_) (fun h95 => ?_)
    · skip
      exact absurd h95 (by omega)
    · skip
      refine st_aload_n dX1_solveLeast_98 rfl ?_
      refine st_getr (i' := 0) dX1_solveLeast_99 fl_X1_16 rfl rfl rfl (fun _ => by decide) ?_
      refine st_iload dX1_solveLeast_102 rfl ?_
      refine st_aload_n dX1_solveLeast_104 rfl ?_
      refine st_getr (i' := 0) dX1_solveLeast_105 fl_X1_16 rfl rfl rfl (fun _ => by decide) ?_
      refine st_iload dX1_solveLeast_108 rfl ?_
      refine st_iald (j := c) dX1_solveLeast_110 rfl rfl rfl rfl (by omega) ?_
      refine fAt_v (x' := a0 c) (by rw [wA_at]; exact ha2 c (Nat.le_refl c) (by omega)) ?_
      refine st_if_ge 118 dX1_solveLeast_111 (by decide) (fun h111 => ?_) (fun h111 => ?_)
      · skip
        have hnat' : a0 c = (((a0 c).toNat : Nat) : Int) := (Int.toNat_of_nonneg h111).symm
        have htl := (hE.2.2.2.1 c (Nat.zero_le _) (by omega) (a0 c).toNat (tO_s hnat')).1
        have hkR := hE.2.2.1
        refine st_aload_n dX1_solveLeast_118 rfl ?_
        refine st_getr (i' := 0) dX1_solveLeast_119 fl_X1_11 rfl rfl rfl (fun _ => by decide) ?_
        refine st_aload_n dX1_solveLeast_122 rfl ?_
        refine st_getr (i' := 0) dX1_solveLeast_123 fl_X1_16 rfl rfl rfl (fun _ => by decide) ?_
        refine st_iload dX1_solveLeast_126 rfl ?_
        refine st_iald (j := c) dX1_solveLeast_128 rfl rfl rfl rfl (by omega) ?_
        refine fAt_v (x' := a0 c) (by rw [wA_at]; exact ha2 c (Nat.le_refl c) (by omega)) ?_
        refine st_aald (j := (a0 c).toNat) (i' := (a0 c).toNat) dX1_solveLeast_129 rfl rfl rfl rfl ⟨_, rfl, rfl⟩ hnat' (show (a0 c).toNat < 11 from by omega) rfl (fun _ => show (a0 c).toNat < 11 from by omega) ?_
        refine st_iload_n dX1_solveLeast_130 rfl ?_
        refine st_iald (j := u) dX1_solveLeast_131 rfl rfl rfl rfl (by omega) ?_
        refine fAt_v (x' := C (a0 c).toNat u) rfl ?_
        refine st_iast (j := c) dX1_solveLeast_132 rfl rfl rfl rfl (by omega) ?_
        refine fAt_m (wA_up _ _ _ _ _) ?_
        refine st_iinc (ls' := [some (vr 8 0), some (vi (R : Int)), some (vi (u : Int)), some (vi (k : Int)), some (vi ((c : Int) + 1))]) dX1_solveLeast_133 rfl (by omega) (by decide) rfl rfl ?_
        refine st_goto 92 dX1_solveLeast_136 (by decide) ?_
        refine ih (c + 1) _ (by omega) ?_ ?_
        · intro d hd
          by_cases e : d = c
          · rw [if_pos e, e]; unfold ansT; first | (rw [tO_n h111']; done) | rw [tO_s hnat']
          · rw [if_neg e]; exact ha1 d (by omega)
        · intro d h1 h2
          rw [if_neg (by omega)]; exact ha2 d (by omega) h2
      · skip
        have h111' : a0 c < 0 := h111
        refine st_iconst dX1_solveLeast_114 (by decide) ?_
        refine st_goto 132 dX1_solveLeast_115 (by decide) ?_
        refine st_iast (j := c) dX1_solveLeast_132 rfl rfl rfl rfl (by omega) ?_
        refine fAt_m (wA_up _ _ _ _ _) ?_
        refine st_iinc (ls' := [some (vr 8 0), some (vi (R : Int)), some (vi (u : Int)), some (vi (k : Int)), some (vi ((c : Int) + 1))]) dX1_solveLeast_133 rfl (by omega) (by decide) rfl rfl ?_
        refine st_goto 92 dX1_solveLeast_136 (by decide) ?_
        refine ih (c + 1) _ (by omega) ?_ ?_
        · intro d hd
          by_cases e : d = c
          · rw [if_pos e, e]; unfold ansT; first | (rw [tO_n h111']; done) | rw [tO_s hnat']
          · rw [if_neg e]; exact ha1 d (by omega)
        · intro d h1 h2
          rw [if_neg (by omega)]; exact ha2 d (by omega) h2
theorem LSpec_F {p : Int} {R u : Nat} {C : Nat → Nat → Int} {k : Nat} {a a' : Nat → Int} (h : LSpec p R u C False k a) : LSpec p R u C False k a' := ⟨h.1, h.2.1, fun q => q.elim⟩
set_option maxHeartbeats 4000000 in
set_option maxRecDepth 100000 in
theorem solveLeast_2 {g : fG} {M : fM} {p : Int} {A C : Nat → Nat → Int} {R u k : Nat} {a0 : Nat → Int} (hg : gOk p M) (hu : u ≤ 11) (hR : R ≤ 11) (hE : El p R u A 0 C k (tO a0)) :
    ∀ (n r : Nat), k ≤ r → r + n = R → (∀ q, k ≤ q → q < r → C q u = 0) → fAt g Y_X1_solveLeast 63 [some (vr 8 0), some (vi (R : Int)), some (vi (u : Int)), some (vi (k : Int)), some (vi (r : Int))] [] (wC (wA M a0) C) (fI (fun z M' => ∃ C' a' k, M' = wC (wA M a') C' ∧ ((z = -1 ∧ LSpec p R u A False k a') ∨ (z = ((k : Nat) : Int) ∧ LSpec p R u A True k a')))) := by
  have hp2 := hg.2.1
  intro n
  induction n with
  | zero =>
    intro r hkr hn h0
    have e : r = R := by omega
    subst e
    refine st_iload dX1_solveLeast_63 rfl ?_
    refine st_iload_n dX1_solveLeast_65 rfl ?_
    refine st_icmp_ge 89 dX1_solveLeast_66 (by decide) (fun h66 => ?_) (fun h66 => ?_)
    · skip
      refine st_iconst dX1_solveLeast_89 (by decide) ?_
      refine st_istore (ls' := [some (vr 8 0), some (vi (r : Int)), some (vi (u : Int)), some (vi (k : Int)), some (vi 0)]) dX1_solveLeast_90 (by decide) rfl rfl ?_
      exact solveLeast_3 hg hu hR hE (fun r h1 h2 => h0 r h1 h2) u 0 a0 (by omega) (fun d hd => absurd hd (by omega)) (fun d _ _ => rfl)
    · skip
      exact absurd h66 (by omega)
  | succ n ih =>
    intro r hkr hn h0
    refine st_iload dX1_solveLeast_63 rfl ?_
    refine st_iload_n dX1_solveLeast_65 rfl ?_
    refine st_icmp_ge 89 dX1_solveLeast_66 (by decide) (fun h66 => ?_) (fun h66 => ?_)
    · skip
      exact absurd h66 (by omega)
    · skip
      refine st_aload_n dX1_solveLeast_69 rfl ?_
      refine st_getr (i' := 0) dX1_solveLeast_70 fl_X1_11 rfl rfl rfl (fun _ => by decide) ?_
      refine st_iload dX1_solveLeast_73 rfl ?_
      refine st_aald (j := r) (i' := r) dX1_solveLeast_75 rfl rfl rfl rfl ⟨_, rfl, rfl⟩ rfl (show r < 11 from by omega) rfl (fun _ => show r < 11 from by omega) ?_
      refine st_iload_n dX1_solveLeast_76 rfl ?_
      refine st_iald (j := u) dX1_solveLeast_77 rfl rfl rfl rfl (by omega) ?_
      refine fAt_v (x' := C r u) rfl ?_
      refine st_if_eq 83 dX1_solveLeast_78 (by decide) (fun h78 => ?_) (fun h78 => ?_)
      · skip
        refine st_iinc (ls' := [some (vr 8 0), some (vi (R : Int)), some (vi (u : Int)), some (vi (k : Int)), some (vi ((r : Int) + 1))]) dX1_solveLeast_83 rfl (by omega) (by decide) rfl rfl ?_
        refine st_goto 63 dX1_solveLeast_86 (by decide) ?_
        exact ih (r + 1) (by omega) (by omega) (lt_sN h0 h78)
      · skip
        refine st_iconst dX1_solveLeast_81 (by decide) ?_
        refine st_ireturn dX1_solveLeast_82 rfl ⟨_, rfl, ⟨C, a0, k, rfl, Or.inl ⟨rfl, LSpec_F (LSpec_ok ⟨fun h => h78 (h r (by omega) (by omega)), fun h => h.elim⟩ (El_spec (by omega) hE))⟩⟩⟩
set_option maxHeartbeats 4000000 in
set_option maxRecDepth 100000 in
theorem solveLeast_1 {g : fG} {M : fM} {p : Int} {A : Nat → Nat → Int} {R u : Nat} (hg : gOk p M) (hu : u ≤ 11) (hR : R ≤ 11) :
    ∀ (m k : Nat) (x : Int) (a : Nat → Int) (C : Nat → Nat → Int), x = (m : Int) - 1 → m ≤ u → El p R u A m C k (tO a) → fAt g Y_X1_solveLeast 7 [some (vr 8 0), some (vi (R : Int)), some (vi (u : Int)), some (vi (k : Int)), some (vi x)] [] (wC (wA M a) C) (fI (fun z M' => ∃ C' a' k, M' = wC (wA M a') C' ∧ ((z = -1 ∧ LSpec p R u A False k a') ∨ (z = ((k : Nat) : Int) ∧ LSpec p R u A True k a')))) := by
  have hp2 := hg.2.1
  intro m
  induction m with
  | zero =>
    intro k x a C hx hm hE
    refine st_iload dX1_solveLeast_7 rfl ?_
    refine st_if_lt 60 dX1_solveLeast_9 (by decide) (fun h9 => ?_) (fun h9 => ?_)
    · skip
      refine st_iload_n dX1_solveLeast_60 rfl ?_
      refine st_istore (ls' := [some (vr 8 0), some (vi (R : Int)), some (vi (u : Int)), some (vi (k : Int)), some (vi (k : Int))]) dX1_solveLeast_61 (by decide) rfl rfl ?_
      exact solveLeast_2 hg hu hR hE (R - k) k (Nat.le_refl k) (by have := hE.2.2.1; omega) (fun q h1 h2 => absurd h2 (by omega))
    · skip
      exact absurd h9 (by omega)
  | succ m ih =>
    intro k x a C hx hm hE
    have e : x = (m : Int) := by omega
    subst e
    have hkR := hE.2.2.1
    refine st_iload dX1_solveLeast_7 rfl ?_
    refine st_if_lt 60 dX1_solveLeast_9 (by decide) (fun h9 => ?_) (fun h9 => ?_)
    · skip
      exact absurd h9 (by omega)
    · skip
      refine st_aload_n dX1_solveLeast_12 rfl ?_
      refine st_getr (i' := 0) dX1_solveLeast_13 fl_X1_16 rfl rfl rfl (fun _ => by decide) ?_
      refine st_iload dX1_solveLeast_16 rfl ?_
      refine st_iconst dX1_solveLeast_18 (by decide) ?_
      refine st_iast (j := m) dX1_solveLeast_19 rfl rfl rfl rfl (by omega) ?_
      refine fAt_m (wA_up _ _ _ _ _) ?_
      refine st_aload_n dX1_solveLeast_20 rfl ?_
      refine st_iload dX1_solveLeast_21 rfl ?_
      refine st_iload_n dX1_solveLeast_23 rfl ?_
      refine st_iload_n dX1_solveLeast_24 rfl ?_
      refine st_iload_n dX1_solveLeast_25 rfl ?_
      refine st_iconst dX1_solveLeast_26 (by decide) ?_
      refine st_iadd dX1_solveLeast_27 (by omega) ?_
      refine st_callVi [vi (m : Int), vi (k : Int), vi (R : Int), vi ((u : Int) + 1)] [] dX1_solveLeast_28 vl_X1_40 rfl rfl rfl rfl (Nat.le_of_ble_eq_true rfl) (by decide) (c_findPivot (col := m) (row := k) (cols := u + 1) (gOk_A hg) (by omega) (by omega) (by omega) (fun i j hi hj => hE.1 i j hi hj) hE.2.2.1) (fun z M1 q28 => ?_)
      rcases q28 with ⟨rfl, rfl, h0⟩ | ⟨rfl, r, hr1, hr2, hr3, hr4, rfl⟩
      · skip
        have hE2 : El p R u A m C k (tO (fun q => if q = m then -1 else a q)) := El_none (by omega) hE h0 (tO_n (by show (if m = m then (-1 : Int) else a m) < 0; rw [if_pos rfl]; decide)) (fun d h1 h2 => tO_e (by show (if d = m then (-1 : Int) else a d) = a d; rw [if_neg (by omega)]))
        refine st_if_eq 54 dX1_solveLeast_31 (by decide) (fun h31 => ?_) (fun h31 => ?_)
        · skip
          refine st_iinc (ls' := [some (vr 8 0), some (vi (R : Int)), some (vi (u : Int)), some (vi (k : Int)), some (vi ((m : Int) + (-1)))]) dX1_solveLeast_54 rfl (by omega) (by decide) rfl rfl ?_
          refine st_goto 7 dX1_solveLeast_57 (by decide) ?_
          exact ih _ _ _ _ (by omega) (by omega) hE2
        · skip
          exact absurd rfl h31
      · skip
        have hR1 : ∀ i j, i < R → j < u + 1 → 0 ≤ (if r = k then C else rTk p C k r (p - 1) 0 (u + 1)) i j ∧ (if r = k then C else rTk p C k r (p - 1) 0 (u + 1)) i j < p := by
          split
          · exact hE.1
          · exact rTk_rng (by omega) hE.1
        have hV1 : ∀ β y, Ev β p R u (if r = k then C else rTk p C k r (p - 1) 0 (u + 1)) y ↔ Ev β p R u C y := by
          split
          · exact fun _ _ => Iff.rfl
          · exact fun β y => Ev_tk (by omega) (by omega) (by omega) y
        have hZ1 : ∀ i d, i < R → m < d → d < u → (if r = k then C else rTk p C k r (p - 1) 0 (u + 1)) i d = C i d := by
          split
          · exact fun _ _ _ _ _ => rfl
          · intro i d hi h1 h2
            by_cases e : i = k
            · rw [e, rTk_at (Nat.zero_le _) (by omega), hE.2.2.2.2.2.1 k (Nat.le_refl k) (by omega) d (by omega) h2, hE.2.2.2.2.2.1 r hr1 hr2 d (by omega) h2, Int.mul_zero]
              exact Int.zero_emod p
            · exact rTk_ne (fun q => e q.1)
        have hnz : (if r = k then C else rTk p C k r (p - 1) 0 (u + 1)) k m ≠ 0 := by
          split
          · rename_i e; rw [e] at hr3; exact hr3
          · have hrc := hE.1 r m (by omega) (by omega)
            rw [rTk_at (Nat.zero_le _) (by omega), hr4 k (Nat.le_refl k) (by omega), show p - (p - 1) = 1 by omega, Int.one_mul, Int.zero_add, Int.emod_eq_of_lt hrc.1 hrc.2]
            exact hr3
        generalize (if r = k then C else rTk p C k r (p - 1) 0 (u + 1)) = C1 at hR1 hV1 hZ1 hnz ⊢
        refine st_if_eq 54 dX1_solveLeast_31 (by decide) (fun h31 => ?_) (fun h31 => ?_)
        · skip
          exact absurd h31 (by omega)
        · skip
          refine st_aload_n dX1_solveLeast_34 rfl ?_
          refine st_iload_n dX1_solveLeast_35 rfl ?_
          refine st_iload dX1_solveLeast_36 rfl ?_
          refine st_iload_n dX1_solveLeast_38 rfl ?_
          refine st_iload_n dX1_solveLeast_39 rfl ?_
          refine st_callVv [vi (k : Int), vi (m : Int), vi (R : Int), vi (u : Int)] [] dX1_solveLeast_40 vl_X1_48 rfl rfl rfl rfl (Nat.le_of_ble_eq_true rfl) (by decide) (c_clearOthers (gOk_A hg) hu hR (by omega) (by omega) hR1 hnz) (fun M40 q40 => ?_)
          obtain ⟨D, rfl, hD, hD0⟩ := q40
          have hE2 : El p R u A m D (k + 1) (tO (fun q => if q = m then (k : Int) else if q = m then -1 else a q)) := by
            refine El_some (by omega) hE (by omega) hD.1 (fun β y => (hD.2.1 β y).trans (hV1 β y)) hD.2.2.1 hD0 (fun i d hi h1 h2 => ?_) (tO_s (by show (if m = m then (k : Int) else _) = _; rw [if_pos rfl])) (fun d h1 h2 => tO_e (by show (if d = m then (k : Int) else if d = m then -1 else a d) = a d; rw [if_neg (by omega), if_neg (by omega)]))
            rw [hD.2.2.2 i d hi (by omega) (by rw [hZ1 k d (by omega) h1 h2]; exact hE.2.2.2.2.2.1 k (Nat.le_refl k) (by omega) d (by omega) h2)]
            exact hZ1 i d hi h1 h2
          refine st_aload_n dX1_solveLeast_43 rfl ?_
          refine st_getr (i' := 0) dX1_solveLeast_44 fl_X1_16 rfl rfl rfl (fun _ => by decide) ?_
          refine st_iload dX1_solveLeast_47 rfl ?_
          refine st_iload_n dX1_solveLeast_49 rfl ?_
          refine st_iast (j := m) dX1_solveLeast_50 rfl rfl rfl rfl (by omega) ?_
          refine fAt_m (wA_up _ _ _ _ _) ?_
          refine st_iinc (ls' := [some (vr 8 0), some (vi (R : Int)), some (vi (u : Int)), some (vi ((k : Int) + 1)), some (vi (m : Int))]) dX1_solveLeast_51 rfl (by omega) (by decide) rfl rfl ?_
          refine st_iinc (ls' := [some (vr 8 0), some (vi (R : Int)), some (vi (u : Int)), some (vi ((k : Int) + 1)), some (vi ((m : Int) + (-1)))]) dX1_solveLeast_54 rfl (by omega) (by decide) rfl rfl ?_
          refine st_goto 7 dX1_solveLeast_57 (by decide) ?_
          exact ih _ _ _ _ (by omega) (by omega) hE2
set_option maxHeartbeats 4000000 in
set_option maxRecDepth 100000 in
theorem c_solveLeast {g : fG} {M : fM} {p : Int} {a : Nat → Int} {A : Nat → Nat → Int} {R u : Nat} (hg : gOk p M) (hu : u ≤ 11) (hR : R ≤ 11) (hA : ∀ i j, i < R → j < u + 1 → 0 ≤ A i j ∧ A i j < p) :
    fCi g Y_X1_solveLeast [vr 8 0, vi R, vi u] (wC (wA M a) A) (fun z M' => ∃ C' a' k, M' = wC (wA M a') C' ∧ ((z = -1 ∧ LSpec p R u A False k a') ∨ (z = ((k : Nat) : Int) ∧ LSpec p R u A True k a'))) := by
  have hp2 := hg.2.1
  refine fCi_of _ [some (vr 8 0), some (vi (R : Int)), some (vi (u : Int)), none, none] (by decide) (Nat.le_of_ble_eq_true rfl) rfl (fun h => h) ?_
  refine st_iconst dX1_solveLeast_0 (by decide) ?_
  refine st_istore_n (ls' := [some (vr 8 0), some (vi (R : Int)), some (vi (u : Int)), some (vi 0), none]) dX1_solveLeast_1 (by decide) rfl rfl ?_
  refine st_iload_n dX1_solveLeast_2 rfl ?_
  refine st_iconst dX1_solveLeast_3 (by decide) ?_
  refine st_isub dX1_solveLeast_4 (by omega) ?_
  refine st_istore (ls' := [some (vr 8 0), some (vi (R : Int)), some (vi (u : Int)), some (vi 0), some (vi ((u : Int) - 1))]) dX1_solveLeast_5 (by decide) rfl rfl ?_
  exact solveLeast_1 hg hu hR u 0 _ _ _ (by omega) (Nat.le_refl u) (El_0 hA _)
def zC (C : Nat → Nat → Int) (col n : Nat) : Nat → Nat → Int := fun i j => if i < n ∧ j = col then 0 else C i j
theorem zC_0 (C : Nat → Nat → Int) (col : Nat) : zC C col 0 = C := by
  funext i j
  unfold zC
  rw [if_neg (by omega)]
theorem zC_s (C : Nat → Nat → Int) (col n : Nat) : (fun a b => if a = n ∧ b = col then 0 else zC C col n a b) = zC C col (n + 1) := by
  funext i j
  unfold zC
  by_cases e : i = n ∧ j = col
  · rw [if_pos e, if_pos ⟨by omega, e.2⟩]
  · rw [if_neg e]
    by_cases e2 : i < n ∧ j = col
    · rw [if_pos e2, if_pos ⟨by omega, e2.2⟩]
    · rw [if_neg e2, if_neg (by omega)]
set_option maxHeartbeats 4000000 in
set_option maxRecDepth 100000 in
theorem clearColumn_l {g : fG} {M : fM} {C : Nat → Nat → Int} {col R : Nat} (hc : col < 12) (hR : R ≤ 11) :
    ∀ (n r : Nat), r + n = R → fAt g Y_X1_clearColumn 2 [some (vr 8 0), some (vi (col : Int)), some (vi (R : Int)), some (vi (r : Int))] [] (wC M (zC C col r)) (fN (fun M' => M' = wC M (zC C col R))) := by
  intro n
  induction n with
  | zero =>
    intro r hn
    have e : r = R := by omega
    subst e
    refine st_iload_n dX1_clearColumn_2 rfl ?_
    refine st_iload_n dX1_clearColumn_3 rfl ?_
    refine st_icmp_ge 22 dX1_clearColumn_4 (by decide) (fun h4 => ?_) (fun h4 => ?_)
    · skip
      refine st_return dX1_clearColumn_22 rfl ⟨rfl, rfl⟩
    · skip
      exact absurd h4 (by omega)
  | succ n ih =>
    intro r hn
    refine st_iload_n dX1_clearColumn_2 rfl ?_
    refine st_iload_n dX1_clearColumn_3 rfl ?_
    refine st_icmp_ge 22 dX1_clearColumn_4 (by decide) (fun h4 => ?_) (fun h4 => ?_)
    · skip
      exact absurd h4 (by omega)
    · skip
      refine st_aload_n dX1_clearColumn_7 rfl ?_
      refine st_getr (i' := 0) dX1_clearColumn_8 fl_X1_11 rfl rfl rfl (fun _ => by decide) ?_
      refine st_iload_n dX1_clearColumn_11 rfl ?_
      refine st_aald (j := r) (i' := r) dX1_clearColumn_12 rfl rfl rfl rfl ⟨_, rfl, rfl⟩ rfl (show r < 11 from by omega) rfl (fun _ => show r < 11 from by omega) ?_
      refine st_iload_n dX1_clearColumn_13 rfl ?_
      refine st_iconst dX1_clearColumn_14 (by decide) ?_
      refine st_iast (j := col) dX1_clearColumn_15 rfl rfl rfl rfl (by omega) ?_
      refine fAt_m (wC_up _ _ _ _ _) ?_
      refine fAt_m (congrArg (wC M) (zC_s C col r)) ?_
      refine st_iinc (ls' := [some (vr 8 0), some (vi (col : Int)), some (vi (R : Int)), some (vi ((r : Int) + 1))]) dX1_clearColumn_16 rfl (by omega) (by decide) rfl rfl ?_
      refine st_goto 2 dX1_clearColumn_19 (by decide) ?_
      exact ih (r + 1) (by omega)
set_option maxHeartbeats 4000000 in
set_option maxRecDepth 100000 in
theorem c_clearColumn {g : fG} {M : fM} {C : Nat → Nat → Int} {col R : Nat} (hc : col < 12) (hR : R ≤ 11) :
    fCv g Y_X1_clearColumn [vr 8 0, vi col, vi R] (wC M C) (fun M' => M' = wC M (zC C col R)) := by
  refine fCv_of _ [some (vr 8 0), some (vi (col : Int)), some (vi (R : Int)), none] (by decide) (Nat.le_of_ble_eq_true rfl) rfl (fun h => h) ?_
  refine st_iconst dX1_clearColumn_0 (by decide) ?_
  refine st_istore_n (ls' := [some (vr 8 0), some (vi (col : Int)), some (vi (R : Int)), some (vi 0)]) dX1_clearColumn_1 (by decide) rfl rfl ?_
  refine fAt_m (congrArg (wC M) (zC_0 C col).symm) ?_
  exact clearColumn_l hc hR R 0 (by omega)
end
section
/-! ===== Setting ===== -/
/-- the place of THE LINE by kind, row, column -/
def plc (w : Nat) (kind : Int) (i j : Nat) : Nat := if kind = 1 then i + j else if kind = 2 ∨ kind = 4 then w - 1 + (if i < j then j - i else i - j) else if kind = 3 then w - 1 + (if i < j then i + w - j else i - j) else w - 1 + i - j
def ent (p : Int) (w : Nat) (kind : Int) (L : Nat → Int) (i j : Nat) : Int := if kind = 4 ∧ i < j ∧ L (plc w kind i j) ≠ 0 then p - L (plc w kind i j) else L (plc w kind i j)
theorem plc_1 (w i j : Nat) : plc w 1 i j = i + j := by unfold plc; rw [if_pos rfl]
theorem plc_24 {kd : Int} (h : kd = 2 ∨ kd = 4) (w i j : Nat) : plc w kd i j = w - 1 + (if i < j then j - i else i - j) := by unfold plc; rw [if_neg (by omega), if_pos h]
theorem plc_3 (w i j : Nat) : plc w 3 i j = w - 1 + (if i < j then i + w - j else i - j) := by unfold plc; rw [if_neg (by decide), if_neg (by decide), if_pos rfl]
theorem plc_0 (w i j : Nat) : plc w 0 i j = w - 1 + i - j := by unfold plc; rw [if_neg (by decide), if_neg (by decide), if_neg (by decide)]
theorem plc_lt {w : Nat} {kind : Int} {i j : Nat} (hi : i < w) (hj : j < w) : plc w kind i j < 2 * w - 1 := by
  unfold plc
  repeat' split
  all_goals omega
theorem ent_rng {p : Int} {w : Nat} {kind : Int} {L : Nat → Int} {i j : Nat} (hp : 0 < p) (hL : ∀ q, q < 2 * w - 1 → 0 ≤ L q ∧ L q < p) (hi : i < w) (hj : j < w) : 0 ≤ ent p w kind L i j ∧ ent p w kind L i j < p := by
  have h := hL _ (plc_lt (kind := kind) hi hj)
  unfold ent
  split
  · rename_i q
    have := q.2.2
    omega
  · exact h
theorem ent_congr {p : Int} {w : Nat} {kind : Int} {L L' : Nat → Int} {i j : Nat} (hL : ∀ q, q < 2 * w - 1 → L q = L' q) (hi : i < w) (hj : j < w) : ent p w kind L i j = ent p w kind L' i j := by
  unfold ent
  rw [hL _ (plc_lt hi hj)]
set_option maxHeartbeats 4000000 in
set_option maxRecDepth 100000 in
theorem c_rowLength {g : fG} {M : fM} {i w : Nat} (hw : M 2 i 0 = (w : Int)) (hw1 : 1 ≤ w ∧ w ≤ 6) :
    fCi g Y_X3_rowLength [vr 2 i] M (fun z M' => z = ((2 * w - 1 : Nat) : Int) ∧ M' = M) := by
  refine fCi_of _ [some (vr 2 i)] (by decide) (Nat.le_of_ble_eq_true rfl) rfl (fun h => h) ?_
  refine st_iconst dX3_rowLength_0 (by decide) ?_
  refine st_aload_n dX3_rowLength_1 rfl ?_
  refine st_get dX3_rowLength_2 fl_X3_9 rfl rfl rfl ?_
  refine fAt_v (x' := (w : Int)) hw ?_
  refine st_imul dX3_rowLength_5 (by omega) ?_
  refine st_iconst dX3_rowLength_6 (by decide) ?_
  refine st_isub dX3_rowLength_7 (by omega) ?_
  refine st_ireturn dX3_rowLength_8 rfl ⟨_, rfl, ⟨by omega, rfl⟩⟩
set_option maxHeartbeats 4000000 in
set_option maxRecDepth 100000 in
theorem c_placeAt {g : fG} {M : fM} {i w a b : Nat} {kd : Int} (hw : M 2 i 0 = (w : Int)) (hw1 : 1 ≤ w ∧ w ≤ 6) (ha : a < w) (hb : b < w) (hkd : kd = 0 ∨ kd = 1 ∨ kd = 2 ∨ kd = 3 ∨ kd = 4) :
    fCi g Y_X3_placeAt [vr 2 i, vi kd, vi (a : Int), vi (b : Int)] M (fun z M' => z = ((plc w kd a b : Nat) : Int) ∧ M' = M) := by
  refine fCi_of _ [some (vr 2 i), some (vi kd), some (vi (a : Int)), some (vi (b : Int)), none] (by decide) (Nat.le_of_ble_eq_true rfl) rfl (fun h => h) ?_
  refine st_aload_n dX3_placeAt_0 rfl ?_
  refine st_get dX3_placeAt_1 fl_X3_9 rfl rfl rfl ?_
  refine fAt_v (x' := (w : Int)) hw ?_
  refine st_iconst dX3_placeAt_4 (by decide) ?_
  refine st_isub dX3_placeAt_5 (by omega) ?_
  refine st_istore (ls' := [some (vr 2 i), some (vi kd), some (vi (a : Int)), some (vi (b : Int)), some (vi ((w : Int) - 1))]) dX3_placeAt_6 (by decide) rfl rfl ?_
  refine st_iload_n dX3_placeAt_8 rfl ?_
  rcases hkd with rfl | rfl | rfl | rfl | rfl
  · skip
    refine st_tableOut 87 dX3_placeAt_9 (by decide) (by decide) ?_
    refine st_iload dX3_placeAt_87 rfl ?_
    refine st_iload_n dX3_placeAt_89 rfl ?_
    refine st_iadd dX3_placeAt_90 (by omega) ?_
    refine st_iload_n dX3_placeAt_91 rfl ?_
    refine st_isub dX3_placeAt_92 (by omega) ?_
    refine st_ireturn dX3_placeAt_93 rfl ⟨_, rfl, ⟨by rw [plc_0]; omega, rfl⟩⟩
  · skip
    refine st_tableIn 40 dX3_placeAt_9 (by decide) (by decide) rfl (by decide) ?_
    refine st_iload dX3_placeAt_40 rfl ?_
    refine st_iload_n dX3_placeAt_42 rfl ?_
    refine st_iadd dX3_placeAt_43 (by omega) ?_
    refine st_aload_n dX3_placeAt_44 rfl ?_
    refine st_get dX3_placeAt_45 fl_X3_9 rfl rfl rfl ?_
    refine fAt_v (x' := (w : Int)) hw ?_
    refine st_iconst dX3_placeAt_48 (by decide) ?_
    refine st_isub dX3_placeAt_49 (by omega) ?_
    refine st_iload_n dX3_placeAt_50 rfl ?_
    refine st_isub dX3_placeAt_51 (by omega) ?_
    refine st_isub dX3_placeAt_52 (by omega) ?_
    refine st_ireturn dX3_placeAt_53 rfl ⟨_, rfl, ⟨by rw [plc_1]; omega, rfl⟩⟩
  · skip
    refine st_tableIn 54 dX3_placeAt_9 (by decide) (by decide) rfl (by decide) ?_
    refine st_iload dX3_placeAt_54 rfl ?_
    refine st_iload_n dX3_placeAt_56 rfl ?_
    refine st_iload_n dX3_placeAt_57 rfl ?_
    refine st_isub dX3_placeAt_58 (by omega) ?_
    refine st_abs dX3_placeAt_59 lb_abs_X3 lb_abs_s lb_math lb_abs_c (by decide) (Nat.le_of_ble_eq_true rfl) (by split <;> omega) ?_
    refine st_iadd dX3_placeAt_62 (by split <;> omega) ?_
    refine st_ireturn dX3_placeAt_63 rfl ⟨_, rfl, ⟨by rw [plc_24 (Or.inl rfl)]; split <;> split <;> omega, rfl⟩⟩
  · skip
    refine st_tableIn 64 dX3_placeAt_9 (by decide) (by decide) rfl (by decide) ?_
    refine st_iload dX3_placeAt_64 rfl ?_
    refine st_iload_n dX3_placeAt_66 rfl ?_
    refine st_iload_n dX3_placeAt_67 rfl ?_
    refine st_icmp_ge 82 dX3_placeAt_68 (by decide) (fun h68 => ?_) (fun h68 => ?_)
    · skip
      refine st_iload_n dX3_placeAt_82 rfl ?_
      refine st_iload_n dX3_placeAt_83 rfl ?_
      refine st_isub dX3_placeAt_84 (by omega) ?_
      refine st_iadd dX3_placeAt_85 (by omega) ?_
      refine st_ireturn dX3_placeAt_86 rfl ⟨_, rfl, ⟨by rw [plc_3]; split <;> omega, rfl⟩⟩
    · skip
      refine st_iload_n dX3_placeAt_71 rfl ?_
      refine st_iload_n dX3_placeAt_72 rfl ?_
      refine st_isub dX3_placeAt_73 (by omega) ?_
      refine st_aload_n dX3_placeAt_74 rfl ?_
      refine st_get dX3_placeAt_75 fl_X3_9 rfl rfl rfl ?_
      refine fAt_v (x' := (w : Int)) hw ?_
      refine st_iadd dX3_placeAt_78 (by omega) ?_
      refine st_goto 85 dX3_placeAt_79 (by decide) ?_
      refine st_iadd dX3_placeAt_85 (by omega) ?_
      refine st_ireturn dX3_placeAt_86 rfl ⟨_, rfl, ⟨by rw [plc_3]; split <;> omega, rfl⟩⟩
  · skip
    refine st_tableIn 54 dX3_placeAt_9 (by decide) (by decide) rfl (by decide) ?_
    refine st_iload dX3_placeAt_54 rfl ?_
    refine st_iload_n dX3_placeAt_56 rfl ?_
    refine st_iload_n dX3_placeAt_57 rfl ?_
    refine st_isub dX3_placeAt_58 (by omega) ?_
    refine st_abs dX3_placeAt_59 lb_abs_X3 lb_abs_s lb_math lb_abs_c (by decide) (Nat.le_of_ble_eq_true rfl) (by split <;> omega) ?_
    refine st_iadd dX3_placeAt_62 (by split <;> omega) ?_
    refine st_ireturn dX3_placeAt_63 rfl ⟨_, rfl, ⟨by rw [plc_24 (Or.inr rfl)]; split <;> split <;> omega, rfl⟩⟩
set_option maxHeartbeats 4000000 in
set_option maxRecDepth 100000 in
theorem c_cellAt {g : fG} {M : fM} {i w a b : Nat} {kd p : Int} (hw : M 2 i 0 = (w : Int)) (hw1 : 1 ≤ w ∧ w ≤ 6) (ha : a < w) (hb : b < w) (hkd : kd = 0 ∨ kd = 1 ∨ kd = 2 ∨ kd = 3 ∨ kd = 4) (hp : 2 ≤ p ∧ p ≤ 97) (hL : ∀ q, q < 2 * w - 1 → 0 ≤ M 3 i q ∧ M 3 i q < p) :
    fCi g Y_X3_cellAt [vr 2 i, vi kd, vi (a : Int), vi (b : Int), vi p] M (fun z M' => z = ent p w kd (M 3 i) a b ∧ M' = M) := by
  have hLp := hL _ (plc_lt (kind := kd) ha hb)
  refine fCi_of _ [some (vr 2 i), some (vi kd), some (vi (a : Int)), some (vi (b : Int)), some (vi p), none] (by decide) (Nat.le_of_ble_eq_true rfl) rfl (fun h => h) ?_
  refine st_aload_n dX3_cellAt_0 rfl ?_
  refine st_getr (i' := i) dX3_cellAt_1 fl_X3_21 rfl rfl rfl (fun h => h) ?_
  refine st_aload_n dX3_cellAt_4 rfl ?_
  refine st_iload_n dX3_cellAt_5 rfl ?_
  refine st_iload_n dX3_cellAt_6 rfl ?_
  refine st_iload_n dX3_cellAt_7 rfl ?_
  refine st_callVi [vi kd, vi (a : Int), vi (b : Int)] [vr 3 i] dX3_cellAt_8 vl_X3_34 rfl rfl rfl rfl (Nat.le_of_ble_eq_true rfl) (by decide) (c_placeAt hw hw1 ha hb hkd) (fun z M1 q8 => ?_)
  obtain ⟨rfl, rfl⟩ := q8
  refine st_iald (j := (plc w kd a b)) dX3_cellAt_11 rfl rfl rfl rfl (by have := plc_lt (kind := kd) ha hb; omega) ?_
  refine st_istore (ls' := [some (vr 2 i), some (vi kd), some (vi (a : Int)), some (vi (b : Int)), some (vi p), some (vi (M1 3 i (plc w kd a b)))]) dX3_cellAt_12 (by decide) rfl rfl ?_
  refine st_iload_n dX3_cellAt_14 rfl ?_
  refine st_iconst dX3_cellAt_15 (by decide) ?_
  refine st_icmp_ne 37 dX3_cellAt_16 (by decide) (fun h16 => ?_) (fun h16 => ?_)
  · skip
    refine st_iload dX3_cellAt_37 rfl ?_
    refine st_ireturn dX3_cellAt_39 rfl ⟨_, rfl, ⟨?_, rfl⟩⟩
    first
      | (unfold ent; rw [if_pos ⟨by omega, by omega, by assumption⟩]; done)
      | (unfold ent; rw [if_neg (fun h => by first | exact absurd h.1 (by omega) | exact absurd h.2.1 (by omega) | exact absurd (by assumption) h.2.2)])
  · skip
    refine st_iload_n dX3_cellAt_19 rfl ?_
    refine st_iload_n dX3_cellAt_20 rfl ?_
    refine st_icmp_ge 37 dX3_cellAt_21 (by decide) (fun h21 => ?_) (fun h21 => ?_)
    · skip
      refine st_iload dX3_cellAt_37 rfl ?_
      refine st_ireturn dX3_cellAt_39 rfl ⟨_, rfl, ⟨?_, rfl⟩⟩
      first
        | (unfold ent; rw [if_pos ⟨by omega, by omega, by assumption⟩]; done)
        | (unfold ent; rw [if_neg (fun h => by first | exact absurd h.1 (by omega) | exact absurd h.2.1 (by omega) | exact absurd (by assumption) h.2.2)])
    · skip
      refine st_iload dX3_cellAt_24 rfl ?_
      refine st_if_eq 37 dX3_cellAt_26 (by decide) (fun h26 => ?_) (fun h26 => ?_)
      · skip
        refine st_iload dX3_cellAt_37 rfl ?_
        refine st_ireturn dX3_cellAt_39 rfl ⟨_, rfl, ⟨?_, rfl⟩⟩
        first
          | (unfold ent; rw [if_pos ⟨by omega, by omega, by assumption⟩]; done)
          | (unfold ent; rw [if_neg (fun h => by first | exact absurd h.1 (by omega) | exact absurd h.2.1 (by omega) | exact absurd (by assumption) h.2.2)])
      · skip
        refine st_iload dX3_cellAt_29 rfl ?_
        refine st_iload dX3_cellAt_31 rfl ?_
        refine st_isub dX3_cellAt_33 (by omega) ?_
        refine st_goto 39 dX3_cellAt_34 (by decide) ?_
        refine st_ireturn dX3_cellAt_39 rfl ⟨_, rfl, ⟨?_, rfl⟩⟩
        first
          | (unfold ent; rw [if_pos ⟨by omega, by omega, by assumption⟩]; done)
          | (unfold ent; rw [if_neg (fun h => by first | exact absurd h.1 (by omega) | exact absurd h.2.1 (by omega) | exact absurd (by assumption) h.2.2)])
def stk (M : fM) (i o : Nat) : fM := fun k a b => if a = i ∧ ((k = 2 ∧ b < 3) ∨ (k = 3 ∧ b < 11) ∨ (k = 4 ∧ b < 6)) then M k o b else M k a b
set_option maxHeartbeats 4000000 in
set_option maxRecDepth 100000 in
theorem c_takeFrom {g : fG} {M : fM} {i o : Nat} (hio : i ≠ o) :
    fCv g Y_X3_takeFrom [vr 2 i, vr 2 o] M (fun M' => M' = stk M i o) := by
  refine fCv_of _ [some (vr 2 i), some (vr 2 o)] (by decide) (Nat.le_of_ble_eq_true rfl) rfl (fun h => h) ?_
  refine st_aload_n dX3_takeFrom_0 rfl ?_
  refine st_aload_n dX3_takeFrom_1 rfl ?_
  refine st_get dX3_takeFrom_2 fl_X3_9 rfl rfl rfl ?_
  refine st_put dX3_takeFrom_5 fl_X3_9 fp_X3_0.1 (Or.inl fp_X3_0.2) rfl rfl rfl ?_
  refine st_aload_n dX3_takeFrom_8 rfl ?_
  refine st_aload_n dX3_takeFrom_9 rfl ?_
  refine st_get dX3_takeFrom_10 fl_X3_15 rfl rfl rfl ?_
  refine st_put dX3_takeFrom_13 fl_X3_15 fp_X3_1.1 (Or.inl fp_X3_1.2) rfl rfl rfl ?_
  refine st_aload_n dX3_takeFrom_16 rfl ?_
  refine st_aload_n dX3_takeFrom_17 rfl ?_
  refine st_get dX3_takeFrom_18 fl_X3_18 rfl rfl rfl ?_
  refine st_put dX3_takeFrom_21 fl_X3_18 fp_X3_2.1 (Or.inl fp_X3_2.2) rfl rfl rfl ?_
  refine st_aload_n dX3_takeFrom_24 rfl ?_
  refine st_getr (i' := o) dX3_takeFrom_25 fl_X3_21 rfl rfl rfl (fun h => h) ?_
  refine st_iconst dX3_takeFrom_28 (by decide) ?_
  refine st_aload_n dX3_takeFrom_29 rfl ?_
  refine st_getr (i' := i) dX3_takeFrom_30 fl_X3_21 rfl rfl rfl (fun h => h) ?_
  refine st_iconst dX3_takeFrom_33 (by decide) ?_
  refine st_bipush dX3_takeFrom_34 (by decide) ?_
  refine st_copyi (a := 0) (b := 0) (n := 11) dX3_takeFrom_36 lb_copy_X3 lb_copy_n lb_copy_s lb_sys rfl rfl rfl rfl rfl rfl rfl rfl (by omega) (by omega) (by decide) (Nat.le_of_ble_eq_true rfl) ?_
  refine st_aload_n dX3_takeFrom_39 rfl ?_
  refine st_getr (i' := o) dX3_takeFrom_40 fl_X3_25 rfl rfl rfl (fun h => h) ?_
  refine st_iconst dX3_takeFrom_43 (by decide) ?_
  refine st_aload_n dX3_takeFrom_44 rfl ?_
  refine st_getr (i' := i) dX3_takeFrom_45 fl_X3_25 rfl rfl rfl (fun h => h) ?_
  refine st_iconst dX3_takeFrom_48 (by decide) ?_
  refine st_bipush dX3_takeFrom_49 (by decide) ?_
  refine st_copyi (a := 0) (b := 0) (n := 6) dX3_takeFrom_51 lb_copy_X3 lb_copy_n lb_copy_s lb_sys rfl rfl rfl rfl rfl rfl rfl rfl (by omega) (by omega) (by decide) (Nat.le_of_ble_eq_true rfl) ?_
  refine st_return dX3_takeFrom_54 rfl ⟨rfl, (by funext k a b; simp only [fcp, fup, stk]; grind (splits := 40))⟩
end
section
def lvO (M : fM) (i : Nat) (p : Int) (n m : Nat) : fM := fun k a b => if a = i ∧ ((k = 3 ∧ b < n) ∨ (k = 4 ∧ b < m)) then M k i b % p else M k a b
theorem lvO_0 (M : fM) (i : Nat) (p : Int) : lvO M i p 0 0 = M := by
  funext k a b
  unfold lvO
  rw [if_neg (by omega)]
theorem lvO_off {M : fM} {i : Nat} {p : Int} {n m k a b : Nat} (h : ¬ (a = i ∧ ((k = 3 ∧ b < n) ∨ (k = 4 ∧ b < m)))) : lvO M i p n m k a b = M k a b := by
  unfold lvO
  rw [if_neg h]
theorem lvO_n {M : fM} {i : Nat} {p : Int} {n : Nat} : fup (lvO M i p n 0) 3 i n (M 3 i n % p) = lvO M i p (n + 1) 0 := by
  funext k a b
  simp only [fup, lvO]
  grind (splits := 40)
theorem lvO_m {M : fM} {i : Nat} {p : Int} {n m : Nat} : fup (lvO M i p n m) 4 i m (M 4 i m % p) = lvO M i p n (m + 1) := by
  funext k a b
  simp only [fup, lvO]
  grind (splits := 40)
set_option maxHeartbeats 4000000 in
set_option maxRecDepth 100000 in
theorem leaveOver_2 {g : fG} {M : fM} {p : Int} {i w : Nat} (hw : M 2 i 0 = (w : Int)) (hw1 : 1 ≤ w ∧ w ≤ 6) (hp : 0 < p) (hr1 : ∀ j, j < 2 * w - 1 → 0 ≤ M 3 i j) (hr2 : ∀ j, j < w → 0 ≤ M 4 i j) :
    ∀ (n c : Nat), c + n = w → fAt g Y_X3_leaveOver 28 [some (vr 2 i), some (vi p), some (vi (c : Int))] [] (lvO M i p (2 * w - 1) c) (fN (fun M' => M' = lvO M i p (2 * w - 1) w)) := by
  intro n
  induction n with
  | zero =>
    intro c hn
    have e : c = w := by omega
    subst e
    refine st_iload_n dX3_leaveOver_28 rfl ?_
    refine st_aload_n dX3_leaveOver_29 rfl ?_
    refine st_get dX3_leaveOver_30 fl_X3_9 rfl rfl rfl ?_
    refine fAt_v (x' := (c : Int)) (by rw [lvO_off (by omega)]; exact hw) ?_
    refine st_icmp_ge 52 dX3_leaveOver_33 (by decide) (fun h33 => ?_) (fun h33 => ?_)
    · skip
      refine st_return dX3_leaveOver_52 rfl ⟨rfl, rfl⟩
    · skip
      exact absurd h33 (by omega)
  | succ n ih =>
    intro c hn
    refine st_iload_n dX3_leaveOver_28 rfl ?_
    refine st_aload_n dX3_leaveOver_29 rfl ?_
    refine st_get dX3_leaveOver_30 fl_X3_9 rfl rfl rfl ?_
    refine fAt_v (x' := (w : Int)) (by rw [lvO_off (by omega)]; exact hw) ?_
    refine st_icmp_ge 52 dX3_leaveOver_33 (by decide) (fun h33 => ?_) (fun h33 => ?_)
    · skip
      exact absurd h33 (by omega)
    · skip
      refine st_aload_n dX3_leaveOver_36 rfl ?_
      refine st_getr (i' := i) dX3_leaveOver_37 fl_X3_25 rfl rfl rfl (fun h => h) ?_
      refine st_iload_n dX3_leaveOver_40 rfl ?_
      refine st_dup2 dX3_leaveOver_41 rfl rfl ?_
      refine st_iald (j := c) dX3_leaveOver_42 rfl rfl rfl rfl (by omega) ?_
      refine fAt_v (x' := M 4 i c) (lvO_off (by omega)) ?_
      have hcc := hr2 c (by omega)
      refine st_iload_n dX3_leaveOver_43 rfl ?_
      refine st_irem dX3_leaveOver_44 (by omega) (by omega) ?_
      refine st_iast (j := c) dX3_leaveOver_45 rfl rfl rfl rfl (by omega) ?_
      refine fAt_m lvO_m ?_
      refine st_iinc (ls' := [some (vr 2 i), some (vi p), some (vi ((c : Int) + 1))]) dX3_leaveOver_46 rfl (by omega) (by decide) rfl rfl ?_
      refine st_goto 28 dX3_leaveOver_49 (by decide) ?_
      exact ih (c + 1) (by omega)
set_option maxHeartbeats 4000000 in
set_option maxRecDepth 100000 in
theorem leaveOver_1 {g : fG} {M : fM} {p : Int} {i w : Nat} (hw : M 2 i 0 = (w : Int)) (hw1 : 1 ≤ w ∧ w ≤ 6) (hp : 0 < p) (hr1 : ∀ j, j < 2 * w - 1 → 0 ≤ M 3 i j) (hr2 : ∀ j, j < w → 0 ≤ M 4 i j) :
    ∀ (n c : Nat), c + n = 2 * w - 1 → fAt g Y_X3_leaveOver 2 [some (vr 2 i), some (vi p), some (vi (c : Int))] [] (lvO M i p c 0) (fN (fun M' => M' = lvO M i p (2 * w - 1) w)) := by
  intro n
  induction n with
  | zero =>
    intro c hn
    have e : c = 2 * w - 1 := by omega
    subst e
    refine st_iload_n dX3_leaveOver_2 rfl ?_
    refine st_aload_n dX3_leaveOver_3 rfl ?_
    refine st_callVi [] [vi ((2 * w - 1 : Nat) : Int)] dX3_leaveOver_4 vl_X3_44 rfl rfl rfl rfl (Nat.le_of_ble_eq_true rfl) (by decide) (c_rowLength (w := w) (by rw [lvO_off (by omega)]; exact hw) hw1) (fun z M1 q4 => ?_)
    obtain ⟨rfl, rfl⟩ := q4
    refine st_icmp_ge 26 dX3_leaveOver_7 (by decide) (fun h7 => ?_) (fun h7 => ?_)
    · skip
      refine st_iconst dX3_leaveOver_26 (by decide) ?_
      refine st_istore_n (ls' := [some (vr 2 i), some (vi p), some (vi 0)]) dX3_leaveOver_27 (by decide) rfl rfl ?_
      exact leaveOver_2 hw hw1 hp hr1 hr2 w 0 (by omega)
    · skip
      exact absurd h7 (by omega)
  | succ n ih =>
    intro c hn
    refine st_iload_n dX3_leaveOver_2 rfl ?_
    refine st_aload_n dX3_leaveOver_3 rfl ?_
    refine st_callVi [] [vi (c : Int)] dX3_leaveOver_4 vl_X3_44 rfl rfl rfl rfl (Nat.le_of_ble_eq_true rfl) (by decide) (c_rowLength (w := w) (by rw [lvO_off (by omega)]; exact hw) hw1) (fun z M1 q4 => ?_)
    obtain ⟨rfl, rfl⟩ := q4
    refine st_icmp_ge 26 dX3_leaveOver_7 (by decide) (fun h7 => ?_) (fun h7 => ?_)
    · skip
      exact absurd h7 (by omega)
    · skip
      refine st_aload_n dX3_leaveOver_10 rfl ?_
      refine st_getr (i' := i) dX3_leaveOver_11 fl_X3_21 rfl rfl rfl (fun h => h) ?_
      refine st_iload_n dX3_leaveOver_14 rfl ?_
      refine st_dup2 dX3_leaveOver_15 rfl rfl ?_
      refine st_iald (j := c) dX3_leaveOver_16 rfl rfl rfl rfl (by omega) ?_
      refine fAt_v (x' := M 3 i c) (lvO_off (by omega)) ?_
      have hcc := hr1 c (by omega)
      refine st_iload_n dX3_leaveOver_17 rfl ?_
      refine st_irem dX3_leaveOver_18 (by omega) (by omega) ?_
      refine st_iast (j := c) dX3_leaveOver_19 rfl rfl rfl rfl (by omega) ?_
      refine fAt_m lvO_n ?_
      refine st_iinc (ls' := [some (vr 2 i), some (vi p), some (vi ((c : Int) + 1))]) dX3_leaveOver_20 rfl (by omega) (by decide) rfl rfl ?_
      refine st_goto 2 dX3_leaveOver_23 (by decide) ?_
      exact ih (c + 1) (by omega)
set_option maxHeartbeats 4000000 in
set_option maxRecDepth 100000 in
theorem c_leaveOver {g : fG} {M : fM} {p : Int} {i w : Nat} (hw : M 2 i 0 = (w : Int)) (hw1 : 1 ≤ w ∧ w ≤ 6) (hp : 0 < p) (hr1 : ∀ j, j < 2 * w - 1 → 0 ≤ M 3 i j) (hr2 : ∀ j, j < w → 0 ≤ M 4 i j) :
    fCv g Y_X3_leaveOver [vr 2 i, vi p] M (fun M' => M' = lvO M i p (2 * w - 1) w) := by
  refine fCv_of _ [some (vr 2 i), some (vi p), none] (by decide) (Nat.le_of_ble_eq_true rfl) rfl (fun h => h) ?_
  refine st_iconst dX3_leaveOver_0 (by decide) ?_
  refine st_istore_n (ls' := [some (vr 2 i), some (vi p), some (vi 0)]) dX3_leaveOver_1 (by decide) rfl rfl ?_
  refine fAt_m (lvO_0 M i p).symm ?_
  exact leaveOver_1 hw hw1 hp hr1 hr2 (2 * w - 1) 0 (by omega)
def adB (M : fM) (i w : Nat) : fM := fun k a b => if a = i ∧ k = 3 ∧ b ≤ 2 * w then (if b = 0 ∨ b = 2 * w then 0 else M 3 i (b - 1)) else if a = i ∧ k = 4 ∧ b = w then 0 else if a = i ∧ k = 2 ∧ b = 0 then (w : Int) + 1 else M k a b
set_option maxHeartbeats 4000000 in
set_option maxRecDepth 100000 in
theorem c_addBorder {g : fG} {M : fM} {i w : Nat} (hw : M 2 i 0 = (w : Int)) (hw1 : 1 ≤ w ∧ w < 6) :
    fCv g Y_X3_addBorder [vr 2 i] M (fun M' => M' = adB M i w) := by
  refine fCv_of _ [some (vr 2 i), none] (by decide) (Nat.le_of_ble_eq_true rfl) rfl (fun h => h) ?_
  refine st_aload_n dX3_addBorder_0 rfl ?_
  refine st_callVi [] [] dX3_addBorder_1 vl_X3_44 rfl rfl rfl rfl (Nat.le_of_ble_eq_true rfl) (by decide) (c_rowLength hw (by omega)) (fun z M1 q1 => ?_)
  obtain ⟨rfl, rfl⟩ := q1
  refine st_istore_n (ls' := [some (vr 2 i), some (vi ((2 * w - 1 : Nat) : Int))]) dX3_addBorder_4 (by decide) rfl rfl ?_
  refine st_aload_n dX3_addBorder_5 rfl ?_
  refine st_getr (i' := i) dX3_addBorder_6 fl_X3_21 rfl rfl rfl (fun h => h) ?_
  refine st_iconst dX3_addBorder_9 (by decide) ?_
  refine st_aload_n dX3_addBorder_10 rfl ?_
  refine st_getr (i' := i) dX3_addBorder_11 fl_X3_21 rfl rfl rfl (fun h => h) ?_
  refine st_iconst dX3_addBorder_14 (by decide) ?_
  refine st_iload_n dX3_addBorder_15 rfl ?_
  refine st_copyi (a := 0) (b := 1) (n := (2 * w - 1)) dX3_addBorder_16 lb_copy_X3 lb_copy_n lb_copy_s lb_sys rfl rfl rfl rfl rfl rfl rfl (by omega) (by omega) (by omega) (by decide) (Nat.le_of_ble_eq_true rfl) ?_
  refine st_aload_n dX3_addBorder_19 rfl ?_
  refine st_getr (i' := i) dX3_addBorder_20 fl_X3_21 rfl rfl rfl (fun h => h) ?_
  refine st_iconst dX3_addBorder_23 (by decide) ?_
  refine st_iconst dX3_addBorder_24 (by decide) ?_
  refine st_iast (j := 0) dX3_addBorder_25 rfl rfl rfl rfl (by decide) ?_
  refine st_aload_n dX3_addBorder_26 rfl ?_
  refine st_getr (i' := i) dX3_addBorder_27 fl_X3_21 rfl rfl rfl (fun h => h) ?_
  refine st_iload_n dX3_addBorder_30 rfl ?_
  refine st_iconst dX3_addBorder_31 (by decide) ?_
  refine st_iadd dX3_addBorder_32 (by omega) ?_
  refine st_iconst dX3_addBorder_33 (by decide) ?_
  refine st_iast (j := ((2 * w - 1) + 1)) dX3_addBorder_34 rfl rfl rfl (by omega) (by omega) ?_
  refine st_aload_n dX3_addBorder_35 rfl ?_
  refine st_getr (i' := i) dX3_addBorder_36 fl_X3_25 rfl rfl rfl (fun h => h) ?_
  refine st_aload_n dX3_addBorder_39 rfl ?_
  refine st_get dX3_addBorder_40 fl_X3_9 rfl rfl rfl ?_
  refine fAt_v (x' := (w : Int)) hw ?_
  refine st_iconst dX3_addBorder_43 (by decide) ?_
  refine st_iast (j := w) dX3_addBorder_44 rfl rfl rfl rfl (by omega) ?_
  refine st_aload_n dX3_addBorder_45 rfl ?_
  refine st_dup dX3_addBorder_46 rfl ?_
  refine st_get dX3_addBorder_47 fl_X3_9 rfl rfl rfl ?_
  refine fAt_v (x' := (w : Int)) hw ?_
  refine st_iconst dX3_addBorder_50 (by decide) ?_
  refine st_iadd dX3_addBorder_51 (by omega) ?_
  refine st_put dX3_addBorder_52 fl_X3_9 fp_X3_0.1 (Or.inl fp_X3_0.2) rfl rfl rfl ?_
  refine st_return dX3_addBorder_55 rfl ⟨rfl, (by funext k a b; simp only [fcp, fup, adB]; grind (splits := 60))⟩
def drB (M : fM) (i w : Nat) : fM := fun k a b => if a = i ∧ k = 3 ∧ b < 2 * w - 3 then M 3 i (b + 1) else if a = i ∧ k = 2 ∧ b = 0 then (w : Int) - 1 else M k a b
set_option maxHeartbeats 4000000 in
set_option maxRecDepth 100000 in
theorem c_dropBorder {g : fG} {M : fM} {i w : Nat} (hw : M 2 i 0 = (w : Int)) (hw1 : 1 < w ∧ w ≤ 6) :
    fCv g Y_X3_dropBorder [vr 2 i] M (fun M' => M' = drB M i w) := by
  refine fCv_of _ [some (vr 2 i)] (by decide) (Nat.le_of_ble_eq_true rfl) rfl (fun h => h) ?_
  refine st_aload_n dX3_dropBorder_0 rfl ?_
  refine st_getr (i' := i) dX3_dropBorder_1 fl_X3_21 rfl rfl rfl (fun h => h) ?_
  refine st_iconst dX3_dropBorder_4 (by decide) ?_
  refine st_aload_n dX3_dropBorder_5 rfl ?_
  refine st_getr (i' := i) dX3_dropBorder_6 fl_X3_21 rfl rfl rfl (fun h => h) ?_
  refine st_iconst dX3_dropBorder_9 (by decide) ?_
  refine st_aload_n dX3_dropBorder_10 rfl ?_
  refine st_callVi [] [vi 0, vr 3 i, vi 1, vr 3 i] dX3_dropBorder_11 vl_X3_44 rfl rfl rfl rfl (Nat.le_of_ble_eq_true rfl) (by decide) (c_rowLength hw (by omega)) (fun z M1 q1 => ?_)
  obtain ⟨rfl, rfl⟩ := q1
  refine st_iconst dX3_dropBorder_14 (by decide) ?_
  refine st_isub dX3_dropBorder_15 (by omega) ?_
  refine st_copyi (a := 1) (b := 0) (n := (2 * w - 3)) dX3_dropBorder_16 lb_copy_X3 lb_copy_n lb_copy_s lb_sys rfl rfl rfl rfl rfl rfl rfl (by omega) (by omega) (by omega) (by decide) (Nat.le_of_ble_eq_true rfl) ?_
  refine st_aload_n dX3_dropBorder_19 rfl ?_
  refine st_dup dX3_dropBorder_20 rfl ?_
  refine st_get dX3_dropBorder_21 fl_X3_9 rfl rfl rfl ?_
  refine fAt_v (x' := (w : Int)) hw ?_
  refine st_iconst dX3_dropBorder_24 (by decide) ?_
  refine st_isub dX3_dropBorder_25 (by omega) ?_
  refine st_put dX3_dropBorder_26 fl_X3_9 fp_X3_0.1 (Or.inl fp_X3_0.2) rfl rfl rfl ?_
  refine st_return dX3_dropBorder_29 rfl ⟨rfl, (by funext k a b; simp only [fcp, fup, drB]; grind (splits := 60))⟩
def rvR (M : fM) (i L n : Nat) : fM := fun k a b => if k = 3 ∧ a = i ∧ (b < n ∨ (L < n + b ∧ b ≤ L)) then M 3 i (L - b) else M k a b
theorem rvR_0 (M : fM) (i L : Nat) : rvR M i L 0 = M := by
  funext k a b
  unfold rvR
  rw [if_neg (by omega)]
theorem rvR_off {M : fM} {i L n k a b : Nat} (h : ¬ (k = 3 ∧ a = i ∧ (b < n ∨ (L < n + b ∧ b ≤ L)))) : rvR M i L n k a b = M k a b := by
  unfold rvR
  rw [if_neg h]
theorem rvR_s {M : fM} {i L n : Nat} (h : n + n < L) : fup (fup (rvR M i L n) 3 i n (M 3 i (L - n))) 3 i (L - n) (M 3 i n) = rvR M i L (n + 1) := by
  funext k a b
  simp only [fup, rvR]
  by_cases e1 : k = 3 ∧ a = i ∧ b = L - n
  · have e2 : L - b = n := by omega
    rw [if_pos e1, if_pos ⟨e1.1, e1.2.1, Or.inr (by omega)⟩, e2]
  · rw [if_neg e1]
    by_cases e2 : k = 3 ∧ a = i ∧ b = n
    · rw [if_pos e2, if_pos ⟨e2.1, e2.2.1, Or.inl (by omega)⟩, e2.2.2]
    · rw [if_neg e2]
      by_cases e3 : k = 3 ∧ a = i ∧ (b < n ∨ (L < n + b ∧ b ≤ L))
      · rw [if_pos e3, if_pos ⟨e3.1, e3.2.1, by omega⟩]
      · rw [if_neg e3, if_neg (by omega)]
def rvA (M : fM) (i w : Nat) : fM := fun k a b => if k = 3 ∧ a = i ∧ b < 2 * w - 1 then M 3 i (2 * w - 2 - b) else M k a b
theorem rvR_end {M : fM} {i w : Nat} (hw : 1 ≤ w) : rvR M i (2 * w - 2) (w - 1) = rvA M i w := by
  funext k a b
  simp only [rvR, rvA]
  by_cases e : k = 3 ∧ a = i ∧ b < 2 * w - 1
  · rw [if_pos e]
    by_cases e2 : b = w - 1
    · rw [if_neg (by omega), e.1, e.2.1, e2, show 2 * w - 2 - (w - 1) = w - 1 by omega]
    · rw [if_pos ⟨e.1, e.2.1, by omega⟩]
  · rw [if_neg e, if_neg (by omega)]
set_option maxHeartbeats 4000000 in
set_option maxRecDepth 100000 in
theorem reverseRow_l {g : fG} {M : fM} {i w : Nat} (hw : M 2 i 0 = (w : Int)) (hw1 : 1 ≤ w ∧ w ≤ 6) :
    ∀ (n c : Nat), c + n = w - 1 → fAt g Y_X3_reverseRow 9 [some (vr 2 i), some (vi (((2 * w - 2) : Nat) : Int)), some (vi (c : Int)), none] [] (rvR M i (2 * w - 2) c) (fN (fun M' => M' = rvA M i w)) := by
  intro n
  induction n with
  | zero =>
    intro c hn
    have e : c = w - 1 := by omega
    subst e
    refine st_iload_n dX3_reverseRow_9 rfl ?_
    refine st_iload_n dX3_reverseRow_10 rfl ?_
    refine st_iload_n dX3_reverseRow_11 rfl ?_
    refine st_isub dX3_reverseRow_12 (by omega) ?_
    refine st_icmp_ge 52 dX3_reverseRow_13 (by decide) (fun h13 => ?_) (fun h13 => ?_)
    · skip
      refine st_return dX3_reverseRow_52 rfl ⟨rfl, rvR_end hw1.1⟩
    · skip
      exact absurd h13 (by omega)
  | succ n ih =>
    intro c hn
    refine st_iload_n dX3_reverseRow_9 rfl ?_
    refine st_iload_n dX3_reverseRow_10 rfl ?_
    refine st_iload_n dX3_reverseRow_11 rfl ?_
    refine st_isub dX3_reverseRow_12 (by omega) ?_
    refine st_icmp_ge 52 dX3_reverseRow_13 (by decide) (fun h13 => ?_) (fun h13 => ?_)
    · skip
      exact absurd h13 (by omega)
    · skip
      refine st_aload_n dX3_reverseRow_16 rfl ?_
      refine st_getr (i' := i) dX3_reverseRow_17 fl_X3_21 rfl rfl rfl (fun h => h) ?_
      refine st_iload_n dX3_reverseRow_20 rfl ?_
      refine st_iald (j := c) dX3_reverseRow_21 rfl rfl rfl rfl (by omega) ?_
      refine fAt_v (x' := M 3 i c) (rvR_off (by omega)) ?_
      refine st_istore_n (ls' := [some (vr 2 i), some (vi (((2 * w - 2) : Nat) : Int)), some (vi (c : Int)), some (vi (M 3 i c))]) dX3_reverseRow_22 (by decide) rfl rfl ?_
      refine st_aload_n dX3_reverseRow_23 rfl ?_
      refine st_getr (i' := i) dX3_reverseRow_24 fl_X3_21 rfl rfl rfl (fun h => h) ?_
      refine st_iload_n dX3_reverseRow_27 rfl ?_
      refine st_aload_n dX3_reverseRow_28 rfl ?_
      refine st_getr (i' := i) dX3_reverseRow_29 fl_X3_21 rfl rfl rfl (fun h => h) ?_
      refine st_iload_n dX3_reverseRow_32 rfl ?_
      refine st_iload_n dX3_reverseRow_33 rfl ?_
      refine st_isub dX3_reverseRow_34 (by omega) ?_
      refine st_iald (j := (2 * w - 2 - c)) dX3_reverseRow_35 rfl rfl rfl (by omega) (by omega) ?_
      refine fAt_v (x' := M 3 i (2 * w - 2 - c)) (rvR_off (by omega)) ?_
      refine st_iast (j := c) dX3_reverseRow_36 rfl rfl rfl rfl (by omega) ?_
      refine st_aload_n dX3_reverseRow_37 rfl ?_
      refine st_getr (i' := i) dX3_reverseRow_38 fl_X3_21 rfl rfl rfl (fun h => h) ?_
      refine st_iload_n dX3_reverseRow_41 rfl ?_
      refine st_iload_n dX3_reverseRow_42 rfl ?_
      refine st_isub dX3_reverseRow_43 (by omega) ?_
      refine st_iload_n dX3_reverseRow_44 rfl ?_
      refine st_iast (j := (2 * w - 2 - c)) dX3_reverseRow_45 rfl rfl rfl (by omega) (by omega) ?_
      refine fAt_m (rvR_s (by omega)) ?_
      refine st_iinc (ls' := [some (vr 2 i), some (vi (((2 * w - 2) : Nat) : Int)), some (vi ((c : Int) + 1)), some (vi (M 3 i c))]) dX3_reverseRow_46 rfl (by omega) (by decide) rfl rfl ?_
      refine st_goto 9 dX3_reverseRow_49 (by decide) ?_
      refine fAt_del 3 rfl ?_
      exact ih (c + 1) (by omega)
set_option maxHeartbeats 4000000 in
set_option maxRecDepth 100000 in
theorem c_reverseRow {g : fG} {M : fM} {i w : Nat} (hw : M 2 i 0 = (w : Int)) (hw1 : 1 ≤ w ∧ w ≤ 6) :
    fCv g Y_X3_reverseRow [vr 2 i] M (fun M' => M' = rvA M i w) := by
  refine fCv_of _ [some (vr 2 i), none, none, none] (by decide) (Nat.le_of_ble_eq_true rfl) rfl (fun h => h) ?_
  refine st_aload_n dX3_reverseRow_0 rfl ?_
  refine st_callVi [] [] dX3_reverseRow_1 vl_X3_44 rfl rfl rfl rfl (Nat.le_of_ble_eq_true rfl) (by decide) (c_rowLength hw (by omega)) (fun z M1 q1 => ?_)
  obtain ⟨rfl, rfl⟩ := q1
  refine st_iconst dX3_reverseRow_4 (by decide) ?_
  refine st_isub dX3_reverseRow_5 (by omega) ?_
  refine fAt_v (x' := ((2 * w - 2 : Nat) : Int)) (by omega) ?_
  refine st_istore_n (ls' := [some (vr 2 i), some (vi (((2 * w - 2) : Nat) : Int)), none, none]) dX3_reverseRow_6 (by decide) rfl rfl ?_
  refine st_iconst dX3_reverseRow_7 (by decide) ?_
  refine st_istore_n (ls' := [some (vr 2 i), some (vi (((2 * w - 2) : Nat) : Int)), some (vi 0), none]) dX3_reverseRow_8 (by decide) rfl rfl ?_
  refine fAt_m (rvR_0 M1 i (2 * w - 2)).symm ?_
  exact reverseRow_l hw hw1 (w - 1) 0 (by omega)
theorem land31 {x : Int} (h0 : 0 ≤ x) (h1 : x ≤ 9223372036854775807) : (Int64.ofInt x &&& Int64.ofInt 2147483647).toInt = x % 2147483648 := by
  have e1 : Int64.ofInt x = lN x.toNat := by unfold lN; rw [← Int64.ofInt_eq_ofNat]; congr 1; omega
  have e2 : Int64.ofInt 2147483647 = lN (2 ^ 31 - 1) := rfl
  have e3 : lN x.toNat &&& lN (2 ^ 31 - 1) = lN (x.toNat % 2 ^ 31) := by
    apply Int64.toBitVec_inj.mp
    rw [Int64.toBitVec_and]
    unfold lN
    rw [Int64.toBitVec_ofNat', Int64.toBitVec_ofNat', Int64.toBitVec_ofNat']
    apply BitVec.eq_of_toNat_eq
    rw [BitVec.toNat_and, BitVec.toNat_ofNat, BitVec.toNat_ofNat, BitVec.toNat_ofNat, Nat.mod_eq_of_lt (show x.toNat < 2 ^ 64 by omega), show (2 ^ 31 - 1) % 2 ^ 64 = 2 ^ 31 - 1 by decide, Nat.and_two_pow_sub_one_eq_mod, Nat.mod_eq_of_lt (show x.toNat % 2 ^ 31 < 2 ^ 64 by omega)]
  rw [e1, e2, e3, pk_lT (by omega)]
  omega
/-- a turn of a drift: the draw, the place, the number -/
def dDr (d : Int) : Int := (d * 1103515245 + 12345) % 2147483648
def drf (M : fM) (i w : Nat) (p : Int) : fM := fun k a b => if a = i ∧ k = 2 ∧ b = 2 then dDr (M 2 i 2) else if a = i ∧ k = 3 ∧ (b : Int) = dDr (M 2 i 2) / 65536 % ((2 * w - 1 : Nat) : Int) then dDr (M 2 i 2) / 256 % p else M k a b
set_option maxHeartbeats 4000000 in
set_option maxRecDepth 100000 in
theorem c_driftOnce {g : fG} {M : fM} {p : Int} {i w : Nat} (hw : M 2 i 0 = (w : Int)) (hw1 : 1 ≤ w ∧ w ≤ 6) (hp : 2 ≤ p ∧ p ≤ 97) (hd : 0 ≤ M 2 i 2 ∧ M 2 i 2 ≤ 2147483647) :
    fCv g Y_X3_driftOnce [vr 2 i, vi p] M (fun M' => M' = drf M i w p) := by
  refine fCv_of _ [some (vr 2 i), some (vi p)] (by decide) (Nat.le_of_ble_eq_true rfl) rfl (fun h => h) ?_
  refine st_aload_n dX3_driftOnce_0 rfl ?_
  refine st_aload_n dX3_driftOnce_1 rfl ?_
  refine st_get dX3_driftOnce_2 fl_X3_18 rfl rfl rfl ?_
  refine st_i2l dX3_driftOnce_5 ?_
  refine st_ldc2 (v := 1103515245) (1103515245) dX3_driftOnce_6 (ftb_in 500 (by decide +kernel) rfl) (by decide +kernel) ?_
  refine st_lmul dX3_driftOnce_9 (by omega) ?_
  refine st_ldc2 (v := 12345) (12345) dX3_driftOnce_10 (ftb_in 501 (by decide +kernel) rfl) (by decide +kernel) ?_
  refine st_ladd dX3_driftOnce_13 (by omega) ?_
  refine st_ldc2 (v := 2147483647) (2147483647) dX3_driftOnce_14 (ftb_in 502 (by decide +kernel) rfl) (by decide +kernel) ?_
  refine st_land dX3_driftOnce_17 ?_
  refine fAt_vl (x' := dDr (M 2 i 2)) (land31 (by omega) (by omega)) ?_
  have hdd : 0 ≤ dDr (M 2 i 2) ∧ dDr (M 2 i 2) < 2147483648 := modb (by decide)
  refine st_l2i dX3_driftOnce_18 (by omega) ?_
  refine st_put dX3_driftOnce_19 fl_X3_18 fp_X3_2.1 (Or.inl fp_X3_2.2) rfl rfl rfl ?_
  refine st_aload_n dX3_driftOnce_22 rfl ?_
  refine st_getr (i' := i) dX3_driftOnce_23 fl_X3_21 rfl rfl rfl (fun h => h) ?_
  refine st_aload_n dX3_driftOnce_26 rfl ?_
  refine st_get dX3_driftOnce_27 fl_X3_18 rfl rfl rfl ?_
  refine fAt_v (x' := dDr (M 2 i 2)) fup_eq ?_
  refine st_ldc (v := 65536) (65536) dX3_driftOnce_30 (ftb_in 503 (by decide +kernel) rfl) (by decide +kernel) ?_
  refine st_idiv dX3_driftOnce_32 (by omega) (by omega) ?_
  refine st_aload_n dX3_driftOnce_33 rfl ?_
  refine st_callVi [] [vi ((dDr (M 2 i 2)) / 65536), vr 3 i] dX3_driftOnce_34 vl_X3_44 rfl rfl rfl rfl (Nat.le_of_ble_eq_true rfl) (by decide) (c_rowLength (w := w) (by rw [fup_ne (by omega)]; exact hw) (by omega)) (fun z M1 q1 => ?_)
  obtain ⟨rfl, rfl⟩ := q1
  refine st_irem dX3_driftOnce_37 (by omega) (by omega) ?_
  have hpl := modb (x := dDr (M 2 i 2) / 65536) (p := ((2 * w - 1 : Nat) : Int)) (by omega)
  refine st_aload_n dX3_driftOnce_38 rfl ?_
  refine st_get dX3_driftOnce_39 fl_X3_18 rfl rfl rfl ?_
  refine fAt_v (x' := dDr (M 2 i 2)) fup_eq ?_
  refine st_sipush dX3_driftOnce_42 (by decide) ?_
  refine st_idiv dX3_driftOnce_45 (by omega) (by omega) ?_
  refine st_iload_n dX3_driftOnce_46 rfl ?_
  refine st_irem dX3_driftOnce_47 (by omega) (by omega) ?_
  refine st_iast (j := (dDr (M 2 i 2) / 65536 % ((2 * w - 1 : Nat) : Int)).toNat) dX3_driftOnce_48 rfl rfl rfl (Int.toNat_of_nonneg hpl.1).symm (by omega) ?_
  refine st_return dX3_driftOnce_49 rfl ⟨rfl, ?_⟩
  funext k a b
  simp only [fup, drf]
  by_cases e1 : a = i ∧ k = 2 ∧ b = 2
  · rw [if_pos e1, if_neg (by omega), if_pos ⟨e1.2.1, e1.1, e1.2.2⟩]
  · rw [if_neg e1]
    by_cases e2 : a = i ∧ k = 3 ∧ (b : Int) = dDr (M 2 i 2) / 65536 % ((2 * w - 1 : Nat) : Int)
    · rw [if_pos e2, if_pos ⟨e2.2.1, e2.1, by omega⟩]
    · rw [if_neg e2, if_neg (fun h => e2 ⟨h.2.1, h.1, by rw [h.2.2]; exact Int.toNat_of_nonneg hpl.1⟩), if_neg (fun h => e1 ⟨h.2.1, h.1, h.2.2⟩)]
end
