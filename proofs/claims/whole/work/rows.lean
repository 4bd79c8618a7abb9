section
-- ===== PART A: goes FIRST, ahead of the names: the tables' words, and 'selects' of the private methods out of them =====
/-- a private method of a class that the tables say can be made, by its rows of tables_1 -/
def lw_okq (q : MethodName × Nat) : Prop := (q.1.cls ≠ "java/lang/invoke/MethodHandle" ∧ q.1.cls ≠ "java/lang/invoke/VarHandle") ∧ Cond.instantiable q.1.cls q.2 ∈ tables_1 ∧ Cond.privateMethod q.1 ∈ tables_1 ∧ Cond.instanceMethod q.1 ∈ tables_1
theorem lw_p0 : lw_okq (⟨"SnowByNumber$Text", "startItem", "()V"⟩, 6) := ⟨⟨by decide +kernel, by decide +kernel⟩, List.mem_of_getElem? (i := 20) (by decide +kernel), List.mem_of_getElem? (i := 287) (by decide +kernel), List.mem_of_getElem? (i := 288) (by decide +kernel)⟩
theorem lw_p1 : lw_okq (⟨"SnowByNumber$Text", "addFigure", "(I)Z"⟩, 6) := ⟨⟨by decide +kernel, by decide +kernel⟩, List.mem_of_getElem? (i := 20) (by decide +kernel), List.mem_of_getElem? (i := 291) (by decide +kernel), List.mem_of_getElem? (i := 292) (by decide +kernel)⟩
theorem lw_p2 : lw_okq (⟨"SnowByNumber$Text", "endNumber", "()Z"⟩, 6) := ⟨⟨by decide +kernel, by decide +kernel⟩, List.mem_of_getElem? (i := 20) (by decide +kernel), List.mem_of_getElem? (i := 295) (by decide +kernel), List.mem_of_getElem? (i := 296) (by decide +kernel)⟩
theorem lw_p3 : lw_okq (⟨"SnowByNumber$Told", "setBarn", "(II)Z"⟩, 11) := ⟨⟨by decide +kernel, by decide +kernel⟩, List.mem_of_getElem? (i := 48) (by decide +kernel), List.mem_of_getElem? (i := 303) (by decide +kernel), List.mem_of_getElem? (i := 304) (by decide +kernel)⟩
theorem lw_p4 : lw_okq (⟨"SnowByNumber$Told", "setCost", "(II)Z"⟩, 11) := ⟨⟨by decide +kernel, by decide +kernel⟩, List.mem_of_getElem? (i := 48) (by decide +kernel), List.mem_of_getElem? (i := 308) (by decide +kernel), List.mem_of_getElem? (i := 309) (by decide +kernel)⟩
theorem lw_p5 : lw_okq (⟨"SnowByNumber$Told", "setOne", "(II)Z"⟩, 11) := ⟨⟨by decide +kernel, by decide +kernel⟩, List.mem_of_getElem? (i := 48) (by decide +kernel), List.mem_of_getElem? (i := 312) (by decide +kernel), List.mem_of_getElem? (i := 313) (by decide +kernel)⟩
theorem lw_p6 : lw_okq (⟨"SnowByNumber", "firstThatCannot", "(IIII)I"⟩, 10) := ⟨⟨by decide +kernel, by decide +kernel⟩, List.mem_of_getElem? (i := 12) (by decide +kernel), List.mem_of_getElem? (i := 376) (by decide +kernel), List.mem_of_getElem? (i := 377) (by decide +kernel)⟩
theorem lw_p7 : lw_okq (⟨"SnowByNumber", "moreInches", "(II)I"⟩, 10) := ⟨⟨by decide +kernel, by decide +kernel⟩, List.mem_of_getElem? (i := 12) (by decide +kernel), List.mem_of_getElem? (i := 380) (by decide +kernel), List.mem_of_getElem? (i := 381) (by decide +kernel)⟩
theorem lw_p8 : lw_okq (⟨"SnowByNumber$ThawRow", "weigh", "(ILSnowByNumber$Barn;LSnowByNumber$Told;)V"⟩, 4) := ⟨⟨by decide +kernel, by decide +kernel⟩, List.mem_of_getElem? (i := 167) (by decide +kernel), List.mem_of_getElem? (i := 408) (by decide +kernel), List.mem_of_getElem? (i := 409) (by decide +kernel)⟩
theorem lw_p9 : lw_okq (⟨"SnowByNumber$Barn", "forgetOldestSale", "()V"⟩, 8) := ⟨⟨by decide +kernel, by decide +kernel⟩, List.mem_of_getElem? (i := 107) (by decide +kernel), List.mem_of_getElem? (i := 428) (by decide +kernel), List.mem_of_getElem? (i := 429) (by decide +kernel)⟩
theorem lw_p10 : lw_okq (⟨"SnowByNumber$Letting", "startWithAll", "(LSnowByNumber$Barn;LSnowByNumber$Told;)V"⟩, 7) := ⟨⟨by decide +kernel, by decide +kernel⟩, List.mem_of_getElem? (i := 189) (by decide +kernel), List.mem_of_getElem? (i := 452) (by decide +kernel), List.mem_of_getElem? (i := 453) (by decide +kernel)⟩
theorem lw_p11 : lw_okq (⟨"SnowByNumber$Letting", "putBack", "(III)V"⟩, 7) := ⟨⟨by decide +kernel, by decide +kernel⟩, List.mem_of_getElem? (i := 189) (by decide +kernel), List.mem_of_getElem? (i := 457) (by decide +kernel), List.mem_of_getElem? (i := 458) (by decide +kernel)⟩
theorem lw_p12 : lw_okq (⟨"SnowByNumber$Letting", "isBetter", "()Z"⟩, 7) := ⟨⟨by decide +kernel, by decide +kernel⟩, List.mem_of_getElem? (i := 189) (by decide +kernel), List.mem_of_getElem? (i := 461) (by decide +kernel), List.mem_of_getElem? (i := 462) (by decide +kernel)⟩
theorem lw_p13 : lw_okq (⟨"SnowByNumber$Letting", "goOn", "(ILSnowByNumber$Barn;LSnowByNumber$Told;)V"⟩, 7) := ⟨⟨by decide +kernel, by decide +kernel⟩, List.mem_of_getElem? (i := 189) (by decide +kernel), List.mem_of_getElem? (i := 465) (by decide +kernel), List.mem_of_getElem? (i := 466) (by decide +kernel)⟩
theorem lw_p14 : lw_okq (⟨"SnowByNumber$Letting", "takeOut", "(III)V"⟩, 7) := ⟨⟨by decide +kernel, by decide +kernel⟩, List.mem_of_getElem? (i := 189) (by decide +kernel), List.mem_of_getElem? (i := 469) (by decide +kernel), List.mem_of_getElem? (i := 470) (by decide +kernel)⟩
theorem lw_p15 : lw_okq (⟨"SnowByNumber", "weightOfAll", "(II)I"⟩, 10) := ⟨⟨by decide +kernel, by decide +kernel⟩, List.mem_of_getElem? (i := 12) (by decide +kernel), List.mem_of_getElem? (i := 481) (by decide +kernel), List.mem_of_getElem? (i := 482) (by decide +kernel)⟩
def lw_privs_1 : List (MethodName × Nat) := [(⟨"SnowByNumber$Text", "startItem", "()V"⟩, 6), (⟨"SnowByNumber$Text", "addFigure", "(I)Z"⟩, 6), (⟨"SnowByNumber$Text", "endNumber", "()Z"⟩, 6), (⟨"SnowByNumber$Told", "setBarn", "(II)Z"⟩, 11), (⟨"SnowByNumber$Told", "setCost", "(II)Z"⟩, 11), (⟨"SnowByNumber$Told", "setOne", "(II)Z"⟩, 11), (⟨"SnowByNumber", "firstThatCannot", "(IIII)I"⟩, 10), (⟨"SnowByNumber", "moreInches", "(II)I"⟩, 10), (⟨"SnowByNumber$ThawRow", "weigh", "(ILSnowByNumber$Barn;LSnowByNumber$Told;)V"⟩, 4), (⟨"SnowByNumber$Barn", "forgetOldestSale", "()V"⟩, 8), (⟨"SnowByNumber$Letting", "startWithAll", "(LSnowByNumber$Barn;LSnowByNumber$Told;)V"⟩, 7), (⟨"SnowByNumber$Letting", "putBack", "(III)V"⟩, 7), (⟨"SnowByNumber$Letting", "isBetter", "()Z"⟩, 7), (⟨"SnowByNumber$Letting", "goOn", "(ILSnowByNumber$Barn;LSnowByNumber$Told;)V"⟩, 7), (⟨"SnowByNumber$Letting", "takeOut", "(III)V"⟩, 7), (⟨"SnowByNumber", "weightOfAll", "(II)I"⟩, 10)]
theorem lw_r1 : ∀ q ∈ lw_privs_1, lw_okq q := List.forall_mem_cons.mpr ⟨lw_p0, List.forall_mem_cons.mpr ⟨lw_p1, List.forall_mem_cons.mpr ⟨lw_p2, List.forall_mem_cons.mpr ⟨lw_p3, List.forall_mem_cons.mpr ⟨lw_p4, List.forall_mem_cons.mpr ⟨lw_p5, List.forall_mem_cons.mpr ⟨lw_p6, List.forall_mem_cons.mpr ⟨lw_p7, List.forall_mem_cons.mpr ⟨lw_p8, List.forall_mem_cons.mpr ⟨lw_p9, List.forall_mem_cons.mpr ⟨lw_p10, List.forall_mem_cons.mpr ⟨lw_p11, List.forall_mem_cons.mpr ⟨lw_p12, List.forall_mem_cons.mpr ⟨lw_p13, List.forall_mem_cons.mpr ⟨lw_p14, List.forall_mem_cons.mpr ⟨lw_p15, fun _ h => absurd h List.not_mem_nil⟩⟩⟩⟩⟩⟩⟩⟩⟩⟩⟩⟩⟩⟩⟩⟩
theorem lw_p16 : lw_okq (⟨"SnowByNumber", "weightOf", "(III)I"⟩, 10) := ⟨⟨by decide +kernel, by decide +kernel⟩, List.mem_of_getElem? (i := 12) (by decide +kernel), List.mem_of_getElem? (i := 485) (by decide +kernel), List.mem_of_getElem? (i := 486) (by decide +kernel)⟩
theorem lw_p17 : lw_okq (⟨"SnowByNumber", "weightOfYear", "(III)I"⟩, 10) := ⟨⟨by decide +kernel, by decide +kernel⟩, List.mem_of_getElem? (i := 12) (by decide +kernel), List.mem_of_getElem? (i := 489) (by decide +kernel), List.mem_of_getElem? (i := 490) (by decide +kernel)⟩
theorem lw_p18 : lw_okq (⟨"SnowByNumber$Marks", "addLayer", "(I)V"⟩, 3) := ⟨⟨by decide +kernel, by decide +kernel⟩, List.mem_of_getElem? (i := 150) (by decide +kernel), List.mem_of_getElem? (i := 520) (by decide +kernel), List.mem_of_getElem? (i := 521) (by decide +kernel)⟩
theorem lw_p19 : lw_okq (⟨"SnowByNumber", "tenthsOfYear", "(I)I"⟩, 10) := ⟨⟨by decide +kernel, by decide +kernel⟩, List.mem_of_getElem? (i := 12) (by decide +kernel), List.mem_of_getElem? (i := 537) (by decide +kernel), List.mem_of_getElem? (i := 538) (by decide +kernel)⟩
theorem lw_p20 : lw_okq (⟨"SnowByNumber", "keptAt", "(I)LSnowByNumber$Barn;"⟩, 10) := ⟨⟨by decide +kernel, by decide +kernel⟩, List.mem_of_getElem? (i := 12) (by decide +kernel), List.mem_of_getElem? (i := 574) (by decide +kernel), List.mem_of_getElem? (i := 575) (by decide +kernel)⟩
theorem lw_p21 : lw_okq (⟨"SnowByNumberModel", "begins", "()V"⟩, 25) := ⟨⟨by decide +kernel, by decide +kernel⟩, List.mem_of_getElem? (i := 590) (by decide +kernel), List.mem_of_getElem? (i := 596) (by decide +kernel), List.mem_of_getElem? (i := 597) (by decide +kernel)⟩
theorem lw_p22 : lw_okq (⟨"SnowByNumberModel", "takes", "()V"⟩, 25) := ⟨⟨by decide +kernel, by decide +kernel⟩, List.mem_of_getElem? (i := 590) (by decide +kernel), List.mem_of_getElem? (i := 600) (by decide +kernel), List.mem_of_getElem? (i := 601) (by decide +kernel)⟩
theorem lw_p23 : lw_okq (⟨"SnowByNumberModel", "isItem", "()Z"⟩, 25) := ⟨⟨by decide +kernel, by decide +kernel⟩, List.mem_of_getElem? (i := 590) (by decide +kernel), List.mem_of_getElem? (i := 697) (by decide +kernel), List.mem_of_getElem? (i := 698) (by decide +kernel)⟩
theorem lw_p24 : lw_okq (⟨"SnowByNumberModel", "number", "()I"⟩, 25) := ⟨⟨by decide +kernel, by decide +kernel⟩, List.mem_of_getElem? (i := 590) (by decide +kernel), List.mem_of_getElem? (i := 704) (by decide +kernel), List.mem_of_getElem? (i := 705) (by decide +kernel)⟩
theorem lw_p25 : lw_okq (⟨"SnowByNumberModel", "isGood", "(I)Z"⟩, 25) := ⟨⟨by decide +kernel, by decide +kernel⟩, List.mem_of_getElem? (i := 590) (by decide +kernel), List.mem_of_getElem? (i := 711) (by decide +kernel), List.mem_of_getElem? (i := 712) (by decide +kernel)⟩
theorem lw_p26 : lw_okq (⟨"SnowByNumberModel", "isIn", "(III)Z"⟩, 25) := ⟨⟨by decide +kernel, by decide +kernel⟩, List.mem_of_getElem? (i := 590) (by decide +kernel), List.mem_of_getElem? (i := 715) (by decide +kernel), List.mem_of_getElem? (i := 716) (by decide +kernel)⟩
theorem lw_p27 : lw_okq (⟨"SnowByNumberModel", "of", "(II)I"⟩, 25) := ⟨⟨by decide +kernel, by decide +kernel⟩, List.mem_of_getElem? (i := 590) (by decide +kernel), List.mem_of_getElem? (i := 729) (by decide +kernel), List.mem_of_getElem? (i := 730) (by decide +kernel)⟩
theorem lw_p28 : lw_okq (⟨"SnowByNumberModel", "costOf", "(I)I"⟩, 25) := ⟨⟨by decide +kernel, by decide +kernel⟩, List.mem_of_getElem? (i := 590) (by decide +kernel), List.mem_of_getElem? (i := 733) (by decide +kernel), List.mem_of_getElem? (i := 734) (by decide +kernel)⟩
theorem lw_p29 : lw_okq (⟨"SnowByNumberModel", "high", "()I"⟩, 25) := ⟨⟨by decide +kernel, by decide +kernel⟩, List.mem_of_getElem? (i := 590) (by decide +kernel), List.mem_of_getElem? (i := 741) (by decide +kernel), List.mem_of_getElem? (i := 742) (by decide +kernel)⟩
theorem lw_p30 : lw_okq (⟨"SnowByNumberModel", "load", "()I"⟩, 25) := ⟨⟨by decide +kernel, by decide +kernel⟩, List.mem_of_getElem? (i := 590) (by decide +kernel), List.mem_of_getElem? (i := 745) (by decide +kernel), List.mem_of_getElem? (i := 746) (by decide +kernel)⟩
theorem lw_p31 : lw_okq (⟨"SnowByNumberModel", "fits", "(II)Z"⟩, 25) := ⟨⟨by decide +kernel, by decide +kernel⟩, List.mem_of_getElem? (i := 590) (by decide +kernel), List.mem_of_getElem? (i := 749) (by decide +kernel), List.mem_of_getElem? (i := 750) (by decide +kernel)⟩
def lw_privs_2 : List (MethodName × Nat) := [(⟨"SnowByNumber", "weightOf", "(III)I"⟩, 10), (⟨"SnowByNumber", "weightOfYear", "(III)I"⟩, 10), (⟨"SnowByNumber$Marks", "addLayer", "(I)V"⟩, 3), (⟨"SnowByNumber", "tenthsOfYear", "(I)I"⟩, 10), (⟨"SnowByNumber", "keptAt", "(I)LSnowByNumber$Barn;"⟩, 10), (⟨"SnowByNumberModel", "begins", "()V"⟩, 25), (⟨"SnowByNumberModel", "takes", "()V"⟩, 25), (⟨"SnowByNumberModel", "isItem", "()Z"⟩, 25), (⟨"SnowByNumberModel", "number", "()I"⟩, 25), (⟨"SnowByNumberModel", "isGood", "(I)Z"⟩, 25), (⟨"SnowByNumberModel", "isIn", "(III)Z"⟩, 25), (⟨"SnowByNumberModel", "of", "(II)I"⟩, 25), (⟨"SnowByNumberModel", "costOf", "(I)I"⟩, 25), (⟨"SnowByNumberModel", "high", "()I"⟩, 25), (⟨"SnowByNumberModel", "load", "()I"⟩, 25), (⟨"SnowByNumberModel", "fits", "(II)Z"⟩, 25)]
theorem lw_r2 : ∀ q ∈ lw_privs_2, lw_okq q := List.forall_mem_cons.mpr ⟨lw_p16, List.forall_mem_cons.mpr ⟨lw_p17, List.forall_mem_cons.mpr ⟨lw_p18, List.forall_mem_cons.mpr ⟨lw_p19, List.forall_mem_cons.mpr ⟨lw_p20, List.forall_mem_cons.mpr ⟨lw_p21, List.forall_mem_cons.mpr ⟨lw_p22, List.forall_mem_cons.mpr ⟨lw_p23, List.forall_mem_cons.mpr ⟨lw_p24, List.forall_mem_cons.mpr ⟨lw_p25, List.forall_mem_cons.mpr ⟨lw_p26, List.forall_mem_cons.mpr ⟨lw_p27, List.forall_mem_cons.mpr ⟨lw_p28, List.forall_mem_cons.mpr ⟨lw_p29, List.forall_mem_cons.mpr ⟨lw_p30, List.forall_mem_cons.mpr ⟨lw_p31, fun _ h => absurd h List.not_mem_nil⟩⟩⟩⟩⟩⟩⟩⟩⟩⟩⟩⟩⟩⟩⟩⟩
theorem lw_p32 : lw_okq (⟨"SnowByNumberModel", "isLayer", "(I)Z"⟩, 25) := ⟨⟨by decide +kernel, by decide +kernel⟩, List.mem_of_getElem? (i := 590) (by decide +kernel), List.mem_of_getElem? (i := 757) (by decide +kernel), List.mem_of_getElem? (i := 758) (by decide +kernel)⟩
theorem lw_p33 : lw_okq (⟨"SnowByNumberModel", "lostBy", "(I)I"⟩, 25) := ⟨⟨by decide +kernel, by decide +kernel⟩, List.mem_of_getElem? (i := 590) (by decide +kernel), List.mem_of_getElem? (i := 779) (by decide +kernel), List.mem_of_getElem? (i := 780) (by decide +kernel)⟩
theorem lw_p34 : lw_okq (⟨"SnowByNumberModel", "years", "(I)I"⟩, 25) := ⟨⟨by decide +kernel, by decide +kernel⟩, List.mem_of_getElem? (i := 590) (by decide +kernel), List.mem_of_getElem? (i := 803) (by decide +kernel), List.mem_of_getElem? (i := 804) (by decide +kernel)⟩
theorem lw_p35 : lw_okq (⟨"SnowByNumberModel", "weights", "(III)J"⟩, 25) := ⟨⟨by decide +kernel, by decide +kernel⟩, List.mem_of_getElem? (i := 590) (by decide +kernel), List.mem_of_getElem? (i := 817) (by decide +kernel), List.mem_of_getElem? (i := 818) (by decide +kernel)⟩
theorem lw_p36 : lw_okq (⟨"SnowByNumberModel", "weight", "(III)J"⟩, 25) := ⟨⟨by decide +kernel, by decide +kernel⟩, List.mem_of_getElem? (i := 590) (by decide +kernel), List.mem_of_getElem? (i := 821) (by decide +kernel), List.mem_of_getElem? (i := 822) (by decide +kernel)⟩
theorem lw_p37 : lw_okq (⟨"SnowByNumberModel", "lowest", "(JJ)V"⟩, 25) := ⟨⟨by decide +kernel, by decide +kernel⟩, List.mem_of_getElem? (i := 590) (by decide +kernel), List.mem_of_getElem? (i := 825) (by decide +kernel), List.mem_of_getElem? (i := 826) (by decide +kernel)⟩
theorem lw_p38 : lw_okq (⟨"SnowByNumberModel", "shows", "()I"⟩, 25) := ⟨⟨by decide +kernel, by decide +kernel⟩, List.mem_of_getElem? (i := 590) (by decide +kernel), List.mem_of_getElem? (i := 845) (by decide +kernel), List.mem_of_getElem? (i := 846) (by decide +kernel)⟩
theorem lw_p39 : lw_okq (⟨"SnowByNumberModel", "tenthsOf", "(I)I"⟩, 25) := ⟨⟨by decide +kernel, by decide +kernel⟩, List.mem_of_getElem? (i := 590) (by decide +kernel), List.mem_of_getElem? (i := 858) (by decide +kernel), List.mem_of_getElem? (i := 859) (by decide +kernel)⟩
theorem lw_p40 : lw_okq (⟨"SnowByNumberModel", "comes", "(I)I"⟩, 25) := ⟨⟨by decide +kernel, by decide +kernel⟩, List.mem_of_getElem? (i := 590) (by decide +kernel), List.mem_of_getElem? (i := 886) (by decide +kernel), List.mem_of_getElem? (i := 887) (by decide +kernel)⟩
theorem lw_p41 : lw_okq (⟨"SnowByNumberModel", "copies", "(II)V"⟩, 25) := ⟨⟨by decide +kernel, by decide +kernel⟩, List.mem_of_getElem? (i := 590) (by decide +kernel), List.mem_of_getElem? (i := 901) (by decide +kernel), List.mem_of_getElem? (i := 902) (by decide +kernel)⟩
def lw_privs_3 : List (MethodName × Nat) := [(⟨"SnowByNumberModel", "isLayer", "(I)Z"⟩, 25), (⟨"SnowByNumberModel", "lostBy", "(I)I"⟩, 25), (⟨"SnowByNumberModel", "years", "(I)I"⟩, 25), (⟨"SnowByNumberModel", "weights", "(III)J"⟩, 25), (⟨"SnowByNumberModel", "weight", "(III)J"⟩, 25), (⟨"SnowByNumberModel", "lowest", "(JJ)V"⟩, 25), (⟨"SnowByNumberModel", "shows", "()I"⟩, 25), (⟨"SnowByNumberModel", "tenthsOf", "(I)I"⟩, 25), (⟨"SnowByNumberModel", "comes", "(I)I"⟩, 25), (⟨"SnowByNumberModel", "copies", "(II)V"⟩, 25)]
theorem lw_r3 : ∀ q ∈ lw_privs_3, lw_okq q := List.forall_mem_cons.mpr ⟨lw_p32, List.forall_mem_cons.mpr ⟨lw_p33, List.forall_mem_cons.mpr ⟨lw_p34, List.forall_mem_cons.mpr ⟨lw_p35, List.forall_mem_cons.mpr ⟨lw_p36, List.forall_mem_cons.mpr ⟨lw_p37, List.forall_mem_cons.mpr ⟨lw_p38, List.forall_mem_cons.mpr ⟨lw_p39, List.forall_mem_cons.mpr ⟨lw_p40, List.forall_mem_cons.mpr ⟨lw_p41, fun _ h => absurd h List.not_mem_nil⟩⟩⟩⟩⟩⟩⟩⟩⟩⟩
def lw_privs : List (MethodName × Nat) := lw_privs_1 ++ (lw_privs_2 ++ (lw_privs_3))
def lw_tbl : List Cond := k2_sels lw_privs ++ tables_1
theorem lw_privs_ok : ∀ q ∈ lw_privs, lw_okq q := by
  show ∀ q ∈ lw_privs_1 ++ (lw_privs_2 ++ (lw_privs_3)), lw_okq q
  exact List.forall_mem_append.mpr ⟨lw_r1, List.forall_mem_append.mpr ⟨lw_r2, lw_r3⟩⟩
-- ===== end of PART A; then your names; then what follows =====
end
section
/-! ===== BEGIN words of one list among another's, by their places ===== -/
theorem goodIn_r {big : List Cond} (ws : List Cond) (ps : List Nat) (hp : ws = ps.filterMap (fun i => big[i]?)) (h : ws.all goodWord = true) : GoodIn big ws := by
  intro w hw
  have h1 := List.all_eq_true.mp h w hw
  rw [hp] at hw
  obtain ⟨i, -, hi⟩ := List.mem_filterMap.mp hw
  have hm : w ∈ big := by first | exact List.mem_of_getElem? hi | exact List.getElem?_mem hi
  exact ⟨hm, good_of_word h1⟩
theorem goodIn_app {big a b : List Cond} (ha : GoodIn big a) (hb : GoodIn big b) : GoodIn big (a ++ b) := fun w h => (List.mem_append.mp h).elim (ha w) (hb w)
theorem goodIn_ca {big a b : List Cond} {c : Cond} (ha : GoodIn big (c :: a)) (hb : GoodIn big b) : GoodIn big (c :: (a ++ b)) := fun w h => (List.mem_cons.mp h).elim (fun e => ha w (List.mem_cons.mpr (Or.inl e))) (fun h => (List.mem_append.mp h).elim (fun h => ha w (List.mem_cons.mpr (Or.inr h))) (hb w))
theorem goodIn_sub {big ws : List Cond} (hm : ∀ w ∈ ws, w ∈ big) (h : ws.all goodWord = true) : GoodIn big ws := fun w hw => ⟨hm w hw, good_of_word (List.all_eq_true.mp h w hw)⟩
/-! ===== END ===== -/


/-! ===== BEGIN printed: names, fields, word lists, decode rows ===== -/
def RX0 : String := "SnowByNumber$Barn"
def TX0 : u_T := fun k => match k with
  | 0 => ("SnowByNumber$Barn", "count", "I", false)
  | 1 => ("SnowByNumber$Barn", "tenths", "[I", true)
  | 2 => ("SnowByNumber$Barn", "shown", "[I", true)
  | 3 => ("SnowByNumber$Barn", "coin", "I", false)
  | 4 => ("SnowByNumber$Barn", "saleCount", "I", false)
  | 5 => ("SnowByNumber$Barn", "saleLayer", "[I", true)
  | 6 => ("SnowByNumber$Barn", "saleTenths", "[I", true)
  | _ => ("SnowByNumber$Barn", "salePaid", "[I", true)
def tyX0 : Nat → FieldType := fun k => match k with
  | 0 => .int
  | 1 => .array .int
  | 2 => .array .int
  | 3 => .int
  | 4 => .int
  | 5 => .array .int
  | 6 => .array .int
  | _ => .array .int
abbrev wsX00 : List Cond := u_ws RX0 TX0 8
theorem nmX0 : ∀ a, a < 8 → ∀ b, b < 8 → a ≠ b → (TX0 a).2.1 ≠ (TX0 b).2.1 := by decide +kernel
theorem tyX0_ok : ∀ k, k < 8 → parseFieldDescriptor (TX0 k).2.2.1 = some (tyX0 k) := by decide +kernel
abbrev cX0_init : ByteArray := prog_2_method_1_code
def yX0_init : MethodName := ⟨RX0, "<init>", "()V"⟩
abbrev cX0_clear : ByteArray := prog_2_method_2_code
def yX0_clear : MethodName := ⟨RX0, "clear", "()V"⟩
abbrev cX0_copyFrom : ByteArray := prog_2_method_3_code
def yX0_copyFrom : MethodName := ⟨RX0, "copyFrom", "(LSnowByNumber$Barn;)V"⟩
abbrev cX0_has : ByteArray := prog_2_method_4_code
def yX0_has : MethodName := ⟨RX0, "has", "(I)Z"⟩
abbrev cX0_high : ByteArray := prog_2_method_5_code
def yX0_high : MethodName := ⟨RX0, "high", "()I"⟩
abbrev cX0_load : ByteArray := prog_2_method_6_code
def yX0_load : MethodName := ⟨RX0, "load", "(LSnowByNumber$Told;)I"⟩
abbrev cX0_comeIn : ByteArray := prog_2_method_7_code
def yX0_comeIn : MethodName := ⟨RX0, "comeIn", "(II)V"⟩
abbrev cX0_doorOf : ByteArray := prog_2_method_8_code
def yX0_doorOf : MethodName := ⟨RX0, "doorOf", "(I)I"⟩
abbrev cX0_melt : ByteArray := prog_2_method_9_code
def yX0_melt : MethodName := ⟨RX0, "melt", "(II)I"⟩
abbrev cX0_addSale : ByteArray := prog_2_method_10_code
def yX0_addSale : MethodName := ⟨RX0, "addSale", "(III)V"⟩
abbrev cX0_forgetOldestSale : ByteArray := prog_2_method_11_code
def yX0_forgetOldestSale : MethodName := ⟨RX0, "forgetOldestSale", "()V"⟩
abbrev cX0_takeSaleBack : ByteArray := prog_2_method_12_code
def yX0_takeSaleBack : MethodName := ⟨RX0, "takeSaleBack", "()I"⟩
def RX1 : String := "SnowByNumber$Letting"
def TX1 : u_T := fun k => match k with
  | 0 => ("SnowByNumber$Letting", "layersOfYear", "[I", true)
  | 1 => ("SnowByNumber$Letting", "high", "I", false)
  | 2 => ("SnowByNumber$Letting", "load", "I", false)
  | 3 => ("SnowByNumber$Letting", "years", "I", false)
  | 4 => ("SnowByNumber$Letting", "bestSet", "I", false)
  | 5 => ("SnowByNumber$Letting", "bestYears", "I", false)
  | _ => ("SnowByNumber$Letting", "bestTenths", "I", false)
def tyX1 : Nat → FieldType := fun k => match k with
  | 0 => .array .int
  | 1 => .int
  | 2 => .int
  | 3 => .int
  | 4 => .int
  | 5 => .int
  | _ => .int
abbrev wsX10 : List Cond := u_ws RX1 TX1 7
theorem nmX1 : ∀ a, a < 7 → ∀ b, b < 7 → a ≠ b → (TX1 a).2.1 ≠ (TX1 b).2.1 := by decide +kernel
theorem tyX1_ok : ∀ k, k < 7 → parseFieldDescriptor (TX1 k).2.2.1 = some (tyX1 k) := by decide +kernel
abbrev cX1_init : ByteArray := prog_3_method_1_code
def yX1_init : MethodName := ⟨RX1, "<init>", "()V"⟩
abbrev cX1_choose : ByteArray := prog_3_method_2_code
def yX1_choose : MethodName := ⟨RX1, "choose", "(IILSnowByNumber$Barn;LSnowByNumber$Told;)V"⟩
abbrev cX1_startWithAll : ByteArray := prog_3_method_3_code
def yX1_startWithAll : MethodName := ⟨RX1, "startWithAll", "(LSnowByNumber$Barn;LSnowByNumber$Told;)V"⟩
abbrev cX1_isBetter : ByteArray := prog_3_method_4_code
def yX1_isBetter : MethodName := ⟨RX1, "isBetter", "()Z"⟩
abbrev cX1_goOn : ByteArray := prog_3_method_5_code
def yX1_goOn : MethodName := ⟨RX1, "goOn", "(ILSnowByNumber$Barn;LSnowByNumber$Told;)V"⟩
abbrev cX1_putBack : ByteArray := prog_3_method_6_code
def yX1_putBack : MethodName := ⟨RX1, "putBack", "(III)V"⟩
abbrev cX1_takeOut : ByteArray := prog_3_method_7_code
def yX1_takeOut : MethodName := ⟨RX1, "takeOut", "(III)V"⟩
def RX2 : String := "SnowByNumber$Marks"
def TX2 : u_T := fun k => match k with
  | 0 => ("SnowByNumber$Marks", "dusts", "[I", true)
  | 1 => ("SnowByNumber$Marks", "count", "I", false)
  | _ => ("SnowByNumber$Marks", "changes", "[I", true)
def tyX2 : Nat → FieldType := fun k => match k with
  | 0 => .array .int
  | 1 => .int
  | _ => .array .int
abbrev wsX20 : List Cond := u_ws RX2 TX2 3
theorem nmX2 : ∀ a, a < 3 → ∀ b, b < 3 → a ≠ b → (TX2 a).2.1 ≠ (TX2 b).2.1 := by decide +kernel
theorem tyX2_ok : ∀ k, k < 3 → parseFieldDescriptor (TX2 k).2.2.1 = some (tyX2 k) := by decide +kernel
abbrev cX2_init : ByteArray := prog_4_method_1_code
def yX2_init : MethodName := ⟨RX2, "<init>", "()V"⟩
abbrev cX2_add : ByteArray := prog_4_method_2_code
def yX2_add : MethodName := ⟨RX2, "add", "(I)Z"⟩
abbrev cX2_clear : ByteArray := prog_4_method_3_code
def yX2_clear : MethodName := ⟨RX2, "clear", "()I"⟩
abbrev cX2_changesTo : ByteArray := prog_4_method_4_code
def yX2_changesTo : MethodName := ⟨RX2, "changesTo", "(LSnowByNumber$Barn;)I"⟩
abbrev cX2_addLayer : ByteArray := prog_4_method_5_code
def yX2_addLayer : MethodName := ⟨RX2, "addLayer", "(I)V"⟩
abbrev cX2_firstUnlike : ByteArray := prog_4_method_6_code
def yX2_firstUnlike : MethodName := ⟨RX2, "firstUnlike", "(LSnowByNumber$Barn;)I"⟩
def RX3 : String := "SnowByNumber$Text"
def TX3 : u_T := fun k => match k with
  | 0 => ("SnowByNumber$Text", "bytes", "[B", true)
  | 1 => ("SnowByNumber$Text", "length", "I", false)
  | 2 => ("SnowByNumber$Text", "numbers", "[I", true)
  | 3 => ("SnowByNumber$Text", "numberCount", "I", false)
  | 4 => ("SnowByNumber$Text", "figures", "I", false)
  | _ => ("SnowByNumber$Text", "value", "I", false)
def tyX3 : Nat → FieldType := fun k => match k with
  | 0 => .array .byte
  | 1 => .int
  | 2 => .array .int
  | 3 => .int
  | 4 => .int
  | _ => .int
abbrev wsX30 : List Cond := u_ws RX3 TX3 6
theorem nmX3 : ∀ a, a < 6 → ∀ b, b < 6 → a ≠ b → (TX3 a).2.1 ≠ (TX3 b).2.1 := by decide +kernel
theorem tyX3_ok : ∀ k, k < 6 → parseFieldDescriptor (TX3 k).2.2.1 = some (tyX3 k) := by decide +kernel
abbrev cX3_init : ByteArray := prog_5_method_1_code
def yX3_init : MethodName := ⟨RX3, "<init>", "()V"⟩
abbrev cX3_append : ByteArray := prog_5_method_2_code
def yX3_append : MethodName := ⟨RX3, "append", "(IJ)Z"⟩
abbrev cX3_clear : ByteArray := prog_5_method_3_code
def yX3_clear : MethodName := ⟨RX3, "clear", "()I"⟩
abbrev cX3_tellTo : ByteArray := prog_5_method_4_code
def yX3_tellTo : MethodName := ⟨RX3, "tellTo", "(LSnowByNumber$Told;)I"⟩
abbrev cX3_startItem : ByteArray := prog_5_method_5_code
def yX3_startItem : MethodName := ⟨RX3, "startItem", "()V"⟩
abbrev cX3_addFigure : ByteArray := prog_5_method_6_code
def yX3_addFigure : MethodName := ⟨RX3, "addFigure", "(I)Z"⟩
abbrev cX3_endNumber : ByteArray := prog_5_method_7_code
def yX3_endNumber : MethodName := ⟨RX3, "endNumber", "()Z"⟩
def RX4 : String := "SnowByNumber$ThawRow"
def TX4 : u_T := fun k => match k with
  | 0 => ("SnowByNumber$ThawRow", "lostBy", "[[I", true)
  | 1 => ("SnowByNumber$ThawRow", "lost", "I", false)
  | 2 => ("SnowByNumber$ThawRow", "first", "I", false)
  | _ => ("SnowByNumber$ThawRow", "second", "I", false)
def tyX4 : Nat → FieldType := fun k => match k with
  | 0 => .array (.array .int)
  | 1 => .int
  | 2 => .int
  | _ => .int
abbrev wsX40 : List Cond := u_ws RX4 TX4 4
theorem nmX4 : ∀ a, a < 4 → ∀ b, b < 4 → a ≠ b → (TX4 a).2.1 ≠ (TX4 b).2.1 := by decide +kernel
theorem tyX4_ok : ∀ k, k < 4 → parseFieldDescriptor (TX4 k).2.2.1 = some (tyX4 k) := by decide +kernel
abbrev cX4_init : ByteArray := prog_6_method_1_code
def yX4_init : MethodName := ⟨RX4, "<init>", "()V"⟩
abbrev cX4_choose : ByteArray := prog_6_method_2_code
def yX4_choose : MethodName := ⟨RX4, "choose", "(ILSnowByNumber$Barn;LSnowByNumber$Told;)V"⟩
abbrev cX4_doorAt : ByteArray := prog_6_method_3_code
def yX4_doorAt : MethodName := ⟨RX4, "doorAt", "(I)I"⟩
abbrev cX4_weigh : ByteArray := prog_6_method_4_code
def yX4_weigh : MethodName := ⟨RX4, "weigh", "(ILSnowByNumber$Barn;LSnowByNumber$Told;)V"⟩
def RX5 : String := "SnowByNumber$Told"
def TX5 : u_T := fun k => match k with
  | 0 => ("SnowByNumber$Told", "beams", "I", false)
  | 1 => ("SnowByNumber$Told", "roof", "I", false)
  | 2 => ("SnowByNumber$Told", "thaw", "I", false)
  | 3 => ("SnowByNumber$Told", "slip", "I", false)
  | 4 => ("SnowByNumber$Told", "more", "I", false)
  | 5 => ("SnowByNumber$Told", "fallCount", "I", false)
  | 6 => ("SnowByNumber$Told", "year", "[I", true)
  | 7 => ("SnowByNumber$Told", "inches", "[I", true)
  | 8 => ("SnowByNumber$Told", "heavy", "[I", true)
  | 9 => ("SnowByNumber$Told", "dust", "[I", true)
  | _ => ("SnowByNumber$Told", "costOfYear", "[I", true)
def tyX5 : Nat → FieldType := fun k => match k with
  | 0 => .int
  | 1 => .int
  | 2 => .int
  | 3 => .int
  | 4 => .int
  | 5 => .int
  | 6 => .array .int
  | 7 => .array .int
  | 8 => .array .int
  | 9 => .array .int
  | _ => .array .int
abbrev wsX50 : List Cond := u_ws RX5 TX5 11
theorem nmX5 : ∀ a, a < 11 → ∀ b, b < 11 → a ≠ b → (TX5 a).2.1 ≠ (TX5 b).2.1 := by decide +kernel
theorem tyX5_ok : ∀ k, k < 11 → parseFieldDescriptor (TX5 k).2.2.1 = some (tyX5 k) := by decide +kernel
abbrev cX5_init : ByteArray := prog_7_method_1_code
def yX5_init : MethodName := ⟨RX5, "<init>", "()V"⟩
abbrev cX5_forget : ByteArray := prog_7_method_2_code
def yX5_forget : MethodName := ⟨RX5, "forget", "()V"⟩
abbrev cX5_take : ByteArray := prog_7_method_3_code
def yX5_take : MethodName := ⟨RX5, "take", "(I[II)Z"⟩
abbrev cX5_setBarn : ByteArray := prog_7_method_4_code
def yX5_setBarn : MethodName := ⟨RX5, "setBarn", "(II)Z"⟩
abbrev cX5_addFall : ByteArray := prog_7_method_5_code
def yX5_addFall : MethodName := ⟨RX5, "addFall", "(IIII)Z"⟩
abbrev cX5_setCost : ByteArray := prog_7_method_6_code
def yX5_setCost : MethodName := ⟨RX5, "setCost", "(II)Z"⟩
abbrev cX5_setOne : ByteArray := prog_7_method_7_code
def yX5_setOne : MethodName := ⟨RX5, "setOne", "(II)Z"⟩
abbrev cX5_costOf : ByteArray := prog_7_method_8_code
def yX5_costOf : MethodName := ⟨RX5, "costOf", "(I)I"⟩
abbrev cX5_bears : ByteArray := prog_7_method_9_code
def yX5_bears : MethodName := ⟨RX5, "bears", "(II)Z"⟩
def RX6 : String := "SnowByNumber"
def TX6 : u_T := fun k => match k with
  | 0 => ("SnowByNumber", "text", "LSnowByNumber$Text;", true)
  | 1 => ("SnowByNumber", "laid", "LSnowByNumber$Told;", false)
  | 2 => ("SnowByNumber", "draft", "LSnowByNumber$Told;", false)
  | 3 => ("SnowByNumber", "barn", "LSnowByNumber$Barn;", true)
  | 4 => ("SnowByNumber", "keptFirst", "LSnowByNumber$Barn;", true)
  | 5 => ("SnowByNumber", "keptSecond", "LSnowByNumber$Barn;", true)
  | 6 => ("SnowByNumber", "keptCount", "I", false)
  | 7 => ("SnowByNumber", "marks", "LSnowByNumber$Marks;", true)
  | 8 => ("SnowByNumber", "thawRow", "LSnowByNumber$ThawRow;", true)
  | _ => ("SnowByNumber", "letting", "LSnowByNumber$Letting;", true)
def tyX6 : Nat → FieldType := fun k => match k with
  | 0 => .object "SnowByNumber$Text"
  | 1 => .object "SnowByNumber$Told"
  | 2 => .object "SnowByNumber$Told"
  | 3 => .object "SnowByNumber$Barn"
  | 4 => .object "SnowByNumber$Barn"
  | 5 => .object "SnowByNumber$Barn"
  | 6 => .int
  | 7 => .object "SnowByNumber$Marks"
  | 8 => .object "SnowByNumber$ThawRow"
  | _ => .object "SnowByNumber$Letting"
abbrev wsX60 : List Cond := u_ws RX6 TX6 10
theorem nmX6 : ∀ a, a < 10 → ∀ b, b < 10 → a ≠ b → (TX6 a).2.1 ≠ (TX6 b).2.1 := by decide +kernel
theorem tyX6_ok : ∀ k, k < 10 → parseFieldDescriptor (TX6 k).2.2.1 = some (tyX6 k) := by decide +kernel
abbrev cX6_init : ByteArray := prog_1_method_1_code
def yX6_init : MethodName := ⟨RX6, "<init>", "()V"⟩
abbrev cX6_write : ByteArray := prog_1_method_2_code
def yX6_write : MethodName := ⟨RX6, "write", "(IJ)I"⟩
abbrev cX6_wipe : ByteArray := prog_1_method_3_code
def yX6_wipe : MethodName := ⟨RX6, "wipe", "()I"⟩
abbrev cX6_fault : ByteArray := prog_1_method_4_code
def yX6_fault : MethodName := ⟨RX6, "fault", "()I"⟩
abbrev cX6_lay : ByteArray := prog_1_method_5_code
def yX6_lay : MethodName := ⟨RX6, "lay", "()I"⟩
abbrev cX6_falls : ByteArray := prog_1_method_6_code
def yX6_falls : MethodName := ⟨RX6, "falls", "(II)I"⟩
abbrev cX6_fall : ByteArray := prog_1_method_7_code
def yX6_fall : MethodName := ⟨RX6, "fall", "()I"⟩
abbrev cX6_layer : ByteArray := prog_1_method_8_code
def yX6_layer : MethodName := ⟨RX6, "layer", "(II)I"⟩
abbrev cX6_firstOut : ByteArray := prog_1_method_9_code
def yX6_firstOut : MethodName := ⟨RX6, "firstOut", "()I"⟩
abbrev cX6_thaw : ByteArray := prog_1_method_10_code
def yX6_thaw : MethodName := ⟨RX6, "thaw", "(I)I"⟩
abbrev cX6_doors : ByteArray := prog_1_method_11_code
def yX6_doors : MethodName := ⟨RX6, "doors", "(II)I"⟩
abbrev cX6_sell : ByteArray := prog_1_method_12_code
def yX6_sell : MethodName := ⟨RX6, "sell", "(II)I"⟩
abbrev cX6_undo : ByteArray := prog_1_method_13_code
def yX6_undo : MethodName := ⟨RX6, "undo", "()I"⟩
abbrev cX6_swap : ByteArray := prog_1_method_14_code
def yX6_swap : MethodName := ⟨RX6, "swap", "(II)I"⟩
abbrev cX6_letGo : ByteArray := prog_1_method_15_code
def yX6_letGo : MethodName := ⟨RX6, "letGo", "(III)I"⟩
abbrev cX6_odds : ByteArray := prog_1_method_16_code
def yX6_odds : MethodName := ⟨RX6, "odds", "(IIII)I"⟩
abbrev cX6_likeliest : ByteArray := prog_1_method_17_code
def yX6_likeliest : MethodName := ⟨RX6, "likeliest", "(II)I"⟩
abbrev cX6_mark : ByteArray := prog_1_method_18_code
def yX6_mark : MethodName := ⟨RX6, "mark", "(I)I"⟩
abbrev cX6_noMarks : ByteArray := prog_1_method_19_code
def yX6_noMarks : MethodName := ⟨RX6, "noMarks", "()I"⟩
abbrev cX6_far : ByteArray := prog_1_method_20_code
def yX6_far : MethodName := ⟨RX6, "far", "()I"⟩
abbrev cX6_odd : ByteArray := prog_1_method_21_code
def yX6_odd : MethodName := ⟨RX6, "odd", "()I"⟩
abbrev cX6_wish : ByteArray := prog_1_method_22_code
def yX6_wish : MethodName := ⟨RX6, "wish", "(I)I"⟩
abbrev cX6_nearest : ByteArray := prog_1_method_23_code
def yX6_nearest : MethodName := ⟨RX6, "nearest", "(II)I"⟩
abbrev cX6_moved : ByteArray := prog_1_method_24_code
def yX6_moved : MethodName := ⟨RX6, "moved", "(I)I"⟩
abbrev cX6_rent : ByteArray := prog_1_method_25_code
def yX6_rent : MethodName := ⟨RX6, "rent", "(I)J"⟩
abbrev cX6_winter : ByteArray := prog_1_method_26_code
def yX6_winter : MethodName := ⟨RX6, "winter", "(I)I"⟩
abbrev cX6_ten : ByteArray := prog_1_method_27_code
def yX6_ten : MethodName := ⟨RX6, "ten", "(I)I"⟩
abbrev cX6_keep : ByteArray := prog_1_method_28_code
def yX6_keep : MethodName := ⟨RX6, "keep", "()I"⟩
abbrev cX6_back : ByteArray := prog_1_method_29_code
def yX6_back : MethodName := ⟨RX6, "back", "()I"⟩
abbrev cX6_count : ByteArray := prog_1_method_30_code
def yX6_count : MethodName := ⟨RX6, "count", "(I)I"⟩
abbrev cX6_inside : ByteArray := prog_1_method_31_code
def yX6_inside : MethodName := ⟨RX6, "inside", "(III)Z"⟩
abbrev cX6_isYear : ByteArray := prog_1_method_32_code
def yX6_isYear : MethodName := ⟨RX6, "isYear", "(I)Z"⟩
abbrev cX6_isWinter : ByteArray := prog_1_method_33_code
def yX6_isWinter : MethodName := ⟨RX6, "isWinter", "(I)Z"⟩
abbrev cX6_isPiece : ByteArray := prog_1_method_34_code
def yX6_isPiece : MethodName := ⟨RX6, "isPiece", "(II)Z"⟩
abbrev cX6_keptAt : ByteArray := prog_1_method_35_code
def yX6_keptAt : MethodName := ⟨RX6, "keptAt", "(I)LSnowByNumber$Barn;"⟩
abbrev cX6_firstThatCannot : ByteArray := prog_1_method_36_code
def yX6_firstThatCannot : MethodName := ⟨RX6, "firstThatCannot", "(IIII)I"⟩
abbrev cX6_moreInches : ByteArray := prog_1_method_37_code
def yX6_moreInches : MethodName := ⟨RX6, "moreInches", "(II)I"⟩
abbrev cX6_weightOf : ByteArray := prog_1_method_38_code
def yX6_weightOf : MethodName := ⟨RX6, "weightOf", "(III)I"⟩
abbrev cX6_weightOfAll : ByteArray := prog_1_method_39_code
def yX6_weightOfAll : MethodName := ⟨RX6, "weightOfAll", "(II)I"⟩
abbrev cX6_weightOfYear : ByteArray := prog_1_method_40_code
def yX6_weightOfYear : MethodName := ⟨RX6, "weightOfYear", "(III)I"⟩
abbrev cX6_tenthsOfYear : ByteArray := prog_1_method_41_code
def yX6_tenthsOfYear : MethodName := ⟨RX6, "tenthsOfYear", "(I)I"⟩
abbrev cX6_commonDivisor : ByteArray := prog_1_method_42_code
def yX6_commonDivisor : MethodName := ⟨RX6, "commonDivisor", "(II)I"⟩
def RX7 : String := "SnowByNumberModel"
def TX7 : u_T := fun k => match k with
  | 0 => ("SnowByNumberModel", "length", "I", false)
  | 1 => ("SnowByNumberModel", "text", "[B", true)
  | 2 => ("SnowByNumberModel", "at", "I", false)
  | 3 => ("SnowByNumberModel", "told", "[I", true)
  | 4 => ("SnowByNumberModel", "falls", "[I", true)
  | 5 => ("SnowByNumberModel", "fall", "[I", true)
  | 6 => ("SnowByNumberModel", "cost", "[I", true)
  | 7 => ("SnowByNumberModel", "layers", "[I", true)
  | 8 => ("SnowByNumberModel", "tenths", "[I", true)
  | 9 => ("SnowByNumberModel", "shown", "[I", true)
  | 10 => ("SnowByNumberModel", "coin", "[J", true)
  | 11 => ("SnowByNumberModel", "sales", "[I", true)
  | 12 => ("SnowByNumberModel", "sale", "[I", true)
  | 13 => ("SnowByNumberModel", "kept", "I", false)
  | 14 => ("SnowByNumberModel", "marks", "I", false)
  | 15 => ("SnowByNumberModel", "mark", "[I", true)
  | 16 => ("SnowByNumberModel", "tried", "[I", true)
  | 17 => ("SnowByNumberModel", "best", "[I", true)
  | 18 => ("SnowByNumberModel", "row", "[I", true)
  | 19 => ("SnowByNumberModel", "own", "[I", true)
  | 20 => ("SnowByNumberModel", "which", "[I", true)
  | 21 => ("SnowByNumberModel", "apart", "[I", true)
  | 22 => ("SnowByNumberModel", "above", "J", false)
  | 23 => ("SnowByNumberModel", "below", "J", false)
  | _ => ("SnowByNumberModel", "got", "[I", true)
def tyX7 : Nat → FieldType := fun k => match k with
  | 0 => .int
  | 1 => .array .byte
  | 2 => .int
  | 3 => .array .int
  | 4 => .array .int
  | 5 => .array .int
  | 6 => .array .int
  | 7 => .array .int
  | 8 => .array .int
  | 9 => .array .int
  | 10 => .array .long
  | 11 => .array .int
  | 12 => .array .int
  | 13 => .int
  | 14 => .int
  | 15 => .array .int
  | 16 => .array .int
  | 17 => .array .int
  | 18 => .array .int
  | 19 => .array .int
  | 20 => .array .int
  | 21 => .array .int
  | 22 => .long
  | 23 => .long
  | _ => .array .int
abbrev wsX70 : List Cond := u_ws RX7 TX7 25
theorem nmX7 : ∀ a, a < 25 → ∀ b, b < 25 → a ≠ b → (TX7 a).2.1 ≠ (TX7 b).2.1 := by decide +kernel
theorem tyX7_ok : ∀ k, k < 25 → parseFieldDescriptor (TX7 k).2.2.1 = some (tyX7 k) := by decide +kernel
abbrev cX7_init : ByteArray := prog_9_method_1_code
def yX7_init : MethodName := ⟨RX7, "<init>", "()V"⟩
abbrev cX7_in : ByteArray := prog_9_method_2_code
def yX7_in : MethodName := ⟨RX7, "in", "(JJJ)Z"⟩
abbrev cX7_write : ByteArray := prog_9_method_3_code
def yX7_write : MethodName := ⟨RX7, "write", "(IJ)I"⟩
abbrev cX7_wipe : ByteArray := prog_9_method_4_code
def yX7_wipe : MethodName := ⟨RX7, "wipe", "()I"⟩
abbrev cX7_number : ByteArray := prog_9_method_5_code
def yX7_number : MethodName := ⟨RX7, "number", "()I"⟩
abbrev cX7_parts : ByteArray := prog_9_method_6_code
def yX7_parts : MethodName := ⟨RX7, "parts", "(I)I"⟩
abbrev cX7_isIn : ByteArray := prog_9_method_7_code
def yX7_isIn : MethodName := ⟨RX7, "isIn", "(III)Z"⟩
abbrev cX7_isItem : ByteArray := prog_9_method_8_code
def yX7_isItem : MethodName := ⟨RX7, "isItem", "()Z"⟩
abbrev cX7_isGood : ByteArray := prog_9_method_9_code
def yX7_isGood : MethodName := ⟨RX7, "isGood", "(I)Z"⟩
abbrev cX7_begins : ByteArray := prog_9_method_10_code
def yX7_begins : MethodName := ⟨RX7, "begins", "()V"⟩
abbrev cX7_takes : ByteArray := prog_9_method_11_code
def yX7_takes : MethodName := ⟨RX7, "takes", "()V"⟩
abbrev cX7_fault : ByteArray := prog_9_method_12_code
def yX7_fault : MethodName := ⟨RX7, "fault", "()I"⟩
abbrev cX7_lay : ByteArray := prog_9_method_13_code
def yX7_lay : MethodName := ⟨RX7, "lay", "()I"⟩
abbrev cX7_of : ByteArray := prog_9_method_14_code
def yX7_of : MethodName := ⟨RX7, "of", "(II)I"⟩
abbrev cX7_costOf : ByteArray := prog_9_method_15_code
def yX7_costOf : MethodName := ⟨RX7, "costOf", "(I)I"⟩
abbrev cX7_isLayer : ByteArray := prog_9_method_16_code
def yX7_isLayer : MethodName := ⟨RX7, "isLayer", "(I)Z"⟩
abbrev cX7_isYear : ByteArray := prog_9_method_17_code
def yX7_isYear : MethodName := ⟨RX7, "isYear", "(I)Z"⟩
abbrev cX7_falls : ByteArray := prog_9_method_18_code
def yX7_falls : MethodName := ⟨RX7, "falls", "(II)I"⟩
abbrev cX7_high : ByteArray := prog_9_method_19_code
def yX7_high : MethodName := ⟨RX7, "high", "()I"⟩
abbrev cX7_load : ByteArray := prog_9_method_20_code
def yX7_load : MethodName := ⟨RX7, "load", "()I"⟩
abbrev cX7_fits : ByteArray := prog_9_method_21_code
def yX7_fits : MethodName := ⟨RX7, "fits", "(II)Z"⟩
abbrev cX7_fall : ByteArray := prog_9_method_22_code
def yX7_fall : MethodName := ⟨RX7, "fall", "()I"⟩
abbrev cX7_doorOf : ByteArray := prog_9_method_23_code
def yX7_doorOf : MethodName := ⟨RX7, "doorOf", "(II)I"⟩
abbrev cX7_layer : ByteArray := prog_9_method_24_code
def yX7_layer : MethodName := ⟨RX7, "layer", "(II)I"⟩
abbrev cX7_firstOut : ByteArray := prog_9_method_25_code
def yX7_firstOut : MethodName := ⟨RX7, "firstOut", "()I"⟩
abbrev cX7_thaw : ByteArray := prog_9_method_26_code
def yX7_thaw : MethodName := ⟨RX7, "thaw", "(I)I"⟩
abbrev cX7_lostBy : ByteArray := prog_9_method_27_code
def yX7_lostBy : MethodName := ⟨RX7, "lostBy", "(I)I"⟩
abbrev cX7_doors : ByteArray := prog_9_method_28_code
def yX7_doors : MethodName := ⟨RX7, "doors", "(II)I"⟩
abbrev cX7_sell : ByteArray := prog_9_method_29_code
def yX7_sell : MethodName := ⟨RX7, "sell", "(II)I"⟩
abbrev cX7_undo : ByteArray := prog_9_method_30_code
def yX7_undo : MethodName := ⟨RX7, "undo", "()I"⟩
abbrev cX7_swap : ByteArray := prog_9_method_31_code
def yX7_swap : MethodName := ⟨RX7, "swap", "(II)I"⟩
abbrev cX7_years : ByteArray := prog_9_method_32_code
def yX7_years : MethodName := ⟨RX7, "years", "(I)I"⟩
abbrev cX7_letGo : ByteArray := prog_9_method_33_code
def yX7_letGo : MethodName := ⟨RX7, "letGo", "(III)I"⟩
abbrev cX7_weight : ByteArray := prog_9_method_34_code
def yX7_weight : MethodName := ⟨RX7, "weight", "(III)J"⟩
abbrev cX7_weights : ByteArray := prog_9_method_35_code
def yX7_weights : MethodName := ⟨RX7, "weights", "(III)J"⟩
abbrev cX7_isPiece : ByteArray := prog_9_method_36_code
def yX7_isPiece : MethodName := ⟨RX7, "isPiece", "(II)Z"⟩
abbrev cX7_lowest : ByteArray := prog_9_method_37_code
def yX7_lowest : MethodName := ⟨RX7, "lowest", "(JJ)V"⟩
abbrev cX7_odds : ByteArray := prog_9_method_38_code
def yX7_odds : MethodName := ⟨RX7, "odds", "(IIII)I"⟩
abbrev cX7_likeliest : ByteArray := prog_9_method_39_code
def yX7_likeliest : MethodName := ⟨RX7, "likeliest", "(II)I"⟩
abbrev cX7_mark : ByteArray := prog_9_method_40_code
def yX7_mark : MethodName := ⟨RX7, "mark", "(I)I"⟩
abbrev cX7_noMarks : ByteArray := prog_9_method_41_code
def yX7_noMarks : MethodName := ⟨RX7, "noMarks", "()I"⟩
abbrev cX7_shows : ByteArray := prog_9_method_42_code
def yX7_shows : MethodName := ⟨RX7, "shows", "()I"⟩
abbrev cX7_far : ByteArray := prog_9_method_43_code
def yX7_far : MethodName := ⟨RX7, "far", "()I"⟩
abbrev cX7_odd : ByteArray := prog_9_method_44_code
def yX7_odd : MethodName := ⟨RX7, "odd", "()I"⟩
abbrev cX7_tenthsOf : ByteArray := prog_9_method_45_code
def yX7_tenthsOf : MethodName := ⟨RX7, "tenthsOf", "(I)I"⟩
abbrev cX7_wish : ByteArray := prog_9_method_46_code
def yX7_wish : MethodName := ⟨RX7, "wish", "(I)I"⟩
abbrev cX7_nearest : ByteArray := prog_9_method_47_code
def yX7_nearest : MethodName := ⟨RX7, "nearest", "(II)I"⟩
abbrev cX7_moved : ByteArray := prog_9_method_48_code
def yX7_moved : MethodName := ⟨RX7, "moved", "(I)I"⟩
abbrev cX7_rent : ByteArray := prog_9_method_49_code
def yX7_rent : MethodName := ⟨RX7, "rent", "(I)J"⟩
abbrev cX7_comes : ByteArray := prog_9_method_50_code
def yX7_comes : MethodName := ⟨RX7, "comes", "(I)I"⟩
abbrev cX7_isSeed : ByteArray := prog_9_method_51_code
def yX7_isSeed : MethodName := ⟨RX7, "isSeed", "(I)Z"⟩
abbrev cX7_winter : ByteArray := prog_9_method_52_code
def yX7_winter : MethodName := ⟨RX7, "winter", "(I)I"⟩
abbrev cX7_ten : ByteArray := prog_9_method_53_code
def yX7_ten : MethodName := ⟨RX7, "ten", "(I)I"⟩
abbrev cX7_copies : ByteArray := prog_9_method_54_code
def yX7_copies : MethodName := ⟨RX7, "copies", "(II)V"⟩
abbrev cX7_keep : ByteArray := prog_9_method_55_code
def yX7_keep : MethodName := ⟨RX7, "keep", "()I"⟩
abbrev cX7_back : ByteArray := prog_9_method_56_code
def yX7_back : MethodName := ⟨RX7, "back", "()I"⟩
abbrev cX7_count : ByteArray := prog_9_method_57_code
def yX7_count : MethodName := ⟨RX7, "count", "(I)I"⟩
def RJ9 : String := "java/lang/Math"
def TJ9 : u_T := fun k => match k with
  | _ => ("", "", "", false)
def tyJ9 : Nat → FieldType := fun k => match k with
  | _ => .int
abbrev wsJ90 : List Cond := u_ws RJ9 TJ9 0
theorem nmJ9 : ∀ a, a < 0 → ∀ b, b < 0 → a ≠ b → (TJ9 a).2.1 ≠ (TJ9 b).2.1 := by decide +kernel
theorem tyJ9_ok : ∀ k, k < 0 → parseFieldDescriptor (TJ9 k).2.2.1 = some (tyJ9 k) := by decide +kernel
abbrev cJ9_abs_0f7a4 : ByteArray := prog_10_method_59_code
def yJ9_abs_0f7a4 : MethodName := ⟨RJ9, "abs", "(I)I"⟩
abbrev cJ9_max_7cf53 : ByteArray := prog_10_method_65_code
def yJ9_max_7cf53 : MethodName := ⟨RJ9, "max", "(II)I"⟩
abbrev cJ9_min_7cf53 : ByteArray := prog_10_method_69_code
def yJ9_min_7cf53 : MethodName := ⟨RJ9, "min", "(II)I"⟩
def RJ7 : String := "java/util/Arrays"
def TJ7 : u_T := fun k => match k with
  | _ => ("", "", "", false)
def tyJ7 : Nat → FieldType := fun k => match k with
  | _ => .int
abbrev wsJ70 : List Cond := u_ws RJ7 TJ7 0
theorem nmJ7 : ∀ a, a < 0 → ∀ b, b < 0 → a ≠ b → (TJ7 a).2.1 ≠ (TJ7 b).2.1 := by decide +kernel
theorem tyJ7_ok : ∀ k, k < 0 → parseFieldDescriptor (TJ7 k).2.2.1 = some (tyJ7 k) := by decide +kernel
abbrev cJ7_fill_53178 : ByteArray := prog_11_method_103_code
def yJ7_fill_53178 : MethodName := ⟨RJ7, "fill", "([II)V"⟩
def RL : String := "SnowByNumberLaw"
abbrev cL_law : ByteArray := code
def yL_law : MethodName := ⟨RL, "law", "([I)Z"⟩
abbrev vwCl : List vw_C := [(RX0, TX0, 8), (RX1, TX1, 7), (RX2, TX2, 3), (RX3, TX3, 6), (RX4, TX4, 4), (RX5, TX5, 11), (RX6, TX6, 10), (RX7, TX7, 25)]
end
section
/-! THE SMALL LAYER: a method is walked over places (numbers of objects and rows), not addresses; heap contents are three functions of place and slot -/
abbrev MD : Type := MethodName × ByteArray × Nat × Option FieldType
abbrev Kd : Type := Nat ⊕ (FieldType × Nat)
abbrev HI : Type := Nat → Nat → Int32
abbrev HJ : Type := Nat → Nat → Int64
abbrev HR : Type := Nat → Nat → Option Nat
abbrev LO : Type := List (Option Value)
def tr (ad : Nat → Nat) (v : Value) : Value := match v with
  | .ref p => .ref (ad p)
  | w => w
theorem tr_cat (ad : Nat → Nat) (v : Value) : (tr ad v).category = v.category := by cases v <;> rfl
def fk (t : FieldType) : Nat := match t with
  | .long => 1
  | .object _ => 2
  | .array _ => 2
  | _ => 0
def fv (ad : Nat → Nat) (I : HI) (J : HJ) (R : HR) (p k : Nat) (t : FieldType) : Value := match fk t with
  | 0 => .int (I p k)
  | 1 => .long (J p k)
  | _ => va_rf ((R p k).map ad)
def acn (ad : Nat → Nat) (I : HI) (J : HJ) (R : HR) (p n : Nat) (t : FieldType) : vp_A := match fk t with
  | 0 => (n, .inl (I p))
  | 1 => (n, .inr (.inl (J p)))
  | _ => (n, .inr (.inr (.inr (.inr (fun j => (R p j).map ad)))))
def RC (c : Nat) : String := match c with
  | 0 => RX0 | 1 => RX1 | 2 => RX2 | 3 => RX3 | 4 => RX4 | 5 => RX5 | 6 => RX6 | _ => RX7
def TC (c : Nat) : u_T := match c with
  | 0 => TX0 | 1 => TX1 | 2 => TX2 | 3 => TX3 | 4 => TX4 | 5 => TX5 | 6 => TX6 | _ => TX7
def tyC (c : Nat) : Nat → FieldType := match c with
  | 0 => tyX0 | 1 => tyX1 | 2 => tyX2 | 3 => tyX3 | 4 => tyX4 | 5 => tyX5 | 6 => tyX6 | _ => tyX7
def nC (c : Nat) : Nat := match c with
  | 0 => 8 | 1 => 7 | 2 => 3 | 3 => 6 | 4 => 4 | 5 => 11 | 6 => 10 | _ => 25
theorem c8 {c : Nat} (h : c < 8) : c = 0 ∨ c = 1 ∨ c = 2 ∨ c = 3 ∨ c = 4 ∨ c = 5 ∨ c = 6 ∨ c = 7 := by omega
theorem vwAt {c : Nat} (h : c < 8) : vwCl[c]? = some (RC c, TC c, nC c) := by
  rcases c8 h with rfl | rfl | rfl | rfl | rfl | rfl | rfl | rfl <;> rfl
theorem tyOK {c : Nat} (h : c < 8) : ∀ k, k < nC c → parseFieldDescriptor (TC c k).2.2.1 = some (tyC c k) := by
  rcases c8 h with rfl | rfl | rfl | rfl | rfl | rfl | rfl | rfl
  · exact tyX0_ok
  · exact tyX1_ok
  · exact tyX2_ok
  · exact tyX3_ok
  · exact tyX4_ok
  · exact tyX5_ok
  · exact tyX6_ok
  · exact tyX7_ok
theorem nmOK {c : Nat} (h : c < 8) : ∀ a, a < nC c → ∀ b, b < nC c → a ≠ b → (TC c a).2.1 ≠ (TC c b).2.1 := by
  rcases c8 h with rfl | rfl | rfl | rfl | rfl | rfl | rfl | rfl
  · exact nmX0
  · exact nmX1
  · exact nmX2
  · exact nmX3
  · exact nmX4
  · exact nmX5
  · exact nmX6
  · exact nmX7
def ALLW : List Cond := lw_tbl.filter goodWord
theorem inA {w : Cond} (i : Nat) (h : lw_tbl[i]? = some w) (hg : goodWord w = true) : w ∈ ALLW := List.mem_filter.mpr ⟨List.mem_of_getElem? h, hg⟩
theorem ALLW_tbl {w : Cond} (h : w ∈ ALLW) : w ∈ lw_tbl := (List.mem_filter.mp h).1
theorem ALLW_good {w : Cond} (h : w ∈ ALLW) : goodWord w = true := (List.mem_filter.mp h).2
theorem u_good {C : String} {T : u_T} {N : Nat} : ∀ w ∈ u_ws C T N, goodWord w = true := by
  intro w hw
  obtain ⟨k, -, rfl⟩ := List.mem_map.mp hw
  unfold u_lay
  split <;> rfl
set_option maxRecDepth 100000 in
theorem uAll {c : Nat} (h : c < 8) : ∀ w ∈ u_ws (RC c) (TC c) (nC c), w ∈ ALLW := by
  intro w hw
  refine List.mem_filter.mpr ⟨?_, u_good w hw⟩
  revert w
  rcases c8 h with rfl | rfl | rfl | rfl | rfl | rfl | rfl | rfl <;> decide +kernel
def isNest (w : Cond) : Bool := match w with
  | .fieldLinkNest _ _ _ _ _ _ => true
  | .methodLinkNest _ _ _ _ => true
  | _ => false
def nestW : List Cond := lw_tbl.filter isNest
theorem inN {w : Cond} (i : Nat) (h : lw_tbl[i]? = some w) (hg : isNest w = true) : w ∈ nestW := List.mem_filter.mpr ⟨List.mem_of_getElem? h, hg⟩
def NN (U : State) : Prop := ∀ w ∈ nestW, va_Nw w U
theorem NN.tabs {w : Cond} (h : w ∈ nestW) : w.onTables = true := by
  have h2 := (List.mem_filter.mp h).2
  cases w <;> first | rfl | (simp [isNest] at h2)
theorem NN.warm {s U : State} (hW : s.WarmedH U.vm) (h : NN s) : NN U := by
  intro w hw
  have h1 := h w hw
  have h2 := (List.mem_filter.mp hw).2
  cases w <;> first | (simp [isNest] at h2; done) | exact va_Nw.warmF hW h1 | exact va_Nw.warmM hW h1
theorem NN.same {u U : State} (e : u.vm = U.vm) (h : NN u) : NN U := fun w hw => va_Nw.same (NN.tabs hw) e (h w hw)
/-- the cells of a world, out of its shape and contents -/
def en (ad : Nat → Nat) (cA : Nat → ClassId) (I : HI) (J : HJ) (R : HR) (p : Nat) (kd : Kd) : va_E := match kd with
  | .inl c => .inr (c, (List.range (nC c)).map (fun k => fv ad I J R p k (tyC c k)))
  | .inr (t, n) => .inl (cA p, acn ad I J R p n t)
def enc (ad : Nat → Nat) (cA : Nat → ClassId) (sh : List Kd) (I : HI) (J : HJ) (R : HR) : va_W := sh.mapIdx (fun p kd => (ad p, en ad cA I J R p kd))
theorem enc_at {ad : Nat → Nat} {cA : Nat → ClassId} {sh : List Kd} {I : HI} {J : HJ} {R : HR} {p : Nat} {kd : Kd} (h : sh[p]? = some kd) : (enc ad cA sh I J R)[p]? = some (ad p, en ad cA I J R p kd) := by
  unfold enc
  rw [List.getElem?_mapIdx, h]
  rfl
def wr {α : Type} (I : Nat → Nat → α) (p k : Nat) (v : α) : Nat → Nat → α := fun a b => if a = p then (if b = k then v else I a b) else I a b
theorem wr_same {α : Type} (I : Nat → Nat → α) (p k : Nat) (v : α) : wr I p k v p k = v := by simp [wr]
theorem wr_ne {α : Type} {I : Nat → Nat → α} {p k : Nat} {v : α} {q : Nat} (h : q ≠ p) : wr I p k v q = I q := by
  funext b
  simp [wr, h]
theorem wr_nk {α : Type} {I : Nat → Nat → α} {p k : Nat} {v : α} {q j : Nat} (h : j ≠ k) : wr I p k v q j = I q j := by
  simp [wr, h]
theorem enc_set {ad : Nat → Nat} {cA : Nat → ClassId} {sh : List Kd} {I I' : HI} {J J' : HJ} {R R' : HR} {p : Nat} {kd : Kd} {e : va_E} (h : sh[p]? = some kd) (hne : ∀ q kd', q ≠ p → en ad cA I' J' R' q kd' = en ad cA I J R q kd') (he : en ad cA I' J' R' p kd = e) : (enc ad cA sh I J R).set p (ad p, e) = enc ad cA sh I' J' R' := by
  apply List.ext_getElem?
  intro q
  by_cases hq : q = p
  · subst hq
    rw [enc_at h, he, List.getElem?_set_self]
    have := (List.getElem?_eq_some_iff.mp (enc_at (ad := ad) (cA := cA) (I := I) (J := J) (R := R) h)).1
    exact this
  · rw [List.getElem?_set_ne (Ne.symm hq)]
    unfold enc
    rw [List.getElem?_mapIdx, List.getElem?_mapIdx]
    cases sh[q]? with
    | none => rfl
    | some kd' => simp only [Option.map_some, hne q kd' hq]
theorem en_ne {ad : Nat → Nat} {cA : Nat → ClassId} {I I' : HI} {J J' : HJ} {R R' : HR} {q : Nat} (h1 : I' q = I q) (h2 : J' q = J q) (h3 : R' q = R q) (kd : Kd) : en ad cA I' J' R' q kd = en ad cA I J R q kd := by
  unfold en fv acn
  simp only [h1, h2, h3]
theorem range_set {f g : Nat → Value} {n k : Nat} {v : Value} (hg : ∀ j, j < n → g j = if j = k then v else f j) : ((List.range n).map f).set k v = (List.range n).map g := by
  apply List.ext_getElem?
  intro j
  by_cases hj : j < n
  · by_cases e : k = j
    · subst e
      rw [List.getElem?_set_self (by simp [hj]), List.getElem?_map, List.getElem?_range hj]
      simp [hg k hj]
    · rw [List.getElem?_set_ne e, List.getElem?_map, List.getElem?_map, List.getElem?_range hj]
      have := hg j hj
      rw [if_neg (fun q => e q.symm)] at this
      simp [this]
  · rw [List.getElem?_eq_none (by simp; omega), List.getElem?_eq_none (by simp; omega)]
theorem en_setF {ad : Nat → Nat} {cA : Nat → ClassId} {I I' : HI} {J J' : HJ} {R R' : HR} {p c k : Nat} {v : Value} (h : ∀ j, j < nC c → fv ad I' J' R' p j (tyC c j) = if j = k then v else fv ad I J R p j (tyC c j)) : en ad cA I' J' R' p (.inl c) = .inr (c, ((List.range (nC c)).map (fun k => fv ad I J R p k (tyC c k))).set k v) := by
  unfold en
  rw [range_set h]
/-- what the tables say of the world's rows -/
def KK (D : va_G) (cA : Nat → ClassId) (sh : List Kd) (U : State) : Prop := va_K D vwCl [] U ∧ ∀ (p : Nat) (t : FieldType) (n : Nat), sh[p]? = some (.inr (t, n)) → va_K D vwCl [(cA p, t)] U
theorem KK.moved {D : va_G} {cA : Nat → ClassId} {sh : List Kd} {u U : State} (hvm : u.vm.Alike U.vm) (h : KK D cA sh u) : KK D cA sh U := ⟨va_K.moved hvm h.1, fun p t n hp => va_K.moved hvm (h.2 p t n hp)⟩
/-- the locals of a frame -/
def is2 (v : Value) : Bool := match v with
  | .long _ => true
  | .double _ => true
  | _ => false
theorem is2_t {v : Value} (h : is2 v = true) : v.category = 2 := by cases v <;> first | rfl | (simp [is2] at h)
theorem is2_f {v : Value} (h : is2 v = false) : v.category = 1 := by cases v <;> first | rfl | (simp [is2] at h)
def lo (ad : Nat → Nat) (ls : Array Slot) (n : Nat) (L : LO) : Prop := ls.size = n ∧ lv_wf ls ∧ ∀ (i : Nat) (v : Value), L[i]? = some (some v) → ls[i]? = some (.val (tr ad v))
def lvl (ad : Nat → Nat) (L : LO) : List (Nat × Value) := (List.range L.length).filterMap (fun i => match L[i]? with
  | some (some v) => some (i, tr ad v)
  | _ => none)
theorem lvl_in {ad : Nat → Nat} {L : LO} {i : Nat} {v : Value} (h : L[i]? = some (some v)) : (i, tr ad v) ∈ lvl ad L := by
  refine List.mem_filterMap.mpr ⟨i, List.mem_range.mpr (List.getElem?_eq_some_iff.mp h).1, ?_⟩
  simp only [h]
theorem lvl_of {ad : Nat → Nat} {L : LO} {q : Nat × Value} (h : q ∈ lvl ad L) : ∃ v, L[q.1]? = some (some v) ∧ q.2 = tr ad v := by
  obtain ⟨i, -, hi⟩ := List.mem_filterMap.mp h
  split at hi
  · rename_i v hv
    cases hi
    exact ⟨v, hv, rfl⟩
  · cases hi
theorem lo.has {ad : Nat → Nat} {ls : Array Slot} {n : Nat} {L : LO} (h : lo ad ls n L) : lv_has ls n (lvl ad L) := ⟨h.1, h.2.1, fun q hq => by
  obtain ⟨v, h1, h2⟩ := lvl_of hq
  rw [h2]
  exact h.2.2 _ _ h1⟩
def kl2 (L : LO) (i : Nat) : LO := match i with
  | 0 => L
  | j + 1 => match L[j]? with
    | some (some v) => (match is2 v with
      | true => L.set j none
      | false => L)
    | _ => L
def st1 (L : LO) (i : Nat) (v : Value) : LO := (kl2 L i).set i (some v)
def st2 (L : LO) (i : Nat) (v : Value) : LO := ((kl2 L i).set i (some v)).set (i + 1) none
theorem kl2_at {L : LO} {i j : Nat} {w : Value} (h : (kl2 L i)[j]? = some (some w)) : L[j]? = some (some w) ∧ (j + 1 = i → is2 w = false) := by
  cases i with
  | zero => exact ⟨h, fun q => by omega⟩
  | succ i =>
    simp only [kl2] at h
    split at h
    · rename_i v hv
      split at h
      · rename_i h2
        by_cases e : i = j
        · subst e
          have hl := (List.getElem?_eq_some_iff.mp hv).1
          rw [List.getElem?_set_self hl] at h
          cases h
        · rw [List.getElem?_set_ne e] at h
          exact ⟨h, fun q => absurd (by omega) e⟩
      · rename_i h2
        refine ⟨h, fun q => ?_⟩
        have e : j = i := by omega
        subst e
        rw [hv] at h
        cases h
        exact h2
    · rename_i hn
      refine ⟨h, fun q => ?_⟩
      have e : j = i := by omega
      subst e
      exact absurd h (hn w)
theorem st1_at {L : LO} {i j : Nat} {v w : Value} (h : (st1 L i v)[j]? = some (some w)) : (j = i ∧ w = v) ∨ (j ≠ i ∧ L[j]? = some (some w) ∧ (j + 1 = i → is2 w = false)) := by
  unfold st1 at h
  by_cases e : i = j
  · subst e
    by_cases hl : i < (kl2 L i).length
    · rw [List.getElem?_set_self hl] at h
      cases h
      exact Or.inl ⟨rfl, rfl⟩
    · rw [List.getElem?_eq_none (by simp; omega)] at h
      cases h
  · rw [List.getElem?_set_ne e] at h
    exact Or.inr ⟨fun q => e q.symm, kl2_at h⟩
theorem st2_at {L : LO} {i j : Nat} {v w : Value} (h : (st2 L i v)[j]? = some (some w)) : (j = i ∧ w = v) ∨ (j ≠ i ∧ j ≠ i + 1 ∧ L[j]? = some (some w) ∧ (j + 1 = i → is2 w = false)) := by
  unfold st2 at h
  by_cases e : i + 1 = j
  · subst e
    by_cases hl : i + 1 < ((kl2 L i).set i (some v)).length
    · rw [List.getElem?_set_self hl] at h
      cases h
    · rw [List.getElem?_eq_none (by simp at hl ⊢; omega)] at h
      cases h
  · rw [List.getElem?_set_ne e] at h
    rcases st1_at (L := L) (i := i) (v := v) h with q | ⟨q1, q2, q3⟩
    · exact Or.inl q
    · exact Or.inr ⟨q1, fun z => e z.symm, q2, q3⟩
theorem lo.put1 {ad : Nat → Nat} {ls' : Array Slot} {n : Nat} {L : LO} {i : Nat} {v : Value} (h : lv_has ls' n ((i, tr ad v) :: (lvl ad L).filter (fun q => !(q.1 == i) && !(q.1 + 1 == i && q.2.category == 2)))) : lo ad ls' n (st1 L i v) := by
  refine ⟨h.1, h.2.1, fun j w hj => ?_⟩
  rcases st1_at hj with ⟨rfl, rfl⟩ | ⟨h1, h2, h3⟩
  · exact h.2.2 _ List.mem_cons_self
  · refine h.2.2 (j, tr ad w) (List.mem_cons_of_mem _ (List.mem_filter.mpr ⟨lvl_in h2, ?_⟩))
    have e1 : (j == i) = false := by simp [h1]
    have e2 : (j + 1 == i && (tr ad w).category == 2) = false := by
      by_cases q : j + 1 = i
      · have := is2_f (h3 q)
        rw [tr_cat, this]
        simp
      · simp [q]
    simp only [e1, e2]
    rfl
theorem lo.put2 {ad : Nat → Nat} {ls' : Array Slot} {n : Nat} {L : LO} {i : Nat} {v : Value} (h : lv_has ls' n ((i, tr ad v) :: (lvl ad L).filter (fun q => !(q.1 == i) && (!(q.1 == i + 1) && !(q.1 + 1 == i && q.2.category == 2))))) : lo ad ls' n (st2 L i v) := by
  refine ⟨h.1, h.2.1, fun j w hj => ?_⟩
  rcases st2_at hj with ⟨rfl, rfl⟩ | ⟨h1, h0, h2, h3⟩
  · exact h.2.2 _ List.mem_cons_self
  · refine h.2.2 (j, tr ad w) (List.mem_cons_of_mem _ (List.mem_filter.mpr ⟨lvl_in h2, ?_⟩))
    have e1 : (j == i) = false := by simp [h1]
    have e0 : (j == i + 1) = false := by simp [h0]
    have e2 : (j + 1 == i && (tr ad w).category == 2) = false := by
      by_cases q : j + 1 = i
      · have := is2_f (h3 q)
        rw [tr_cat, this]
        simp
      · simp [q]
    simp only [e1, e0, e2]
    rfl
def entA (vs : List Value) : LO := match vs with
  | [] => []
  | v :: vs => match is2 v with
    | true => some v :: none :: entA vs
    | false => some v :: entA vs
def L0 (n : Nat) (vs : List Value) : LO := entA vs ++ List.replicate (n - (entA vs).length) none
theorem entA_at (ad : Nat → Nat) : ∀ (vs : List Value) (k i : Nat) (v : Value), (entA vs)[i]? = some (some v) → (k + i, tr ad v) ∈ lv_args k (vs.map (tr ad))
  | [], k, i, v, h => by simp [entA] at h
  | w :: vs, k, i, v, h => by
    rw [entA] at h
    split at h
    · rename_i h2
      have hc := is2_t h2
      simp only [List.map_cons, lv_args, tr_cat, hc, if_true]
      match i, h with
      | 0, h => cases h; exact List.mem_cons_self
      | 1, h => cases h
      | i + 2, h =>
        have := entA_at ad vs (k + 2) i v (by simpa using h)
        rw [show k + (i + 2) = k + 2 + i by omega]
        exact List.mem_cons_of_mem _ this
    · rename_i h2
      have hc := is2_f h2
      simp only [List.map_cons, lv_args, tr_cat, hc]
      match i, h with
      | 0, h => cases h; exact List.mem_cons_self
      | i + 1, h =>
        have := entA_at ad vs (k + 1) i v (by simpa using h)
        rw [show k + (i + 1) = k + 1 + i by omega]
        exact List.mem_cons_of_mem _ (by simpa using this)
theorem sl_len (ad : Nat → Nat) (vs : List Value) : (lg_sl (vs.map (tr ad))).length = (lg_sl vs).length := by
  induction vs with
  | nil => rfl
  | cons v vs ih =>
    have e : ∀ (x : Value) (xs : List Value), (lg_sl (x :: xs)).length = (if x.category = 2 then 2 else 1) + (lg_sl xs).length := fun x xs => by
      unfold lg_sl
      rw [List.flatMap_cons, List.length_append]
      split <;> rfl
    rw [List.map_cons, e, e, tr_cat, ih]
/-- which frame a walk stands in: the room, the end, and how the addresses of now go with those of the entry -/
abbrev Tg : Type := Room × (List Frame → Array Value → State → va_G → (Nat → Prop) → (Nat → Nat) → (Nat → ClassId) → State → Prop) × (State → Array Value → (Nat → Prop) → (Nat → Nat) → (Nat → ClassId) → (Nat → Nat) → (Nat → ClassId) → Prop)
def Cx (m : MD) (p : Program) (s : State) (mid : MethodId) (args : Array Value) (meth : Method) (c : Code) : Prop :=
  p.tables.exec = Jvm.exec ∧ c.code = m.2.1 ∧ meth.sig.returnType = m.2.2.2 ∧ c.maxLocals = m.2.2.1 ∧ s.vm.findClass m.1.cls = some mid.cls ∧ (∀ w ∈ ALLW, w.before args s = true) ∧ meth.locks = false ∧ (m.1.name = "<init>" → meth.name = "<init>") ∧ NN s
def Sta (m : MD) (T : Tg) (sh : List Kd) (L : LO) (I : HI) (J : HJ) (R : HR) (p : Program) (s : State) (mid : MethodId) (args : Array Value) (meth : Method) (c : Code) (D : va_G) (A : Nat → Prop) (ad0 : Nat → Nat) (cA0 : Nat → ClassId) (ad : Nat → Nat) (cA : Nat → ClassId) (H : Heap) (locs : List Loc) (ls : Array Slot) : Prop :=
  Cx m p s mid args meth c ∧ (∀ q : Nat, s.heap.size ≤ q → A q) ∧ T.2.2 s args A ad0 cA0 ad cA ∧ KK D cA sh s ∧ va_P D vwCl (enc ad cA sh I J R) H ∧ va_D A (enc ad cA sh I J R) ∧ va_S A s.heap H locs ∧ lo ad ls m.2.2.1 L
def Wm (m : MD) (T : Tg) (cells slots : Nat) (sh : List Kd) (pc : Nat) (L : LO) (st : List Value) (I : HI) (J : HJ) (R : HR) : Prop :=
  ∀ (p : Program) (l : Launch) (e : Env) (s : State) (mid : MethodId) (args : Array Value) (below : List Frame) (meth : Method) (c : Code) (D : va_G) (A : Nat → Prop) (ad0 : Nat → Nat) (cA0 : Nat → ClassId) (ad : Nat → Nat) (cA : Nat → ClassId) (H : Heap) (locs : List Loc) (ls : Array Slot),
    Sta m T sh L I J R p s mid args meth c D A ad0 cA0 ad cA H locs ls → W p l e T.1 s mid args below meth c H locs cells slots (T.2.1 below args s D A ad0 cA0) (F0 mid pc ls (st.map (tr ad)))
section MROWS
variable {m : MD} {T : Tg} {cells slots : Nat} {sh : List Kd} {pc : Nat} {L : LO} {st : List Value} {I : HI} {J : HJ} {R : HR}
theorem q_iconst {n : Int} {v : Int32} {q : Nat} (hd : decode m.2.1 pc = .ok (.iconst n, 1)) (hq : pc + 1 = q) (hv : Int32.ofInt n = v) (K : Wm m T cells slots sh q L (.int v :: st) I J R) : Wm m T cells slots sh pc L (st) I J R := by
  subst hq
  intro p l e s mid args below meth c D A ad0 cA0 ad cA H locs ls S
  exact lv_iconst S.1.1 S.1.2.1 hd hv (K p l e s mid args below meth c D A ad0 cA0 ad cA H locs ls S)
theorem q_bipush {n : Int} {v : Int32} {q : Nat} (hd : decode m.2.1 pc = .ok (.bipush n, 2)) (hq : pc + 2 = q) (hv : (Int8.ofInt n).toInt32 = v) (K : Wm m T cells slots sh q L (.int v :: st) I J R) : Wm m T cells slots sh pc L (st) I J R := by
  subst hq
  intro p l e s mid args below meth c D A ad0 cA0 ad cA H locs ls S
  exact lv_bipush S.1.1 S.1.2.1 hd hv (K p l e s mid args below meth c D A ad0 cA0 ad cA H locs ls S)
theorem q_sipush {n : Int} {v : Int32} {q : Nat} (hd : decode m.2.1 pc = .ok (.sipush n, 3)) (hq : pc + 3 = q) (hv : (Int16.ofInt n).toInt32 = v) (K : Wm m T cells slots sh q L (.int v :: st) I J R) : Wm m T cells slots sh pc L (st) I J R := by
  subst hq
  intro p l e s mid args below meth c D A ad0 cA0 ad cA H locs ls S
  exact lv_sipush S.1.1 S.1.2.1 hd hv (K p l e s mid args below meth c D A ad0 cA0 ad cA H locs ls S)
theorem q_lconst {n : Fin 2} {v : Int64} {q : Nat} (hd : decode m.2.1 pc = .ok (.lconst n, 1)) (hq : pc + 1 = q) (hv : Int64.ofNat (n : Nat) = v) (K : Wm m T cells slots sh q L (.long v :: st) I J R) : Wm m T cells slots sh pc L (st) I J R := by
  subst hq
  intro p l e s mid args below meth c D A ad0 cA0 ad cA H locs ls S
  exact lv_lconst S.1.1 S.1.2.1 hd hv (K p l e s mid args below meth c D A ad0 cA0 ad cA H locs ls S)
theorem q_ldc {i : Nat} {v : Int32} {q : Nat} (hd : decode m.2.1 pc = .ok (.ldc i, 2)) (hq : pc + 2 = q) (hw : Cond.constant m.1.cls i v ∈ ALLW) (K : Wm m T cells slots sh q L (.int v :: st) I J R) : Wm m T cells slots sh pc L (st) I J R := by
  subst hq
  intro p l e s mid args below meth c D A ad0 cA0 ad cA H locs ls S
  exact lv_ldc S.1.1 S.1.2.1 S.1.2.2.2.2.1 (S.1.2.2.2.2.2.1 _ hw) hd (K p l e s mid args below meth c D A ad0 cA0 ad cA H locs ls S)
theorem q_ldc2 {i : Nat} {v : Int64} {q : Nat} (hd : decode m.2.1 pc = .ok (.ldc2_w i, 3)) (hq : pc + 3 = q) (hw : Cond.constantLong m.1.cls i v ∈ ALLW) (K : Wm m T cells slots sh q L (.long v :: st) I J R) : Wm m T cells slots sh pc L (st) I J R := by
  subst hq
  intro p l e s mid args below meth c D A ad0 cA0 ad cA H locs ls S
  exact lv_ldc2 S.1.1 S.1.2.1 S.1.2.2.2.2.1 (S.1.2.2.2.2.2.1 _ hw) hd (K p l e s mid args below meth c D A ad0 cA0 ad cA H locs ls S)
theorem q_iload_n {k : Fin 4} {x : Int32} {q : Nat} (hd : decode m.2.1 pc = .ok (.iload_n k, 1)) (hq : pc + 1 = q) (hL : L[(k : Nat)]? = some (some (.int x))) (K : Wm m T cells slots sh q L (.int x :: st) I J R) : Wm m T cells slots sh pc L (st) I J R := by
  subst hq
  intro p l e s mid args below meth c D A ad0 cA0 ad cA H locs ls S
  exact lv_iload_n S.1.1 S.1.2.1 hd rfl (S.2.2.2.2.2.2.2.2.2 _ _ hL) (K p l e s mid args below meth c D A ad0 cA0 ad cA H locs ls S)
theorem q_iload {i : Nat} {x : Int32} {q : Nat} (hd : decode m.2.1 pc = .ok (.iload i, 2)) (hq : pc + 2 = q) (hL : L[i]? = some (some (.int x))) (K : Wm m T cells slots sh q L (.int x :: st) I J R) : Wm m T cells slots sh pc L (st) I J R := by
  subst hq
  intro p l e s mid args below meth c D A ad0 cA0 ad cA H locs ls S
  exact lv_iload S.1.1 S.1.2.1 hd (S.2.2.2.2.2.2.2.2.2 _ _ hL) (K p l e s mid args below meth c D A ad0 cA0 ad cA H locs ls S)
theorem q_lload_n {k : Fin 4} {x : Int64} {q : Nat} (hd : decode m.2.1 pc = .ok (.lload_n k, 1)) (hq : pc + 1 = q) (hL : L[(k : Nat)]? = some (some (.long x))) (K : Wm m T cells slots sh q L (.long x :: st) I J R) : Wm m T cells slots sh pc L (st) I J R := by
  subst hq
  intro p l e s mid args below meth c D A ad0 cA0 ad cA H locs ls S
  exact lv_lload_n S.1.1 S.1.2.1 hd rfl (S.2.2.2.2.2.2.2.2.2 _ _ hL) (K p l e s mid args below meth c D A ad0 cA0 ad cA H locs ls S)
theorem q_lload {i : Nat} {x : Int64} {q : Nat} (hd : decode m.2.1 pc = .ok (.lload i, 2)) (hq : pc + 2 = q) (hL : L[i]? = some (some (.long x))) (K : Wm m T cells slots sh q L (.long x :: st) I J R) : Wm m T cells slots sh pc L (st) I J R := by
  subst hq
  intro p l e s mid args below meth c D A ad0 cA0 ad cA H locs ls S
  exact lv_lload S.1.1 S.1.2.1 hd (S.2.2.2.2.2.2.2.2.2 _ _ hL) (K p l e s mid args below meth c D A ad0 cA0 ad cA H locs ls S)
theorem q_aload_n {k : Fin 4} {x : Nat} {q : Nat} (hd : decode m.2.1 pc = .ok (.aload_n k, 1)) (hq : pc + 1 = q) (hL : L[(k : Nat)]? = some (some (.ref x))) (K : Wm m T cells slots sh q L (.ref x :: st) I J R) : Wm m T cells slots sh pc L (st) I J R := by
  subst hq
  intro p l e s mid args below meth c D A ad0 cA0 ad cA H locs ls S
  exact lv_aload_n S.1.1 S.1.2.1 hd rfl (S.2.2.2.2.2.2.2.2.2 _ _ hL) (K p l e s mid args below meth c D A ad0 cA0 ad cA H locs ls S)
theorem q_aload {i : Nat} {x : Nat} {q : Nat} (hd : decode m.2.1 pc = .ok (.aload i, 2)) (hq : pc + 2 = q) (hL : L[i]? = some (some (.ref x))) (K : Wm m T cells slots sh q L (.ref x :: st) I J R) : Wm m T cells slots sh pc L (st) I J R := by
  subst hq
  intro p l e s mid args below meth c D A ad0 cA0 ad cA H locs ls S
  exact lv_aload S.1.1 S.1.2.1 hd (S.2.2.2.2.2.2.2.2.2 _ _ hL) (K p l e s mid args below meth c D A ad0 cA0 ad cA H locs ls S)
theorem q_iadd {x y : Int32} {q : Nat} (hd : decode m.2.1 pc = .ok (.iadd, 1)) (hq : pc + 1 = q) (K : Wm m T cells slots sh q L (.int (x + y) :: st) I J R) : Wm m T cells slots sh pc L (.int y :: .int x :: st) I J R := by
  subst hq
  intro p l e s mid args below meth c D A ad0 cA0 ad cA H locs ls S
  exact lv_iadd S.1.1 S.1.2.1 hd (K p l e s mid args below meth c D A ad0 cA0 ad cA H locs ls S)
theorem q_isub {x y : Int32} {q : Nat} (hd : decode m.2.1 pc = .ok (.isub, 1)) (hq : pc + 1 = q) (K : Wm m T cells slots sh q L (.int (x - y) :: st) I J R) : Wm m T cells slots sh pc L (.int y :: .int x :: st) I J R := by
  subst hq
  intro p l e s mid args below meth c D A ad0 cA0 ad cA H locs ls S
  exact lv_isub S.1.1 S.1.2.1 hd (K p l e s mid args below meth c D A ad0 cA0 ad cA H locs ls S)
theorem q_imul {x y : Int32} {q : Nat} (hd : decode m.2.1 pc = .ok (.imul, 1)) (hq : pc + 1 = q) (K : Wm m T cells slots sh q L (.int (x * y) :: st) I J R) : Wm m T cells slots sh pc L (.int y :: .int x :: st) I J R := by
  subst hq
  intro p l e s mid args below meth c D A ad0 cA0 ad cA H locs ls S
  exact lv_imul S.1.1 S.1.2.1 hd (K p l e s mid args below meth c D A ad0 cA0 ad cA H locs ls S)
theorem q_iand {x y : Int32} {q : Nat} (hd : decode m.2.1 pc = .ok (.iand, 1)) (hq : pc + 1 = q) (K : Wm m T cells slots sh q L (.int (x &&& y) :: st) I J R) : Wm m T cells slots sh pc L (.int y :: .int x :: st) I J R := by
  subst hq
  intro p l e s mid args below meth c D A ad0 cA0 ad cA H locs ls S
  exact lv_iand S.1.1 S.1.2.1 hd (K p l e s mid args below meth c D A ad0 cA0 ad cA H locs ls S)
theorem q_ior {x y : Int32} {q : Nat} (hd : decode m.2.1 pc = .ok (.ior, 1)) (hq : pc + 1 = q) (K : Wm m T cells slots sh q L (.int (x ||| y) :: st) I J R) : Wm m T cells slots sh pc L (.int y :: .int x :: st) I J R := by
  subst hq
  intro p l e s mid args below meth c D A ad0 cA0 ad cA H locs ls S
  exact lv_ior S.1.1 S.1.2.1 hd (K p l e s mid args below meth c D A ad0 cA0 ad cA H locs ls S)
theorem q_ixor {x y : Int32} {q : Nat} (hd : decode m.2.1 pc = .ok (.ixor, 1)) (hq : pc + 1 = q) (K : Wm m T cells slots sh q L (.int (x ^^^ y) :: st) I J R) : Wm m T cells slots sh pc L (.int y :: .int x :: st) I J R := by
  subst hq
  intro p l e s mid args below meth c D A ad0 cA0 ad cA H locs ls S
  exact lv_ixor S.1.1 S.1.2.1 hd (K p l e s mid args below meth c D A ad0 cA0 ad cA H locs ls S)
theorem q_ishl {x y : Int32} {q : Nat} (hd : decode m.2.1 pc = .ok (.ishl, 1)) (hq : pc + 1 = q) (K : Wm m T cells slots sh q L (.int (x <<< (y &&& 31)) :: st) I J R) : Wm m T cells slots sh pc L (.int y :: .int x :: st) I J R := by
  subst hq
  intro p l e s mid args below meth c D A ad0 cA0 ad cA H locs ls S
  exact lv_ishl S.1.1 S.1.2.1 hd (K p l e s mid args below meth c D A ad0 cA0 ad cA H locs ls S)
theorem q_ishr {x y : Int32} {q : Nat} (hd : decode m.2.1 pc = .ok (.ishr, 1)) (hq : pc + 1 = q) (K : Wm m T cells slots sh q L (.int (x >>> (y &&& 31)) :: st) I J R) : Wm m T cells slots sh pc L (.int y :: .int x :: st) I J R := by
  subst hq
  intro p l e s mid args below meth c D A ad0 cA0 ad cA H locs ls S
  exact lv_ishr S.1.1 S.1.2.1 hd (K p l e s mid args below meth c D A ad0 cA0 ad cA H locs ls S)
theorem q_ladd {x y : Int64} {q : Nat} (hd : decode m.2.1 pc = .ok (.ladd, 1)) (hq : pc + 1 = q) (K : Wm m T cells slots sh q L (.long (x + y) :: st) I J R) : Wm m T cells slots sh pc L (.long y :: .long x :: st) I J R := by
  subst hq
  intro p l e s mid args below meth c D A ad0 cA0 ad cA H locs ls S
  exact lv_ladd S.1.1 S.1.2.1 hd (K p l e s mid args below meth c D A ad0 cA0 ad cA H locs ls S)
theorem q_lsub {x y : Int64} {q : Nat} (hd : decode m.2.1 pc = .ok (.lsub, 1)) (hq : pc + 1 = q) (K : Wm m T cells slots sh q L (.long (x - y) :: st) I J R) : Wm m T cells slots sh pc L (.long y :: .long x :: st) I J R := by
  subst hq
  intro p l e s mid args below meth c D A ad0 cA0 ad cA H locs ls S
  exact lv_lsub S.1.1 S.1.2.1 hd (K p l e s mid args below meth c D A ad0 cA0 ad cA H locs ls S)
theorem q_lmul {x y : Int64} {q : Nat} (hd : decode m.2.1 pc = .ok (.lmul, 1)) (hq : pc + 1 = q) (K : Wm m T cells slots sh q L (.long (x * y) :: st) I J R) : Wm m T cells slots sh pc L (.long y :: .long x :: st) I J R := by
  subst hq
  intro p l e s mid args below meth c D A ad0 cA0 ad cA H locs ls S
  exact lv_lmul S.1.1 S.1.2.1 hd (K p l e s mid args below meth c D A ad0 cA0 ad cA H locs ls S)
theorem q_land {x y : Int64} {q : Nat} (hd : decode m.2.1 pc = .ok (.land, 1)) (hq : pc + 1 = q) (K : Wm m T cells slots sh q L (.long (x &&& y) :: st) I J R) : Wm m T cells slots sh pc L (.long y :: .long x :: st) I J R := by
  subst hq
  intro p l e s mid args below meth c D A ad0 cA0 ad cA H locs ls S
  exact lv_land S.1.1 S.1.2.1 hd (K p l e s mid args below meth c D A ad0 cA0 ad cA H locs ls S)
theorem q_lor {x y : Int64} {q : Nat} (hd : decode m.2.1 pc = .ok (.lor, 1)) (hq : pc + 1 = q) (K : Wm m T cells slots sh q L (.long (x ||| y) :: st) I J R) : Wm m T cells slots sh pc L (.long y :: .long x :: st) I J R := by
  subst hq
  intro p l e s mid args below meth c D A ad0 cA0 ad cA H locs ls S
  exact lv_lor S.1.1 S.1.2.1 hd (K p l e s mid args below meth c D A ad0 cA0 ad cA H locs ls S)
theorem q_idiv {x y : Int32} {q : Nat} (hd : decode m.2.1 pc = .ok (.idiv, 1)) (hq : pc + 1 = q) (hne : ¬ y = 0) (K : Wm m T cells slots sh q L (.int (x / y) :: st) I J R) : Wm m T cells slots sh pc L (.int y :: .int x :: st) I J R := by
  subst hq
  intro p l e s mid args below meth c D A ad0 cA0 ad cA H locs ls S
  exact lv_idiv S.1.1 S.1.2.1 hd hne (K p l e s mid args below meth c D A ad0 cA0 ad cA H locs ls S)
theorem q_irem {x y : Int32} {q : Nat} (hd : decode m.2.1 pc = .ok (.irem, 1)) (hq : pc + 1 = q) (hne : ¬ y = 0) (K : Wm m T cells slots sh q L (.int (x - x / y * y) :: st) I J R) : Wm m T cells slots sh pc L (.int y :: .int x :: st) I J R := by
  subst hq
  intro p l e s mid args below meth c D A ad0 cA0 ad cA H locs ls S
  exact lv_irem S.1.1 S.1.2.1 hd hne (K p l e s mid args below meth c D A ad0 cA0 ad cA H locs ls S)
theorem q_ldiv {x y : Int64} {q : Nat} (hd : decode m.2.1 pc = .ok (.ldiv, 1)) (hq : pc + 1 = q) (hne : ¬ y = 0) (K : Wm m T cells slots sh q L (.long (x / y) :: st) I J R) : Wm m T cells slots sh pc L (.long y :: .long x :: st) I J R := by
  subst hq
  intro p l e s mid args below meth c D A ad0 cA0 ad cA H locs ls S
  exact lv_ldiv S.1.1 S.1.2.1 hd hne (K p l e s mid args below meth c D A ad0 cA0 ad cA H locs ls S)
theorem q_lrem {x y : Int64} {q : Nat} (hd : decode m.2.1 pc = .ok (.lrem, 1)) (hq : pc + 1 = q) (hne : ¬ y = 0) (K : Wm m T cells slots sh q L (.long (x - x / y * y) :: st) I J R) : Wm m T cells slots sh pc L (.long y :: .long x :: st) I J R := by
  subst hq
  intro p l e s mid args below meth c D A ad0 cA0 ad cA H locs ls S
  exact lv_lrem S.1.1 S.1.2.1 hd hne (K p l e s mid args below meth c D A ad0 cA0 ad cA H locs ls S)
theorem q_ineg {x : Int32} {q : Nat} (hd : decode m.2.1 pc = .ok (.ineg, 1)) (hq : pc + 1 = q) (K : Wm m T cells slots sh q L (.int (-x) :: st) I J R) : Wm m T cells slots sh pc L (.int x :: st) I J R := by
  subst hq
  intro p l e s mid args below meth c D A ad0 cA0 ad cA H locs ls S
  exact lv_ineg S.1.1 S.1.2.1 hd (K p l e s mid args below meth c D A ad0 cA0 ad cA H locs ls S)
theorem q_lshl {x : Int64} {y : Int32} {q : Nat} (hd : decode m.2.1 pc = .ok (.lshl, 1)) (hq : pc + 1 = q) (K : Wm m T cells slots sh q L (.long (x <<< (y.toInt64 &&& 63)) :: st) I J R) : Wm m T cells slots sh pc L (.int y :: .long x :: st) I J R := by
  subst hq
  intro p l e s mid args below meth c D A ad0 cA0 ad cA H locs ls S
  exact lv_lshl S.1.1 S.1.2.1 hd rfl (K p l e s mid args below meth c D A ad0 cA0 ad cA H locs ls S)
theorem q_lshr {x : Int64} {y : Int32} {q : Nat} (hd : decode m.2.1 pc = .ok (.lshr, 1)) (hq : pc + 1 = q) (K : Wm m T cells slots sh q L (.long (x >>> (y.toInt64 &&& 63)) :: st) I J R) : Wm m T cells slots sh pc L (.int y :: .long x :: st) I J R := by
  subst hq
  intro p l e s mid args below meth c D A ad0 cA0 ad cA H locs ls S
  exact lv_lshr S.1.1 S.1.2.1 hd rfl (K p l e s mid args below meth c D A ad0 cA0 ad cA H locs ls S)
theorem q_lushr {x : Int64} {y : Int32} {q : Nat} (hd : decode m.2.1 pc = .ok (.lushr, 1)) (hq : pc + 1 = q) (K : Wm m T cells slots sh q L (.long ((x.toUInt64 >>> (y.toInt64.toUInt64 &&& Int64.toUInt64 63)).toInt64) :: st) I J R) : Wm m T cells slots sh pc L (.int y :: .long x :: st) I J R := by
  subst hq
  intro p l e s mid args below meth c D A ad0 cA0 ad cA H locs ls S
  exact lv_lushr S.1.1 S.1.2.1 hd rfl (K p l e s mid args below meth c D A ad0 cA0 ad cA H locs ls S)
theorem q_i2l {x : Int32} {q : Nat} (hd : decode m.2.1 pc = .ok (.i2l, 1)) (hq : pc + 1 = q) (K : Wm m T cells slots sh q L (.long x.toInt64 :: st) I J R) : Wm m T cells slots sh pc L (.int x :: st) I J R := by
  subst hq
  intro p l e s mid args below meth c D A ad0 cA0 ad cA H locs ls S
  exact lv_i2l S.1.1 S.1.2.1 hd rfl (K p l e s mid args below meth c D A ad0 cA0 ad cA H locs ls S)
theorem q_l2i {x : Int64} {q : Nat} (hd : decode m.2.1 pc = .ok (.l2i, 1)) (hq : pc + 1 = q) (K : Wm m T cells slots sh q L (.int x.toInt32 :: st) I J R) : Wm m T cells slots sh pc L (.long x :: st) I J R := by
  subst hq
  intro p l e s mid args below meth c D A ad0 cA0 ad cA H locs ls S
  exact lv_l2i S.1.1 S.1.2.1 hd rfl (K p l e s mid args below meth c D A ad0 cA0 ad cA H locs ls S)
theorem q_i2b {x : Int32} {q : Nat} (hd : decode m.2.1 pc = .ok (.i2b, 1)) (hq : pc + 1 = q) (K : Wm m T cells slots sh q L (.int x.toInt8.toInt32 :: st) I J R) : Wm m T cells slots sh pc L (.int x :: st) I J R := by
  subst hq
  intro p l e s mid args below meth c D A ad0 cA0 ad cA H locs ls S
  exact lv_i2b S.1.1 S.1.2.1 hd rfl (K p l e s mid args below meth c D A ad0 cA0 ad cA H locs ls S)
theorem q_lcmp {x y : Int64} {q : Nat} (hd : decode m.2.1 pc = .ok (.lcmp, 1)) (hq : pc + 1 = q) (K : Wm m T cells slots sh q L (.int (lg_cmp x y) :: st) I J R) : Wm m T cells slots sh pc L (.long y :: .long x :: st) I J R := by
  subst hq
  intro p l e s mid args below meth c D A ad0 cA0 ad cA H locs ls S
  exact W.lcmp S.1.1 S.1.2.1 hd (K p l e s mid args below meth c D A ad0 cA0 ad cA H locs ls S)
theorem q_dup {v : Value} {q : Nat} (hd : decode m.2.1 pc = .ok (.dup, 1)) (hq : pc + 1 = q) (hv : v.category = 1) (K : Wm m T cells slots sh q L (v :: v :: st) I J R) : Wm m T cells slots sh pc L (v :: st) I J R := by
  subst hq
  intro p l e s mid args below meth c D A ad0 cA0 ad cA H locs ls S
  exact lv_dup S.1.1 S.1.2.1 hd ((tr_cat ad v).trans hv) (K p l e s mid args below meth c D A ad0 cA0 ad cA H locs ls S)
theorem q_pop {v : Value} {q : Nat} (hd : decode m.2.1 pc = .ok (.pop, 1)) (hq : pc + 1 = q) (hv : v.category = 1) (K : Wm m T cells slots sh q L (st) I J R) : Wm m T cells slots sh pc L (v :: st) I J R := by
  subst hq
  intro p l e s mid args below meth c D A ad0 cA0 ad cA H locs ls S
  exact lv_pop S.1.1 S.1.2.1 hd ((tr_cat ad v).trans hv) (K p l e s mid args below meth c D A ad0 cA0 ad cA H locs ls S)
theorem q_dup2 {v w : Value} {q : Nat} (hd : decode m.2.1 pc = .ok (.dup2, 1)) (hq : pc + 1 = q) (hv : v.category = 1) (hw : w.category = 1) (K : Wm m T cells slots sh q L (v :: w :: v :: w :: st) I J R) : Wm m T cells slots sh pc L (v :: w :: st) I J R := by
  subst hq
  intro p l e s mid args below meth c D A ad0 cA0 ad cA H locs ls S
  exact lv_dup2_11 S.1.1 S.1.2.1 hd ((tr_cat ad v).trans hv) ((tr_cat ad w).trans hw) (K p l e s mid args below meth c D A ad0 cA0 ad cA H locs ls S)
theorem q_dup_x1 {v w : Value} {q : Nat} (hd : decode m.2.1 pc = .ok (.dup_x1, 1)) (hq : pc + 1 = q) (hv : v.category = 1) (hw : w.category = 1) (K : Wm m T cells slots sh q L (v :: w :: v :: st) I J R) : Wm m T cells slots sh pc L (v :: w :: st) I J R := by
  subst hq
  intro p l e s mid args below meth c D A ad0 cA0 ad cA H locs ls S
  exact lv_dup_x1 S.1.1 S.1.2.1 hd ((tr_cat ad v).trans hv) ((tr_cat ad w).trans hw) (K p l e s mid args below meth c D A ad0 cA0 ad cA H locs ls S)
theorem q_goto {off : Int} {q : Nat} (hd : decode m.2.1 pc = .ok (.goto off, 3)) (ht : (pc : Int) + off = (q : Int)) (K : Wm m T cells slots sh q L st I J R) : Wm m T cells slots sh pc L st I J R := by
  intro p l e s mid args below meth c D A ad0 cA0 ad cA H locs ls S
  exact lv_goto S.1.1 S.1.2.1 hd ht (K p l e s mid args below meth c D A ad0 cA0 ad cA H locs ls S)
theorem q_if_eq {x : Int32} {off : Int} {q q2 : Nat} (hd : decode m.2.1 pc = .ok (.ifCond .eq off, 3)) (ht : (pc : Int) + off = (q : Int)) (hq : pc + 3 = q2) (kt : x = 0 → Wm m T cells slots sh q L st I J R) (kf : ¬ x = 0 → Wm m T cells slots sh q2 L st I J R) : Wm m T cells slots sh pc L (.int x :: st) I J R := by
  subst hq
  intro p l e s mid args below meth c D A ad0 cA0 ad cA H locs ls S
  exact lv_if_eq S.1.1 S.1.2.1 hd ht (fun z => kt (z) p l e s mid args below meth c D A ad0 cA0 ad cA H locs ls S) (fun z => kf (z) p l e s mid args below meth c D A ad0 cA0 ad cA H locs ls S)
theorem q_icmp_eq {x y : Int32} {off : Int} {q q2 : Nat} (hd : decode m.2.1 pc = .ok (.if_icmp .eq off, 3)) (ht : (pc : Int) + off = (q : Int)) (hq : pc + 3 = q2) (kt : x = y → Wm m T cells slots sh q L st I J R) (kf : ¬ x = y → Wm m T cells slots sh q2 L st I J R) : Wm m T cells slots sh pc L (.int y :: .int x :: st) I J R := by
  subst hq
  intro p l e s mid args below meth c D A ad0 cA0 ad cA H locs ls S
  exact lv_icmp_eq S.1.1 S.1.2.1 hd ht (fun z => kt (z) p l e s mid args below meth c D A ad0 cA0 ad cA H locs ls S) (fun z => kf (z) p l e s mid args below meth c D A ad0 cA0 ad cA H locs ls S)
theorem q_if_ne {x : Int32} {off : Int} {q q2 : Nat} (hd : decode m.2.1 pc = .ok (.ifCond .ne off, 3)) (ht : (pc : Int) + off = (q : Int)) (hq : pc + 3 = q2) (kt : ¬ x = 0 → Wm m T cells slots sh q L st I J R) (kf : x = 0 → Wm m T cells slots sh q2 L st I J R) : Wm m T cells slots sh pc L (.int x :: st) I J R := by
  subst hq
  intro p l e s mid args below meth c D A ad0 cA0 ad cA H locs ls S
  exact lv_if_ne S.1.1 S.1.2.1 hd ht (fun z => kt (z) p l e s mid args below meth c D A ad0 cA0 ad cA H locs ls S) (fun z => kf (z) p l e s mid args below meth c D A ad0 cA0 ad cA H locs ls S)
theorem q_icmp_ne {x y : Int32} {off : Int} {q q2 : Nat} (hd : decode m.2.1 pc = .ok (.if_icmp .ne off, 3)) (ht : (pc : Int) + off = (q : Int)) (hq : pc + 3 = q2) (kt : ¬ x = y → Wm m T cells slots sh q L st I J R) (kf : x = y → Wm m T cells slots sh q2 L st I J R) : Wm m T cells slots sh pc L (.int y :: .int x :: st) I J R := by
  subst hq
  intro p l e s mid args below meth c D A ad0 cA0 ad cA H locs ls S
  exact lv_icmp_ne S.1.1 S.1.2.1 hd ht (fun z => kt (z) p l e s mid args below meth c D A ad0 cA0 ad cA H locs ls S) (fun z => kf (z) p l e s mid args below meth c D A ad0 cA0 ad cA H locs ls S)
theorem q_if_lt {x : Int32} {off : Int} {q q2 : Nat} (hd : decode m.2.1 pc = .ok (.ifCond .lt off, 3)) (ht : (pc : Int) + off = (q : Int)) (hq : pc + 3 = q2) (kt : x < 0 → Wm m T cells slots sh q L st I J R) (kf : ¬ x < 0 → Wm m T cells slots sh q2 L st I J R) : Wm m T cells slots sh pc L (.int x :: st) I J R := by
  subst hq
  intro p l e s mid args below meth c D A ad0 cA0 ad cA H locs ls S
  exact lv_if_lt S.1.1 S.1.2.1 hd ht (fun z => kt (z) p l e s mid args below meth c D A ad0 cA0 ad cA H locs ls S) (fun z => kf (z) p l e s mid args below meth c D A ad0 cA0 ad cA H locs ls S)
theorem q_icmp_lt {x y : Int32} {off : Int} {q q2 : Nat} (hd : decode m.2.1 pc = .ok (.if_icmp .lt off, 3)) (ht : (pc : Int) + off = (q : Int)) (hq : pc + 3 = q2) (kt : x < y → Wm m T cells slots sh q L st I J R) (kf : ¬ x < y → Wm m T cells slots sh q2 L st I J R) : Wm m T cells slots sh pc L (.int y :: .int x :: st) I J R := by
  subst hq
  intro p l e s mid args below meth c D A ad0 cA0 ad cA H locs ls S
  exact lv_icmp_lt S.1.1 S.1.2.1 hd ht (fun z => kt (z) p l e s mid args below meth c D A ad0 cA0 ad cA H locs ls S) (fun z => kf (z) p l e s mid args below meth c D A ad0 cA0 ad cA H locs ls S)
theorem q_if_ge {x : Int32} {off : Int} {q q2 : Nat} (hd : decode m.2.1 pc = .ok (.ifCond .ge off, 3)) (ht : (pc : Int) + off = (q : Int)) (hq : pc + 3 = q2) (kt : 0 ≤ x → Wm m T cells slots sh q L st I J R) (kf : ¬ 0 ≤ x → Wm m T cells slots sh q2 L st I J R) : Wm m T cells slots sh pc L (.int x :: st) I J R := by
  subst hq
  intro p l e s mid args below meth c D A ad0 cA0 ad cA H locs ls S
  exact lv_if_ge S.1.1 S.1.2.1 hd ht (fun z => kt (z) p l e s mid args below meth c D A ad0 cA0 ad cA H locs ls S) (fun z => kf (z) p l e s mid args below meth c D A ad0 cA0 ad cA H locs ls S)
theorem q_icmp_ge {x y : Int32} {off : Int} {q q2 : Nat} (hd : decode m.2.1 pc = .ok (.if_icmp .ge off, 3)) (ht : (pc : Int) + off = (q : Int)) (hq : pc + 3 = q2) (kt : y ≤ x → Wm m T cells slots sh q L st I J R) (kf : ¬ y ≤ x → Wm m T cells slots sh q2 L st I J R) : Wm m T cells slots sh pc L (.int y :: .int x :: st) I J R := by
  subst hq
  intro p l e s mid args below meth c D A ad0 cA0 ad cA H locs ls S
  exact lv_icmp_ge S.1.1 S.1.2.1 hd ht (fun z => kt (z) p l e s mid args below meth c D A ad0 cA0 ad cA H locs ls S) (fun z => kf (z) p l e s mid args below meth c D A ad0 cA0 ad cA H locs ls S)
theorem q_if_gt {x : Int32} {off : Int} {q q2 : Nat} (hd : decode m.2.1 pc = .ok (.ifCond .gt off, 3)) (ht : (pc : Int) + off = (q : Int)) (hq : pc + 3 = q2) (kt : 0 < x → Wm m T cells slots sh q L st I J R) (kf : ¬ 0 < x → Wm m T cells slots sh q2 L st I J R) : Wm m T cells slots sh pc L (.int x :: st) I J R := by
  subst hq
  intro p l e s mid args below meth c D A ad0 cA0 ad cA H locs ls S
  exact lv_if_gt S.1.1 S.1.2.1 hd ht (fun z => kt (z) p l e s mid args below meth c D A ad0 cA0 ad cA H locs ls S) (fun z => kf (z) p l e s mid args below meth c D A ad0 cA0 ad cA H locs ls S)
theorem q_icmp_gt {x y : Int32} {off : Int} {q q2 : Nat} (hd : decode m.2.1 pc = .ok (.if_icmp .gt off, 3)) (ht : (pc : Int) + off = (q : Int)) (hq : pc + 3 = q2) (kt : y < x → Wm m T cells slots sh q L st I J R) (kf : ¬ y < x → Wm m T cells slots sh q2 L st I J R) : Wm m T cells slots sh pc L (.int y :: .int x :: st) I J R := by
  subst hq
  intro p l e s mid args below meth c D A ad0 cA0 ad cA H locs ls S
  exact lv_icmp_gt S.1.1 S.1.2.1 hd ht (fun z => kt (z) p l e s mid args below meth c D A ad0 cA0 ad cA H locs ls S) (fun z => kf (z) p l e s mid args below meth c D A ad0 cA0 ad cA H locs ls S)
theorem q_if_le {x : Int32} {off : Int} {q q2 : Nat} (hd : decode m.2.1 pc = .ok (.ifCond .le off, 3)) (ht : (pc : Int) + off = (q : Int)) (hq : pc + 3 = q2) (kt : x ≤ 0 → Wm m T cells slots sh q L st I J R) (kf : ¬ x ≤ 0 → Wm m T cells slots sh q2 L st I J R) : Wm m T cells slots sh pc L (.int x :: st) I J R := by
  subst hq
  intro p l e s mid args below meth c D A ad0 cA0 ad cA H locs ls S
  exact lv_if_le S.1.1 S.1.2.1 hd ht (fun z => kt (z) p l e s mid args below meth c D A ad0 cA0 ad cA H locs ls S) (fun z => kf (z) p l e s mid args below meth c D A ad0 cA0 ad cA H locs ls S)
theorem q_icmp_le {x y : Int32} {off : Int} {q q2 : Nat} (hd : decode m.2.1 pc = .ok (.if_icmp .le off, 3)) (ht : (pc : Int) + off = (q : Int)) (hq : pc + 3 = q2) (kt : x ≤ y → Wm m T cells slots sh q L st I J R) (kf : ¬ x ≤ y → Wm m T cells slots sh q2 L st I J R) : Wm m T cells slots sh pc L (.int y :: .int x :: st) I J R := by
  subst hq
  intro p l e s mid args below meth c D A ad0 cA0 ad cA H locs ls S
  exact lv_icmp_le S.1.1 S.1.2.1 hd ht (fun z => kt (z) p l e s mid args below meth c D A ad0 cA0 ad cA H locs ls S) (fun z => kf (z) p l e s mid args below meth c D A ad0 cA0 ad cA H locs ls S)
theorem q_istore_n {k : Fin 4} {x : Int32} {q : Nat} (hd : decode m.2.1 pc = .ok (.istore_n k, 1)) (hq : pc + 1 = q) (hn : (k : Nat) < m.2.2.1) (K : Wm m T cells slots sh q (st1 L (k : Nat) (.int x)) st I J R) : Wm m T cells slots sh pc L (.int x :: st) I J R := by
  subst hq
  intro p l e s mid args below meth c D A ad0 cA0 ad cA H locs ls S
  obtain ⟨C, hA, hT, hK, hP, hD, hS, hl⟩ := S
  exact lv_istore_n C.1 C.2.1 hd rfl hl.has hn rfl (fun ls2 h2 => K p l e s mid args below meth c D A ad0 cA0 ad cA H locs ls2 ⟨C, hA, hT, hK, hP, hD, hS, lo.put1 (v := .int x) h2⟩)
theorem q_istore {i : Nat} {x : Int32} {q : Nat} (hd : decode m.2.1 pc = .ok (.istore i, 2)) (hq : pc + 2 = q) (hn : i < m.2.2.1) (K : Wm m T cells slots sh q (st1 L i (.int x)) st I J R) : Wm m T cells slots sh pc L (.int x :: st) I J R := by
  subst hq
  intro p l e s mid args below meth c D A ad0 cA0 ad cA H locs ls S
  obtain ⟨C, hA, hT, hK, hP, hD, hS, hl⟩ := S
  exact lv_istore C.1 C.2.1 hd hl.has hn rfl (fun ls2 h2 => K p l e s mid args below meth c D A ad0 cA0 ad cA H locs ls2 ⟨C, hA, hT, hK, hP, hD, hS, lo.put1 (v := .int x) h2⟩)
theorem q_astore_n {k : Fin 4} {x : Nat} {q : Nat} (hd : decode m.2.1 pc = .ok (.astore_n k, 1)) (hq : pc + 1 = q) (hn : (k : Nat) < m.2.2.1) (K : Wm m T cells slots sh q (st1 L (k : Nat) (.ref x)) st I J R) : Wm m T cells slots sh pc L (.ref x :: st) I J R := by
  subst hq
  intro p l e s mid args below meth c D A ad0 cA0 ad cA H locs ls S
  obtain ⟨C, hA, hT, hK, hP, hD, hS, hl⟩ := S
  exact lv_astore_n C.1 C.2.1 hd rfl hl.has hn rfl (fun ls2 h2 => K p l e s mid args below meth c D A ad0 cA0 ad cA H locs ls2 ⟨C, hA, hT, hK, hP, hD, hS, lo.put1 (v := .ref x) h2⟩)
theorem q_astore {i : Nat} {x : Nat} {q : Nat} (hd : decode m.2.1 pc = .ok (.astore i, 2)) (hq : pc + 2 = q) (hn : i < m.2.2.1) (K : Wm m T cells slots sh q (st1 L i (.ref x)) st I J R) : Wm m T cells slots sh pc L (.ref x :: st) I J R := by
  subst hq
  intro p l e s mid args below meth c D A ad0 cA0 ad cA H locs ls S
  obtain ⟨C, hA, hT, hK, hP, hD, hS, hl⟩ := S
  exact lv_astore C.1 C.2.1 hd hl.has hn rfl (fun ls2 h2 => K p l e s mid args below meth c D A ad0 cA0 ad cA H locs ls2 ⟨C, hA, hT, hK, hP, hD, hS, lo.put1 (v := .ref x) h2⟩)
theorem q_lstore_n {k : Fin 4} {x : Int64} {q : Nat} (hd : decode m.2.1 pc = .ok (.lstore_n k, 1)) (hq : pc + 1 = q) (hn : (k : Nat) + 1 < m.2.2.1) (K : Wm m T cells slots sh q (st2 L (k : Nat) (.long x)) st I J R) : Wm m T cells slots sh pc L (.long x :: st) I J R := by
  subst hq
  intro p l e s mid args below meth c D A ad0 cA0 ad cA H locs ls S
  obtain ⟨C, hA, hT, hK, hP, hD, hS, hl⟩ := S
  exact lv_lstore_n C.1 C.2.1 hd rfl hl.has hn rfl (fun ls2 h2 => K p l e s mid args below meth c D A ad0 cA0 ad cA H locs ls2 ⟨C, hA, hT, hK, hP, hD, hS, lo.put2 (v := .long x) h2⟩)
theorem q_lstore {i : Nat} {x : Int64} {q : Nat} (hd : decode m.2.1 pc = .ok (.lstore i, 2)) (hq : pc + 2 = q) (hn : i + 1 < m.2.2.1) (K : Wm m T cells slots sh q (st2 L i (.long x)) st I J R) : Wm m T cells slots sh pc L (.long x :: st) I J R := by
  subst hq
  intro p l e s mid args below meth c D A ad0 cA0 ad cA H locs ls S
  obtain ⟨C, hA, hT, hK, hP, hD, hS, hl⟩ := S
  exact lv_lstore C.1 C.2.1 hd hl.has hn rfl (fun ls2 h2 => K p l e s mid args below meth c D A ad0 cA0 ad cA H locs ls2 ⟨C, hA, hT, hK, hP, hD, hS, lo.put2 (v := .long x) h2⟩)
theorem q_iinc {i : Nat} {n : Int} {x v : Int32} {q : Nat} (hd : decode m.2.1 pc = .ok (.iinc i n, 3)) (hq : pc + 3 = q) (hL : L[i]? = some (some (.int x))) (hv : x + Int32.ofInt n = v) (hn : i < m.2.2.1) (K : Wm m T cells slots sh q (st1 L i (.int v)) st I J R) : Wm m T cells slots sh pc L st I J R := by
  subst hq
  intro p l e s mid args below meth c D A ad0 cA0 ad cA H locs ls S
  obtain ⟨C, hA, hT, hK, hP, hD, hS, hl⟩ := S
  obtain ⟨k, hk⟩ := List.getElem?_of_mem (lvl_in (ad := ad) hL)
  exact lv_iinc C.1 C.2.1 hd hl.has hk hv hn rfl (fun ls2 h2 => K p l e s mid args below meth c D A ad0 cA0 ad cA H locs ls2 ⟨C, hA, hT, hK, hP, hD, hS, lo.put1 (v := .int v) h2⟩)
theorem q_lookup {dflt : Int} {ps : Array (Int × Int)} {len : Nat} {x : Int32} {off : Int} {q : Nat} (hd : decode m.2.1 pc = .ok (.lookupswitch dflt ps, len)) (hp : (ps.toList.zip (ps.toList.drop 1)).all (fun (a, next) => a.1 < next.1) = true) (ho : Op.lookupswitch.offset ps.toList dflt x.toInt = off) (ht : (pc : Int) + off = (q : Int)) (K : Wm m T cells slots sh q L st I J R) : Wm m T cells slots sh pc L (.int x :: st) I J R := by
  intro p l e s mid args below meth c D A ad0 cA0 ad cA H locs ls S
  exact lv_lookup S.1.1 S.1.2.1 hd hp ho ht (K p l e s mid args below meth c D A ad0 cA0 ad cA H locs ls S)
theorem q_tableOut {dflt lo hi : Int} {offs : Array Int} {len : Nat} {x : Int32} {q : Nat} (hd : decode m.2.1 pc = .ok (.tableswitch dflt lo hi offs, len)) (h : x.toInt < lo ∨ hi < x.toInt) (ht : (pc : Int) + dflt = (q : Int)) (K : Wm m T cells slots sh q L st I J R) : Wm m T cells slots sh pc L (.int x :: st) I J R := by
  intro p l e s mid args below meth c D A ad0 cA0 ad cA H locs ls S
  exact lv_tableOut S.1.1 S.1.2.1 hd h ht (K p l e s mid args below meth c D A ad0 cA0 ad cA H locs ls S)
theorem q_tableIn {dflt lo hi : Int} {offs : Array Int} {len : Nat} {x : Int32} {off : Int} {q : Nat} (hd : decode m.2.1 pc = .ok (.tableswitch dflt lo hi offs, len)) (h1 : ¬ x.toInt < lo) (h2 : ¬ hi < x.toInt) (ho : offs[(x.toInt - lo).toNat]? = some off) (ht : (pc : Int) + off = (q : Int)) (K : Wm m T cells slots sh q L st I J R) : Wm m T cells slots sh pc L (.int x :: st) I J R := by
  intro p l e s mid args below meth c D A ad0 cA0 ad cA H locs ls S
  exact lv_tableIn S.1.1 S.1.2.1 hd h1 h2 ho ht (K p l e s mid args below meth c D A ad0 cA0 ad cA H locs ls S)
theorem q_widen {k n : Nat} (h1 : cells ≤ k) (h2 : slots ≤ n) (K : Wm m T k n sh pc L st I J R) : Wm m T cells slots sh pc L st I J R := by
  intro p l e s mid args below meth c D A ad0 cA0 ad cA H locs ls S
  exact W.widen h1 h2 (K p l e s mid args below meth c D A ad0 cA0 ad cA H locs ls S)
theorem TC_own {c k : Nat} (h : c < 8) (hk : k < nC c) : (TC c k).1 = RC c := by
  have key : ∀ c, c < 8 → ∀ k, k < nC c → (TC c k).1 = RC c := by decide +kernel
  exact key c h k hk
/-- a field's place in its class, linked at an entry of the pool, of a kind (0 int, 1 long, 2 reference) -/
def FG (own : String) (idx c k kind : Nat) : Prop := c < 8 ∧ k < nC c ∧ fk (tyC c k) = kind ∧ (Cond.fieldLink own idx (RC c) (TC c k).2.1 (TC c k).2.2.1 ∈ ALLW ∨ ∃ host, Cond.fieldLinkNest own idx (RC c) (TC c k).2.1 (TC c k).2.2.1 host ∈ nestW)
theorem W_get {p : Program} {l : Launch} {e : Env} {RR : Room} {s : State} {mid : MethodId} {args : Array Value} {below : List Frame} {meth : Method} {c : Code} {H : Heap} {locs : List Loc} {Q : State → Prop} {D : va_G} {cA : Nat → ClassId} {ad : Nat → Nat} {ls : Array Slot} {rest : List Value} {pl k ci idx kind : Nat}
    (C : Cx m p s mid args meth c) (hK : KK D cA sh s) (hP : va_P D vwCl (enc ad cA sh I J R) H) (hf : FG m.1.cls idx ci k kind) (hs : sh[pl]? = some (.inl ci)) (hd : decode m.2.1 pc = .ok (.getfield idx, 3))
    (kk : W p l e RR s mid args below meth c H locs cells slots Q (F0 mid (pc + 3) ls (fv ad I J R pl k (tyC ci k) :: rest))) : W p l e RR s mid args below meth c H locs cells slots Q (F0 mid pc ls (.ref (ad pl) :: rest)) := by
  obtain ⟨hc, hk, -, hl⟩ := hf
  have he : (enc ad cA sh I J R)[pl]? = some (ad pl, .inr (ci, (List.range (nC ci)).map (fun k => fv ad I J R pl k (tyC ci k)))) := enc_at hs
  have hv : ((List.range (nC ci)).map (fun k => fv ad I J R pl k (tyC ci k)))[k]? = some (fv ad I J R pl k (tyC ci k)) := by
    rw [List.getElem?_map, List.getElem?_range hk]
    rfl
  rcases hl with hl | ⟨host, hl⟩
  · exact va_get (C := RC ci) (T := TC ci) (N := nC ci) C.1 C.2.1 C.2.2.2.2.2.1 (uAll hc) C.2.2.2.2.1 hK.1 hP pl he (vwAt hc) k hk (C.2.2.2.2.2.1 _ hl) (fun _ h => by rw [TC_own hc hk] at h; exact h) hv hd kk
  · exact va_getN (C := RC ci) (T := TC ci) (N := nC ci) C.1 C.2.1 C.2.2.2.2.2.1 (uAll hc) C.2.2.2.2.1 hK.1 hP pl he (vwAt hc) k hk (va_Nw.use (NN.tabs hl) (C.2.2.2.2.2.2.2.2 _ hl)) (fun _ h => by rw [TC_own hc hk] at h; exact h) hv hd kk
theorem q_getI {pl k ci idx : Nat} {q : Nat} (hd : decode m.2.1 pc = .ok (.getfield idx, 3)) (hq : pc + 3 = q) (hf : FG m.1.cls idx ci k 0) (hs : sh[pl]? = some (.inl ci)) (K : Wm m T cells slots sh q L (.int (I pl k) :: st) I J R) : Wm m T cells slots sh pc L (.ref pl :: st) I J R := by
  subst hq
  intro p l e s mid args below meth c D A ad0 cA0 ad cA H locs ls S
  refine W_get S.1 S.2.2.2.1 S.2.2.2.2.1 hf hs hd ?_
  have e1 : fv ad I J R pl k (tyC ci k) = .int (I pl k) := by
    unfold fv
    rw [hf.2.2.1]
    rfl
  rw [e1]
  exact K p l e s mid args below meth c D A ad0 cA0 ad cA H locs ls S
theorem q_getJ {pl k ci idx : Nat} {q : Nat} (hd : decode m.2.1 pc = .ok (.getfield idx, 3)) (hq : pc + 3 = q) (hf : FG m.1.cls idx ci k 1) (hs : sh[pl]? = some (.inl ci)) (K : Wm m T cells slots sh q L (.long (J pl k) :: st) I J R) : Wm m T cells slots sh pc L (.ref pl :: st) I J R := by
  subst hq
  intro p l e s mid args below meth c D A ad0 cA0 ad cA H locs ls S
  refine W_get S.1 S.2.2.2.1 S.2.2.2.2.1 hf hs hd ?_
  have e1 : fv ad I J R pl k (tyC ci k) = .long (J pl k) := by
    unfold fv
    rw [hf.2.2.1]
    rfl
  rw [e1]
  exact K p l e s mid args below meth c D A ad0 cA0 ad cA H locs ls S
theorem q_getR {pl k ci idx r : Nat} {q : Nat} (hd : decode m.2.1 pc = .ok (.getfield idx, 3)) (hq : pc + 3 = q) (hf : FG m.1.cls idx ci k 2) (hs : sh[pl]? = some (.inl ci)) (hr : R pl k = some r) (K : Wm m T cells slots sh q L (.ref r :: st) I J R) : Wm m T cells slots sh pc L (.ref pl :: st) I J R := by
  subst hq
  intro p l e s mid args below meth c D A ad0 cA0 ad cA H locs ls S
  refine W_get S.1 S.2.2.2.1 S.2.2.2.2.1 hf hs hd ?_
  have e1 : fv ad I J R pl k (tyC ci k) = .ref (ad r) := by
    unfold fv
    rw [hf.2.2.1, hr]
    rfl
  rw [e1]
  exact K p l e s mid args below meth c D A ad0 cA0 ad cA H locs ls S
/-- a field written: as FG, with its exact type, not of a nest mate -/
def FP (own : String) (idx c k : Nat) (t : FieldType) (fin : Bool) : Prop := c < 8 ∧ k < nC c ∧ tyC c k = t ∧ (TC c k).2.2.2 = fin ∧ (fin = true → RC c = own) ∧ Cond.fieldLink own idx (RC c) (TC c k).2.1 (TC c k).2.2.1 ∈ ALLW
theorem W_put {p : Program} {l : Launch} {e : Env} {RR : Room} {s : State} {mid : MethodId} {args : Array Value} {below : List Frame} {meth : Method} {c : Code} {H : Heap} {locs : List Loc} {Q : State → Prop} {D : va_G} {cA : Nat → ClassId} {ad : Nat → Nat} {ls : Array Slot} {rest : List Value} {pl k ci idx : Nat} {t : FieldType} {fin : Bool} {v : Value} {A : Nat → Prop} {H0 : Heap} {I' : HI} {J' : HJ} {R' : HR}
    (C : Cx m p s mid args meth c) (hK : KK D cA sh s) (hP : va_P D vwCl (enc ad cA sh I J R) H) (hD : va_D A (enc ad cA sh I J R)) (hS : va_S A H0 H locs) (hf : FP m.1.cls idx ci k t fin) (hin : fin = true → m.1.name = "<init>") (hs : sh[pl]? = some (.inl ci)) (hd : decode m.2.1 pc = .ok (.putfield idx, 3)) (hn : narrow t v = v) (hft : fits t v = true)
    (h1 : ∀ a, a ≠ pl → I' a = I a ∧ J' a = J a ∧ R' a = R a) (h2 : ∀ j, j < nC ci → fv ad I' J' R' pl j (tyC ci j) = if j = k then v else fv ad I J R pl j (tyC ci j))
    (kk : ∀ (H1 : Heap) (locs1 : List Loc), va_P D vwCl (enc ad cA sh I' J' R') H1 → va_D A (enc ad cA sh I' J' R') → va_S A H0 H1 locs1 → W p l e RR s mid args below meth c H1 locs1 cells slots Q (F0 mid (pc + 3) ls rest)) : W p l e RR s mid args below meth c H locs cells slots Q (F0 mid pc ls (v :: .ref (ad pl) :: rest)) := by
  obtain ⟨hc, hk, hty, hfin, how, hl⟩ := hf
  have he : (enc ad cA sh I J R)[pl]? = some (ad pl, .inr (ci, (List.range (nC ci)).map (fun k => fv ad I J R pl k (tyC ci k)))) := enc_at hs
  have hset : (enc ad cA sh I J R).set pl (ad pl, .inr (ci, ((List.range (nC ci)).map (fun k => fv ad I J R pl k (tyC ci k))).set k v)) = enc ad cA sh I' J' R' :=
    enc_set hs (fun a kd ha => en_ne (h1 a ha).1 (h1 a ha).2.1 (h1 a ha).2.2 kd) (en_setF h2)
  have kk2 : ∀ (H1 : Heap) (locs1 : List Loc), va_P D vwCl ((enc ad cA sh I J R).set pl (ad pl, .inr (ci, ((List.range (nC ci)).map (fun k => fv ad I J R pl k (tyC ci k))).set k v))) H1 → va_D A ((enc ad cA sh I J R).set pl (ad pl, .inr (ci, ((List.range (nC ci)).map (fun k => fv ad I J R pl k (tyC ci k))).set k v))) → va_S A H0 H1 locs1 → W p l e RR s mid args below meth c H1 locs1 cells slots Q (F0 mid (pc + 3) ls rest) := by
    rw [hset]
    exact kk
  have hlen : k < ((List.range (nC ci)).map (fun k => fv ad I J R pl k (tyC ci k))).length := by simp; exact hk
  have hpd : parseFieldDescriptor (TC ci k).2.2.1 = some t := by rw [tyOK hc k hk, hty]
  cases fin with
  | false => exact va_put (C := RC ci) (T := TC ci) (N := nC ci) C.1 C.2.1 C.2.2.2.2.2.1 (uAll hc) (tyC ci) (tyOK hc) (nmOK hc) C.2.2.2.2.1 hK.1 hP hD hS pl he (vwAt hc) k hk (C.2.2.2.2.2.1 _ hl) (fun _ h => by rw [TC_own hc hk] at h; exact h) hfin hpd hn hft hlen hd kk2
  | true => exact va_putF (C := RC ci) (T := TC ci) (N := nC ci) C.1 C.2.1 C.2.2.2.2.2.1 (uAll hc) (tyC ci) (tyOK hc) (nmOK hc) C.2.2.2.2.1 hK.1 hP hD hS pl he (vwAt hc) k hk (C.2.2.2.2.2.1 _ hl) (fun _ h => by rw [TC_own hc hk] at h; exact h) hfin (C.2.2.2.2.2.2.2.1 (hin rfl)) ((TC_own hc hk).trans (how rfl)) hpd hn hft hlen hd kk2
theorem fv_wrI {ad : Nat → Nat} {pl k ci : Nat} {v : Int32} (hk : fk (tyC ci k) = 0) (j : Nat) : fv ad (wr I pl k v) J R pl j (tyC ci j) = if j = k then .int v else fv ad I J R pl j (tyC ci j) := by
  by_cases e : j = k
  · subst e
    rw [if_pos rfl]
    unfold fv
    rw [hk]
    simp [wr]
  · rw [if_neg e]
    unfold fv
    rw [wr_nk e]
theorem fv_wrJ {ad : Nat → Nat} {pl k ci : Nat} {v : Int64} (hk : fk (tyC ci k) = 1) (j : Nat) : fv ad I (wr J pl k v) R pl j (tyC ci j) = if j = k then .long v else fv ad I J R pl j (tyC ci j) := by
  by_cases e : j = k
  · subst e
    rw [if_pos rfl]
    unfold fv
    rw [hk]
    simp [wr]
  · rw [if_neg e]
    unfold fv
    rw [wr_nk e]
theorem fv_wrR {ad : Nat → Nat} {pl k ci : Nat} {r : Nat} (hk : fk (tyC ci k) = 2) (j : Nat) : fv ad I J (wr R pl k (some r)) pl j (tyC ci j) = if j = k then .ref (ad r) else fv ad I J R pl j (tyC ci j) := by
  by_cases e : j = k
  · subst e
    rw [if_pos rfl]
    unfold fv
    rw [hk]
    simp [wr, va_rf]
  · rw [if_neg e]
    unfold fv
    rw [wr_nk e]
theorem q_putI {pl k ci idx : Nat} {v : Int32} {q : Nat} (hd : decode m.2.1 pc = .ok (.putfield idx, 3)) (hq : pc + 3 = q) (hf : FP m.1.cls idx ci k .int false) (hs : sh[pl]? = some (.inl ci)) (K : Wm m T cells slots sh q L st (wr I pl k v) J R) : Wm m T cells slots sh pc L (.int v :: .ref pl :: st) I J R := by
  subst hq
  intro p l e s mid args below meth c D A ad0 cA0 ad cA H locs ls S
  obtain ⟨C, hA, hT, hK, hP, hD, hS, hl⟩ := S
  have hk : fk (tyC ci k) = 0 := by rw [hf.2.2.1]; rfl
  exact W_put C hK hP hD hS hf (fun z => by cases z) hs hd rfl rfl (fun a ha => ⟨wr_ne ha, rfl, rfl⟩) (fun j _ => fv_wrI hk j) (fun H1 locs1 hP hD hS => K p l e s mid args below meth c D A ad0 cA0 ad cA H1 locs1 ls ⟨C, hA, hT, hK, hP, hD, hS, hl⟩)
theorem q_putJ {pl k ci idx : Nat} {v : Int64} {q : Nat} (hd : decode m.2.1 pc = .ok (.putfield idx, 3)) (hq : pc + 3 = q) (hf : FP m.1.cls idx ci k .long false) (hs : sh[pl]? = some (.inl ci)) (K : Wm m T cells slots sh q L st I (wr J pl k v) R) : Wm m T cells slots sh pc L (.long v :: .ref pl :: st) I J R := by
  subst hq
  intro p l e s mid args below meth c D A ad0 cA0 ad cA H locs ls S
  obtain ⟨C, hA, hT, hK, hP, hD, hS, hl⟩ := S
  have hk : fk (tyC ci k) = 1 := by rw [hf.2.2.1]; rfl
  exact W_put C hK hP hD hS hf (fun z => by cases z) hs hd rfl rfl (fun a ha => ⟨rfl, wr_ne ha, rfl⟩) (fun j _ => fv_wrJ hk j) (fun H1 locs1 hP hD hS => K p l e s mid args below meth c D A ad0 cA0 ad cA H1 locs1 ls ⟨C, hA, hT, hK, hP, hD, hS, hl⟩)
theorem q_putR {pl k ci idx r : Nat} {t : FieldType} {fin : Bool} {q : Nat} (hd : decode m.2.1 pc = .ok (.putfield idx, 3)) (hq : pc + 3 = q) (hf : FP m.1.cls idx ci k t fin) (ht : fk t = 2) (hin : fin = true → m.1.name = "<init>") (hs : sh[pl]? = some (.inl ci)) (K : Wm m T cells slots sh q L st I J (wr R pl k (some r))) : Wm m T cells slots sh pc L (.ref r :: .ref pl :: st) I J R := by
  subst hq
  intro p l e s mid args below meth c D A ad0 cA0 ad cA H locs ls S
  obtain ⟨C, hA, hT, hK, hP, hD, hS, hl⟩ := S
  have hk : fk (tyC ci k) = 2 := by rw [hf.2.2.1]; exact ht
  have hn : narrow t (.ref (ad r)) = .ref (ad r) := by cases t <;> first | rfl | (simp [fk] at ht)
  have hft : fits t (.ref (ad r)) = true := by cases t <;> first | rfl | (simp [fk] at ht)
  exact W_put C hK hP hD hS hf hin hs hd hn hft (fun a ha => ⟨rfl, rfl, wr_ne ha⟩) (fun j _ => fv_wrR hk j) (fun H1 locs1 hP hD hS => K p l e s mid args below meth c D A ad0 cA0 ad cA H1 locs1 ls ⟨C, hA, hT, hK, hP, hD, hS, hl⟩)
theorem vpn {j n : Nat} (hj : j < n) (hn : n < 2 ^ 31) : vp_in (nI j) n := vp_in_nI hj hn
theorem ncl {j n : Nat} (hj : j < n) (hn : n < 2 ^ 31) : (nI j).toNatClampNeg = j := nI_clamp (by omega)
theorem upd_wr {p k : Nat} {v : Int32} : upd (I p) k v = wr I p k v p := by
  funext b
  simp [upd, wr]
theorem updL_wr {p k : Nat} {v : Int64} : vp_updL (J p) k v = wr J p k v p := by
  funext b
  simp [vp_updL, wr]
theorem q_iald {pl j n : Nat} {q : Nat} (hd : decode m.2.1 pc = .ok (.iaload, 1)) (hq : pc + 1 = q) (hs : sh[pl]? = some (.inr (.int, n))) (hj : j < n) (hn : n < 2 ^ 31) (K : Wm m T cells slots sh q L (.int (I pl j) :: st) I J R) : Wm m T cells slots sh pc L (.int (nI j) :: .ref pl :: st) I J R := by
  subst hq
  intro p l e s mid args below meth c D A ad0 cA0 ad cA H locs ls S
  have K2 := K p l e s mid args below meth c D A ad0 cA0 ad cA H locs ls S
  have he := enc_at (ad := ad) (cA := cA) (I := I) (J := J) (R := R) hs
  refine va_iald S.1.1 S.1.2.1 (S.2.2.2.1.2 pl _ _ hs) S.2.2.2.2.1 pl 0 he rfl (vpn hj hn) hd ?_
  rw [ncl hj hn]
  exact K2
theorem q_bald {pl j n : Nat} {q : Nat} (hd : decode m.2.1 pc = .ok (.baload, 1)) (hq : pc + 1 = q) (hs : sh[pl]? = some (.inr (.byte, n))) (hj : j < n) (hn : n < 2 ^ 31) (K : Wm m T cells slots sh q L (.int (I pl j) :: st) I J R) : Wm m T cells slots sh pc L (.int (nI j) :: .ref pl :: st) I J R := by
  subst hq
  intro p l e s mid args below meth c D A ad0 cA0 ad cA H locs ls S
  have K2 := K p l e s mid args below meth c D A ad0 cA0 ad cA H locs ls S
  have he := enc_at (ad := ad) (cA := cA) (I := I) (J := J) (R := R) hs
  refine va_bald S.1.1 S.1.2.1 (S.2.2.2.1.2 pl _ _ hs) S.2.2.2.2.1 pl 0 he rfl (vpn hj hn) hd ?_
  rw [ncl hj hn]
  exact K2
theorem q_lald {pl j n : Nat} {q : Nat} (hd : decode m.2.1 pc = .ok (.laload, 1)) (hq : pc + 1 = q) (hs : sh[pl]? = some (.inr (.long, n))) (hj : j < n) (hn : n < 2 ^ 31) (K : Wm m T cells slots sh q L (.long (J pl j) :: st) I J R) : Wm m T cells slots sh pc L (.int (nI j) :: .ref pl :: st) I J R := by
  subst hq
  intro p l e s mid args below meth c D A ad0 cA0 ad cA H locs ls S
  have K2 := K p l e s mid args below meth c D A ad0 cA0 ad cA H locs ls S
  have he := enc_at (ad := ad) (cA := cA) (I := I) (J := J) (R := R) hs
  refine va_lald S.1.1 S.1.2.1 (S.2.2.2.1.2 pl _ _ hs) S.2.2.2.2.1 pl 0 he rfl (vpn hj hn) hd ?_
  rw [ncl hj hn]
  exact K2
theorem q_iast {pl j n : Nat} {v : Int32} {q : Nat} (hd : decode m.2.1 pc = .ok (.iastore, 1)) (hq : pc + 1 = q) (hs : sh[pl]? = some (.inr (.int, n))) (hj : j < n) (hn : n < 2 ^ 31) (K : Wm m T cells slots sh q L st (wr I pl j v) J R) : Wm m T cells slots sh pc L (.int v :: .int (nI j) :: .ref pl :: st) I J R := by
  subst hq
  intro p l e s mid args below meth c D A ad0 cA0 ad cA H locs ls S
  obtain ⟨C, hA, hT, hK, hP, hD, hS, hl⟩ := S
  have he := enc_at (ad := ad) (cA := cA) (I := I) (J := J) (R := R) hs
  refine va_iast C.1 C.2.1 (hK.2 pl _ _ hs) hP hD hS pl 0 he rfl (vpn hj hn) hd (fun H1 locs1 hP hD hS => ?_)
  have e2 : (enc ad cA sh I J R).set pl (ad pl, .inl (cA pl, n, .inl ((wr I pl j v) pl))) = enc ad cA sh (wr I pl j v) J R := enc_set hs (fun a kd ha => en_ne (wr_ne ha) rfl rfl kd) rfl
  rw [ncl hj hn, upd_wr, e2] at hP hD
  exact K p l e s mid args below meth c D A ad0 cA0 ad cA H1 locs1 ls ⟨C, hA, hT, hK, hP, hD, hS, hl⟩
theorem q_bast {pl j n : Nat} {v : Int32} {q : Nat} (hd : decode m.2.1 pc = .ok (.bastore, 1)) (hq : pc + 1 = q) (hs : sh[pl]? = some (.inr (.byte, n))) (hj : j < n) (hn : n < 2 ^ 31) (K : Wm m T cells slots sh q L st (wr I pl j (vp_nar .byte v)) J R) : Wm m T cells slots sh pc L (.int v :: .int (nI j) :: .ref pl :: st) I J R := by
  subst hq
  intro p l e s mid args below meth c D A ad0 cA0 ad cA H locs ls S
  obtain ⟨C, hA, hT, hK, hP, hD, hS, hl⟩ := S
  have he := enc_at (ad := ad) (cA := cA) (I := I) (J := J) (R := R) hs
  refine va_bast C.1 C.2.1 (hK.2 pl _ _ hs) hP hD hS pl 0 he rfl (vpn hj hn) hd (fun H1 locs1 hP hD hS => ?_)
  have e2 : (enc ad cA sh I J R).set pl (ad pl, .inl (cA pl, n, .inl ((wr I pl j (vp_nar .byte v)) pl))) = enc ad cA sh (wr I pl j (vp_nar .byte v)) J R := enc_set hs (fun a kd ha => en_ne (wr_ne ha) rfl rfl kd) rfl
  rw [ncl hj hn, upd_wr, e2] at hP hD
  exact K p l e s mid args below meth c D A ad0 cA0 ad cA H1 locs1 ls ⟨C, hA, hT, hK, hP, hD, hS, hl⟩
theorem q_last {pl j n : Nat} {v : Int64} {q : Nat} (hd : decode m.2.1 pc = .ok (.lastore, 1)) (hq : pc + 1 = q) (hs : sh[pl]? = some (.inr (.long, n))) (hj : j < n) (hn : n < 2 ^ 31) (K : Wm m T cells slots sh q L st I (wr J pl j v) R) : Wm m T cells slots sh pc L (.long v :: .int (nI j) :: .ref pl :: st) I J R := by
  subst hq
  intro p l e s mid args below meth c D A ad0 cA0 ad cA H locs ls S
  obtain ⟨C, hA, hT, hK, hP, hD, hS, hl⟩ := S
  have he := enc_at (ad := ad) (cA := cA) (I := I) (J := J) (R := R) hs
  refine va_last C.1 C.2.1 (hK.2 pl _ _ hs) hP hD hS pl 0 he rfl (vpn hj hn) hd (fun H1 locs1 hP hD hS => ?_)
  have e2 : (enc ad cA sh I J R).set pl (ad pl, .inl (cA pl, n, .inr (.inl (wr J pl j v pl)))) = enc ad cA sh I (wr J pl j v) R := enc_set hs (fun a kd ha => en_ne rfl (wr_ne ha) rfl kd) rfl
  rw [ncl hj hn, updL_wr, e2] at hP hD
  exact K p l e s mid args below meth c D A ad0 cA0 ad cA H1 locs1 ls ⟨C, hA, hT, hK, hP, hD, hS, hl⟩
theorem q_alen {pl n : Nat} {t : FieldType} {q : Nat} (hd : decode m.2.1 pc = .ok (.arraylength, 1)) (hq : pc + 1 = q) (hs : sh[pl]? = some (.inr (t, n))) (K : Wm m T cells slots sh q L (.int (nI n) :: st) I J R) : Wm m T cells slots sh pc L (.ref pl :: st) I J R := by
  subst hq
  intro p l e s mid args below meth c D A ad0 cA0 ad cA H locs ls S
  have he := enc_at (ad := ad) (cA := cA) (I := I) (J := J) (R := R) hs
  refine va_alen S.1.1 S.1.2.1 (S.2.2.2.1.2 pl _ _ hs) S.2.2.2.2.1 pl 0 he rfl (v := nI n) ?_ hd (K p l e s mid args below meth c D A ad0 cA0 ad cA H locs ls S)
  unfold acn
  split <;> rfl
theorem q_aald {pl j n r : Nat} {t : FieldType} {q : Nat} (hd : decode m.2.1 pc = .ok (.aaload, 1)) (hq : pc + 1 = q) (hs : sh[pl]? = some (.inr (.array t, n))) (hj : j < n) (hn : n < 2 ^ 31) (hr : R pl j = some r) (K : Wm m T cells slots sh q L (.ref r :: st) I J R) : Wm m T cells slots sh pc L (.int (nI j) :: .ref pl :: st) I J R := by
  subst hq
  intro p l e s mid args below meth c D A ad0 cA0 ad cA H locs ls S
  have K2 := K p l e s mid args below meth c D A ad0 cA0 ad cA H locs ls S
  have he := enc_at (ad := ad) (cA := cA) (I := I) (J := J) (R := R) hs
  have hin : vp_in (nI j) n := vpn hj hn
  have hlt : (nI j).toNatClampNeg < n := Nat.not_le.mp fun z => hin (Or.inr z)
  refine W.aald (v := .ref (ad r)) (ty := .array t) S.1.1 S.1.2.1 (S.2.2.2.2.1 pl _ he) (((S.2.2.2.1.2 pl _ _ hs).2 0 _ rfl).1 n (fun j => va_rf ((R pl j).map ad))) rfl (fun z => by cases z) (by show ¬ (nI j < 0 ∨ (arrV _ _ _).slots.size ≤ _); rw [arrV_size]; exact hin) ?_ rfl rfl hd K2
  show (arrV (cA pl) n (fun j => va_rf ((R pl j).map ad))).slots[(nI j).toNatClampNeg]? = some (.ref (ad r))
  rw [arrV_read _ _ hlt, ncl hj hn, hr]
  rfl
end MROWS
end
section
/-! contracts of methods in the small layer, and calls -/
def SCR : Nat := 1000
def rmd (d mc ms : Nat) : Room := { frames := d, cells := mc, slots := ms, locals := 31 * d }
def Ag (al : Bool) (n0 : Nat) (ad0 : Nat → Nat) (cA0 : Nat → ClassId) (ad : Nat → Nat) (cA : Nat → ClassId) : Prop := match al with
  | false => ad = ad0 ∧ cA = cA0
  | true => ∀ p, (p < n0 ∨ SCR ≤ p) → ad p = ad0 p ∧ cA p = cA0 p
abbrev PO : Type := List Kd → Option Value → HI → HJ → HR → Prop
def QM (al : Bool) (n0 : Nat) (D : va_G) (A : Nat → Prop) (ad0 : Nat → Nat) (cA0 : Nat → ClassId) (Po : PO) : Array Value → State → Outcome → State → Prop := fun _ st oc t =>
  (∃ (v : Option Value) (sh : List Kd) (I : HI) (J : HJ) (R : HR) (ad : Nat → Nat) (cA : Nat → ClassId), oc = .returned (v.map (tr ad)) ∧ Ag al n0 ad0 cA0 ad cA ∧ Po sh v I J R ∧ KK D cA sh t ∧ va_P D vwCl (enc ad cA sh I J R) t.heap ∧ va_D A (enc ad cA sh I J R)) ∧ va_F A st t
def TM (d mc ms : Nat) (al : Bool) (n0 : Nat) (Po : PO) : Tg := (rmd d mc ms, fun below args s D A ad0 cA0 => MQ below (QM al n0 D A ad0 cA0 Po) args s mc ms A, fun _ _ _ ad0 cA0 ad cA => Ag al n0 ad0 cA0 ad cA)
def wsM (m : MD) : List Cond := Cond.code m.1 m.2.1 m.2.2.1 m.2.2.2 :: ALLW
/-- THE CONTRACT of method m at depth d: from arguments args and a world of shape sh, it returns with Po -/
def Mt (m : MD) (d mc ms : Nat) (al : Bool) (args : List Value) (sh : List Kd) (I : HI) (J : HJ) (R : HR) (Po : PO) : Prop :=
  ∀ (l : Launch) (D : va_G) (ad : Nat → Nat) (cA : Nat → ClassId) (sz : Nat), Met l m.1 (wsM m) (rmd d mc ms) (va_Pc (args.map (tr ad)) (fun U => U.heap.size = sz ∧ va_P D vwCl (enc ad cA sh I J R) U.heap ∧ KK D cA sh U ∧ NN U ∧ va_D (fun _ => True) (enc ad cA sh I J R))) (QM al sh.length D (va_A (enc ad cA sh I J R) sz) ad cA Po) mc ms (va_A (enc ad cA sh I J R) sz)
theorem Mt.of {m : MD} {d mc ms : Nat} {al : Bool} {args : List Value} {sh : List Kd} {I : HI} {J : HJ} {R : HR} {Po : PO} {L : LO} (hy : plainName m.1.cls = true) (hn : (lg_sl args).length ≤ m.2.2.1) (hL : L0 m.2.2.1 args = L)
    (K : Wm m (TM d mc ms al sh.length Po) 0 0 sh 0 L [] I J R) : Mt m d mc ms al args sh I J R Po := by
  subst hL
  intro l D ad cA sz
  refine Met.ofW (cc := m.2.1) (maxL := m.2.2.1) (ret := m.2.2.2) hy rfl ?_
  intro p e s mid args' below meth c s₁ B hml hv
  obtain ⟨rfl, hsz, hP, hK, hN, hD0⟩ := hv
  subst hsz
  have hts := atoms_spec (ws := wsM m) B.pre
  have hD := hD0.self (sz := s.heap.size)
  have hl := lv_entry (args.map (tr ad)) (n := m.2.2.1) (by rw [sl_len]; exact hn)
  rw [lg_entry_eq]
  generalize (lg_sl (args.map (tr ad)) ++ List.replicate (m.2.2.1 - (lg_sl (args.map (tr ad))).length) Slot.unset).toArray = ls at hl ⊢
  refine K p l e s mid _ below meth c D (va_A (enc ad cA sh I J R) s.heap.size) ad cA ad cA s.heap [] ls ⟨⟨B.exec, B.bytes, B.returns, hml, findClass_of_methodNamed B.named, fun w h => hts w (List.mem_cons_of_mem _ h), B.notSynchronized, fun h => (name_of_methodNamed B.named B.method).1.trans h, hN⟩, fun q h => Or.inr h, ?_, hK, hP, hD, va_S.rf, hl.1, hl.2.1, fun i v hi => ?_⟩
  · show Ag al sh.length ad cA ad cA
    cases al with
    | false => exact ⟨rfl, rfl⟩
    | true => exact fun _ _ => ⟨rfl, rfl⟩
  · unfold L0 at hi
    have h2 : (entA args)[i]? = some (some v) := by
      by_cases h : i < (entA args).length
      · rwa [List.getElem?_append_left h] at hi
      · rw [List.getElem?_append_right (by omega)] at hi
        have := List.mem_of_getElem? hi
        simp at this
    have := entA_at ad args 0 i v h2
    rw [Nat.zero_add] at this
    exact hl.2.2 _ this
section MCALLS
variable {m : MD} {T : Tg} {cells slots : Nat} {sh : List Kd} {pc : Nat} {L : LO} {st : List Value} {I : HI} {J : HJ} {R : HR}
variable {d mc ms n0 : Nat} {al : Bool} {Po : PO}
theorem q_iret {v : Int32} (hr : m.2.2.2 = some .int) (hd : decode m.2.1 pc = .ok (.ireturn, 1)) (hP0 : Po sh (some (.int v)) I J R) : Wm m (TM d mc ms al n0 Po) mc ms sh pc L [.int v] I J R := by
  intro p l e s mid args below meth c D A ad0 cA0 ad cA H locs ls S
  obtain ⟨C, hA, hT, hK, hP, hD, hS, hl⟩ := S
  exact W.iret C.1 C.2.1 (C.2.2.1.trans hr) (fun t ht hW => ⟨⟨some (.int v), sh, I, J, R, ad, cA, rfl, hT, hP0, KK.moved hW.alike hK, by rw [ht]; exact hP, hD⟩, hS.F ht⟩) hS.2.2 hd C.2.2.2.2.2.2.1
theorem q_zret {v : Int32} (hr : m.2.2.2 = some .boolean) (hd : decode m.2.1 pc = .ok (.ireturn, 1)) (hv : v = 0 ∨ v = 1) (hP0 : Po sh (some (.int v)) I J R) : Wm m (TM d mc ms al n0 Po) mc ms sh pc L [.int v] I J R := by
  intro p l e s mid args below meth c D A ad0 cA0 ad cA H locs ls S
  obtain ⟨C, hA, hT, hK, hP, hD, hS, hl⟩ := S
  exact W.zret C.1 C.2.1 (C.2.2.1.trans hr) (by rcases hv with rfl | rfl <;> rfl) (fun t ht hW => ⟨⟨some (.int v), sh, I, J, R, ad, cA, rfl, hT, hP0, KK.moved hW.alike hK, by rw [ht]; exact hP, hD⟩, hS.F ht⟩) hS.2.2 hd C.2.2.2.2.2.2.1
theorem q_lret {v : Int64} (hr : m.2.2.2 = some .long) (hd : decode m.2.1 pc = .ok (.lreturn, 1)) (hP0 : Po sh (some (.long v)) I J R) : Wm m (TM d mc ms al n0 Po) mc ms sh pc L [.long v] I J R := by
  intro p l e s mid args below meth c D A ad0 cA0 ad cA H locs ls S
  obtain ⟨C, hA, hT, hK, hP, hD, hS, hl⟩ := S
  exact W.lret C.1 C.2.1 (C.2.2.1.trans hr) (fun t ht hW => ⟨⟨some (.long v), sh, I, J, R, ad, cA, rfl, hT, hP0, KK.moved hW.alike hK, by rw [ht]; exact hP, hD⟩, hS.F ht⟩) hS.2.2 hd C.2.2.2.2.2.2.1
theorem q_aret {v : Nat} {cn : String} (hr : m.2.2.2 = some (.object cn)) (hd : decode m.2.1 pc = .ok (.areturn, 1)) (hP0 : Po sh (some (.ref v)) I J R) : Wm m (TM d mc ms al n0 Po) mc ms sh pc L [.ref v] I J R := by
  intro p l e s mid args below meth c D A ad0 cA0 ad cA H locs ls S
  obtain ⟨C, hA, hT, hK, hP, hD, hS, hl⟩ := S
  exact W.aret (v := .ref (ad v)) C.1 C.2.1 (C.2.2.1.trans hr) (Or.inl ⟨cn, rfl⟩) (Or.inr ⟨_, rfl⟩) (fun t ht hW => ⟨⟨some (.ref v), sh, I, J, R, ad, cA, rfl, hT, hP0, KK.moved hW.alike hK, by rw [ht]; exact hP, hD⟩, hS.F ht⟩) hS.2.2 hd C.2.2.2.2.2.2.1
theorem q_vret (hr : m.2.2.2 = none) (hd : decode m.2.1 pc = .ok (.return_, 1)) (hP0 : Po sh none I J R) : Wm m (TM d mc ms al n0 Po) mc ms sh pc L [] I J R := by
  intro p l e s mid args below meth c D A ad0 cA0 ad cA H locs ls S
  obtain ⟨C, hA, hT, hK, hP, hD, hS, hl⟩ := S
  exact W.vret C.1 C.2.1 (C.2.2.1.trans hr) (fun t ht hW => ⟨⟨none, sh, I, J, R, ad, cA, rfl, hT, hP0, KK.moved hW.alike hK, by rw [ht]; exact hP, hD⟩, hS.F ht⟩) hS.2.2 hd C.2.2.2.2.2.2.1
/-- behind a call, whatever it answers -/
theorem W_call {p : Program} {l : Launch} {e : Env} {RR : Room} {s : State} {mid : MethodId} {args : Array Value} {below : List Frame} {meth : Method} {c : Code} {H : Heap} {locs : List Loc} {Q : State → Prop} {D : va_G} {cA : Nat → ClassId} {ad : Nat → Nat} {ls : Array Slot} {rest st0 : List Value} {a : Array Value} {A0 A1 free : Nat → Prop} {H0 : Heap} {k : Nat}
    (hr : va_Run p l e RR s mid args below meth c H locs cells slots mc ms (F0 mid pc ls st0) rest (QM al k D A1 ad cA Po a) free) (hS : va_S A0 H0 H locs) (hA : ∀ q, q < H.size → A1 q → A0 q) (hf : ∀ q, free q → A0 q)
    (kk : ∀ (v : Option Value) (sh' : List Kd) (I' : HI) (J' : HJ) (R' : HR) (ad' : Nat → Nat) (cA' : Nat → ClassId) (t : State) (H1 : Heap) (locs1 : List Loc), t.heap = H1 → s.vm.Alike t.vm → Ag al k ad cA ad' cA' → Po sh' v I' J' R' → KK D cA' sh' t → va_P D vwCl (enc ad' cA' sh' I' J' R') H1 → va_D A1 (enc ad' cA' sh' I' J' R') → va_S A0 H0 H1 locs1 → W p l e RR s mid args below meth c H1 locs1 (cells + mc) (slots + ms) Q (F0 mid (pc + 3) ls ((v.map (tr ad')).toList ++ rest))) : W p l e RR s mid args below meth c H locs cells slots Q (F0 mid pc ls st0) := by
  intro T hT X
  obtain ⟨v, st₀, t, T', Ls, h0, X', hL, e1, e2, ⟨⟨w, sh', I', J', R', ad', cA', hv, hg, hp, hk, hpp, hdd⟩, hz, hkk⟩, stp⟩ := hr T hT X
  cases hv
  rw [h0] at hz hkk
  obtain ⟨t2, a1, b1⟩ := kk w sh' I' J' R' ad' cA' t T'.heap (locs ++ Ls) e1.symm (by rw [← e2]; exact X'.warmed.alike) hg hp hk (by rw [e1]; exact hpp) hdd
    ⟨Nat.le_trans hS.1 (by rw [e1]; exact hz), fun q h1 h2 => by rw [e1, hkk q (Nat.lt_of_lt_of_le h1 hS.1) (fun z => h2 (hA q (Nat.lt_of_lt_of_le h1 hS.1) z))]; exact hS.2.1 q h1 h2, fun q hq => by
      rcases List.mem_append.mp hq with h | h
      · exact hS.2.2 q h
      · exact hf _ (hL q h)⟩ T' rfl X'
  exact ⟨t2, stp t2 a1, b1⟩
theorem enc_free {ad : Nat → Nat} {cA : Nat → ClassId} {A : Nat → Prop} {H0 H : Heap} {locs : List Loc} (hD : va_D A (enc ad cA sh I J R)) (hS : va_S A H0 H locs) (hA : ∀ q, H0.size ≤ q → A q) : ∀ q, va_A (enc ad cA sh I J R) H.size q → A q := by
  intro q h
  rcases h with ⟨k, e, h⟩ | h
  · exact hD.2 k _ h
  · exact hA q (Nat.le_trans hS.1 h)
/-- a callee, as its words have it: f says how it is called (0 virtual, 1 static, 2 constructor), n its arguments -/
def MF (y : MD) (f ci n : Nat) : Prop := y.2.2.1 ≤ 12 ∧ Cond.initialized y.1.cls ∈ ALLW ∧ Cond.code y.1 y.2.1 y.2.2.1 y.2.2.2 ∈ ALLW ∧ (y.1.cls ≠ "java/lang/invoke/MethodHandle" ∧ y.1.cls ≠ "java/lang/invoke/VarHandle") ∧ (parseMethodDescriptor y.1.desc).map (fun d => d.parameters.length) = some n ∧
  (match f with
  | 0 => ci < 8 ∧ RC ci = y.1.cls ∧ Cond.instanceMethod y.1 ∈ ALLW ∧ Cond.selects y.1.cls y.1 y.1 ∈ ALLW
  | 1 => Cond.static y.1 ∈ ALLW
  | _ => y.1.name = "<init>" ∧ y.2.2.2 = none ∧ Cond.instanceMethod y.1 ∈ ALLW)
def ML (own : String) (idx : Nat) (y : MD) : Prop := Cond.methodLink own idx y.1 ∈ ALLW ∨ ∃ host, Cond.methodLinkNest own idx y.1 host ∈ nestW
theorem wsM_warm {y : MD} {s : State} {args : Array Value} (hts : ∀ w ∈ ALLW, w.before args s = true) (hc : Cond.code y.1 y.2.1 y.2.2.1 y.2.2.2 ∈ ALLW) : ∀ w ∈ wsM y, ∀ (a' : Array Value) (U : State), s.WarmedH U.vm → w.before a' U = true := by
  intro w hw a' U hW
  have hw2 : w ∈ ALLW := by
    rcases List.mem_cons.mp hw with rfl | h
    · exact hc
    · exact h
  exact word_at hW (good_of_word (ALLW_good hw2)) (hts w hw2)
theorem callB_mini {y : MD} {RR : Room} {s : State} {args : Array Value} {own : String} {idx f ci n dd kc ks : Nat} (hts : ∀ w ∈ ALLW, w.before args s = true) (hm : MF y f ci n) (hl : Cond.methodLink own idx y.1 ∈ ALLW) (hR : dd + 1 ≤ RR.frames ∧ 31 * (dd + 1) ≤ RR.locals) :
    CallB RR s args own idx y.1 y.2.1 y.2.2.1 y.2.2.2 (wsM y) (rmd dd kc ks) kc ks n := by
  obtain ⟨h1, h2, h3, h4, h5, -⟩ := hm
  refine ⟨rfl, rfl, hR.1, ?_, wsM_warm hts h3, List.mem_cons_self, hts _ h3, hts _ h2, h4, fun sig h => ?_, hts _ hl⟩
  · show 8 + (y.2.2.1 + 11) + 31 * dd ≤ RR.locals
    omega
  · rw [h] at h5
    exact (Option.some.inj h5).symm
theorem callN_mini {y : MD} {RR : Room} {s : State} {args : Array Value} {own host : String} {idx f ci n dd kc ks : Nat} (hts : ∀ w ∈ ALLW, w.before args s = true) (hN : NN s) (hm : MF y f ci n) (hl : Cond.methodLinkNest own idx y.1 host ∈ nestW) (hR : dd + 1 ≤ RR.frames ∧ 31 * (dd + 1) ≤ RR.locals) :
    va_CN RR s args own idx y.1 host y.2.1 y.2.2.1 y.2.2.2 (wsM y) (rmd dd kc ks) kc ks n := by
  obtain ⟨h1, h2, h3, h4, h5, -⟩ := hm
  refine ⟨⟨rfl, rfl, hR.1, ?_, wsM_warm hts h3, List.mem_cons_self⟩, hts _ h3, hts _ h2, h4, fun sig h => ?_, va_Nw.use (NN.tabs hl) (hN _ hl)⟩
  · show 8 + (y.2.2.1 + 11) + 31 * dd ≤ RR.locals
    omega
  · rw [h] at h5
    exact (Option.some.inj h5).symm
theorem blind_mini {av : List Value} {D : va_G} {ad : Nat → Nat} {cA : Nat → ClassId} {sz : Nat} : FrameBlind (va_Pc av (fun U => U.heap.size = sz ∧ va_P D vwCl (enc ad cA sh I J R) U.heap ∧ KK D cA sh U ∧ NN U ∧ va_D (fun _ => True) (enc ad cA sh I J R))) :=
  fun a U g mk q => ⟨q.1, q.2.1, q.2.2.1, KK.moved (u := U) (U := U.calling g mk a) (Vm.Alike.refl U.vm) q.2.2.2.1, NN.same (u := U) (U := U.calling g mk a) rfl q.2.2.2.2.1, q.2.2.2.2.2⟩
theorem pre_mini {av : List Value} {D : va_G} {ad : Nat → Nat} {cA : Nat → ClassId} {H : Heap} {s : State} {A : Nat → Prop} (hK : KK D cA sh s) (hN : NN s) (hP : va_P D vwCl (enc ad cA sh I J R) H) (hD : va_D A (enc ad cA sh I J R)) : ∀ U : State, U.heap = H → s.WarmedH U.vm → va_Pc av (fun U => U.heap.size = H.size ∧ va_P D vwCl (enc ad cA sh I J R) U.heap ∧ KK D cA sh U ∧ NN U ∧ va_D (fun _ => True) (enc ad cA sh I J R)) av.toArray U :=
  fun U hU hW => ⟨rfl, by rw [hU], by rw [hU]; exact hP, KK.moved hW.alike hK, NN.warm hW hN, hD.weaken (fun _ _ _ _ => trivial)⟩
/-- a call of the small layer, as the machine's run -/
def MRun (m : MD) (T : Tg) (cells slots : Nat) (sh : List Kd) (pc : Nat) (st0 rest : List Value) (I : HI) (J : HJ) (R : HR) (mc ms : Nat) (al : Bool) (Po : PO) : Prop :=
  ∀ (p : Program) (l : Launch) (e : Env) (s : State) (mid : MethodId) (args : Array Value) (below : List Frame) (meth : Method) (c : Code) (D : va_G) (A : Nat → Prop) (ad : Nat → Nat) (cA : Nat → ClassId) (H : Heap) (locs : List Loc) (ls : Array Slot),
    Cx m p s mid args meth c → KK D cA sh s → va_P D vwCl (enc ad cA sh I J R) H → va_D A (enc ad cA sh I J R) → ls.size = m.2.2.1 → ∃ a : Array Value, va_Run p l e T.1 s mid args below meth c H locs cells slots mc ms (F0 mid pc ls (st0.map (tr ad))) (rest.map (tr ad)) (QM al sh.length D (va_A (enc ad cA sh I J R) H.size) ad cA Po a) (va_A (enc ad cA sh I J R) H.size)
theorem lv_roomM {ad : Nat → Nat} {mid : MethodId} {ls : Array Slot} {st0 rest : List Value} (h : (rest.map fun v => v.category).sum ≤ 8) : 2 * (F0 mid pc ls st0).monitorRoom + ((rest.map (tr ad)).map fun v => v.category).sum ≤ 8 := by
  refine lv_room ?_
  rw [List.map_map]
  have : (Value.category ∘ tr ad) = Value.category := funext (fun v => tr_cat ad v)
  show (List.map (Value.category ∘ tr ad) rest).sum ≤ 8
  rw [this]
  exact h
theorem run_V {y : MD} {idx ci n dd pl : Nat} {As rest : List Value} (hd : decode m.2.1 pc = .ok (.invokevirtual idx, 3)) (hl : ML m.1.cls idx y) (hm : MF y 0 ci n) (hs : sh[pl]? = some (.inl ci)) (hn : As.length = n) (hr : (rest.map fun v => v.category).sum ≤ 8) (hR : dd + 1 ≤ T.1.frames ∧ 31 * (dd + 1) ≤ T.1.locals) (hf : cells + mc ≤ T.1.cells ∧ slots + ms ≤ T.1.slots)
    (hM : Mt y dd mc ms al (.ref pl :: As) sh I J R Po) : MRun m T cells slots sh pc (As.reverse ++ .ref pl :: rest) rest I J R mc ms al Po := by
  intro p l e s mid args below meth c D A ad cA H locs ls C hK hP hD hsz
  have hc8 := hm.2.2.2.2.2.1
  have hrec := va_recv hK.1 hP (vwAt hc8) (enc_at hs)
  have hcl : (RC ci, TC ci, nC ci).1 = y.1.cls := hm.2.2.2.2.2.2.1
  rw [hcl] at hrec
  have hpre : PreV s H y.1.cls (ad pl) (va_Pc ((.ref pl :: As).map (tr ad)) (fun U => U.heap.size = H.size ∧ va_P D vwCl (enc ad cA sh I J R) U.heap ∧ KK D cA sh U ∧ NN U ∧ va_D (fun _ => True) (enc ad cA sh I J R))) (As.map (tr ad)) := ⟨blind_mini, hrec, pre_mini hK C.2.2.2.2.2.2.2.2 hP hD⟩
  have hst : (As.reverse ++ .ref pl :: rest).map (tr ad) = (As.map (tr ad)).reverse ++ .ref (ad pl) :: rest.map (tr ad) := by
    rw [List.map_append, List.map_reverse, List.map_cons]
    rfl
  rw [hst]
  rcases hl with hl | ⟨host, hl⟩
  · exact ⟨_, va_runV (g := F0 mid pc ls _) ⟨C.1, C.2.1, C.2.2.2.1, C.2.2.2.2.1, C.2.2.2.2.2.1⟩ (hM l D ad cA H.size) ⟨callB_mini C.2.2.2.2.2.1 hm hl hR, C.2.2.2.2.2.1 _ hm.2.2.2.2.2.2.2.1, C.2.2.2.2.2.1 _ hm.2.2.2.2.2.2.2.2⟩ hpre rfl (by rw [List.length_map]; exact hn) hsz rfl (lv_roomM hr) hd hf⟩
  · exact ⟨_, va_runVN (g := F0 mid pc ls _) ⟨C.1, C.2.1, C.2.2.2.1, C.2.2.2.2.1, C.2.2.2.2.2.1⟩ (hM l D ad cA H.size) ⟨callN_mini C.2.2.2.2.2.1 C.2.2.2.2.2.2.2.2 hm hl hR, C.2.2.2.2.2.1 _ hm.2.2.2.2.2.2.2.1, C.2.2.2.2.2.1 _ hm.2.2.2.2.2.2.2.2⟩ hpre rfl (by rw [List.length_map]; exact hn) hsz rfl (lv_roomM hr) hd hf⟩
theorem run_S {y : MD} {idx ci n dd : Nat} {As rest : List Value} (hd : decode m.2.1 pc = .ok (.invokestatic idx, 3)) (hl : ML m.1.cls idx y) (hm : MF y 1 ci n) (hn : As.length = n) (hr : (rest.map fun v => v.category).sum ≤ 8) (hR : dd + 1 ≤ T.1.frames ∧ 31 * (dd + 1) ≤ T.1.locals) (hf : cells + mc ≤ T.1.cells ∧ slots + ms ≤ T.1.slots)
    (hM : Mt y dd mc ms al As sh I J R Po) : MRun m T cells slots sh pc (As.reverse ++ rest) rest I J R mc ms al Po := by
  intro p l e s mid args below meth c D A ad cA H locs ls C hK hP hD hsz
  have hpre : PreS s H (va_Pc (As.map (tr ad)) (fun U => U.heap.size = H.size ∧ va_P D vwCl (enc ad cA sh I J R) U.heap ∧ KK D cA sh U ∧ NN U ∧ va_D (fun _ => True) (enc ad cA sh I J R))) (As.map (tr ad)) := ⟨blind_mini, pre_mini hK C.2.2.2.2.2.2.2.2 hP hD⟩
  have hst : (As.reverse ++ rest).map (tr ad) = (As.map (tr ad)).reverse ++ rest.map (tr ad) := by
    rw [List.map_append, List.map_reverse]
  rw [hst]
  rcases hl with hl | ⟨host, hl⟩
  · exact ⟨_, va_runS (g := F0 mid pc ls _) ⟨C.1, C.2.1, C.2.2.2.1, C.2.2.2.2.1, C.2.2.2.2.2.1⟩ (hM l D ad cA H.size) ⟨callB_mini C.2.2.2.2.2.1 hm hl hR, C.2.2.2.2.2.1 _ hm.2.2.2.2.2⟩ hpre rfl (by rw [List.length_map]; exact hn) hsz rfl (lv_roomM hr) hd hf⟩
  · exact ⟨_, va_runSN (g := F0 mid pc ls _) ⟨C.1, C.2.1, C.2.2.2.1, C.2.2.2.2.1, C.2.2.2.2.2.1⟩ (hM l D ad cA H.size) ⟨callN_mini C.2.2.2.2.2.1 C.2.2.2.2.2.2.2.2 hm hl hR, C.2.2.2.2.2.1 _ hm.2.2.2.2.2, trivial⟩ hpre rfl (by rw [List.length_map]; exact hn) hsz rfl (lv_roomM hr) hd hf⟩
theorem run_I {y : MD} {idx ci n dd pl : Nat} {As rest : List Value} (hd : decode m.2.1 pc = .ok (.invokespecial idx, 3)) (hl : ML m.1.cls idx y) (hm : MF y 2 ci n) (hn : As.length = n) (hr : (rest.map fun v => v.category).sum ≤ 8) (hR : dd + 1 ≤ T.1.frames ∧ 31 * (dd + 1) ≤ T.1.locals) (hf : cells + mc ≤ T.1.cells ∧ slots + ms ≤ T.1.slots)
    (hM : Mt y dd mc ms al (.ref pl :: As) sh I J R Po) : MRun m T cells slots sh pc (As.reverse ++ .ref pl :: rest) rest I J R mc ms al Po := by
  intro p l e s mid args below meth c D A ad cA H locs ls C hK hP hD hsz
  have hpre : PreS s H (va_Pc ((.ref pl :: As).map (tr ad)) (fun U => U.heap.size = H.size ∧ va_P D vwCl (enc ad cA sh I J R) U.heap ∧ KK D cA sh U ∧ NN U ∧ va_D (fun _ => True) (enc ad cA sh I J R))) (.ref (ad pl) :: As.map (tr ad)) := ⟨blind_mini, pre_mini hK C.2.2.2.2.2.2.2.2 hP hD⟩
  have hst : (As.reverse ++ .ref pl :: rest).map (tr ad) = (As.map (tr ad)).reverse ++ .ref (ad pl) :: rest.map (tr ad) := by
    rw [List.map_append, List.map_reverse, List.map_cons]
    rfl
  rw [hst]
  have hret := hm.2.2.2.2.2.2.1
  rcases hl with hl | ⟨host, hl⟩
  · have cb := callB_mini (kc := mc) (ks := ms) (dd := dd) (n := n) C.2.2.2.2.2.1 hm hl hR
    rw [hret] at cb
    exact ⟨_, va_runI (g := F0 mid pc ls _) ⟨C.1, C.2.1, C.2.2.2.1, C.2.2.2.2.1, C.2.2.2.2.2.1⟩ (hM l D ad cA H.size) ⟨cb, hm.2.2.2.2.2.1, C.2.2.2.2.2.1 _ hm.2.2.2.2.2.2.2⟩ hpre rfl (by rw [List.length_map]; exact hn) hsz rfl (lv_roomM hr) hd hf⟩
  · have cb := callN_mini (kc := mc) (ks := ms) (dd := dd) (n := n) C.2.2.2.2.2.1 C.2.2.2.2.2.2.2.2 hm hl hR
    rw [hret] at cb
    exact ⟨_, va_runIN (g := F0 mid pc ls _) ⟨C.1, C.2.1, C.2.2.2.1, C.2.2.2.2.1, C.2.2.2.2.2.1⟩ (hM l D ad cA H.size) ⟨cb, hm.2.2.2.2.2.1, C.2.2.2.2.2.1 _ hm.2.2.2.2.2.2.2⟩ hpre rfl (by rw [List.length_map]; exact hn) hsz rfl (lv_roomM hr) hd hf⟩
/-- behind a call that makes nothing -/
theorem q_after {st0 rest : List Value} {q : Nat} (hq : pc + 3 = q) (hr : MRun m T cells slots sh pc st0 rest I J R 0 0 false (fun sh' v I' J' R' => sh' = sh ∧ Po sh v I' J' R'))
    (K : ∀ (v : Option Value) (I' : HI) (J' : HJ) (R' : HR), Po sh v I' J' R' → Wm m T cells slots sh q L (v.toList ++ rest) I' J' R') : Wm m T cells slots sh pc L st0 I J R := by
  subst hq
  intro p l e s mid args below meth c D A ad0 cA0 ad cA H locs ls S
  obtain ⟨C, hA, hT, hK, hP, hD, hS, hl⟩ := S
  obtain ⟨a, hrun⟩ := hr p l e s mid args below meth c D A ad cA H locs ls C hK hP hD hl.1
  have hF := enc_free hD hS hA
  refine W_call hrun hS (fun q _ h => hF q h) hF (fun v sh' I' J' R' ad' cA' t H1 locs1 ht hvm hg hp hk hpp hdd hS1 => ?_)
  obtain ⟨rfl, rfl⟩ := hg
  obtain ⟨rfl, hp⟩ := hp
  have := K v I' J' R' hp p l e s mid args below meth c D A ad0 cA0 ad' cA' H1 locs1 ls ⟨C, hA, hT, hK, hpp, hdd.weaken (fun _ q _ h => hF q.1 h), hS1, hl⟩
  rw [List.map_append] at this
  cases v <;> exact this
/-- behind a call that makes cells: what was there keeps its place -/
def Tx (T : Tg) (n : Nat) : Prop := ∀ (s : State) (args : Array Value) (A : Nat → Prop) (ad0 : Nat → Nat) (cA0 : Nat → ClassId) (ad : Nat → Nat) (cA : Nat → ClassId) (ad' : Nat → Nat) (cA' : Nat → ClassId), T.2.2 s args A ad0 cA0 ad cA → (∀ p, (p < n ∨ SCR ≤ p) → ad' p = ad p ∧ cA' p = cA p) → T.2.2 s args A ad0 cA0 ad' cA'
theorem Tx.of {n : Nat} (h : n0 ≤ n) : Tx (TM d mc ms true n0 Po) n := by
  intro s args A ad0 cA0 ad cA ad' cA' h1 h2 p hp
  have e1 := h1 p hp
  have e2 := h2 p (by omega)
  exact ⟨e2.1.trans e1.1, e2.2.trans e1.2⟩
def scV (n : Nat) (v : Value) : Prop := match v with
  | .ref p => p < n ∨ SCR ≤ p
  | _ => True
def scL (n : Nat) (L : LO) : Prop := ∀ v, some v ∈ L → scV n v
def scS (n : Nat) (st : List Value) : Prop := ∀ v, v ∈ st → scV n v
def scR (n : Nat) (R : HR) : Prop := ∀ p k r, R p k = some r → r < n
theorem tr_ag {n : Nat} {ad ad' : Nat → Nat} {v : Value} (h : ∀ p, (p < n ∨ SCR ≤ p) → ad' p = ad p) (hv : scV n v) : tr ad' v = tr ad v := by
  cases v <;> first | rfl | (simp only [tr]; rw [h _ hv])
theorem map_ag {n : Nat} {ad ad' : Nat → Nat} {st : List Value} (h : ∀ p, (p < n ∨ SCR ≤ p) → ad' p = ad p) (hv : scS n st) : st.map (tr ad') = st.map (tr ad) := List.map_congr_left (fun v hm => tr_ag h (hv v hm))
theorem lo_ag {n nl : Nat} {ad ad' : Nat → Nat} {ls : Array Slot} (h : ∀ p, (p < n ∨ SCR ≤ p) → ad' p = ad p) (hv : scL n L) (hl : lo ad ls nl L) : lo ad' ls nl L := ⟨hl.1, hl.2.1, fun i v hi => by
  rw [tr_ag h (hv v (List.mem_of_getElem? hi))]
  exact hl.2.2 i v hi⟩
theorem q_afterA {st0 rest : List Value} {q : Nat} (hq : pc + 3 = q) (hr : MRun m T cells slots sh pc st0 rest I J R mc ms true Po) (hx : Tx T sh.length) (hL : scL sh.length L) (hst : scS sh.length rest)
    (K : ∀ (sh' : List Kd) (I' : HI) (J' : HJ) (R' : HR), Po sh' none I' J' R' → Wm m T (cells + mc) (slots + ms) sh' q L rest I' J' R') (hv : ∀ sh' v I' J' R', Po sh' v I' J' R' → v = none) : Wm m T cells slots sh pc L st0 I J R := by
  subst hq
  intro p l e s mid args below meth c D A ad0 cA0 ad cA H locs ls S
  obtain ⟨C, hA, hT, hK, hP, hD, hS, hl⟩ := S
  obtain ⟨a, hrun⟩ := hr p l e s mid args below meth c D A ad cA H locs ls C hK hP hD hl.1
  have hF := enc_free hD hS hA
  refine W_call hrun hS (fun q _ h => hF q h) hF (fun v sh' I' J' R' ad' cA' t H1 locs1 ht hvm hg hp hk hpp hdd hS1 => ?_)
  have hg : ∀ p, (p < sh.length ∨ SCR ≤ p) → ad' p = ad p ∧ cA' p = cA p := hg
  have hv0 := hv _ _ _ _ _ hp
  subst hv0
  have := K sh' I' J' R' hp p l e s mid args below meth c D A ad0 cA0 ad' cA' H1 locs1 ls ⟨C, hA, hx _ _ _ _ _ _ _ _ _ hT hg, KK.moved hvm.symm hk, hpp, hdd.weaken (fun _ q _ h => hF q.1 h), hS1, lo_ag (fun p h => (hg p h).1) hL hl⟩
  rw [map_ag (fun p h => (hg p h).1) hst] at this
  exact this
theorem TM_room {dd : Nat} : dd + 1 ≤ (TM (dd + 1) mc ms al n0 Po).1.frames ∧ 31 * (dd + 1) ≤ (TM (dd + 1) mc ms al n0 Po).1.locals := ⟨Nat.le_refl _, Nat.le_refl _⟩
theorem q_max {x y : Int32} {idx q : Nat} (hd : decode m.2.1 pc = .ok (.invokestatic idx, 3)) (hq : pc + 3 = q) (hlk : Cond.methodLink m.1.cls idx Lib.Math.max.name ∈ ALLW) (hf : Cond.static Lib.Math.max.name ∈ ALLW ∧ Cond.initialized "java/lang/Math" ∈ ALLW ∧ Cond.code Lib.Math.max.name Lib.Math.max.code 2 (some .int) ∈ ALLW) (hr : (st.map fun v => v.category).sum ≤ 8) (hR : 1 ≤ T.1.frames ∧ 21 ≤ T.1.locals ∧ cells ≤ T.1.cells ∧ slots ≤ T.1.slots) (K : Wm m T cells slots sh q L (.int (if x < y then y else x) :: st) I J R) : Wm m T cells slots sh pc L (.int y :: .int x :: st) I J R := by
  subst hq
  intro p l e s mid args below meth c D A ad0 cA0 ad cA H locs ls S
  obtain ⟨C, hA, hT, hK, hP, hD, hS, hl⟩ := S
  refine va_mmax C.1 C.2.1 (C.2.2.2.1.trans hl.1.symm) C.2.2.2.2.1 (C.2.2.2.2.2.1 _ hlk) (C.2.2.2.2.2.1 _ hf.1) (C.2.2.2.2.2.1 _ hf.2.1) (C.2.2.2.2.2.1 _ hf.2.2) hR.1 ?_ hR.2.2.1 hR.2.2.2 hd (K p l e s mid args below meth c D A ad0 cA0 ad cA H locs ls ⟨C, hA, hT, hK, hP, hD, hS, hl⟩)
  have := lv_roomM (ad := ad) (mid := mid) (ls := ls) (st0 := []) (pc := pc) hr
  have h2 := hR.2.1
  omega
theorem q_min {x y : Int32} {idx q : Nat} (hd : decode m.2.1 pc = .ok (.invokestatic idx, 3)) (hq : pc + 3 = q) (hlk : Cond.methodLink m.1.cls idx Lib.Math.min.name ∈ ALLW) (hf : Cond.static Lib.Math.min.name ∈ ALLW ∧ Cond.initialized "java/lang/Math" ∈ ALLW ∧ Cond.code Lib.Math.min.name Lib.Math.min.code 2 (some .int) ∈ ALLW) (hr : (st.map fun v => v.category).sum ≤ 8) (hR : 1 ≤ T.1.frames ∧ 21 ≤ T.1.locals ∧ cells ≤ T.1.cells ∧ slots ≤ T.1.slots) (K : Wm m T cells slots sh q L (.int (if y < x then y else x) :: st) I J R) : Wm m T cells slots sh pc L (.int y :: .int x :: st) I J R := by
  subst hq
  intro p l e s mid args below meth c D A ad0 cA0 ad cA H locs ls S
  obtain ⟨C, hA, hT, hK, hP, hD, hS, hl⟩ := S
  refine va_mmin C.1 C.2.1 (C.2.2.2.1.trans hl.1.symm) C.2.2.2.2.1 (C.2.2.2.2.2.1 _ hlk) (C.2.2.2.2.2.1 _ hf.1) (C.2.2.2.2.2.1 _ hf.2.1) (C.2.2.2.2.2.1 _ hf.2.2) hR.1 ?_ hR.2.2.1 hR.2.2.2 hd (K p l e s mid args below meth c D A ad0 cA0 ad cA H locs ls ⟨C, hA, hT, hK, hP, hD, hS, hl⟩)
  have := lv_roomM (ad := ad) (mid := mid) (ls := ls) (st0 := []) (pc := pc) hr
  have h2 := hR.2.1
  omega
theorem q_abs {x : Int32} {idx q : Nat} (hd : decode m.2.1 pc = .ok (.invokestatic idx, 3)) (hq : pc + 3 = q) (hlk : Cond.methodLink m.1.cls idx Lib.Math.abs.name ∈ ALLW) (hf : Cond.static Lib.Math.abs.name ∈ ALLW ∧ Cond.initialized "java/lang/Math" ∈ ALLW ∧ Cond.code Lib.Math.abs.name Lib.Math.abs.code 1 (some .int) ∈ ALLW) (hr : (st.map fun v => v.category).sum ≤ 8) (hR : 1 ≤ T.1.frames ∧ 21 ≤ T.1.locals ∧ cells ≤ T.1.cells ∧ slots ≤ T.1.slots) (K : Wm m T cells slots sh q L (.int (if 0 ≤ x then x else 0 - x) :: st) I J R) : Wm m T cells slots sh pc L (.int x :: st) I J R := by
  subst hq
  intro p l e s mid args below meth c D A ad0 cA0 ad cA H locs ls S
  obtain ⟨C, hA, hT, hK, hP, hD, hS, hl⟩ := S
  refine va_mabs C.1 C.2.1 (C.2.2.2.1.trans hl.1.symm) C.2.2.2.2.1 (C.2.2.2.2.2.1 _ hlk) (C.2.2.2.2.2.1 _ hf.1) (C.2.2.2.2.2.1 _ hf.2.1) (C.2.2.2.2.2.1 _ hf.2.2) hR.1 ?_ hR.2.2.1 hR.2.2.2 hd (K p l e s mid args below meth c D A ad0 cA0 ad cA H locs ls ⟨C, hA, hT, hK, hP, hD, hS, hl⟩)
  have := lv_roomM (ad := ad) (mid := mid) (ls := ls) (st0 := []) (pc := pc) hr
  have h2 := hR.2.1
  omega
theorem q_oinit {pl idx q : Nat} (hd : decode m.2.1 pc = .ok (.invokespecial idx, 3)) (hq : pc + 3 = q) (hlk : Cond.methodLink m.1.cls idx objectInit ∈ ALLW) (hf : Cond.instanceMethod objectInit ∈ ALLW ∧ Cond.code objectInit ⟨#[0xb1]⟩ 1 none ∈ ALLW) (hr : (st.map fun v => v.category).sum ≤ 8) (hR : 1 ≤ T.1.frames ∧ 21 ≤ T.1.locals) (K : Wm m T cells slots sh q L st I J R) : Wm m T cells slots sh pc L (.ref pl :: st) I J R := by
  subst hq
  intro p l e s mid args below meth c D A ad0 cA0 ad cA H locs ls S
  obtain ⟨C, hA, hT, hK, hP, hD, hS, hl⟩ := S
  refine W.objInit C.1 C.2.1 C.2.2.2.2.1 (C.2.2.2.2.2.1 _ hlk) (C.2.2.2.2.2.1 _ hf.1) (C.2.2.2.2.2.1 _ hf.2) rfl (hl.1.trans C.2.2.2.1.symm) rfl hd hR.1 ?_ (K p l e s mid args below meth c D A ad0 cA0 ad cA H locs ls ⟨C, hA, hT, hK, hP, hD, hS, hl⟩)
  have := lv_roomM (ad := ad) (mid := mid) (ls := ls) (st0 := List.map (tr ad) (Value.ref pl :: st)) (pc := pc) hr
  have h2 := hR.2
  omega
def zr {α : Type} (I : Nat → Nat → α) (n : Nat) (z : α) : Nat → Nat → α := fun a b => if a = n then z else I a b
theorem zr_same {α : Type} {I : Nat → Nat → α} {n : Nat} {z : α} : zr I n z n = fun _ => z := by
  funext b
  simp [zr]
theorem zr_ne {α : Type} {I : Nat → Nat → α} {n q : Nat} {z : α} (h : q ≠ n) : zr I n z q = I q := by
  funext b
  simp [zr, h]
theorem enc_push {ad : Nat → Nat} {cA : Nat → ClassId} {kd : Kd} {a : Nat} {cc : ClassId} (hR : ∀ p k r, p < sh.length → R p k = some r → r < sh.length) :
    enc (fun p => if p = sh.length then a else ad p) (fun p => if p = sh.length then cc else cA p) (sh ++ [kd]) (zr I sh.length 0) (zr J sh.length 0) (zr R sh.length none) = enc ad cA sh I J R ++ [(a, en ad (fun p => if p = sh.length then cc else cA p) (zr I sh.length 0) (zr J sh.length 0) (zr R sh.length none) sh.length kd)] := by
  unfold enc
  rw [List.mapIdx_append]
  congr 1
  · apply List.ext_getElem?
    intro q
    rw [List.getElem?_mapIdx, List.getElem?_mapIdx]
    cases hq : sh[q]? with
    | none => rfl
    | some kd' =>
      have hlt : q < sh.length := (List.getElem?_eq_some_iff.mp hq).1
      have hne : q ≠ sh.length := by omega
      simp only [Option.map_some, if_neg hne]
      refine congrArg (fun e => some (ad q, e)) ?_
      have hmap : ∀ k, (R q k).map (fun p => if p = sh.length then a else ad p) = (R q k).map ad := fun k => by
        cases hr : R q k with
        | none => rfl
        | some r =>
          have := hR q k r hlt hr
          simp [show r ≠ sh.length by omega]
      cases kd' with
      | inl ci =>
        simp only [en, fv, zr_ne hne, hmap]
      | inr tn =>
        simp only [en, acn, zr_ne hne, hmap, if_neg hne]
  · simp only [List.mapIdx_cons, List.mapIdx_nil, Nat.zero_add, if_true]
    refine congrArg (fun e => [(a, e)]) ?_
    cases kd with
    | inl ci => simp only [en, fv, zr_same]; rfl
    | inr tn => simp only [en, acn, zr_same]; rfl
theorem ag_push {ad : Nat → Nat} {cA : Nat → ClassId} {a : Nat} {cc : ClassId} {n : Nat} (hn : n < SCR) : ∀ p, (p < n ∨ SCR ≤ p) → (fun p => if p = n then a else ad p) p = ad p ∧ (fun p => if p = n then cc else cA p) p = cA p := by
  intro p h
  have : p ≠ n := by omega
  simp [this]
theorem KK_push {D : va_G} {cA : Nat → ClassId} {U : State} {kd : Kd} {cc : ClassId} (hK : KK D cA sh U) (h : ∀ t n, kd = .inr (t, n) → va_K D vwCl [(cc, t)] U) : KK D (fun p => if p = sh.length then cc else cA p) (sh ++ [kd]) U := by
  refine ⟨hK.1, fun p t n hp => ?_⟩
  by_cases hl : p < sh.length
  · rw [List.getElem?_append_left hl] at hp
    have := hK.2 p t n hp
    simp only [show p ≠ sh.length by omega, if_false]
    exact this
  · rw [List.getElem?_append_right (by omega)] at hp
    have hz : p - sh.length < 1 := (List.getElem?_eq_some_iff.mp hp).1
    have e : p = sh.length := by omega
    subst e
    rw [Nat.sub_self] at hp
    cases hp
    simp only [if_true]
    exact h t n rfl
theorem noFD {c k : Nat} (h : c < 8) (hk : k < nC c) : tyC c k ≠ .float ∧ tyC c k ≠ .double := by
  have key : ∀ c, c < 8 → ∀ k, k < nC c → tyC c k ≠ .float ∧ tyC c k ≠ .double := by decide +kernel
  exact key c h k hk
theorem q_new {ci idx q : Nat} (hd : decode m.2.1 pc = .ok (.new idx, 3)) (hq : pc + 3 = q) (hci : ci < 8) (hw : Cond.classLink m.1.cls idx (RC ci) ∈ ALLW ∧ Cond.instantiable (RC ci) (nC ci) ∈ ALLW ∧ Cond.initialized (RC ci) ∈ ALLW) (hx : Tx T sh.length) (hn : sh.length < SCR) (hL : scL sh.length L) (hst : scS sh.length st) (hR : ∀ p k r, p < sh.length → R p k = some r → r < sh.length) (hc : cells + 1 ≤ T.1.cells) (hsl : slots + nC ci ≤ T.1.slots)
    (K : Wm m T (cells + 1) (slots + nC ci) (sh ++ [.inl ci]) q L (.ref sh.length :: st) (zr I sh.length 0) (zr J sh.length 0) (zr R sh.length none)) : Wm m T cells slots sh pc L st I J R := by
  subst hq
  intro p l e s mid args below meth c D A ad0 cA0 ad cA H locs ls S
  obtain ⟨C, hA, hT, hK, hP, hD, hS, hl⟩ := S
  refine va_new (ci := ci) (fs := (List.range (nC ci)).map (fun k => fv ad (zr I sh.length 0) (zr J sh.length 0) (zr R sh.length none) sh.length k (tyC ci k))) (C := RC ci) (T := TC ci) (N := nC ci) C.1 C.2.1 C.2.2.2.2.2.1 (uAll hci) (tyC ci) (tyOK hci) C.2.2.2.2.1 (C.2.2.2.2.2.1 _ hw.1) (C.2.2.2.2.2.1 _ hw.2.1) (C.2.2.2.2.2.1 _ hw.2.2) hK.1 hP hD hS hA (vwAt hci) (fun j hj => ?_) hc hsl hd (fun a H1 hP1 hD1 hS1 => ?_)
  · show _ = ((List.range (nC ci)).map _).getD j Value.null
    rw [List.getD_eq_getElem?_getD, List.getElem?_map, List.getElem?_range hj]
    simp only [Option.map_some, Option.getD_some, fv, zr_same]
    have z := noFD hci hj
    revert z
    cases tyC ci j <;> intro z <;> first | rfl | exact absurd rfl z.1 | exact absurd rfl z.2
  · have e1 := enc_push (ad := ad) (cA := cA) (kd := .inl ci) (a := a) (cc := cA sh.length) (I := I) (J := J) hR
    have e2 : en ad (fun p => if p = sh.length then cA sh.length else cA p) (zr I sh.length 0) (zr J sh.length 0) (zr R sh.length none) sh.length (.inl ci) = .inr (ci, (List.range (nC ci)).map (fun k => fv ad (zr I sh.length 0) (zr J sh.length 0) (zr R sh.length none) sh.length k (tyC ci k))) := rfl
    rw [e2] at e1
    rw [← e1] at hP1 hD1
    have hg := ag_push (ad := ad) (cA := cA) (a := a) (cc := cA sh.length) hn
    have := K p l e s mid args below meth c D A ad0 cA0 _ _ H1 locs ls ⟨C, hA, hx _ _ _ _ _ _ _ _ _ hT hg, KK_push hK (fun t n h => by cases h), hP1, hD1, hS1, lo_ag (fun p h => (hg p h).1) hL hl⟩
    rw [List.map_cons, map_ag (fun p h => (hg p h).1) hst] at this
    have e3 : tr (fun p => if p = sh.length then a else ad p) (.ref sh.length) = .ref a := by simp [tr]
    rw [e3] at this
    exact this
theorem q_newa {at_ : ArrayType} {t : FieldType} {n : Int32} {k q : Nat} (hd : decode m.2.1 pc = .ok (.newarray at_, 2)) (hq : pc + 2 = q) (ht : newarray.typeOf at_ = t) (hw : Cond.arrayClass (newarray.typeOf at_) ∈ ALLW) (h0 : ¬ n < 0) (hk : n.toNatClampNeg = k) (hb : k * componentBytes t ≤ 536870912) (hz : ∀ (cA : ClassId) (p : Nat), vp_cell cA (acn (fun x => x) (fun _ _ => 0) (fun _ _ => 0) (fun _ _ => none) p k t) = arrV cA k (fun _ => defaultValue t)) (hx : Tx T sh.length) (hn : sh.length < SCR) (hL : scL sh.length L) (hst : scS sh.length st) (hR : ∀ p k r, p < sh.length → R p k = some r → r < sh.length) (hc : cells + 1 ≤ T.1.cells) (hsl : slots + k ≤ T.1.slots)
    (K : Wm m T (cells + 1) (slots + k) (sh ++ [.inr (t, k)]) q L (.ref sh.length :: st) (zr I sh.length 0) (zr J sh.length 0) (zr R sh.length none)) : Wm m T cells slots sh pc L (.int n :: st) I J R := by
  subst hq
  intro p l e s mid args below meth c D A ad0 cA0 ad cA H locs ls S
  obtain ⟨C, hA, hT, hK, hP, hD, hS, hl⟩ := S
  refine va_newa (a0 := acn (fun x => x) (fun _ _ => 0) (fun _ _ => 0) (fun _ _ => none) sh.length k t) C.1 C.2.1 (C.2.2.2.2.2.1 _ hw) ht hK.1 hP hD hS hA (fun cc => hz cc _) h0 hk hb hc hsl hd (fun a cc H1 hK1 hP1 hD1 hS1 => ?_)
  have e1 := enc_push (ad := ad) (cA := cA) (kd := .inr (t, k)) (a := a) (cc := cc) (I := I) (J := J) hR
  have e2 : en ad (fun p => if p = sh.length then cc else cA p) (zr I sh.length 0) (zr J sh.length 0) (zr R sh.length none) sh.length (.inr (t, k)) = .inl (cc, acn (fun x => x) (fun _ _ => 0) (fun _ _ => 0) (fun _ _ => none) sh.length k t) := by
    simp only [en, acn, zr_same, if_true]
    rfl
  rw [e2] at e1
  rw [← e1] at hP1 hD1
  have hg := ag_push (ad := ad) (cA := cA) (a := a) (cc := cc) hn
  have := K p l e s mid args below meth c D A ad0 cA0 _ _ H1 locs ls ⟨C, hA, hx _ _ _ _ _ _ _ _ _ hT hg, KK_push hK (fun t n h => by cases h; exact hK1), hP1, hD1, hS1, lo_ag (fun p h => (hg p h).1) hL hl⟩
  rw [List.map_cons, map_ag (fun p h => (hg p h).1) hst] at this
  have e3 : tr (fun p => if p = sh.length then a else ad p) (.ref sh.length) = .ref a := by simp [tr]
  rw [e3] at this
  exact this
end MCALLS
end
section
/-! facts of this class: methods, links, fields, by their places in the tables -/
def mX0_init : MD := (yX0_init, cX0_init, 1, none)
theorem vX0_init : MF mX0_init 2 0 0 := ⟨by decide, (inA 47 (by decide +kernel) rfl), (inA 152 (by decide +kernel) rfl), ⟨by decide +kernel, by decide +kernel⟩, by decide +kernel, rfl, rfl, (inA 151 (by decide +kernel) rfl)⟩
def mX0_clear : MD := (yX0_clear, cX0_clear, 1, none)
theorem vX0_clear : MF mX0_clear 0 0 0 := ⟨by decide, (inA 47 (by decide +kernel) rfl), (inA 364 (by decide +kernel) rfl), ⟨by decide +kernel, by decide +kernel⟩, by decide +kernel, by decide, rfl, (inA 362 (by decide +kernel) rfl), (inA 363 (by decide +kernel) rfl)⟩
def mX0_copyFrom : MD := (yX0_copyFrom, cX0_copyFrom, 3, none)
theorem vX0_copyFrom : MF mX0_copyFrom 0 0 1 := ⟨by decide, (inA 47 (by decide +kernel) rfl), (inA 622 (by decide +kernel) rfl), ⟨by decide +kernel, by decide +kernel⟩, by decide +kernel, by decide, rfl, (inA 620 (by decide +kernel) rfl), (inA 621 (by decide +kernel) rfl)⟩
def mX0_has : MD := (yX0_has, cX0_has, 2, (some .boolean))
theorem vX0_has : MF mX0_has 0 0 1 := ⟨by decide, (inA 47 (by decide +kernel) rfl), (inA 404 (by decide +kernel) rfl), ⟨by decide +kernel, by decide +kernel⟩, by decide +kernel, by decide, rfl, (inA 402 (by decide +kernel) rfl), (inA 403 (by decide +kernel) rfl)⟩
def mX0_high : MD := (yX0_high, cX0_high, 3, (some .int))
theorem vX0_high : MF mX0_high 0 0 0 := ⟨by decide, (inA 47 (by decide +kernel) rfl), (inA 384 (by decide +kernel) rfl), ⟨by decide +kernel, by decide +kernel⟩, by decide +kernel, by decide, rfl, (inA 382 (by decide +kernel) rfl), (inA 383 (by decide +kernel) rfl)⟩
def mX0_load : MD := (yX0_load, cX0_load, 4, (some .int))
theorem vX0_load : MF mX0_load 0 0 1 := ⟨by decide, (inA 47 (by decide +kernel) rfl), (inA 388 (by decide +kernel) rfl), ⟨by decide +kernel, by decide +kernel⟩, by decide +kernel, by decide, rfl, (inA 386 (by decide +kernel) rfl), (inA 387 (by decide +kernel) rfl)⟩
def mX0_comeIn : MD := (yX0_comeIn, cX0_comeIn, 3, none)
theorem vX0_comeIn : MF mX0_comeIn 0 0 2 := ⟨by decide, (inA 47 (by decide +kernel) rfl), (inA 396 (by decide +kernel) rfl), ⟨by decide +kernel, by decide +kernel⟩, by decide +kernel, by decide, rfl, (inA 394 (by decide +kernel) rfl), (inA 395 (by decide +kernel) rfl)⟩
def mX0_doorOf : MD := (yX0_doorOf, cX0_doorOf, 2, (some .int))
theorem vX0_doorOf : MF mX0_doorOf 0 0 1 := ⟨by decide, (inA 47 (by decide +kernel) rfl), (inA 409 (by decide +kernel) rfl), ⟨by decide +kernel, by decide +kernel⟩, by decide +kernel, by decide, rfl, (inA 407 (by decide +kernel) rfl), (inA 408 (by decide +kernel) rfl)⟩
def mX0_melt : MD := (yX0_melt, cX0_melt, 6, (some .int))
theorem vX0_melt : MF mX0_melt 0 0 2 := ⟨by decide, (inA 47 (by decide +kernel) rfl), (inA 436 (by decide +kernel) rfl), ⟨by decide +kernel, by decide +kernel⟩, by decide +kernel, by decide, rfl, (inA 434 (by decide +kernel) rfl), (inA 435 (by decide +kernel) rfl)⟩
def mX0_addSale : MD := (yX0_addSale, cX0_addSale, 4, none)
theorem vX0_addSale : MF mX0_addSale 0 0 3 := ⟨by decide, (inA 47 (by decide +kernel) rfl), (inA 468 (by decide +kernel) rfl), ⟨by decide +kernel, by decide +kernel⟩, by decide +kernel, by decide, rfl, (inA 466 (by decide +kernel) rfl), (inA 467 (by decide +kernel) rfl)⟩
def mX0_forgetOldestSale : MD := (yX0_forgetOldestSale, cX0_forgetOldestSale, 2, none)
theorem vX0_forgetOldestSale : MF mX0_forgetOldestSale 0 0 0 := ⟨by decide, (inA 47 (by decide +kernel) rfl), (inA 472 (by decide +kernel) rfl), ⟨by decide +kernel, by decide +kernel⟩, by decide +kernel, by decide, rfl, (inA 471 (by decide +kernel) rfl), (inA 9 (by decide +kernel) rfl)⟩
def mX0_takeSaleBack : MD := (yX0_takeSaleBack, cX0_takeSaleBack, 1, (some .int))
theorem vX0_takeSaleBack : MF mX0_takeSaleBack 0 0 0 := ⟨by decide, (inA 47 (by decide +kernel) rfl), (inA 480 (by decide +kernel) rfl), ⟨by decide +kernel, by decide +kernel⟩, by decide +kernel, by decide, rfl, (inA 478 (by decide +kernel) rfl), (inA 479 (by decide +kernel) rfl)⟩
def mX1_init : MD := (yX1_init, cX1_init, 1, none)
theorem vX1_init : MF mX1_init 2 0 0 := ⟨by decide, (inA 50 (by decide +kernel) rfl), (inA 234 (by decide +kernel) rfl), ⟨by decide +kernel, by decide +kernel⟩, by decide +kernel, rfl, rfl, (inA 233 (by decide +kernel) rfl)⟩
def mX1_choose : MD := (yX1_choose, cX1_choose, 6, none)
theorem vX1_choose : MF mX1_choose 0 1 4 := ⟨by decide, (inA 50 (by decide +kernel) rfl), (inA 492 (by decide +kernel) rfl), ⟨by decide +kernel, by decide +kernel⟩, by decide +kernel, by decide, rfl, (inA 490 (by decide +kernel) rfl), (inA 491 (by decide +kernel) rfl)⟩
def mX1_startWithAll : MD := (yX1_startWithAll, cX1_startWithAll, 4, none)
theorem vX1_startWithAll : MF mX1_startWithAll 0 1 2 := ⟨by decide, (inA 50 (by decide +kernel) rfl), (inA 496 (by decide +kernel) rfl), ⟨by decide +kernel, by decide +kernel⟩, by decide +kernel, by decide, rfl, (inA 495 (by decide +kernel) rfl), (inA 10 (by decide +kernel) rfl)⟩
def mX1_isBetter : MD := (yX1_isBetter, cX1_isBetter, 1, (some .boolean))
theorem vX1_isBetter : MF mX1_isBetter 0 1 0 := ⟨by decide, (inA 50 (by decide +kernel) rfl), (inA 505 (by decide +kernel) rfl), ⟨by decide +kernel, by decide +kernel⟩, by decide +kernel, by decide, rfl, (inA 504 (by decide +kernel) rfl), (inA 12 (by decide +kernel) rfl)⟩
def mX1_goOn : MD := (yX1_goOn, cX1_goOn, 5, none)
theorem vX1_goOn : MF mX1_goOn 0 1 3 := ⟨by decide, (inA 50 (by decide +kernel) rfl), (inA 509 (by decide +kernel) rfl), ⟨by decide +kernel, by decide +kernel⟩, by decide +kernel, by decide, rfl, (inA 508 (by decide +kernel) rfl), (inA 13 (by decide +kernel) rfl)⟩
def mX1_putBack : MD := (yX1_putBack, cX1_putBack, 4, none)
theorem vX1_putBack : MF mX1_putBack 0 1 3 := ⟨by decide, (inA 50 (by decide +kernel) rfl), (inA 501 (by decide +kernel) rfl), ⟨by decide +kernel, by decide +kernel⟩, by decide +kernel, by decide, rfl, (inA 500 (by decide +kernel) rfl), (inA 11 (by decide +kernel) rfl)⟩
def mX1_takeOut : MD := (yX1_takeOut, cX1_takeOut, 4, none)
theorem vX1_takeOut : MF mX1_takeOut 0 1 3 := ⟨by decide, (inA 50 (by decide +kernel) rfl), (inA 513 (by decide +kernel) rfl), ⟨by decide +kernel, by decide +kernel⟩, by decide +kernel, by decide, rfl, (inA 512 (by decide +kernel) rfl), (inA 14 (by decide +kernel) rfl)⟩
def mX2_init : MD := (yX2_init, cX2_init, 1, none)
theorem vX2_init : MF mX2_init 2 0 0 := ⟨by decide, (inA 48 (by decide +kernel) rfl), (inA 195 (by decide +kernel) rfl), ⟨by decide +kernel, by decide +kernel⟩, by decide +kernel, rfl, rfl, (inA 194 (by decide +kernel) rfl)⟩
def mX2_add : MD := (yX2_add, cX2_add, 2, (some .boolean))
theorem vX2_add : MF mX2_add 0 2 1 := ⟨by decide, (inA 48 (by decide +kernel) rfl), (inA 548 (by decide +kernel) rfl), ⟨by decide +kernel, by decide +kernel⟩, by decide +kernel, by decide, rfl, (inA 546 (by decide +kernel) rfl), (inA 547 (by decide +kernel) rfl)⟩
def mX2_clear : MD := (yX2_clear, cX2_clear, 2, (some .int))
theorem vX2_clear : MF mX2_clear 0 2 0 := ⟨by decide, (inA 48 (by decide +kernel) rfl), (inA 368 (by decide +kernel) rfl), ⟨by decide +kernel, by decide +kernel⟩, by decide +kernel, by decide, rfl, (inA 366 (by decide +kernel) rfl), (inA 367 (by decide +kernel) rfl)⟩
def mX2_changesTo : MD := (yX2_changesTo, cX2_changesTo, 3, (some .int))
theorem vX2_changesTo : MF mX2_changesTo 0 2 1 := ⟨by decide, (inA 48 (by decide +kernel) rfl), (inA 560 (by decide +kernel) rfl), ⟨by decide +kernel, by decide +kernel⟩, by decide +kernel, by decide, rfl, (inA 558 (by decide +kernel) rfl), (inA 559 (by decide +kernel) rfl)⟩
def mX2_addLayer : MD := (yX2_addLayer, cX2_addLayer, 5, none)
theorem vX2_addLayer : MF mX2_addLayer 0 2 1 := ⟨by decide, (inA 48 (by decide +kernel) rfl), (inA 564 (by decide +kernel) rfl), ⟨by decide +kernel, by decide +kernel⟩, by decide +kernel, by decide, rfl, (inA 563 (by decide +kernel) rfl), (inA 18 (by decide +kernel) rfl)⟩
def mX2_firstUnlike : MD := (yX2_firstUnlike, cX2_firstUnlike, 4, (some .int))
theorem vX2_firstUnlike : MF mX2_firstUnlike 0 2 1 := ⟨by decide, (inA 48 (by decide +kernel) rfl), (inA 573 (by decide +kernel) rfl), ⟨by decide +kernel, by decide +kernel⟩, by decide +kernel, by decide, rfl, (inA 571 (by decide +kernel) rfl), (inA 572 (by decide +kernel) rfl)⟩
def mX3_init : MD := (yX3_init, cX3_init, 1, none)
theorem vX3_init : MF mX3_init 2 0 0 := ⟨by decide, (inA 44 (by decide +kernel) rfl), (inA 65 (by decide +kernel) rfl), ⟨by decide +kernel, by decide +kernel⟩, by decide +kernel, rfl, rfl, (inA 64 (by decide +kernel) rfl)⟩
def mX3_append : MD := (yX3_append, cX3_append, 5, (some .boolean))
theorem vX3_append : MF mX3_append 0 3 2 := ⟨by decide, (inA 44 (by decide +kernel) rfl), (inA 310 (by decide +kernel) rfl), ⟨by decide +kernel, by decide +kernel⟩, by decide +kernel, by decide, rfl, (inA 308 (by decide +kernel) rfl), (inA 309 (by decide +kernel) rfl)⟩
def mX3_clear : MD := (yX3_clear, cX3_clear, 2, (some .int))
theorem vX3_clear : MF mX3_clear 0 3 0 := ⟨by decide, (inA 44 (by decide +kernel) rfl), (inA 318 (by decide +kernel) rfl), ⟨by decide +kernel, by decide +kernel⟩, by decide +kernel, by decide, rfl, (inA 316 (by decide +kernel) rfl), (inA 317 (by decide +kernel) rfl)⟩
def mX3_tellTo : MD := (yX3_tellTo, cX3_tellTo, 5, (some .int))
theorem vX3_tellTo : MF mX3_tellTo 0 3 1 := ⟨by decide, (inA 44 (by decide +kernel) rfl), (inA 326 (by decide +kernel) rfl), ⟨by decide +kernel, by decide +kernel⟩, by decide +kernel, by decide, rfl, (inA 324 (by decide +kernel) rfl), (inA 325 (by decide +kernel) rfl)⟩
def mX3_startItem : MD := (yX3_startItem, cX3_startItem, 1, none)
theorem vX3_startItem : MF mX3_startItem 0 3 0 := ⟨by decide, (inA 44 (by decide +kernel) rfl), (inA 331 (by decide +kernel) rfl), ⟨by decide +kernel, by decide +kernel⟩, by decide +kernel, by decide, rfl, (inA 330 (by decide +kernel) rfl), (inA 0 (by decide +kernel) rfl)⟩
def mX3_addFigure : MD := (yX3_addFigure, cX3_addFigure, 2, (some .boolean))
theorem vX3_addFigure : MF mX3_addFigure 0 3 1 := ⟨by decide, (inA 44 (by decide +kernel) rfl), (inA 335 (by decide +kernel) rfl), ⟨by decide +kernel, by decide +kernel⟩, by decide +kernel, by decide, rfl, (inA 334 (by decide +kernel) rfl), (inA 1 (by decide +kernel) rfl)⟩
def mX3_endNumber : MD := (yX3_endNumber, cX3_endNumber, 1, (some .boolean))
theorem vX3_endNumber : MF mX3_endNumber 0 3 0 := ⟨by decide, (inA 44 (by decide +kernel) rfl), (inA 339 (by decide +kernel) rfl), ⟨by decide +kernel, by decide +kernel⟩, by decide +kernel, by decide, rfl, (inA 338 (by decide +kernel) rfl), (inA 2 (by decide +kernel) rfl)⟩
def mX4_init : MD := (yX4_init, cX4_init, 1, none)
theorem vX4_init : MF mX4_init 2 0 0 := ⟨by decide, (inA 49 (by decide +kernel) rfl), (inA 212 (by decide +kernel) rfl), ⟨by decide +kernel, by decide +kernel⟩, by decide +kernel, rfl, rfl, (inA 211 (by decide +kernel) rfl)⟩
def mX4_choose : MD := (yX4_choose, cX4_choose, 7, none)
theorem vX4_choose : MF mX4_choose 0 4 3 := ⟨by decide, (inA 49 (by decide +kernel) rfl), (inA 448 (by decide +kernel) rfl), ⟨by decide +kernel, by decide +kernel⟩, by decide +kernel, by decide, rfl, (inA 446 (by decide +kernel) rfl), (inA 447 (by decide +kernel) rfl)⟩
def mX4_doorAt : MD := (yX4_doorAt, cX4_doorAt, 2, (some .int))
theorem vX4_doorAt : MF mX4_doorAt 0 4 1 := ⟨by decide, (inA 49 (by decide +kernel) rfl), (inA 460 (by decide +kernel) rfl), ⟨by decide +kernel, by decide +kernel⟩, by decide +kernel, by decide, rfl, (inA 458 (by decide +kernel) rfl), (inA 459 (by decide +kernel) rfl)⟩
def mX4_weigh : MD := (yX4_weigh, cX4_weigh, 7, none)
theorem vX4_weigh : MF mX4_weigh 0 4 3 := ⟨by decide, (inA 49 (by decide +kernel) rfl), (inA 452 (by decide +kernel) rfl), ⟨by decide +kernel, by decide +kernel⟩, by decide +kernel, by decide, rfl, (inA 451 (by decide +kernel) rfl), (inA 8 (by decide +kernel) rfl)⟩
def mX5_init : MD := (yX5_init, cX5_init, 1, none)
theorem vX5_init : MF mX5_init 2 0 0 := ⟨by decide, (inA 45 (by decide +kernel) rfl), (inA 93 (by decide +kernel) rfl), ⟨by decide +kernel, by decide +kernel⟩, by decide +kernel, rfl, rfl, (inA 92 (by decide +kernel) rfl)⟩
def mX5_forget : MD := (yX5_forget, cX5_forget, 1, none)
theorem vX5_forget : MF mX5_forget 0 5 0 := ⟨by decide, (inA 45 (by decide +kernel) rfl), (inA 98 (by decide +kernel) rfl), ⟨by decide +kernel, by decide +kernel⟩, by decide +kernel, by decide, rfl, (inA 96 (by decide +kernel) rfl), (inA 97 (by decide +kernel) rfl)⟩
def mX5_take : MD := (yX5_take, cX5_take, 4, (some .boolean))
theorem vX5_take : MF mX5_take 0 5 3 := ⟨by decide, (inA 45 (by decide +kernel) rfl), (inA 343 (by decide +kernel) rfl), ⟨by decide +kernel, by decide +kernel⟩, by decide +kernel, by decide, rfl, (inA 341 (by decide +kernel) rfl), (inA 342 (by decide +kernel) rfl)⟩
def mX5_setBarn : MD := (yX5_setBarn, cX5_setBarn, 3, (some .boolean))
theorem vX5_setBarn : MF mX5_setBarn 0 5 2 := ⟨by decide, (inA 45 (by decide +kernel) rfl), (inA 347 (by decide +kernel) rfl), ⟨by decide +kernel, by decide +kernel⟩, by decide +kernel, by decide, rfl, (inA 346 (by decide +kernel) rfl), (inA 3 (by decide +kernel) rfl)⟩
def mX5_addFall : MD := (yX5_addFall, cX5_addFall, 6, (some .boolean))
theorem vX5_addFall : MF mX5_addFall 0 5 4 := ⟨by decide, (inA 45 (by decide +kernel) rfl), (inA 264 (by decide +kernel) rfl), ⟨by decide +kernel, by decide +kernel⟩, by decide +kernel, by decide, rfl, (inA 262 (by decide +kernel) rfl), (inA 263 (by decide +kernel) rfl)⟩
def mX5_setCost : MD := (yX5_setCost, cX5_setCost, 3, (some .boolean))
theorem vX5_setCost : MF mX5_setCost 0 5 2 := ⟨by decide, (inA 45 (by decide +kernel) rfl), (inA 352 (by decide +kernel) rfl), ⟨by decide +kernel, by decide +kernel⟩, by decide +kernel, by decide, rfl, (inA 351 (by decide +kernel) rfl), (inA 4 (by decide +kernel) rfl)⟩
def mX5_setOne : MD := (yX5_setOne, cX5_setOne, 3, (some .boolean))
theorem vX5_setOne : MF mX5_setOne 0 5 2 := ⟨by decide, (inA 45 (by decide +kernel) rfl), (inA 356 (by decide +kernel) rfl), ⟨by decide +kernel, by decide +kernel⟩, by decide +kernel, by decide, rfl, (inA 355 (by decide +kernel) rfl), (inA 5 (by decide +kernel) rfl)⟩
def mX5_costOf : MD := (yX5_costOf, cX5_costOf, 2, (some .int))
theorem vX5_costOf : MF mX5_costOf 0 5 1 := ⟨by decide, (inA 45 (by decide +kernel) rfl), (inA 376 (by decide +kernel) rfl), ⟨by decide +kernel, by decide +kernel⟩, by decide +kernel, by decide, rfl, (inA 374 (by decide +kernel) rfl), (inA 375 (by decide +kernel) rfl)⟩
def mX5_bears : MD := (yX5_bears, cX5_bears, 3, (some .boolean))
theorem vX5_bears : MF mX5_bears 0 5 2 := ⟨by decide, (inA 45 (by decide +kernel) rfl), (inA 392 (by decide +kernel) rfl), ⟨by decide +kernel, by decide +kernel⟩, by decide +kernel, by decide, rfl, (inA 390 (by decide +kernel) rfl), (inA 391 (by decide +kernel) rfl)⟩
def mX6_init : MD := (yX6_init, cX6_init, 1, none)
theorem vX6_init : MF mX6_init 2 0 0 := ⟨by decide, (inA 43 (by decide +kernel) rfl), (inA 57 (by decide +kernel) rfl), ⟨by decide +kernel, by decide +kernel⟩, by decide +kernel, rfl, rfl, (inA 56 (by decide +kernel) rfl)⟩
def mX6_write : MD := (yX6_write, cX6_write, 4, (some .int))
theorem vX6_write : MF mX6_write 0 6 2 := ⟨by decide, (inA 43 (by decide +kernel) rfl), (inA 306 (by decide +kernel) rfl), ⟨by decide +kernel, by decide +kernel⟩, by decide +kernel, by decide, rfl, (inA 304 (by decide +kernel) rfl), (inA 305 (by decide +kernel) rfl)⟩
def mX6_wipe : MD := (yX6_wipe, cX6_wipe, 1, (some .int))
theorem vX6_wipe : MF mX6_wipe 0 6 0 := ⟨by decide, (inA 43 (by decide +kernel) rfl), (inA 314 (by decide +kernel) rfl), ⟨by decide +kernel, by decide +kernel⟩, by decide +kernel, by decide, rfl, (inA 312 (by decide +kernel) rfl), (inA 313 (by decide +kernel) rfl)⟩
def mX6_fault : MD := (yX6_fault, cX6_fault, 1, (some .int))
theorem vX6_fault : MF mX6_fault 0 6 0 := ⟨by decide, (inA 43 (by decide +kernel) rfl), (inA 322 (by decide +kernel) rfl), ⟨by decide +kernel, by decide +kernel⟩, by decide +kernel, by decide, rfl, (inA 320 (by decide +kernel) rfl), (inA 321 (by decide +kernel) rfl)⟩
def mX6_lay : MD := (yX6_lay, cX6_lay, 2, (some .int))
theorem vX6_lay : MF mX6_lay 0 6 0 := ⟨by decide, (inA 43 (by decide +kernel) rfl), (inA 360 (by decide +kernel) rfl), ⟨by decide +kernel, by decide +kernel⟩, by decide +kernel, by decide, rfl, (inA 358 (by decide +kernel) rfl), (inA 359 (by decide +kernel) rfl)⟩
def mX6_falls : MD := (yX6_falls, cX6_falls, 3, (some .int))
theorem vX6_falls : MF mX6_falls 0 6 2 := ⟨by decide, (inA 43 (by decide +kernel) rfl), (inA 372 (by decide +kernel) rfl), ⟨by decide +kernel, by decide +kernel⟩, by decide +kernel, by decide, rfl, (inA 370 (by decide +kernel) rfl), (inA 371 (by decide +kernel) rfl)⟩
def mX6_fall : MD := (yX6_fall, cX6_fall, 3, (some .int))
theorem vX6_fall : MF mX6_fall 0 6 0 := ⟨by decide, (inA 43 (by decide +kernel) rfl), (inA 380 (by decide +kernel) rfl), ⟨by decide +kernel, by decide +kernel⟩, by decide +kernel, by decide, rfl, (inA 378 (by decide +kernel) rfl), (inA 379 (by decide +kernel) rfl)⟩
def mX6_layer : MD := (yX6_layer, cX6_layer, 3, (some .int))
theorem vX6_layer : MF mX6_layer 0 6 2 := ⟨by decide, (inA 43 (by decide +kernel) rfl), (inA 400 (by decide +kernel) rfl), ⟨by decide +kernel, by decide +kernel⟩, by decide +kernel, by decide, rfl, (inA 398 (by decide +kernel) rfl), (inA 399 (by decide +kernel) rfl)⟩
def mX6_firstOut : MD := (yX6_firstOut, cX6_firstOut, 2, (some .int))
theorem vX6_firstOut : MF mX6_firstOut 0 6 0 := ⟨by decide, (inA 43 (by decide +kernel) rfl), (inA 416 (by decide +kernel) rfl), ⟨by decide +kernel, by decide +kernel⟩, by decide +kernel, by decide, rfl, (inA 414 (by decide +kernel) rfl), (inA 415 (by decide +kernel) rfl)⟩
def mX6_thaw : MD := (yX6_thaw, cX6_thaw, 2, (some .int))
theorem vX6_thaw : MF mX6_thaw 0 6 1 := ⟨by decide, (inA 43 (by decide +kernel) rfl), (inA 432 (by decide +kernel) rfl), ⟨by decide +kernel, by decide +kernel⟩, by decide +kernel, by decide, rfl, (inA 430 (by decide +kernel) rfl), (inA 431 (by decide +kernel) rfl)⟩
def mX6_doors : MD := (yX6_doors, cX6_doors, 3, (some .int))
theorem vX6_doors : MF mX6_doors 0 6 2 := ⟨by decide, (inA 43 (by decide +kernel) rfl), (inA 444 (by decide +kernel) rfl), ⟨by decide +kernel, by decide +kernel⟩, by decide +kernel, by decide, rfl, (inA 442 (by decide +kernel) rfl), (inA 443 (by decide +kernel) rfl)⟩
def mX6_sell : MD := (yX6_sell, cX6_sell, 4, (some .int))
theorem vX6_sell : MF mX6_sell 0 6 2 := ⟨by decide, (inA 43 (by decide +kernel) rfl), (inA 464 (by decide +kernel) rfl), ⟨by decide +kernel, by decide +kernel⟩, by decide +kernel, by decide, rfl, (inA 462 (by decide +kernel) rfl), (inA 463 (by decide +kernel) rfl)⟩
def mX6_undo : MD := (yX6_undo, cX6_undo, 1, (some .int))
theorem vX6_undo : MF mX6_undo 0 6 0 := ⟨by decide, (inA 43 (by decide +kernel) rfl), (inA 476 (by decide +kernel) rfl), ⟨by decide +kernel, by decide +kernel⟩, by decide +kernel, by decide, rfl, (inA 474 (by decide +kernel) rfl), (inA 475 (by decide +kernel) rfl)⟩
def mX6_swap : MD := (yX6_swap, cX6_swap, 4, (some .int))
theorem vX6_swap : MF mX6_swap 0 6 2 := ⟨by decide, (inA 43 (by decide +kernel) rfl), (inA 484 (by decide +kernel) rfl), ⟨by decide +kernel, by decide +kernel⟩, by decide +kernel, by decide, rfl, (inA 482 (by decide +kernel) rfl), (inA 483 (by decide +kernel) rfl)⟩
def mX6_letGo : MD := (yX6_letGo, cX6_letGo, 4, (some .int))
theorem vX6_letGo : MF mX6_letGo 0 6 3 := ⟨by decide, (inA 43 (by decide +kernel) rfl), (inA 488 (by decide +kernel) rfl), ⟨by decide +kernel, by decide +kernel⟩, by decide +kernel, by decide, rfl, (inA 486 (by decide +kernel) rfl), (inA 487 (by decide +kernel) rfl)⟩
def mX6_odds : MD := (yX6_odds, cX6_odds, 8, (some .int))
theorem vX6_odds : MF mX6_odds 0 6 4 := ⟨by decide, (inA 43 (by decide +kernel) rfl), (inA 517 (by decide +kernel) rfl), ⟨by decide +kernel, by decide +kernel⟩, by decide +kernel, by decide, rfl, (inA 515 (by decide +kernel) rfl), (inA 516 (by decide +kernel) rfl)⟩
def mX6_likeliest : MD := (yX6_likeliest, cX6_likeliest, 7, (some .int))
theorem vX6_likeliest : MF mX6_likeliest 0 6 2 := ⟨by decide, (inA 43 (by decide +kernel) rfl), (inA 540 (by decide +kernel) rfl), ⟨by decide +kernel, by decide +kernel⟩, by decide +kernel, by decide, rfl, (inA 538 (by decide +kernel) rfl), (inA 539 (by decide +kernel) rfl)⟩
def mX6_mark : MD := (yX6_mark, cX6_mark, 2, (some .int))
theorem vX6_mark : MF mX6_mark 0 6 1 := ⟨by decide, (inA 43 (by decide +kernel) rfl), (inA 544 (by decide +kernel) rfl), ⟨by decide +kernel, by decide +kernel⟩, by decide +kernel, by decide, rfl, (inA 542 (by decide +kernel) rfl), (inA 543 (by decide +kernel) rfl)⟩
def mX6_noMarks : MD := (yX6_noMarks, cX6_noMarks, 1, (some .int))
theorem vX6_noMarks : MF mX6_noMarks 0 6 0 := ⟨by decide, (inA 43 (by decide +kernel) rfl), (inA 552 (by decide +kernel) rfl), ⟨by decide +kernel, by decide +kernel⟩, by decide +kernel, by decide, rfl, (inA 550 (by decide +kernel) rfl), (inA 551 (by decide +kernel) rfl)⟩
def mX6_far : MD := (yX6_far, cX6_far, 1, (some .int))
theorem vX6_far : MF mX6_far 0 6 0 := ⟨by decide, (inA 43 (by decide +kernel) rfl), (inA 556 (by decide +kernel) rfl), ⟨by decide +kernel, by decide +kernel⟩, by decide +kernel, by decide, rfl, (inA 554 (by decide +kernel) rfl), (inA 555 (by decide +kernel) rfl)⟩
def mX6_odd : MD := (yX6_odd, cX6_odd, 1, (some .int))
theorem vX6_odd : MF mX6_odd 0 6 0 := ⟨by decide, (inA 43 (by decide +kernel) rfl), (inA 569 (by decide +kernel) rfl), ⟨by decide +kernel, by decide +kernel⟩, by decide +kernel, by decide, rfl, (inA 567 (by decide +kernel) rfl), (inA 568 (by decide +kernel) rfl)⟩
def mX6_wish : MD := (yX6_wish, cX6_wish, 2, (some .int))
theorem vX6_wish : MF mX6_wish 0 6 1 := ⟨by decide, (inA 43 (by decide +kernel) rfl), (inA 577 (by decide +kernel) rfl), ⟨by decide +kernel, by decide +kernel⟩, by decide +kernel, by decide, rfl, (inA 575 (by decide +kernel) rfl), (inA 576 (by decide +kernel) rfl)⟩
def mX6_nearest : MD := (yX6_nearest, cX6_nearest, 7, (some .int))
theorem vX6_nearest : MF mX6_nearest 0 6 2 := ⟨by decide, (inA 43 (by decide +kernel) rfl), (inA 585 (by decide +kernel) rfl), ⟨by decide +kernel, by decide +kernel⟩, by decide +kernel, by decide, rfl, (inA 583 (by decide +kernel) rfl), (inA 584 (by decide +kernel) rfl)⟩
def mX6_moved : MD := (yX6_moved, cX6_moved, 6, (some .int))
theorem vX6_moved : MF mX6_moved 0 6 1 := ⟨by decide, (inA 43 (by decide +kernel) rfl), (inA 592 (by decide +kernel) rfl), ⟨by decide +kernel, by decide +kernel⟩, by decide +kernel, by decide, rfl, (inA 590 (by decide +kernel) rfl), (inA 591 (by decide +kernel) rfl)⟩
def mX6_rent : MD := (yX6_rent, cX6_rent, 5, (some .long))
theorem vX6_rent : MF mX6_rent 0 6 1 := ⟨by decide, (inA 43 (by decide +kernel) rfl), (inA 596 (by decide +kernel) rfl), ⟨by decide +kernel, by decide +kernel⟩, by decide +kernel, by decide, rfl, (inA 594 (by decide +kernel) rfl), (inA 595 (by decide +kernel) rfl)⟩
def mX6_winter : MD := (yX6_winter, cX6_winter, 2, (some .int))
theorem vX6_winter : MF mX6_winter 0 6 1 := ⟨by decide, (inA 43 (by decide +kernel) rfl), (inA 603 (by decide +kernel) rfl), ⟨by decide +kernel, by decide +kernel⟩, by decide +kernel, by decide, rfl, (inA 601 (by decide +kernel) rfl), (inA 602 (by decide +kernel) rfl)⟩
def mX6_ten : MD := (yX6_ten, cX6_ten, 4, (some .int))
theorem vX6_ten : MF mX6_ten 0 6 1 := ⟨by decide, (inA 43 (by decide +kernel) rfl), (inA 610 (by decide +kernel) rfl), ⟨by decide +kernel, by decide +kernel⟩, by decide +kernel, by decide, rfl, (inA 608 (by decide +kernel) rfl), (inA 609 (by decide +kernel) rfl)⟩
def mX6_keep : MD := (yX6_keep, cX6_keep, 1, (some .int))
theorem vX6_keep : MF mX6_keep 0 6 0 := ⟨by decide, (inA 43 (by decide +kernel) rfl), (inA 614 (by decide +kernel) rfl), ⟨by decide +kernel, by decide +kernel⟩, by decide +kernel, by decide, rfl, (inA 612 (by decide +kernel) rfl), (inA 613 (by decide +kernel) rfl)⟩
def mX6_back : MD := (yX6_back, cX6_back, 1, (some .int))
theorem vX6_back : MF mX6_back 0 6 0 := ⟨by decide, (inA 43 (by decide +kernel) rfl), (inA 626 (by decide +kernel) rfl), ⟨by decide +kernel, by decide +kernel⟩, by decide +kernel, by decide, rfl, (inA 624 (by decide +kernel) rfl), (inA 625 (by decide +kernel) rfl)⟩
def mX6_count : MD := (yX6_count, cX6_count, 2, (some .int))
theorem vX6_count : MF mX6_count 0 6 1 := ⟨by decide, (inA 43 (by decide +kernel) rfl), (inA 630 (by decide +kernel) rfl), ⟨by decide +kernel, by decide +kernel⟩, by decide +kernel, by decide, rfl, (inA 628 (by decide +kernel) rfl), (inA 629 (by decide +kernel) rfl)⟩
def mX6_inside : MD := (yX6_inside, cX6_inside, 3, (some .boolean))
theorem vX6_inside : MF mX6_inside 1 0 3 := ⟨by decide, (inA 43 (by decide +kernel) rfl), (inA 270 (by decide +kernel) rfl), ⟨by decide +kernel, by decide +kernel⟩, by decide +kernel, (inA 269 (by decide +kernel) rfl)⟩
def mX6_isYear : MD := (yX6_isYear, cX6_isYear, 1, (some .boolean))
theorem vX6_isYear : MF mX6_isYear 1 0 1 := ⟨by decide, (inA 43 (by decide +kernel) rfl), (inA 267 (by decide +kernel) rfl), ⟨by decide +kernel, by decide +kernel⟩, by decide +kernel, (inA 266 (by decide +kernel) rfl)⟩
def mX6_isWinter : MD := (yX6_isWinter, cX6_isWinter, 1, (some .boolean))
theorem vX6_isWinter : MF mX6_isWinter 1 0 1 := ⟨by decide, (inA 43 (by decide +kernel) rfl), (inA 606 (by decide +kernel) rfl), ⟨by decide +kernel, by decide +kernel⟩, by decide +kernel, (inA 605 (by decide +kernel) rfl)⟩
def mX6_isPiece : MD := (yX6_isPiece, cX6_isPiece, 2, (some .boolean))
theorem vX6_isPiece : MF mX6_isPiece 1 0 2 := ⟨by decide, (inA 43 (by decide +kernel) rfl), (inA 520 (by decide +kernel) rfl), ⟨by decide +kernel, by decide +kernel⟩, by decide +kernel, (inA 519 (by decide +kernel) rfl)⟩
def mX6_keptAt : MD := (yX6_keptAt, cX6_keptAt, 2, (some (.object "SnowByNumber$Barn")))
theorem vX6_keptAt : MF mX6_keptAt 0 6 1 := ⟨by decide, (inA 43 (by decide +kernel) rfl), (inA 618 (by decide +kernel) rfl), ⟨by decide +kernel, by decide +kernel⟩, by decide +kernel, by decide, rfl, (inA 617 (by decide +kernel) rfl), (inA 20 (by decide +kernel) rfl)⟩
def mX6_firstThatCannot : MD := (yX6_firstThatCannot, cX6_firstThatCannot, 7, (some .int))
theorem vX6_firstThatCannot : MF mX6_firstThatCannot 0 6 4 := ⟨by decide, (inA 43 (by decide +kernel) rfl), (inA 420 (by decide +kernel) rfl), ⟨by decide +kernel, by decide +kernel⟩, by decide +kernel, by decide, rfl, (inA 419 (by decide +kernel) rfl), (inA 6 (by decide +kernel) rfl)⟩
def mX6_moreInches : MD := (yX6_moreInches, cX6_moreInches, 6, (some .int))
theorem vX6_moreInches : MF mX6_moreInches 0 6 2 := ⟨by decide, (inA 43 (by decide +kernel) rfl), (inA 424 (by decide +kernel) rfl), ⟨by decide +kernel, by decide +kernel⟩, by decide +kernel, by decide, rfl, (inA 423 (by decide +kernel) rfl), (inA 7 (by decide +kernel) rfl)⟩
def mX6_weightOf : MD := (yX6_weightOf, cX6_weightOf, 6, (some .int))
theorem vX6_weightOf : MF mX6_weightOf 0 6 3 := ⟨by decide, (inA 43 (by decide +kernel) rfl), (inA 529 (by decide +kernel) rfl), ⟨by decide +kernel, by decide +kernel⟩, by decide +kernel, by decide, rfl, (inA 528 (by decide +kernel) rfl), (inA 16 (by decide +kernel) rfl)⟩
def mX6_weightOfAll : MD := (yX6_weightOfAll, cX6_weightOfAll, 5, (some .int))
theorem vX6_weightOfAll : MF mX6_weightOfAll 0 6 2 := ⟨by decide, (inA 43 (by decide +kernel) rfl), (inA 525 (by decide +kernel) rfl), ⟨by decide +kernel, by decide +kernel⟩, by decide +kernel, by decide, rfl, (inA 524 (by decide +kernel) rfl), (inA 15 (by decide +kernel) rfl)⟩
def mX6_weightOfYear : MD := (yX6_weightOfYear, cX6_weightOfYear, 6, (some .int))
theorem vX6_weightOfYear : MF mX6_weightOfYear 0 6 3 := ⟨by decide, (inA 43 (by decide +kernel) rfl), (inA 533 (by decide +kernel) rfl), ⟨by decide +kernel, by decide +kernel⟩, by decide +kernel, by decide, rfl, (inA 532 (by decide +kernel) rfl), (inA 17 (by decide +kernel) rfl)⟩
def mX6_tenthsOfYear : MD := (yX6_tenthsOfYear, cX6_tenthsOfYear, 4, (some .int))
theorem vX6_tenthsOfYear : MF mX6_tenthsOfYear 0 6 1 := ⟨by decide, (inA 43 (by decide +kernel) rfl), (inA 581 (by decide +kernel) rfl), ⟨by decide +kernel, by decide +kernel⟩, by decide +kernel, by decide, rfl, (inA 580 (by decide +kernel) rfl), (inA 19 (by decide +kernel) rfl)⟩
def mX6_commonDivisor : MD := (yX6_commonDivisor, cX6_commonDivisor, 4, (some .int))
theorem vX6_commonDivisor : MF mX6_commonDivisor 1 0 2 := ⟨by decide, (inA 43 (by decide +kernel) rfl), (inA 536 (by decide +kernel) rfl), ⟨by decide +kernel, by decide +kernel⟩, by decide +kernel, (inA 535 (by decide +kernel) rfl)⟩
def mX7_init : MD := (yX7_init, cX7_init, 1, none)
theorem vX7_init : MF mX7_init 2 0 0 := ⟨by decide, (inA 51 (by decide +kernel) rfl), (inA 635 (by decide +kernel) rfl), ⟨by decide +kernel, by decide +kernel⟩, by decide +kernel, rfl, rfl, (inA 634 (by decide +kernel) rfl)⟩
def mX7_in : MD := (yX7_in, cX7_in, 6, (some .boolean))
theorem vX7_in : MF mX7_in 1 0 3 := ⟨by decide, (inA 51 (by decide +kernel) rfl), (inA 729 (by decide +kernel) rfl), ⟨by decide +kernel, by decide +kernel⟩, by decide +kernel, (inA 728 (by decide +kernel) rfl)⟩
def mX7_write : MD := (yX7_write, cX7_write, 5, (some .int))
theorem vX7_write : MF mX7_write 0 7 2 := ⟨by decide, (inA 51 (by decide +kernel) rfl), (inA 725 (by decide +kernel) rfl), ⟨by decide +kernel, by decide +kernel⟩, by decide +kernel, by decide, rfl, (inA 723 (by decide +kernel) rfl), (inA 724 (by decide +kernel) rfl)⟩
def mX7_wipe : MD := (yX7_wipe, cX7_wipe, 2, (some .int))
theorem vX7_wipe : MF mX7_wipe 0 7 0 := ⟨by decide, (inA 51 (by decide +kernel) rfl), (inA 733 (by decide +kernel) rfl), ⟨by decide +kernel, by decide +kernel⟩, by decide +kernel, by decide, rfl, (inA 731 (by decide +kernel) rfl), (inA 732 (by decide +kernel) rfl)⟩
def mX7_number : MD := (yX7_number, cX7_number, 3, (some .int))
theorem vX7_number : MF mX7_number 0 7 0 := ⟨by decide, (inA 51 (by decide +kernel) rfl), (inA 748 (by decide +kernel) rfl), ⟨by decide +kernel, by decide +kernel⟩, by decide +kernel, by decide, rfl, (inA 747 (by decide +kernel) rfl), (inA 24 (by decide +kernel) rfl)⟩
def mX7_parts : MD := (yX7_parts, cX7_parts, 1, (some .int))
theorem vX7_parts : MF mX7_parts 1 0 1 := ⟨by decide, (inA 51 (by decide +kernel) rfl), (inA 744 (by decide +kernel) rfl), ⟨by decide +kernel, by decide +kernel⟩, by decide +kernel, (inA 743 (by decide +kernel) rfl)⟩
def mX7_isIn : MD := (yX7_isIn, cX7_isIn, 4, (some .boolean))
theorem vX7_isIn : MF mX7_isIn 0 7 3 := ⟨by decide, (inA 51 (by decide +kernel) rfl), (inA 759 (by decide +kernel) rfl), ⟨by decide +kernel, by decide +kernel⟩, by decide +kernel, by decide, rfl, (inA 758 (by decide +kernel) rfl), (inA 26 (by decide +kernel) rfl)⟩
def mX7_isItem : MD := (yX7_isItem, cX7_isItem, 5, (some .boolean))
theorem vX7_isItem : MF mX7_isItem 0 7 0 := ⟨by decide, (inA 51 (by decide +kernel) rfl), (inA 741 (by decide +kernel) rfl), ⟨by decide +kernel, by decide +kernel⟩, by decide +kernel, by decide, rfl, (inA 740 (by decide +kernel) rfl), (inA 23 (by decide +kernel) rfl)⟩
def mX7_isGood : MD := (yX7_isGood, cX7_isGood, 5, (some .boolean))
theorem vX7_isGood : MF mX7_isGood 0 7 1 := ⟨by decide, (inA 51 (by decide +kernel) rfl), (inA 755 (by decide +kernel) rfl), ⟨by decide +kernel, by decide +kernel⟩, by decide +kernel, by decide, rfl, (inA 754 (by decide +kernel) rfl), (inA 25 (by decide +kernel) rfl)⟩
def mX7_begins : MD := (yX7_begins, cX7_begins, 2, none)
theorem vX7_begins : MF mX7_begins 0 7 0 := ⟨by decide, (inA 51 (by decide +kernel) rfl), (inA 640 (by decide +kernel) rfl), ⟨by decide +kernel, by decide +kernel⟩, by decide +kernel, by decide, rfl, (inA 639 (by decide +kernel) rfl), (inA 21 (by decide +kernel) rfl)⟩
def mX7_takes : MD := (yX7_takes, cX7_takes, 2, none)
theorem vX7_takes : MF mX7_takes 0 7 0 := ⟨by decide, (inA 51 (by decide +kernel) rfl), (inA 644 (by decide +kernel) rfl), ⟨by decide +kernel, by decide +kernel⟩, by decide +kernel, by decide, rfl, (inA 643 (by decide +kernel) rfl), (inA 22 (by decide +kernel) rfl)⟩
def mX7_fault : MD := (yX7_fault, cX7_fault, 2, (some .int))
theorem vX7_fault : MF mX7_fault 0 7 0 := ⟨by decide, (inA 51 (by decide +kernel) rfl), (inA 737 (by decide +kernel) rfl), ⟨by decide +kernel, by decide +kernel⟩, by decide +kernel, by decide, rfl, (inA 735 (by decide +kernel) rfl), (inA 736 (by decide +kernel) rfl)⟩
def mX7_lay : MD := (yX7_lay, cX7_lay, 1, (some .int))
theorem vX7_lay : MF mX7_lay 0 7 0 := ⟨by decide, (inA 51 (by decide +kernel) rfl), (inA 763 (by decide +kernel) rfl), ⟨by decide +kernel, by decide +kernel⟩, by decide +kernel, by decide, rfl, (inA 761 (by decide +kernel) rfl), (inA 762 (by decide +kernel) rfl)⟩
def mX7_of : MD := (yX7_of, cX7_of, 3, (some .int))
theorem vX7_of : MF mX7_of 0 7 2 := ⟨by decide, (inA 51 (by decide +kernel) rfl), (inA 773 (by decide +kernel) rfl), ⟨by decide +kernel, by decide +kernel⟩, by decide +kernel, by decide, rfl, (inA 772 (by decide +kernel) rfl), (inA 27 (by decide +kernel) rfl)⟩
def mX7_costOf : MD := (yX7_costOf, cX7_costOf, 2, (some .int))
theorem vX7_costOf : MF mX7_costOf 0 7 1 := ⟨by decide, (inA 51 (by decide +kernel) rfl), (inA 777 (by decide +kernel) rfl), ⟨by decide +kernel, by decide +kernel⟩, by decide +kernel, by decide, rfl, (inA 776 (by decide +kernel) rfl), (inA 28 (by decide +kernel) rfl)⟩
def mX7_isLayer : MD := (yX7_isLayer, cX7_isLayer, 2, (some .boolean))
theorem vX7_isLayer : MF mX7_isLayer 0 7 1 := ⟨by decide, (inA 51 (by decide +kernel) rfl), (inA 801 (by decide +kernel) rfl), ⟨by decide +kernel, by decide +kernel⟩, by decide +kernel, by decide, rfl, (inA 800 (by decide +kernel) rfl), (inA 32 (by decide +kernel) rfl)⟩
def mX7_isYear : MD := (yX7_isYear, cX7_isYear, 1, (some .boolean))
theorem vX7_isYear : MF mX7_isYear 1 0 1 := ⟨by decide, (inA 51 (by decide +kernel) rfl), (inA 857 (by decide +kernel) rfl), ⟨by decide +kernel, by decide +kernel⟩, by decide +kernel, (inA 856 (by decide +kernel) rfl)⟩
def mX7_falls : MD := (yX7_falls, cX7_falls, 3, (some .int))
theorem vX7_falls : MF mX7_falls 0 7 2 := ⟨by decide, (inA 51 (by decide +kernel) rfl), (inA 768 (by decide +kernel) rfl), ⟨by decide +kernel, by decide +kernel⟩, by decide +kernel, by decide, rfl, (inA 766 (by decide +kernel) rfl), (inA 767 (by decide +kernel) rfl)⟩
def mX7_high : MD := (yX7_high, cX7_high, 3, (some .int))
theorem vX7_high : MF mX7_high 0 7 0 := ⟨by decide, (inA 51 (by decide +kernel) rfl), (inA 785 (by decide +kernel) rfl), ⟨by decide +kernel, by decide +kernel⟩, by decide +kernel, by decide, rfl, (inA 784 (by decide +kernel) rfl), (inA 29 (by decide +kernel) rfl)⟩
def mX7_load : MD := (yX7_load, cX7_load, 3, (some .int))
theorem vX7_load : MF mX7_load 0 7 0 := ⟨by decide, (inA 51 (by decide +kernel) rfl), (inA 789 (by decide +kernel) rfl), ⟨by decide +kernel, by decide +kernel⟩, by decide +kernel, by decide, rfl, (inA 788 (by decide +kernel) rfl), (inA 30 (by decide +kernel) rfl)⟩
def mX7_fits : MD := (yX7_fits, cX7_fits, 3, (some .boolean))
theorem vX7_fits : MF mX7_fits 0 7 2 := ⟨by decide, (inA 51 (by decide +kernel) rfl), (inA 793 (by decide +kernel) rfl), ⟨by decide +kernel, by decide +kernel⟩, by decide +kernel, by decide, rfl, (inA 792 (by decide +kernel) rfl), (inA 31 (by decide +kernel) rfl)⟩
def mX7_fall : MD := (yX7_fall, cX7_fall, 3, (some .int))
theorem vX7_fall : MF mX7_fall 0 7 0 := ⟨by decide, (inA 51 (by decide +kernel) rfl), (inA 781 (by decide +kernel) rfl), ⟨by decide +kernel, by decide +kernel⟩, by decide +kernel, by decide, rfl, (inA 779 (by decide +kernel) rfl), (inA 780 (by decide +kernel) rfl)⟩
def mX7_doorOf : MD := (yX7_doorOf, cX7_doorOf, 2, (some .int))
theorem vX7_doorOf : MF mX7_doorOf 1 0 2 := ⟨by decide, (inA 51 (by decide +kernel) rfl), (inA 805 (by decide +kernel) rfl), ⟨by decide +kernel, by decide +kernel⟩, by decide +kernel, (inA 804 (by decide +kernel) rfl)⟩
def mX7_layer : MD := (yX7_layer, cX7_layer, 3, (some .int))
theorem vX7_layer : MF mX7_layer 0 7 2 := ⟨by decide, (inA 51 (by decide +kernel) rfl), (inA 797 (by decide +kernel) rfl), ⟨by decide +kernel, by decide +kernel⟩, by decide +kernel, by decide, rfl, (inA 795 (by decide +kernel) rfl), (inA 796 (by decide +kernel) rfl)⟩
def mX7_firstOut : MD := (yX7_firstOut, cX7_firstOut, 4, (some .int))
theorem vX7_firstOut : MF mX7_firstOut 0 7 0 := ⟨by decide, (inA 51 (by decide +kernel) rfl), (inA 809 (by decide +kernel) rfl), ⟨by decide +kernel, by decide +kernel⟩, by decide +kernel, by decide, rfl, (inA 807 (by decide +kernel) rfl), (inA 808 (by decide +kernel) rfl)⟩
def mX7_thaw : MD := (yX7_thaw, cX7_thaw, 5, (some .int))
theorem vX7_thaw : MF mX7_thaw 0 7 1 := ⟨by decide, (inA 51 (by decide +kernel) rfl), (inA 813 (by decide +kernel) rfl), ⟨by decide +kernel, by decide +kernel⟩, by decide +kernel, by decide, rfl, (inA 811 (by decide +kernel) rfl), (inA 812 (by decide +kernel) rfl)⟩
def mX7_lostBy : MD := (yX7_lostBy, cX7_lostBy, 6, (some .int))
theorem vX7_lostBy : MF mX7_lostBy 0 7 1 := ⟨by decide, (inA 51 (by decide +kernel) rfl), (inA 823 (by decide +kernel) rfl), ⟨by decide +kernel, by decide +kernel⟩, by decide +kernel, by decide, rfl, (inA 822 (by decide +kernel) rfl), (inA 33 (by decide +kernel) rfl)⟩
def mX7_doors : MD := (yX7_doors, cX7_doors, 9, (some .int))
theorem vX7_doors : MF mX7_doors 0 7 2 := ⟨by decide, (inA 51 (by decide +kernel) rfl), (inA 817 (by decide +kernel) rfl), ⟨by decide +kernel, by decide +kernel⟩, by decide +kernel, by decide, rfl, (inA 815 (by decide +kernel) rfl), (inA 816 (by decide +kernel) rfl)⟩
def mX7_sell : MD := (yX7_sell, cX7_sell, 5, (some .int))
theorem vX7_sell : MF mX7_sell 0 7 2 := ⟨by decide, (inA 51 (by decide +kernel) rfl), (inA 827 (by decide +kernel) rfl), ⟨by decide +kernel, by decide +kernel⟩, by decide +kernel, by decide, rfl, (inA 825 (by decide +kernel) rfl), (inA 826 (by decide +kernel) rfl)⟩
def mX7_undo : MD := (yX7_undo, cX7_undo, 2, (some .int))
theorem vX7_undo : MF mX7_undo 0 7 0 := ⟨by decide, (inA 51 (by decide +kernel) rfl), (inA 832 (by decide +kernel) rfl), ⟨by decide +kernel, by decide +kernel⟩, by decide +kernel, by decide, rfl, (inA 830 (by decide +kernel) rfl), (inA 831 (by decide +kernel) rfl)⟩
def mX7_swap : MD := (yX7_swap, cX7_swap, 4, (some .int))
theorem vX7_swap : MF mX7_swap 0 7 2 := ⟨by decide, (inA 51 (by decide +kernel) rfl), (inA 836 (by decide +kernel) rfl), ⟨by decide +kernel, by decide +kernel⟩, by decide +kernel, by decide, rfl, (inA 834 (by decide +kernel) rfl), (inA 835 (by decide +kernel) rfl)⟩
def mX7_years : MD := (yX7_years, cX7_years, 5, (some .int))
theorem vX7_years : MF mX7_years 0 7 1 := ⟨by decide, (inA 51 (by decide +kernel) rfl), (inA 847 (by decide +kernel) rfl), ⟨by decide +kernel, by decide +kernel⟩, by decide +kernel, by decide, rfl, (inA 846 (by decide +kernel) rfl), (inA 34 (by decide +kernel) rfl)⟩
def mX7_letGo : MD := (yX7_letGo, cX7_letGo, 12, (some .int))
theorem vX7_letGo : MF mX7_letGo 0 7 3 := ⟨by decide, (inA 51 (by decide +kernel) rfl), (inA 841 (by decide +kernel) rfl), ⟨by decide +kernel, by decide +kernel⟩, by decide +kernel, by decide, rfl, (inA 839 (by decide +kernel) rfl), (inA 840 (by decide +kernel) rfl)⟩
def mX7_weight : MD := (yX7_weight, cX7_weight, 4, (some .long))
theorem vX7_weight : MF mX7_weight 0 7 3 := ⟨by decide, (inA 51 (by decide +kernel) rfl), (inA 865 (by decide +kernel) rfl), ⟨by decide +kernel, by decide +kernel⟩, by decide +kernel, by decide, rfl, (inA 864 (by decide +kernel) rfl), (inA 36 (by decide +kernel) rfl)⟩
def mX7_weights : MD := (yX7_weights, cX7_weights, 7, (some .long))
theorem vX7_weights : MF mX7_weights 0 7 3 := ⟨by decide, (inA 51 (by decide +kernel) rfl), (inA 861 (by decide +kernel) rfl), ⟨by decide +kernel, by decide +kernel⟩, by decide +kernel, by decide, rfl, (inA 860 (by decide +kernel) rfl), (inA 35 (by decide +kernel) rfl)⟩
def mX7_isPiece : MD := (yX7_isPiece, cX7_isPiece, 2, (some .boolean))
theorem vX7_isPiece : MF mX7_isPiece 1 0 2 := ⟨by decide, (inA 51 (by decide +kernel) rfl), (inA 854 (by decide +kernel) rfl), ⟨by decide +kernel, by decide +kernel⟩, by decide +kernel, (inA 853 (by decide +kernel) rfl)⟩
def mX7_lowest : MD := (yX7_lowest, cX7_lowest, 11, none)
theorem vX7_lowest : MF mX7_lowest 0 7 2 := ⟨by decide, (inA 51 (by decide +kernel) rfl), (inA 869 (by decide +kernel) rfl), ⟨by decide +kernel, by decide +kernel⟩, by decide +kernel, by decide, rfl, (inA 868 (by decide +kernel) rfl), (inA 37 (by decide +kernel) rfl)⟩
def mX7_odds : MD := (yX7_odds, cX7_odds, 7, (some .int))
theorem vX7_odds : MF mX7_odds 0 7 4 := ⟨by decide, (inA 51 (by decide +kernel) rfl), (inA 851 (by decide +kernel) rfl), ⟨by decide +kernel, by decide +kernel⟩, by decide +kernel, by decide, rfl, (inA 849 (by decide +kernel) rfl), (inA 850 (by decide +kernel) rfl)⟩
def mX7_likeliest : MD := (yX7_likeliest, cX7_likeliest, 9, (some .int))
theorem vX7_likeliest : MF mX7_likeliest 0 7 2 := ⟨by decide, (inA 51 (by decide +kernel) rfl), (inA 873 (by decide +kernel) rfl), ⟨by decide +kernel, by decide +kernel⟩, by decide +kernel, by decide, rfl, (inA 871 (by decide +kernel) rfl), (inA 872 (by decide +kernel) rfl)⟩
def mX7_mark : MD := (yX7_mark, cX7_mark, 2, (some .int))
theorem vX7_mark : MF mX7_mark 0 7 1 := ⟨by decide, (inA 51 (by decide +kernel) rfl), (inA 877 (by decide +kernel) rfl), ⟨by decide +kernel, by decide +kernel⟩, by decide +kernel, by decide, rfl, (inA 875 (by decide +kernel) rfl), (inA 876 (by decide +kernel) rfl)⟩
def mX7_noMarks : MD := (yX7_noMarks, cX7_noMarks, 2, (some .int))
theorem vX7_noMarks : MF mX7_noMarks 0 7 0 := ⟨by decide, (inA 51 (by decide +kernel) rfl), (inA 881 (by decide +kernel) rfl), ⟨by decide +kernel, by decide +kernel⟩, by decide +kernel, by decide, rfl, (inA 879 (by decide +kernel) rfl), (inA 880 (by decide +kernel) rfl)⟩
def mX7_shows : MD := (yX7_shows, cX7_shows, 3, (some .int))
theorem vX7_shows : MF mX7_shows 0 7 0 := ⟨by decide, (inA 51 (by decide +kernel) rfl), (inA 889 (by decide +kernel) rfl), ⟨by decide +kernel, by decide +kernel⟩, by decide +kernel, by decide, rfl, (inA 888 (by decide +kernel) rfl), (inA 38 (by decide +kernel) rfl)⟩
def mX7_far : MD := (yX7_far, cX7_far, 5, (some .int))
theorem vX7_far : MF mX7_far 0 7 0 := ⟨by decide, (inA 51 (by decide +kernel) rfl), (inA 885 (by decide +kernel) rfl), ⟨by decide +kernel, by decide +kernel⟩, by decide +kernel, by decide, rfl, (inA 883 (by decide +kernel) rfl), (inA 884 (by decide +kernel) rfl)⟩
def mX7_odd : MD := (yX7_odd, cX7_odd, 3, (some .int))
theorem vX7_odd : MF mX7_odd 0 7 0 := ⟨by decide, (inA 51 (by decide +kernel) rfl), (inA 893 (by decide +kernel) rfl), ⟨by decide +kernel, by decide +kernel⟩, by decide +kernel, by decide, rfl, (inA 891 (by decide +kernel) rfl), (inA 892 (by decide +kernel) rfl)⟩
def mX7_tenthsOf : MD := (yX7_tenthsOf, cX7_tenthsOf, 4, (some .int))
theorem vX7_tenthsOf : MF mX7_tenthsOf 0 7 1 := ⟨by decide, (inA 51 (by decide +kernel) rfl), (inA 902 (by decide +kernel) rfl), ⟨by decide +kernel, by decide +kernel⟩, by decide +kernel, by decide, rfl, (inA 901 (by decide +kernel) rfl), (inA 39 (by decide +kernel) rfl)⟩
def mX7_wish : MD := (yX7_wish, cX7_wish, 2, (some .int))
theorem vX7_wish : MF mX7_wish 0 7 1 := ⟨by decide, (inA 51 (by decide +kernel) rfl), (inA 898 (by decide +kernel) rfl), ⟨by decide +kernel, by decide +kernel⟩, by decide +kernel, by decide, rfl, (inA 896 (by decide +kernel) rfl), (inA 897 (by decide +kernel) rfl)⟩
def mX7_nearest : MD := (yX7_nearest, cX7_nearest, 4, (some .int))
theorem vX7_nearest : MF mX7_nearest 0 7 2 := ⟨by decide, (inA 51 (by decide +kernel) rfl), (inA 906 (by decide +kernel) rfl), ⟨by decide +kernel, by decide +kernel⟩, by decide +kernel, by decide, rfl, (inA 904 (by decide +kernel) rfl), (inA 905 (by decide +kernel) rfl)⟩
def mX7_moved : MD := (yX7_moved, cX7_moved, 6, (some .int))
theorem vX7_moved : MF mX7_moved 0 7 1 := ⟨by decide, (inA 51 (by decide +kernel) rfl), (inA 910 (by decide +kernel) rfl), ⟨by decide +kernel, by decide +kernel⟩, by decide +kernel, by decide, rfl, (inA 908 (by decide +kernel) rfl), (inA 909 (by decide +kernel) rfl)⟩
def mX7_rent : MD := (yX7_rent, cX7_rent, 5, (some .long))
theorem vX7_rent : MF mX7_rent 0 7 1 := ⟨by decide, (inA 51 (by decide +kernel) rfl), (inA 916 (by decide +kernel) rfl), ⟨by decide +kernel, by decide +kernel⟩, by decide +kernel, by decide, rfl, (inA 914 (by decide +kernel) rfl), (inA 915 (by decide +kernel) rfl)⟩
def mX7_comes : MD := (yX7_comes, cX7_comes, 8, (some .int))
theorem vX7_comes : MF mX7_comes 0 7 1 := ⟨by decide, (inA 51 (by decide +kernel) rfl), (inA 930 (by decide +kernel) rfl), ⟨by decide +kernel, by decide +kernel⟩, by decide +kernel, by decide, rfl, (inA 929 (by decide +kernel) rfl), (inA 40 (by decide +kernel) rfl)⟩
def mX7_isSeed : MD := (yX7_isSeed, cX7_isSeed, 1, (some .boolean))
theorem vX7_isSeed : MF mX7_isSeed 1 0 1 := ⟨by decide, (inA 51 (by decide +kernel) rfl), (inA 925 (by decide +kernel) rfl), ⟨by decide +kernel, by decide +kernel⟩, by decide +kernel, (inA 924 (by decide +kernel) rfl)⟩
def mX7_winter : MD := (yX7_winter, cX7_winter, 2, (some .int))
theorem vX7_winter : MF mX7_winter 0 7 1 := ⟨by decide, (inA 51 (by decide +kernel) rfl), (inA 922 (by decide +kernel) rfl), ⟨by decide +kernel, by decide +kernel⟩, by decide +kernel, by decide, rfl, (inA 920 (by decide +kernel) rfl), (inA 921 (by decide +kernel) rfl)⟩
def mX7_ten : MD := (yX7_ten, cX7_ten, 4, (some .int))
theorem vX7_ten : MF mX7_ten 0 7 1 := ⟨by decide, (inA 51 (by decide +kernel) rfl), (inA 937 (by decide +kernel) rfl), ⟨by decide +kernel, by decide +kernel⟩, by decide +kernel, by decide, rfl, (inA 935 (by decide +kernel) rfl), (inA 936 (by decide +kernel) rfl)⟩
def mX7_copies : MD := (yX7_copies, cX7_copies, 4, none)
theorem vX7_copies : MF mX7_copies 0 7 2 := ⟨by decide, (inA 51 (by decide +kernel) rfl), (inA 945 (by decide +kernel) rfl), ⟨by decide +kernel, by decide +kernel⟩, by decide +kernel, by decide, rfl, (inA 944 (by decide +kernel) rfl), (inA 41 (by decide +kernel) rfl)⟩
def mX7_keep : MD := (yX7_keep, cX7_keep, 1, (some .int))
theorem vX7_keep : MF mX7_keep 0 7 0 := ⟨by decide, (inA 51 (by decide +kernel) rfl), (inA 941 (by decide +kernel) rfl), ⟨by decide +kernel, by decide +kernel⟩, by decide +kernel, by decide, rfl, (inA 939 (by decide +kernel) rfl), (inA 940 (by decide +kernel) rfl)⟩
def mX7_back : MD := (yX7_back, cX7_back, 1, (some .int))
theorem vX7_back : MF mX7_back 0 7 0 := ⟨by decide, (inA 51 (by decide +kernel) rfl), (inA 949 (by decide +kernel) rfl), ⟨by decide +kernel, by decide +kernel⟩, by decide +kernel, by decide, rfl, (inA 947 (by decide +kernel) rfl), (inA 948 (by decide +kernel) rfl)⟩
def mX7_count : MD := (yX7_count, cX7_count, 2, (some .int))
theorem vX7_count : MF mX7_count 0 7 1 := ⟨by decide, (inA 51 (by decide +kernel) rfl), (inA 953 (by decide +kernel) rfl), ⟨by decide +kernel, by decide +kernel⟩, by decide +kernel, by decide, rfl, (inA 951 (by decide +kernel) rfl), (inA 952 (by decide +kernel) rfl)⟩
def mJ9_abs : MD := (yJ9_abs_0f7a4, cJ9_abs_0f7a4, 1, (some .int))
theorem vJ9_abs : MF mJ9_abs 1 0 1 := ⟨by decide, (inA 52 (by decide +kernel) rfl), (inA 588 (by decide +kernel) rfl), ⟨by decide +kernel, by decide +kernel⟩, by decide +kernel, (inA 587 (by decide +kernel) rfl)⟩
def mJ9_max : MD := (yJ9_max_7cf53, cJ9_max_7cf53, 2, (some .int))
theorem vJ9_max : MF mJ9_max 1 0 2 := ⟨by decide, (inA 52 (by decide +kernel) rfl), (inA 412 (by decide +kernel) rfl), ⟨by decide +kernel, by decide +kernel⟩, by decide +kernel, (inA 411 (by decide +kernel) rfl)⟩
def mJ9_min : MD := (yJ9_min_7cf53, cJ9_min_7cf53, 2, (some .int))
theorem vJ9_min : MF mJ9_min 1 0 2 := ⟨by decide, (inA 52 (by decide +kernel) rfl), (inA 440 (by decide +kernel) rfl), ⟨by decide +kernel, by decide +kernel⟩, by decide +kernel, (inA 439 (by decide +kernel) rfl)⟩
def mJ7_fill : MD := (yJ7_fill_53178, cJ7_fill_53178, 4, none)
theorem vJ7_fill : MF mJ7_fill 1 0 2 := ⟨by decide, (inA 46 (by decide +kernel) rfl), (inA 101 (by decide +kernel) rfl), ⟨by decide +kernel, by decide +kernel⟩, by decide +kernel, (inA 100 (by decide +kernel) rfl)⟩
def mL_law : MD := (yL_law, cL_law, 4, some .boolean)
theorem lL_9 : ML RL 9 mX6_init := Or.inl (inA 55 (by decide +kernel) rfl)
theorem lX6_1 : Cond.methodLink RX6 1 objectInit ∈ ALLW := (inA 58 (by decide +kernel) rfl)
theorem lX6_9 : ML RX6 9 mX3_init := Or.inr ⟨"SnowByNumber", (inN 63 (by decide +kernel) rfl)⟩
theorem lX3_3 : Cond.methodLink RX3 3 objectInit ∈ ALLW := (inA 66 (by decide +kernel) rfl)
theorem lX6_18 : ML RX6 18 mX5_init := Or.inl (inA 91 (by decide +kernel) rfl)
theorem lX5_3 : Cond.methodLink RX5 3 objectInit ∈ ALLW := (inA 94 (by decide +kernel) rfl)
theorem lX5_27 : ML RX5 27 mX5_forget := Or.inl (inA 95 (by decide +kernel) rfl)
theorem lX5_49 : ML RX5 49 mJ7_fill := Or.inl (inA 99 (by decide +kernel) rfl)
theorem lX6_28 : ML RX6 28 mX0_init := Or.inr ⟨"SnowByNumber", (inN 150 (by decide +kernel) rfl)⟩
theorem lX0_3 : Cond.methodLink RX0 3 objectInit ∈ ALLW := (inA 153 (by decide +kernel) rfl)
theorem lX6_45 : ML RX6 45 mX2_init := Or.inr ⟨"SnowByNumber", (inN 193 (by decide +kernel) rfl)⟩
theorem lX2_3 : Cond.methodLink RX2 3 objectInit ∈ ALLW := (inA 196 (by decide +kernel) rfl)
theorem lX6_52 : ML RX6 52 mX4_init := Or.inr ⟨"SnowByNumber", (inN 210 (by decide +kernel) rfl)⟩
theorem lX4_3 : Cond.methodLink RX4 3 objectInit ∈ ALLW := (inA 213 (by decide +kernel) rfl)
theorem lX6_59 : ML RX6 59 mX1_init := Or.inr ⟨"SnowByNumber", (inN 232 (by decide +kernel) rfl)⟩
theorem lX1_3 : Cond.methodLink RX1 3 objectInit ∈ ALLW := (inA 235 (by decide +kernel) rfl)
theorem lX6_64 : ML RX6 64 mX5_addFall := Or.inl (inA 261 (by decide +kernel) rfl)
theorem lX5_73 : ML RX5 73 mX6_isYear := Or.inr ⟨"SnowByNumber", (inN 265 (by decide +kernel) rfl)⟩
theorem lX6_68 : ML RX6 68 mX6_inside := Or.inl (inA 268 (by decide +kernel) rfl)
theorem lX5_69 : ML RX5 69 mX6_inside := Or.inr ⟨"SnowByNumber", (inN 271 (by decide +kernel) rfl)⟩
theorem lL_15 : ML RL 15 mX6_write := Or.inl (inA 303 (by decide +kernel) rfl)
theorem lX6_72 : ML RX6 72 mX3_append := Or.inl (inA 307 (by decide +kernel) rfl)
theorem lL_20 : ML RL 20 mX6_wipe := Or.inl (inA 311 (by decide +kernel) rfl)
theorem lX6_79 : ML RX6 79 mX3_clear := Or.inl (inA 315 (by decide +kernel) rfl)
theorem lL_25 : ML RL 25 mX6_fault := Or.inl (inA 319 (by decide +kernel) rfl)
theorem lX6_83 : ML RX6 83 mX3_tellTo := Or.inl (inA 323 (by decide +kernel) rfl)
theorem lX3_32 : ML RX3 32 mX5_forget := Or.inl (inA 327 (by decide +kernel) rfl)
theorem lX3_37 : ML RX3 37 mX3_startItem := Or.inl (inA 328 (by decide +kernel) rfl)
theorem lX3_40 : ML RX3 40 mX3_addFigure := Or.inl (inA 332 (by decide +kernel) rfl)
theorem lX3_44 : ML RX3 44 mX3_endNumber := Or.inl (inA 336 (by decide +kernel) rfl)
theorem lX3_48 : ML RX3 48 mX5_take := Or.inl (inA 340 (by decide +kernel) rfl)
theorem lX5_55 : ML RX5 55 mX5_setBarn := Or.inl (inA 344 (by decide +kernel) rfl)
theorem lX5_59 : ML RX5 59 mX5_addFall := Or.inl (inA 348 (by decide +kernel) rfl)
theorem lX5_63 : ML RX5 63 mX5_setCost := Or.inl (inA 349 (by decide +kernel) rfl)
theorem lX5_66 : ML RX5 66 mX5_setOne := Or.inl (inA 353 (by decide +kernel) rfl)
theorem lL_29 : ML RL 29 mX6_lay := Or.inl (inA 357 (by decide +kernel) rfl)
theorem lX6_90 : ML RX6 90 mX0_clear := Or.inl (inA 361 (by decide +kernel) rfl)
theorem lX6_92 : ML RX6 92 mX2_clear := Or.inl (inA 365 (by decide +kernel) rfl)
theorem lL_33 : ML RL 33 mX6_falls := Or.inl (inA 369 (by decide +kernel) rfl)
theorem lX6_106 : ML RX6 106 mX5_costOf := Or.inl (inA 373 (by decide +kernel) rfl)
theorem lL_38 : ML RL 38 mX6_fall := Or.inl (inA 377 (by decide +kernel) rfl)
theorem lX6_113 : ML RX6 113 mX0_high := Or.inl (inA 381 (by decide +kernel) rfl)
theorem lX6_116 : ML RX6 116 mX0_load := Or.inl (inA 385 (by decide +kernel) rfl)
theorem lX6_119 : ML RX6 119 mX5_bears := Or.inl (inA 389 (by decide +kernel) rfl)
theorem lX6_123 : ML RX6 123 mX0_comeIn := Or.inl (inA 393 (by decide +kernel) rfl)
theorem lL_42 : ML RL 42 mX6_layer := Or.inl (inA 397 (by decide +kernel) rfl)
theorem lX6_127 : ML RX6 127 mX0_has := Or.inl (inA 401 (by decide +kernel) rfl)
theorem lX0_37 : ML RX0 37 mX6_inside := Or.inr ⟨"SnowByNumber", (inN 405 (by decide +kernel) rfl)⟩
theorem lX6_137 : ML RX6 137 mX0_doorOf := Or.inl (inA 406 (by decide +kernel) rfl)
theorem lX0_46 : Cond.methodLink RX0 46 Lib.Math.max.name ∈ ALLW := (inA 410 (by decide +kernel) rfl)
theorem lL_46 : ML RL 46 mX6_firstOut := Or.inl (inA 413 (by decide +kernel) rfl)
theorem lX6_140 : ML RX6 140 mX6_firstThatCannot := Or.inl (inA 417 (by decide +kernel) rfl)
theorem lX6_240 : ML RX6 240 mX6_moreInches := Or.inl (inA 421 (by decide +kernel) rfl)
theorem lX6_196 : Cond.methodLink RX6 196 Lib.Math.max.name ∈ ALLW := (inA 427 (by decide +kernel) rfl)
theorem lL_50 : ML RL 50 mX6_thaw := Or.inl (inA 429 (by decide +kernel) rfl)
theorem lX6_147 : ML RX6 147 mX0_melt := Or.inl (inA 433 (by decide +kernel) rfl)
theorem lX0_52 : ML RX0 52 mX0_doorOf := Or.inl (inA 437 (by decide +kernel) rfl)
theorem lX0_56 : Cond.methodLink RX0 56 Lib.Math.min.name ∈ ALLW := (inA 438 (by decide +kernel) rfl)
theorem lL_55 : ML RL 55 mX6_doors := Or.inl (inA 441 (by decide +kernel) rfl)
theorem lX6_151 : ML RX6 151 mX4_choose := Or.inl (inA 445 (by decide +kernel) rfl)
theorem lX4_26 : ML RX4 26 mX4_weigh := Or.inl (inA 449 (by decide +kernel) rfl)
theorem lX4_47 : Cond.methodLink RX4 47 Lib.Math.min.name ∈ ALLW := (inA 453 (by decide +kernel) rfl)
theorem lX4_53 : ML RX4 53 mX0_doorOf := Or.inl (inA 454 (by decide +kernel) rfl)
theorem lX4_57 : ML RX4 57 mX5_costOf := Or.inl (inA 455 (by decide +kernel) rfl)
theorem lX6_158 : ML RX6 158 mX4_doorAt := Or.inl (inA 457 (by decide +kernel) rfl)
theorem lL_59 : ML RL 59 mX6_sell := Or.inl (inA 461 (by decide +kernel) rfl)
theorem lX6_161 : ML RX6 161 mX0_addSale := Or.inl (inA 465 (by decide +kernel) rfl)
theorem lX0_59 : ML RX0 59 mX0_forgetOldestSale := Or.inl (inA 469 (by decide +kernel) rfl)
theorem lL_63 : ML RL 63 mX6_undo := Or.inl (inA 473 (by decide +kernel) rfl)
theorem lX6_165 : ML RX6 165 mX0_takeSaleBack := Or.inl (inA 477 (by decide +kernel) rfl)
theorem lL_67 : ML RL 67 mX6_swap := Or.inl (inA 481 (by decide +kernel) rfl)
theorem lL_71 : ML RL 71 mX6_letGo := Or.inl (inA 485 (by decide +kernel) rfl)
theorem lX6_168 : ML RX6 168 mX1_choose := Or.inl (inA 489 (by decide +kernel) rfl)
theorem lX1_34 : ML RX1 34 mX1_startWithAll := Or.inl (inA 493 (by decide +kernel) rfl)
theorem lX1_51 : ML RX1 51 mJ7_fill := Or.inl (inA 497 (by decide +kernel) rfl)
theorem lX1_68 : ML RX1 68 mX1_putBack := Or.inl (inA 498 (by decide +kernel) rfl)
theorem lX1_43 : ML RX1 43 mX1_isBetter := Or.inl (inA 502 (by decide +kernel) rfl)
theorem lX1_47 : ML RX1 47 mX1_goOn := Or.inl (inA 506 (by decide +kernel) rfl)
theorem lX1_72 : ML RX1 72 mX1_takeOut := Or.inl (inA 510 (by decide +kernel) rfl)
theorem lL_76 : ML RL 76 mX6_odds := Or.inl (inA 514 (by decide +kernel) rfl)
theorem lX6_180 : ML RX6 180 mX6_isPiece := Or.inl (inA 518 (by decide +kernel) rfl)
theorem lX6_183 : ML RX6 183 mX6_isYear := Or.inl (inA 521 (by decide +kernel) rfl)
theorem lX6_186 : ML RX6 186 mX6_weightOfAll := Or.inl (inA 522 (by decide +kernel) rfl)
theorem lX6_255 : ML RX6 255 mX6_weightOf := Or.inl (inA 526 (by decide +kernel) rfl)
theorem lX6_189 : ML RX6 189 mX6_weightOfYear := Or.inl (inA 530 (by decide +kernel) rfl)
theorem lX6_193 : ML RX6 193 mX6_commonDivisor := Or.inl (inA 534 (by decide +kernel) rfl)
theorem lL_81 : ML RL 81 mX6_likeliest := Or.inl (inA 537 (by decide +kernel) rfl)
theorem lL_85 : ML RL 85 mX6_mark := Or.inl (inA 541 (by decide +kernel) rfl)
theorem lX6_201 : ML RX6 201 mX2_add := Or.inl (inA 545 (by decide +kernel) rfl)
theorem lL_89 : ML RL 89 mX6_noMarks := Or.inl (inA 549 (by decide +kernel) rfl)
theorem lL_93 : ML RL 93 mX6_far := Or.inl (inA 553 (by decide +kernel) rfl)
theorem lX6_205 : ML RX6 205 mX2_changesTo := Or.inl (inA 557 (by decide +kernel) rfl)
theorem lX2_31 : ML RX2 31 mX2_addLayer := Or.inl (inA 561 (by decide +kernel) rfl)
theorem lX2_35 : Cond.methodLink RX2 35 Lib.Math.min.name ∈ ALLW := (inA 565 (by decide +kernel) rfl)
theorem lL_97 : ML RL 97 mX6_odd := Or.inl (inA 566 (by decide +kernel) rfl)
theorem lX6_209 : ML RX6 209 mX2_firstUnlike := Or.inl (inA 570 (by decide +kernel) rfl)
theorem lL_101 : ML RL 101 mX6_wish := Or.inl (inA 574 (by decide +kernel) rfl)
theorem lX6_212 : ML RX6 212 mX6_tenthsOfYear := Or.inl (inA 578 (by decide +kernel) rfl)
theorem lL_105 : ML RL 105 mX6_nearest := Or.inl (inA 582 (by decide +kernel) rfl)
theorem lX6_215 : Cond.methodLink RX6 215 Lib.Math.abs.name ∈ ALLW := (inA 586 (by decide +kernel) rfl)
theorem lL_109 : ML RL 109 mX6_moved := Or.inl (inA 589 (by decide +kernel) rfl)
theorem lL_113 : ML RL 113 mX6_rent := Or.inl (inA 593 (by decide +kernel) rfl)
theorem lL_118 : ML RL 118 mX6_winter := Or.inl (inA 600 (by decide +kernel) rfl)
theorem lX6_223 : ML RX6 223 mX6_isWinter := Or.inl (inA 604 (by decide +kernel) rfl)
theorem lL_122 : ML RL 122 mX6_ten := Or.inl (inA 607 (by decide +kernel) rfl)
theorem lL_126 : ML RL 126 mX6_keep := Or.inl (inA 611 (by decide +kernel) rfl)
theorem lX6_226 : ML RX6 226 mX6_keptAt := Or.inl (inA 615 (by decide +kernel) rfl)
theorem lX6_230 : ML RX6 230 mX0_copyFrom := Or.inl (inA 619 (by decide +kernel) rfl)
theorem lL_130 : ML RL 130 mX6_back := Or.inl (inA 623 (by decide +kernel) rfl)
theorem lL_134 : ML RL 134 mX6_count := Or.inl (inA 627 (by decide +kernel) rfl)
theorem lL_12 : ML RL 12 mX7_init := Or.inl (inA 633 (by decide +kernel) rfl)
theorem lX7_1 : Cond.methodLink RX7 1 objectInit ∈ ALLW := (inA 636 (by decide +kernel) rfl)
theorem lX7_69 : ML RX7 69 mX7_begins := Or.inl (inA 637 (by decide +kernel) rfl)
theorem lX7_72 : ML RX7 72 mX7_takes := Or.inl (inA 641 (by decide +kernel) rfl)
theorem lL_19 : ML RL 19 mX7_write := Or.inl (inA 722 (by decide +kernel) rfl)
theorem lX7_77 : ML RX7 77 mX7_in := Or.inl (inA 727 (by decide +kernel) rfl)
theorem lL_24 : ML RL 24 mX7_wipe := Or.inl (inA 730 (by decide +kernel) rfl)
theorem lL_28 : ML RL 28 mX7_fault := Or.inl (inA 734 (by decide +kernel) rfl)
theorem lX7_116 : ML RX7 116 mX7_isItem := Or.inl (inA 738 (by decide +kernel) rfl)
theorem lX7_94 : ML RX7 94 mX7_parts := Or.inl (inA 742 (by decide +kernel) rfl)
theorem lX7_98 : ML RX7 98 mX7_number := Or.inl (inA 745 (by decide +kernel) rfl)
theorem lX7_102 : ML RX7 102 mX7_isGood := Or.inl (inA 752 (by decide +kernel) rfl)
theorem lX7_106 : ML RX7 106 mX7_isIn := Or.inl (inA 756 (by decide +kernel) rfl)
theorem lL_32 : ML RL 32 mX7_lay := Or.inl (inA 760 (by decide +kernel) rfl)
theorem lX7_120 : ML RX7 120 mX7_fault := Or.inl (inA 764 (by decide +kernel) rfl)
theorem lL_37 : ML RL 37 mX7_falls := Or.inl (inA 765 (by decide +kernel) rfl)
theorem lX7_123 : ML RX7 123 mX7_of := Or.inl (inA 770 (by decide +kernel) rfl)
theorem lX7_131 : ML RX7 131 mX7_costOf := Or.inl (inA 774 (by decide +kernel) rfl)
theorem lL_41 : ML RL 41 mX7_fall := Or.inl (inA 778 (by decide +kernel) rfl)
theorem lX7_134 : ML RX7 134 mX7_high := Or.inl (inA 782 (by decide +kernel) rfl)
theorem lX7_137 : ML RX7 137 mX7_load := Or.inl (inA 786 (by decide +kernel) rfl)
theorem lX7_140 : ML RX7 140 mX7_fits := Or.inl (inA 790 (by decide +kernel) rfl)
theorem lL_45 : ML RL 45 mX7_layer := Or.inl (inA 794 (by decide +kernel) rfl)
theorem lX7_144 : ML RX7 144 mX7_isLayer := Or.inl (inA 798 (by decide +kernel) rfl)
theorem lX7_149 : ML RX7 149 mX7_doorOf := Or.inl (inA 803 (by decide +kernel) rfl)
theorem lL_49 : ML RL 49 mX7_firstOut := Or.inl (inA 806 (by decide +kernel) rfl)
theorem lL_54 : ML RL 54 mX7_thaw := Or.inl (inA 810 (by decide +kernel) rfl)
theorem lL_58 : ML RL 58 mX7_doors := Or.inl (inA 814 (by decide +kernel) rfl)
theorem lX7_156 : ML RX7 156 mX7_lostBy := Or.inl (inA 820 (by decide +kernel) rfl)
theorem lL_62 : ML RL 62 mX7_sell := Or.inl (inA 824 (by decide +kernel) rfl)
theorem lL_66 : ML RL 66 mX7_undo := Or.inl (inA 829 (by decide +kernel) rfl)
theorem lL_70 : ML RL 70 mX7_swap := Or.inl (inA 833 (by decide +kernel) rfl)
theorem lL_75 : ML RL 75 mX7_letGo := Or.inl (inA 838 (by decide +kernel) rfl)
theorem lX7_165 : ML RX7 165 mX7_years := Or.inl (inA 844 (by decide +kernel) rfl)
theorem lL_80 : ML RL 80 mX7_odds := Or.inl (inA 848 (by decide +kernel) rfl)
theorem lX7_179 : ML RX7 179 mX7_isPiece := Or.inl (inA 852 (by decide +kernel) rfl)
theorem lX7_182 : ML RX7 182 mX7_isYear := Or.inl (inA 855 (by decide +kernel) rfl)
theorem lX7_185 : ML RX7 185 mX7_weights := Or.inl (inA 858 (by decide +kernel) rfl)
theorem lX7_168 : ML RX7 168 mX7_weight := Or.inl (inA 862 (by decide +kernel) rfl)
theorem lX7_188 : ML RX7 188 mX7_lowest := Or.inl (inA 866 (by decide +kernel) rfl)
theorem lL_84 : ML RL 84 mX7_likeliest := Or.inl (inA 870 (by decide +kernel) rfl)
theorem lL_88 : ML RL 88 mX7_mark := Or.inl (inA 874 (by decide +kernel) rfl)
theorem lL_92 : ML RL 92 mX7_noMarks := Or.inl (inA 878 (by decide +kernel) rfl)
theorem lL_96 : ML RL 96 mX7_far := Or.inl (inA 882 (by decide +kernel) rfl)
theorem lX7_192 : ML RX7 192 mX7_shows := Or.inl (inA 886 (by decide +kernel) rfl)
theorem lL_100 : ML RL 100 mX7_odd := Or.inl (inA 890 (by decide +kernel) rfl)
theorem lX7_195 : ML RX7 195 mX7_far := Or.inl (inA 894 (by decide +kernel) rfl)
theorem lL_104 : ML RL 104 mX7_wish := Or.inl (inA 895 (by decide +kernel) rfl)
theorem lX7_198 : ML RX7 198 mX7_tenthsOf := Or.inl (inA 899 (by decide +kernel) rfl)
theorem lL_108 : ML RL 108 mX7_nearest := Or.inl (inA 903 (by decide +kernel) rfl)
theorem lL_112 : ML RL 112 mX7_moved := Or.inl (inA 907 (by decide +kernel) rfl)
theorem lL_117 : ML RL 117 mX7_rent := Or.inl (inA 913 (by decide +kernel) rfl)
theorem lL_121 : ML RL 121 mX7_winter := Or.inl (inA 919 (by decide +kernel) rfl)
theorem lX7_217 : ML RX7 217 mX7_isSeed := Or.inl (inA 923 (by decide +kernel) rfl)
theorem lX7_220 : ML RX7 220 mX7_comes := Or.inl (inA 927 (by decide +kernel) rfl)
theorem lL_125 : ML RL 125 mX7_ten := Or.inl (inA 934 (by decide +kernel) rfl)
theorem lL_129 : ML RL 129 mX7_keep := Or.inl (inA 938 (by decide +kernel) rfl)
theorem lX7_223 : ML RX7 223 mX7_copies := Or.inl (inA 942 (by decide +kernel) rfl)
theorem lL_133 : ML RL 133 mX7_back := Or.inl (inA 946 (by decide +kernel) rfl)
theorem lL_137 : ML RL 137 mX7_count := Or.inl (inA 950 (by decide +kernel) rfl)
theorem fX3_9 : FG RX3 9 3 0 2 := ⟨by decide, by decide, rfl, Or.inl (inA 67 (by decide +kernel) rfl)⟩
theorem pX3_9 : FP RX3 9 3 0 (.array .byte) true := ⟨by decide, by decide, rfl, rfl, (fun h => rfl), (inA 67 (by decide +kernel) rfl)⟩
theorem fX3_15 : FG RX3 15 3 1 0 := ⟨by decide, by decide, rfl, Or.inl (inA 68 (by decide +kernel) rfl)⟩
theorem pX3_15 : FP RX3 15 3 1 (.int) false := ⟨by decide, by decide, rfl, rfl, (fun h => by cases h), (inA 68 (by decide +kernel) rfl)⟩
theorem fX6_76 : FG RX6 76 3 1 0 := ⟨by decide, by decide, rfl, Or.inr ⟨"SnowByNumber", (inN 69 (by decide +kernel) rfl)⟩⟩
theorem fX3_19 : FG RX3 19 3 2 2 := ⟨by decide, by decide, rfl, Or.inl (inA 70 (by decide +kernel) rfl)⟩
theorem pX3_19 : FP RX3 19 3 2 (.array .int) true := ⟨by decide, by decide, rfl, rfl, (fun h => rfl), (inA 70 (by decide +kernel) rfl)⟩
theorem fX3_23 : FG RX3 23 3 3 0 := ⟨by decide, by decide, rfl, Or.inl (inA 71 (by decide +kernel) rfl)⟩
theorem pX3_23 : FP RX3 23 3 3 (.int) false := ⟨by decide, by decide, rfl, rfl, (fun h => by cases h), (inA 71 (by decide +kernel) rfl)⟩
theorem fX3_26 : FG RX3 26 3 4 0 := ⟨by decide, by decide, rfl, Or.inl (inA 72 (by decide +kernel) rfl)⟩
theorem pX3_26 : FP RX3 26 3 4 (.int) false := ⟨by decide, by decide, rfl, rfl, (fun h => by cases h), (inA 72 (by decide +kernel) rfl)⟩
theorem fX3_29 : FG RX3 29 3 5 0 := ⟨by decide, by decide, rfl, Or.inl (inA 73 (by decide +kernel) rfl)⟩
theorem pX3_29 : FP RX3 29 3 5 (.int) false := ⟨by decide, by decide, rfl, rfl, (fun h => by cases h), (inA 73 (by decide +kernel) rfl)⟩
theorem fX5_30 : FG RX5 30 5 0 0 := ⟨by decide, by decide, rfl, Or.inl (inA 102 (by decide +kernel) rfl)⟩
theorem pX5_30 : FP RX5 30 5 0 (.int) false := ⟨by decide, by decide, rfl, rfl, (fun h => by cases h), (inA 102 (by decide +kernel) rfl)⟩
theorem fX5_34 : FG RX5 34 5 1 0 := ⟨by decide, by decide, rfl, Or.inl (inA 103 (by decide +kernel) rfl)⟩
theorem pX5_34 : FP RX5 34 5 1 (.int) false := ⟨by decide, by decide, rfl, rfl, (fun h => by cases h), (inA 103 (by decide +kernel) rfl)⟩
theorem fX5_37 : FG RX5 37 5 2 0 := ⟨by decide, by decide, rfl, Or.inl (inA 104 (by decide +kernel) rfl)⟩
theorem pX5_37 : FP RX5 37 5 2 (.int) false := ⟨by decide, by decide, rfl, rfl, (fun h => by cases h), (inA 104 (by decide +kernel) rfl)⟩
theorem fX4_42 : FG RX4 42 5 2 0 := ⟨by decide, by decide, rfl, Or.inr ⟨"SnowByNumber", (inN 105 (by decide +kernel) rfl)⟩⟩
theorem fX6_144 : FG RX6 144 5 2 0 := ⟨by decide, by decide, rfl, Or.inr ⟨"SnowByNumber", (inN 106 (by decide +kernel) rfl)⟩⟩
theorem fX5_40 : FG RX5 40 5 3 0 := ⟨by decide, by decide, rfl, Or.inl (inA 107 (by decide +kernel) rfl)⟩
theorem pX5_40 : FP RX5 40 5 3 (.int) false := ⟨by decide, by decide, rfl, rfl, (fun h => by cases h), (inA 107 (by decide +kernel) rfl)⟩
theorem fX6_252 : FG RX6 252 5 3 0 := ⟨by decide, by decide, rfl, Or.inr ⟨"SnowByNumber", (inN 108 (by decide +kernel) rfl)⟩⟩
theorem fX5_43 : FG RX5 43 5 4 0 := ⟨by decide, by decide, rfl, Or.inl (inA 109 (by decide +kernel) rfl)⟩
theorem pX5_43 : FP RX5 43 5 4 (.int) false := ⟨by decide, by decide, rfl, rfl, (fun h => by cases h), (inA 109 (by decide +kernel) rfl)⟩
theorem fX6_247 : FG RX6 247 5 4 0 := ⟨by decide, by decide, rfl, Or.inr ⟨"SnowByNumber", (inN 110 (by decide +kernel) rfl)⟩⟩
theorem fX5_46 : FG RX5 46 5 5 0 := ⟨by decide, by decide, rfl, Or.inl (inA 111 (by decide +kernel) rfl)⟩
theorem pX5_46 : FP RX5 46 5 5 (.int) false := ⟨by decide, by decide, rfl, rfl, (fun h => by cases h), (inA 111 (by decide +kernel) rfl)⟩
theorem fX6_87 : FG RX6 87 5 5 0 := ⟨by decide, by decide, rfl, Or.inr ⟨"SnowByNumber", (inN 112 (by decide +kernel) rfl)⟩⟩
theorem fX5_9 : FG RX5 9 5 6 2 := ⟨by decide, by decide, rfl, Or.inl (inA 113 (by decide +kernel) rfl)⟩
theorem pX5_9 : FP RX5 9 5 6 (.array .int) true := ⟨by decide, by decide, rfl, rfl, (fun h => rfl), (inA 113 (by decide +kernel) rfl)⟩
theorem fX1_65 : FG RX1 65 5 6 2 := ⟨by decide, by decide, rfl, Or.inr ⟨"SnowByNumber", (inN 114 (by decide +kernel) rfl)⟩⟩
theorem fX6_93 : FG RX6 93 5 6 2 := ⟨by decide, by decide, rfl, Or.inr ⟨"SnowByNumber", (inN 115 (by decide +kernel) rfl)⟩⟩
theorem fX5_15 : FG RX5 15 5 7 2 := ⟨by decide, by decide, rfl, Or.inl (inA 116 (by decide +kernel) rfl)⟩
theorem pX5_15 : FP RX5 15 5 7 (.array .int) true := ⟨by decide, by decide, rfl, rfl, (fun h => rfl), (inA 116 (by decide +kernel) rfl)⟩
theorem fX6_97 : FG RX6 97 5 7 2 := ⟨by decide, by decide, rfl, Or.inr ⟨"SnowByNumber", (inN 117 (by decide +kernel) rfl)⟩⟩
theorem fX5_18 : FG RX5 18 5 8 2 := ⟨by decide, by decide, rfl, Or.inl (inA 118 (by decide +kernel) rfl)⟩
theorem pX5_18 : FP RX5 18 5 8 (.array .int) true := ⟨by decide, by decide, rfl, rfl, (fun h => rfl), (inA 118 (by decide +kernel) rfl)⟩
theorem fX1_60 : FG RX1 60 5 8 2 := ⟨by decide, by decide, rfl, Or.inr ⟨"SnowByNumber", (inN 119 (by decide +kernel) rfl)⟩⟩
theorem fX0_41 : FG RX0 41 5 8 2 := ⟨by decide, by decide, rfl, Or.inr ⟨"SnowByNumber", (inN 120 (by decide +kernel) rfl)⟩⟩
theorem fX6_100 : FG RX6 100 5 8 2 := ⟨by decide, by decide, rfl, Or.inr ⟨"SnowByNumber", (inN 121 (by decide +kernel) rfl)⟩⟩
theorem fX5_21 : FG RX5 21 5 9 2 := ⟨by decide, by decide, rfl, Or.inl (inA 122 (by decide +kernel) rfl)⟩
theorem pX5_21 : FP RX5 21 5 9 (.array .int) true := ⟨by decide, by decide, rfl, rfl, (fun h => rfl), (inA 122 (by decide +kernel) rfl)⟩
theorem fX6_103 : FG RX6 103 5 9 2 := ⟨by decide, by decide, rfl, Or.inr ⟨"SnowByNumber", (inN 123 (by decide +kernel) rfl)⟩⟩
theorem fX5_24 : FG RX5 24 5 10 2 := ⟨by decide, by decide, rfl, Or.inl (inA 124 (by decide +kernel) rfl)⟩
theorem pX5_24 : FP RX5 24 5 10 (.array .int) true := ⟨by decide, by decide, rfl, rfl, (fun h => rfl), (inA 124 (by decide +kernel) rfl)⟩
theorem fX0_9 : FG RX0 9 0 0 0 := ⟨by decide, by decide, rfl, Or.inl (inA 154 (by decide +kernel) rfl)⟩
theorem pX0_9 : FP RX0 9 0 0 (.int) false := ⟨by decide, by decide, rfl, rfl, (fun h => by cases h), (inA 154 (by decide +kernel) rfl)⟩
theorem fX1_38 : FG RX1 38 0 0 0 := ⟨by decide, by decide, rfl, Or.inr ⟨"SnowByNumber", (inN 155 (by decide +kernel) rfl)⟩⟩
theorem fX2_22 : FG RX2 22 0 0 0 := ⟨by decide, by decide, rfl, Or.inr ⟨"SnowByNumber", (inN 156 (by decide +kernel) rfl)⟩⟩
theorem fX4_33 : FG RX4 33 0 0 0 := ⟨by decide, by decide, rfl, Or.inr ⟨"SnowByNumber", (inN 157 (by decide +kernel) rfl)⟩⟩
theorem fX6_110 : FG RX6 110 0 0 0 := ⟨by decide, by decide, rfl, Or.inr ⟨"SnowByNumber", (inN 158 (by decide +kernel) rfl)⟩⟩
theorem fX0_15 : FG RX0 15 0 1 2 := ⟨by decide, by decide, rfl, Or.inl (inA 159 (by decide +kernel) rfl)⟩
theorem pX0_15 : FP RX0 15 0 1 (.array .int) true := ⟨by decide, by decide, rfl, rfl, (fun h => rfl), (inA 159 (by decide +kernel) rfl)⟩
theorem fX1_57 : FG RX1 57 0 1 2 := ⟨by decide, by decide, rfl, Or.inr ⟨"SnowByNumber", (inN 160 (by decide +kernel) rfl)⟩⟩
theorem fX2_25 : FG RX2 25 0 1 2 := ⟨by decide, by decide, rfl, Or.inr ⟨"SnowByNumber", (inN 161 (by decide +kernel) rfl)⟩⟩
theorem fX4_38 : FG RX4 38 0 1 2 := ⟨by decide, by decide, rfl, Or.inr ⟨"SnowByNumber", (inN 162 (by decide +kernel) rfl)⟩⟩
theorem fX6_131 : FG RX6 131 0 1 2 := ⟨by decide, by decide, rfl, Or.inr ⟨"SnowByNumber", (inN 163 (by decide +kernel) rfl)⟩⟩
theorem fX0_19 : FG RX0 19 0 2 2 := ⟨by decide, by decide, rfl, Or.inl (inA 164 (by decide +kernel) rfl)⟩
theorem pX0_19 : FP RX0 19 0 2 (.array .int) true := ⟨by decide, by decide, rfl, rfl, (fun h => rfl), (inA 164 (by decide +kernel) rfl)⟩
theorem fX2_28 : FG RX2 28 0 2 2 := ⟨by decide, by decide, rfl, Or.inr ⟨"SnowByNumber", (inN 165 (by decide +kernel) rfl)⟩⟩
theorem fX6_134 : FG RX6 134 0 2 2 := ⟨by decide, by decide, rfl, Or.inr ⟨"SnowByNumber", (inN 166 (by decide +kernel) rfl)⟩⟩
theorem fX0_22 : FG RX0 22 0 3 0 := ⟨by decide, by decide, rfl, Or.inl (inA 167 (by decide +kernel) rfl)⟩
theorem pX0_22 : FP RX0 22 0 3 (.int) false := ⟨by decide, by decide, rfl, rfl, (fun h => by cases h), (inA 167 (by decide +kernel) rfl)⟩
theorem fX6_234 : FG RX6 234 0 3 0 := ⟨by decide, by decide, rfl, Or.inr ⟨"SnowByNumber", (inN 168 (by decide +kernel) rfl)⟩⟩
theorem fX0_25 : FG RX0 25 0 4 0 := ⟨by decide, by decide, rfl, Or.inl (inA 169 (by decide +kernel) rfl)⟩
theorem pX0_25 : FP RX0 25 0 4 (.int) false := ⟨by decide, by decide, rfl, rfl, (fun h => by cases h), (inA 169 (by decide +kernel) rfl)⟩
theorem fX6_237 : FG RX6 237 0 4 0 := ⟨by decide, by decide, rfl, Or.inr ⟨"SnowByNumber", (inN 170 (by decide +kernel) rfl)⟩⟩
theorem fX0_28 : FG RX0 28 0 5 2 := ⟨by decide, by decide, rfl, Or.inl (inA 171 (by decide +kernel) rfl)⟩
theorem pX0_28 : FP RX0 28 0 5 (.array .int) true := ⟨by decide, by decide, rfl, rfl, (fun h => rfl), (inA 171 (by decide +kernel) rfl)⟩
theorem fX0_31 : FG RX0 31 0 6 2 := ⟨by decide, by decide, rfl, Or.inl (inA 172 (by decide +kernel) rfl)⟩
theorem pX0_31 : FP RX0 31 0 6 (.array .int) true := ⟨by decide, by decide, rfl, rfl, (fun h => rfl), (inA 172 (by decide +kernel) rfl)⟩
theorem fX0_34 : FG RX0 34 0 7 2 := ⟨by decide, by decide, rfl, Or.inl (inA 173 (by decide +kernel) rfl)⟩
theorem pX0_34 : FP RX0 34 0 7 (.array .int) true := ⟨by decide, by decide, rfl, rfl, (fun h => rfl), (inA 173 (by decide +kernel) rfl)⟩
theorem fX2_9 : FG RX2 9 2 0 2 := ⟨by decide, by decide, rfl, Or.inl (inA 197 (by decide +kernel) rfl)⟩
theorem pX2_9 : FP RX2 9 2 0 (.array .int) true := ⟨by decide, by decide, rfl, rfl, (fun h => rfl), (inA 197 (by decide +kernel) rfl)⟩
theorem fX2_15 : FG RX2 15 2 1 0 := ⟨by decide, by decide, rfl, Or.inl (inA 198 (by decide +kernel) rfl)⟩
theorem pX2_15 : FP RX2 15 2 1 (.int) false := ⟨by decide, by decide, rfl, rfl, (fun h => by cases h), (inA 198 (by decide +kernel) rfl)⟩
theorem fX6_204 : FG RX6 204 2 1 0 := ⟨by decide, by decide, rfl, Or.inr ⟨"SnowByNumber", (inN 199 (by decide +kernel) rfl)⟩⟩
theorem fX2_19 : FG RX2 19 2 2 2 := ⟨by decide, by decide, rfl, Or.inl (inA 200 (by decide +kernel) rfl)⟩
theorem pX2_19 : FP RX2 19 2 2 (.array .int) true := ⟨by decide, by decide, rfl, rfl, (fun h => rfl), (inA 200 (by decide +kernel) rfl)⟩
theorem fX4_11 : FG RX4 11 4 0 2 := ⟨by decide, by decide, rfl, Or.inl (inA 216 (by decide +kernel) rfl)⟩
theorem pX4_11 : FP RX4 11 4 0 (.array (.array .int)) true := ⟨by decide, by decide, rfl, rfl, (fun h => rfl), (inA 216 (by decide +kernel) rfl)⟩
theorem fX4_16 : FG RX4 16 4 1 0 := ⟨by decide, by decide, rfl, Or.inl (inA 217 (by decide +kernel) rfl)⟩
theorem pX4_16 : FP RX4 16 4 1 (.int) false := ⟨by decide, by decide, rfl, rfl, (fun h => by cases h), (inA 217 (by decide +kernel) rfl)⟩
theorem fX6_155 : FG RX6 155 4 1 0 := ⟨by decide, by decide, rfl, Or.inr ⟨"SnowByNumber", (inN 218 (by decide +kernel) rfl)⟩⟩
theorem fX4_20 : FG RX4 20 4 2 0 := ⟨by decide, by decide, rfl, Or.inl (inA 219 (by decide +kernel) rfl)⟩
theorem pX4_20 : FP RX4 20 4 2 (.int) false := ⟨by decide, by decide, rfl, rfl, (fun h => by cases h), (inA 219 (by decide +kernel) rfl)⟩
theorem fX4_23 : FG RX4 23 4 3 0 := ⟨by decide, by decide, rfl, Or.inl (inA 220 (by decide +kernel) rfl)⟩
theorem pX4_23 : FP RX4 23 4 3 (.int) false := ⟨by decide, by decide, rfl, rfl, (fun h => by cases h), (inA 220 (by decide +kernel) rfl)⟩
theorem fX1_9 : FG RX1 9 1 0 2 := ⟨by decide, by decide, rfl, Or.inl (inA 236 (by decide +kernel) rfl)⟩
theorem pX1_9 : FP RX1 9 1 0 (.array .int) true := ⟨by decide, by decide, rfl, rfl, (fun h => rfl), (inA 236 (by decide +kernel) rfl)⟩
theorem fX1_15 : FG RX1 15 1 1 0 := ⟨by decide, by decide, rfl, Or.inl (inA 237 (by decide +kernel) rfl)⟩
theorem pX1_15 : FP RX1 15 1 1 (.int) false := ⟨by decide, by decide, rfl, rfl, (fun h => by cases h), (inA 237 (by decide +kernel) rfl)⟩
theorem fX1_19 : FG RX1 19 1 2 0 := ⟨by decide, by decide, rfl, Or.inl (inA 238 (by decide +kernel) rfl)⟩
theorem pX1_19 : FP RX1 19 1 2 (.int) false := ⟨by decide, by decide, rfl, rfl, (fun h => by cases h), (inA 238 (by decide +kernel) rfl)⟩
theorem fX1_22 : FG RX1 22 1 3 0 := ⟨by decide, by decide, rfl, Or.inl (inA 239 (by decide +kernel) rfl)⟩
theorem pX1_22 : FP RX1 22 1 3 (.int) false := ⟨by decide, by decide, rfl, rfl, (fun h => by cases h), (inA 239 (by decide +kernel) rfl)⟩
theorem fX1_25 : FG RX1 25 1 4 0 := ⟨by decide, by decide, rfl, Or.inl (inA 240 (by decide +kernel) rfl)⟩
theorem pX1_25 : FP RX1 25 1 4 (.int) false := ⟨by decide, by decide, rfl, rfl, (fun h => by cases h), (inA 240 (by decide +kernel) rfl)⟩
theorem fX6_171 : FG RX6 171 1 4 0 := ⟨by decide, by decide, rfl, Or.inr ⟨"SnowByNumber", (inN 241 (by decide +kernel) rfl)⟩⟩
theorem fX1_28 : FG RX1 28 1 5 0 := ⟨by decide, by decide, rfl, Or.inl (inA 242 (by decide +kernel) rfl)⟩
theorem pX1_28 : FP RX1 28 1 5 (.int) false := ⟨by decide, by decide, rfl, rfl, (fun h => by cases h), (inA 242 (by decide +kernel) rfl)⟩
theorem fX6_174 : FG RX6 174 1 5 0 := ⟨by decide, by decide, rfl, Or.inr ⟨"SnowByNumber", (inN 243 (by decide +kernel) rfl)⟩⟩
theorem fX1_31 : FG RX1 31 1 6 0 := ⟨by decide, by decide, rfl, Or.inl (inA 244 (by decide +kernel) rfl)⟩
theorem pX1_31 : FP RX1 31 1 6 (.int) false := ⟨by decide, by decide, rfl, rfl, (fun h => by cases h), (inA 244 (by decide +kernel) rfl)⟩
theorem fX6_177 : FG RX6 177 1 6 0 := ⟨by decide, by decide, rfl, Or.inr ⟨"SnowByNumber", (inN 245 (by decide +kernel) rfl)⟩⟩
theorem fX6_10 : FG RX6 10 6 0 2 := ⟨by decide, by decide, rfl, Or.inl (inA 272 (by decide +kernel) rfl)⟩
theorem pX6_10 : FP RX6 10 6 0 (.object "SnowByNumber$Text") true := ⟨by decide, by decide, rfl, rfl, (fun h => rfl), (inA 272 (by decide +kernel) rfl)⟩
theorem fX6_19 : FG RX6 19 6 1 2 := ⟨by decide, by decide, rfl, Or.inl (inA 273 (by decide +kernel) rfl)⟩
theorem pX6_19 : FP RX6 19 6 1 (.object "SnowByNumber$Told") false := ⟨by decide, by decide, rfl, rfl, (fun h => by cases h), (inA 273 (by decide +kernel) rfl)⟩
theorem fX6_23 : FG RX6 23 6 2 2 := ⟨by decide, by decide, rfl, Or.inl (inA 274 (by decide +kernel) rfl)⟩
theorem pX6_23 : FP RX6 23 6 2 (.object "SnowByNumber$Told") false := ⟨by decide, by decide, rfl, rfl, (fun h => by cases h), (inA 274 (by decide +kernel) rfl)⟩
theorem fX6_29 : FG RX6 29 6 3 2 := ⟨by decide, by decide, rfl, Or.inl (inA 275 (by decide +kernel) rfl)⟩
theorem pX6_29 : FP RX6 29 6 3 (.object "SnowByNumber$Barn") true := ⟨by decide, by decide, rfl, rfl, (fun h => rfl), (inA 275 (by decide +kernel) rfl)⟩
theorem fX6_33 : FG RX6 33 6 4 2 := ⟨by decide, by decide, rfl, Or.inl (inA 276 (by decide +kernel) rfl)⟩
theorem pX6_33 : FP RX6 33 6 4 (.object "SnowByNumber$Barn") true := ⟨by decide, by decide, rfl, rfl, (fun h => rfl), (inA 276 (by decide +kernel) rfl)⟩
theorem fX6_36 : FG RX6 36 6 5 2 := ⟨by decide, by decide, rfl, Or.inl (inA 277 (by decide +kernel) rfl)⟩
theorem pX6_36 : FP RX6 36 6 5 (.object "SnowByNumber$Barn") true := ⟨by decide, by decide, rfl, rfl, (fun h => rfl), (inA 277 (by decide +kernel) rfl)⟩
theorem fX6_39 : FG RX6 39 6 6 0 := ⟨by decide, by decide, rfl, Or.inl (inA 278 (by decide +kernel) rfl)⟩
theorem pX6_39 : FP RX6 39 6 6 (.int) false := ⟨by decide, by decide, rfl, rfl, (fun h => by cases h), (inA 278 (by decide +kernel) rfl)⟩
theorem fX6_46 : FG RX6 46 6 7 2 := ⟨by decide, by decide, rfl, Or.inl (inA 279 (by decide +kernel) rfl)⟩
theorem pX6_46 : FP RX6 46 6 7 (.object "SnowByNumber$Marks") true := ⟨by decide, by decide, rfl, rfl, (fun h => rfl), (inA 279 (by decide +kernel) rfl)⟩
theorem fX6_53 : FG RX6 53 6 8 2 := ⟨by decide, by decide, rfl, Or.inl (inA 280 (by decide +kernel) rfl)⟩
theorem pX6_53 : FP RX6 53 6 8 (.object "SnowByNumber$ThawRow") true := ⟨by decide, by decide, rfl, rfl, (fun h => rfl), (inA 280 (by decide +kernel) rfl)⟩
theorem fX6_60 : FG RX6 60 6 9 2 := ⟨by decide, by decide, rfl, Or.inl (inA 281 (by decide +kernel) rfl)⟩
theorem pX6_60 : FP RX6 60 6 9 (.object "SnowByNumber$Letting") true := ⟨by decide, by decide, rfl, rfl, (fun h => rfl), (inA 281 (by decide +kernel) rfl)⟩
theorem fX7_81 : FG RX7 81 7 0 0 := ⟨by decide, by decide, rfl, Or.inl (inA 645 (by decide +kernel) rfl)⟩
theorem pX7_81 : FP RX7 81 7 0 (.int) false := ⟨by decide, by decide, rfl, rfl, (fun h => by cases h), (inA 645 (by decide +kernel) rfl)⟩
theorem fX7_7 : FG RX7 7 7 1 2 := ⟨by decide, by decide, rfl, Or.inl (inA 646 (by decide +kernel) rfl)⟩
theorem pX7_7 : FP RX7 7 7 1 (.array .byte) true := ⟨by decide, by decide, rfl, rfl, (fun h => rfl), (inA 646 (by decide +kernel) rfl)⟩
theorem fX7_85 : FG RX7 85 7 2 0 := ⟨by decide, by decide, rfl, Or.inl (inA 647 (by decide +kernel) rfl)⟩
theorem pX7_85 : FP RX7 85 7 2 (.int) false := ⟨by decide, by decide, rfl, rfl, (fun h => by cases h), (inA 647 (by decide +kernel) rfl)⟩
theorem fX7_13 : FG RX7 13 7 3 2 := ⟨by decide, by decide, rfl, Or.inl (inA 648 (by decide +kernel) rfl)⟩
theorem pX7_13 : FP RX7 13 7 3 (.array .int) true := ⟨by decide, by decide, rfl, rfl, (fun h => rfl), (inA 648 (by decide +kernel) rfl)⟩
theorem fX7_17 : FG RX7 17 7 4 2 := ⟨by decide, by decide, rfl, Or.inl (inA 649 (by decide +kernel) rfl)⟩
theorem pX7_17 : FP RX7 17 7 4 (.array .int) true := ⟨by decide, by decide, rfl, rfl, (fun h => rfl), (inA 649 (by decide +kernel) rfl)⟩
theorem fX7_20 : FG RX7 20 7 5 2 := ⟨by decide, by decide, rfl, Or.inl (inA 650 (by decide +kernel) rfl)⟩
theorem pX7_20 : FP RX7 20 7 5 (.array .int) true := ⟨by decide, by decide, rfl, rfl, (fun h => rfl), (inA 650 (by decide +kernel) rfl)⟩
theorem fX7_23 : FG RX7 23 7 6 2 := ⟨by decide, by decide, rfl, Or.inl (inA 651 (by decide +kernel) rfl)⟩
theorem pX7_23 : FP RX7 23 7 6 (.array .int) true := ⟨by decide, by decide, rfl, rfl, (fun h => rfl), (inA 651 (by decide +kernel) rfl)⟩
theorem fX7_26 : FG RX7 26 7 7 2 := ⟨by decide, by decide, rfl, Or.inl (inA 652 (by decide +kernel) rfl)⟩
theorem pX7_26 : FP RX7 26 7 7 (.array .int) true := ⟨by decide, by decide, rfl, rfl, (fun h => rfl), (inA 652 (by decide +kernel) rfl)⟩
theorem fX7_29 : FG RX7 29 7 8 2 := ⟨by decide, by decide, rfl, Or.inl (inA 653 (by decide +kernel) rfl)⟩
theorem pX7_29 : FP RX7 29 7 8 (.array .int) true := ⟨by decide, by decide, rfl, rfl, (fun h => rfl), (inA 653 (by decide +kernel) rfl)⟩
theorem fX7_32 : FG RX7 32 7 9 2 := ⟨by decide, by decide, rfl, Or.inl (inA 654 (by decide +kernel) rfl)⟩
theorem pX7_32 : FP RX7 32 7 9 (.array .int) true := ⟨by decide, by decide, rfl, rfl, (fun h => rfl), (inA 654 (by decide +kernel) rfl)⟩
theorem fX7_35 : FG RX7 35 7 10 2 := ⟨by decide, by decide, rfl, Or.inl (inA 655 (by decide +kernel) rfl)⟩
theorem pX7_35 : FP RX7 35 7 10 (.array .long) true := ⟨by decide, by decide, rfl, rfl, (fun h => rfl), (inA 655 (by decide +kernel) rfl)⟩
theorem fX7_39 : FG RX7 39 7 11 2 := ⟨by decide, by decide, rfl, Or.inl (inA 656 (by decide +kernel) rfl)⟩
theorem pX7_39 : FP RX7 39 7 11 (.array .int) true := ⟨by decide, by decide, rfl, rfl, (fun h => rfl), (inA 656 (by decide +kernel) rfl)⟩
theorem fX7_42 : FG RX7 42 7 12 2 := ⟨by decide, by decide, rfl, Or.inl (inA 657 (by decide +kernel) rfl)⟩
theorem pX7_42 : FP RX7 42 7 12 (.array .int) true := ⟨by decide, by decide, rfl, rfl, (fun h => rfl), (inA 657 (by decide +kernel) rfl)⟩
theorem fX7_113 : FG RX7 113 7 13 0 := ⟨by decide, by decide, rfl, Or.inl (inA 658 (by decide +kernel) rfl)⟩
theorem pX7_113 : FP RX7 113 7 13 (.int) false := ⟨by decide, by decide, rfl, rfl, (fun h => by cases h), (inA 658 (by decide +kernel) rfl)⟩
theorem fX7_110 : FG RX7 110 7 14 0 := ⟨by decide, by decide, rfl, Or.inl (inA 659 (by decide +kernel) rfl)⟩
theorem pX7_110 : FP RX7 110 7 14 (.int) false := ⟨by decide, by decide, rfl, rfl, (fun h => by cases h), (inA 659 (by decide +kernel) rfl)⟩
theorem fX7_45 : FG RX7 45 7 15 2 := ⟨by decide, by decide, rfl, Or.inl (inA 660 (by decide +kernel) rfl)⟩
theorem pX7_45 : FP RX7 45 7 15 (.array .int) true := ⟨by decide, by decide, rfl, rfl, (fun h => rfl), (inA 660 (by decide +kernel) rfl)⟩
theorem fX7_48 : FG RX7 48 7 16 2 := ⟨by decide, by decide, rfl, Or.inl (inA 661 (by decide +kernel) rfl)⟩
theorem pX7_48 : FP RX7 48 7 16 (.array .int) true := ⟨by decide, by decide, rfl, rfl, (fun h => rfl), (inA 661 (by decide +kernel) rfl)⟩
theorem fX7_51 : FG RX7 51 7 17 2 := ⟨by decide, by decide, rfl, Or.inl (inA 662 (by decide +kernel) rfl)⟩
theorem pX7_51 : FP RX7 51 7 17 (.array .int) true := ⟨by decide, by decide, rfl, rfl, (fun h => rfl), (inA 662 (by decide +kernel) rfl)⟩
theorem fX7_54 : FG RX7 54 7 18 2 := ⟨by decide, by decide, rfl, Or.inl (inA 663 (by decide +kernel) rfl)⟩
theorem pX7_54 : FP RX7 54 7 18 (.array .int) true := ⟨by decide, by decide, rfl, rfl, (fun h => rfl), (inA 663 (by decide +kernel) rfl)⟩
theorem fX7_57 : FG RX7 57 7 19 2 := ⟨by decide, by decide, rfl, Or.inl (inA 664 (by decide +kernel) rfl)⟩
theorem pX7_57 : FP RX7 57 7 19 (.array .int) true := ⟨by decide, by decide, rfl, rfl, (fun h => rfl), (inA 664 (by decide +kernel) rfl)⟩
theorem fX7_60 : FG RX7 60 7 20 2 := ⟨by decide, by decide, rfl, Or.inl (inA 665 (by decide +kernel) rfl)⟩
theorem pX7_60 : FP RX7 60 7 20 (.array .int) true := ⟨by decide, by decide, rfl, rfl, (fun h => rfl), (inA 665 (by decide +kernel) rfl)⟩
theorem fX7_63 : FG RX7 63 7 21 2 := ⟨by decide, by decide, rfl, Or.inl (inA 666 (by decide +kernel) rfl)⟩
theorem pX7_63 : FP RX7 63 7 21 (.array .int) true := ⟨by decide, by decide, rfl, rfl, (fun h => rfl), (inA 666 (by decide +kernel) rfl)⟩
theorem fX7_172 : FG RX7 172 7 22 1 := ⟨by decide, by decide, rfl, Or.inl (inA 667 (by decide +kernel) rfl)⟩
theorem pX7_172 : FP RX7 172 7 22 (.long) false := ⟨by decide, by decide, rfl, rfl, (fun h => by cases h), (inA 667 (by decide +kernel) rfl)⟩
theorem fX7_176 : FG RX7 176 7 23 1 := ⟨by decide, by decide, rfl, Or.inl (inA 668 (by decide +kernel) rfl)⟩
theorem pX7_176 : FP RX7 176 7 23 (.long) false := ⟨by decide, by decide, rfl, rfl, (fun h => by cases h), (inA 668 (by decide +kernel) rfl)⟩
theorem fX7_66 : FG RX7 66 7 24 2 := ⟨by decide, by decide, rfl, Or.inl (inA 669 (by decide +kernel) rfl)⟩
theorem pX7_66 : FP RX7 66 7 24 (.array .int) true := ⟨by decide, by decide, rfl, rfl, (fun h => rfl), (inA 669 (by decide +kernel) rfl)⟩
theorem nL_7 : Cond.classLink RL 7 (RC 6) ∈ ALLW ∧ Cond.instantiable (RC 6) (nC 6) ∈ ALLW ∧ Cond.initialized (RC 6) ∈ ALLW := ⟨(inA 53 (by decide +kernel) rfl), (inA 54 (by decide +kernel) rfl), (inA 43 (by decide +kernel) rfl)⟩
theorem nX6_7 : Cond.classLink RX6 7 (RC 3) ∈ ALLW ∧ Cond.instantiable (RC 3) (nC 3) ∈ ALLW ∧ Cond.initialized (RC 3) ∈ ALLW := ⟨(inA 61 (by decide +kernel) rfl), (inA 62 (by decide +kernel) rfl), (inA 44 (by decide +kernel) rfl)⟩
theorem a_byte : Cond.arrayClass .byte ∈ ALLW := (inA 87 (by decide +kernel) rfl)
theorem a_int : Cond.arrayClass .int ∈ ALLW := (inA 88 (by decide +kernel) rfl)
theorem nX6_16 : Cond.classLink RX6 16 (RC 5) ∈ ALLW ∧ Cond.instantiable (RC 5) (nC 5) ∈ ALLW ∧ Cond.initialized (RC 5) ∈ ALLW := ⟨(inA 89 (by decide +kernel) rfl), (inA 90 (by decide +kernel) rfl), (inA 45 (by decide +kernel) rfl)⟩
theorem nX6_26 : Cond.classLink RX6 26 (RC 0) ∈ ALLW ∧ Cond.instantiable (RC 0) (nC 0) ∈ ALLW ∧ Cond.initialized (RC 0) ∈ ALLW := ⟨(inA 148 (by decide +kernel) rfl), (inA 149 (by decide +kernel) rfl), (inA 47 (by decide +kernel) rfl)⟩
theorem nX6_43 : Cond.classLink RX6 43 (RC 2) ∈ ALLW ∧ Cond.instantiable (RC 2) (nC 2) ∈ ALLW ∧ Cond.initialized (RC 2) ∈ ALLW := ⟨(inA 191 (by decide +kernel) rfl), (inA 192 (by decide +kernel) rfl), (inA 48 (by decide +kernel) rfl)⟩
theorem nX6_50 : Cond.classLink RX6 50 (RC 4) ∈ ALLW ∧ Cond.instantiable (RC 4) (nC 4) ∈ ALLW ∧ Cond.initialized (RC 4) ∈ ALLW := ⟨(inA 208 (by decide +kernel) rfl), (inA 209 (by decide +kernel) rfl), (inA 49 (by decide +kernel) rfl)⟩
theorem nX6_57 : Cond.classLink RX6 57 (RC 1) ∈ ALLW ∧ Cond.instantiable (RC 1) (nC 1) ∈ ALLW ∧ Cond.initialized (RC 1) ∈ ALLW := ⟨(inA 230 (by decide +kernel) rfl), (inA 231 (by decide +kernel) rfl), (inA 50 (by decide +kernel) rfl)⟩
theorem kX6_243 : Cond.constantLong RX6 243 (7919) ∈ ALLW := (inA 425 (by decide +kernel) rfl)
theorem kX6_245 : Cond.constantLong RX6 245 (6151) ∈ ALLW := (inA 426 (by decide +kernel) rfl)
theorem kX6_250 : Cond.constantLong RX6 250 (65521) ∈ ALLW := (inA 428 (by decide +kernel) rfl)
theorem kX4_32 : Cond.constant RX4 32 (2147483647) ∈ ALLW := (inA 456 (by decide +kernel) rfl)
theorem kX6_218 : Cond.constant RX6 218 (999999) ∈ ALLW := (inA 597 (by decide +kernel) rfl)
theorem kX6_219 : Cond.constantLong RX6 219 (-1) ∈ ALLW := (inA 598 (by decide +kernel) rfl)
theorem kX6_221 : Cond.constantLong RX6 221 (100) ∈ ALLW := (inA 599 (by decide +kernel) rfl)
theorem nL_10 : Cond.classLink RL 10 (RC 7) ∈ ALLW ∧ Cond.instantiable (RC 7) (nC 7) ∈ ALLW ∧ Cond.initialized (RC 7) ∈ ALLW := ⟨(inA 631 (by decide +kernel) rfl), (inA 632 (by decide +kernel) rfl), (inA 51 (by decide +kernel) rfl)⟩
theorem a_long : Cond.arrayClass .long ∈ ALLW := (inA 721 (by decide +kernel) rfl)
theorem kX7_75 : Cond.constantLong RX7 75 (8) ∈ ALLW := (inA 726 (by decide +kernel) rfl)
theorem kX7_88 : Cond.constantLong RX7 88 (48) ∈ ALLW := (inA 749 (by decide +kernel) rfl)
theorem kX7_90 : Cond.constantLong RX7 90 (57) ∈ ALLW := (inA 750 (by decide +kernel) rfl)
theorem kX7_92 : Cond.constantLong RX7 92 (3) ∈ ALLW := (inA 751 (by decide +kernel) rfl)
theorem kX7_129 : Cond.constantLong RX7 129 (4) ∈ ALLW := (inA 769 (by decide +kernel) rfl)
theorem kX7_147 : Cond.constantLong RX7 147 (2) ∈ ALLW := (inA 802 (by decide +kernel) rfl)
theorem kX7_152 : Cond.constantLong RX7 152 (6) ∈ ALLW := (inA 818 (by decide +kernel) rfl)
theorem kX7_154 : Cond.constantLong RX7 154 (-1) ∈ ALLW := (inA 819 (by decide +kernel) rfl)
theorem kX7_159 : Cond.constantLong RX7 159 (200) ∈ ALLW := (inA 828 (by decide +kernel) rfl)
theorem kX7_161 : Cond.constantLong RX7 161 (9) ∈ ALLW := (inA 837 (by decide +kernel) rfl)
theorem kX7_163 : Cond.constantLong RX7 163 (999) ∈ ALLW := (inA 842 (by decide +kernel) rfl)
theorem kX7_127 : Cond.constantLong RX7 127 (99) ∈ ALLW := (inA 843 (by decide +kernel) rfl)
theorem kX7_201 : Cond.constantLong RX7 201 (10) ∈ ALLW := (inA 911 (by decide +kernel) rfl)
theorem kX7_203 : Cond.constantLong RX7 203 (9990) ∈ ALLW := (inA 912 (by decide +kernel) rfl)
theorem kX7_205 : Cond.constantLong RX7 205 (999999) ∈ ALLW := (inA 917 (by decide +kernel) rfl)
theorem kX7_207 : Cond.constantLong RX7 207 (100) ∈ ALLW := (inA 918 (by decide +kernel) rfl)
theorem kX7_215 : Cond.constantLong RX7 215 (9999) ∈ ALLW := (inA 926 (by decide +kernel) rfl)
theorem kX7_209 : Cond.constantLong RX7 209 (7919) ∈ ALLW := (inA 931 (by decide +kernel) rfl)
theorem kX7_211 : Cond.constantLong RX7 211 (6151) ∈ ALLW := (inA 932 (by decide +kernel) rfl)
theorem kX7_213 : Cond.constantLong RX7 213 (65521) ∈ ALLW := (inA 933 (by decide +kernel) rfl)
theorem kL_13 : Cond.constantLong RL 13 (4294967295) ∈ ALLW := (inA 954 (by decide +kernel) rfl)
theorem w_max : Cond.static Lib.Math.max.name ∈ ALLW ∧ Cond.initialized "java/lang/Math" ∈ ALLW ∧ Cond.code Lib.Math.max.name Lib.Math.max.code 2 (some .int) ∈ ALLW := ⟨(inA 411 (by decide +kernel) rfl), (inA 52 (by decide +kernel) rfl), (inA 412 (by decide +kernel) rfl)⟩
theorem w_min : Cond.static Lib.Math.min.name ∈ ALLW ∧ Cond.initialized "java/lang/Math" ∈ ALLW ∧ Cond.code Lib.Math.min.name Lib.Math.min.code 2 (some .int) ∈ ALLW := ⟨(inA 439 (by decide +kernel) rfl), (inA 52 (by decide +kernel) rfl), (inA 440 (by decide +kernel) rfl)⟩
theorem w_abs : Cond.static Lib.Math.abs.name ∈ ALLW ∧ Cond.initialized "java/lang/Math" ∈ ALLW ∧ Cond.code Lib.Math.abs.name Lib.Math.abs.code 1 (some .int) ∈ ALLW := ⟨(inA 587 (by decide +kernel) rfl), (inA 52 (by decide +kernel) rfl), (inA 588 (by decide +kernel) rfl)⟩
theorem w_obj : Cond.instanceMethod objectInit ∈ ALLW ∧ Cond.code objectInit ⟨#[0xb1]⟩ 1 none ∈ ALLW := ⟨(inA 59 (by decide +kernel) rfl), (inA 60 (by decide +kernel) rfl)⟩
end
section
theorem dX0_init_0 : decode cX0_init 0 = .ok (.aload_n 0, 1) := by decide +kernel
theorem dX0_init_1 : decode cX0_init 1 = .ok (.invokespecial 3, 3) := by decide +kernel
theorem dX0_init_4 : decode cX0_init 4 = .ok (.aload_n 0, 1) := by decide +kernel
theorem dX0_init_5 : decode cX0_init 5 = .ok (.iconst 0, 1) := by decide +kernel
theorem dX0_init_6 : decode cX0_init 6 = .ok (.putfield 9, 3) := by decide +kernel
theorem dX0_init_9 : decode cX0_init 9 = .ok (.aload_n 0, 1) := by decide +kernel
theorem dX0_init_10 : decode cX0_init 10 = .ok (.bipush 12, 2) := by decide +kernel
theorem dX0_init_12 : decode cX0_init 12 = .ok (.newarray .int, 2) := by decide +kernel
theorem dX0_init_14 : decode cX0_init 14 = .ok (.putfield 15, 3) := by decide +kernel
theorem dX0_init_17 : decode cX0_init 17 = .ok (.aload_n 0, 1) := by decide +kernel
theorem dX0_init_18 : decode cX0_init 18 = .ok (.bipush 12, 2) := by decide +kernel
theorem dX0_init_20 : decode cX0_init 20 = .ok (.newarray .int, 2) := by decide +kernel
theorem dX0_init_22 : decode cX0_init 22 = .ok (.putfield 19, 3) := by decide +kernel
theorem dX0_init_25 : decode cX0_init 25 = .ok (.aload_n 0, 1) := by decide +kernel
theorem dX0_init_26 : decode cX0_init 26 = .ok (.iconst 0, 1) := by decide +kernel
theorem dX0_init_27 : decode cX0_init 27 = .ok (.putfield 22, 3) := by decide +kernel
theorem dX0_init_30 : decode cX0_init 30 = .ok (.aload_n 0, 1) := by decide +kernel
theorem dX0_init_31 : decode cX0_init 31 = .ok (.iconst 0, 1) := by decide +kernel
theorem dX0_init_32 : decode cX0_init 32 = .ok (.putfield 25, 3) := by decide +kernel
theorem dX0_init_35 : decode cX0_init 35 = .ok (.aload_n 0, 1) := by decide +kernel
theorem dX0_init_36 : decode cX0_init 36 = .ok (.bipush 8, 2) := by decide +kernel
theorem dX0_init_38 : decode cX0_init 38 = .ok (.newarray .int, 2) := by decide +kernel
theorem dX0_init_40 : decode cX0_init 40 = .ok (.putfield 28, 3) := by decide +kernel
theorem dX0_init_43 : decode cX0_init 43 = .ok (.aload_n 0, 1) := by decide +kernel
theorem dX0_init_44 : decode cX0_init 44 = .ok (.bipush 8, 2) := by decide +kernel
theorem dX0_init_46 : decode cX0_init 46 = .ok (.newarray .int, 2) := by decide +kernel
theorem dX0_init_48 : decode cX0_init 48 = .ok (.putfield 31, 3) := by decide +kernel
theorem dX0_init_51 : decode cX0_init 51 = .ok (.aload_n 0, 1) := by decide +kernel
theorem dX0_init_52 : decode cX0_init 52 = .ok (.bipush 8, 2) := by decide +kernel
theorem dX0_init_54 : decode cX0_init 54 = .ok (.newarray .int, 2) := by decide +kernel
theorem dX0_init_56 : decode cX0_init 56 = .ok (.putfield 34, 3) := by decide +kernel
theorem dX0_init_59 : decode cX0_init 59 = .ok (.return_, 1) := by decide +kernel
theorem dX0_clear_0 : decode cX0_clear 0 = .ok (.aload_n 0, 1) := by decide +kernel
theorem dX0_clear_1 : decode cX0_clear 1 = .ok (.iconst 0, 1) := by decide +kernel
theorem dX0_clear_2 : decode cX0_clear 2 = .ok (.putfield 9, 3) := by decide +kernel
theorem dX0_clear_5 : decode cX0_clear 5 = .ok (.aload_n 0, 1) := by decide +kernel
theorem dX0_clear_6 : decode cX0_clear 6 = .ok (.iconst 0, 1) := by decide +kernel
theorem dX0_clear_7 : decode cX0_clear 7 = .ok (.putfield 22, 3) := by decide +kernel
theorem dX0_clear_10 : decode cX0_clear 10 = .ok (.aload_n 0, 1) := by decide +kernel
theorem dX0_clear_11 : decode cX0_clear 11 = .ok (.iconst 0, 1) := by decide +kernel
theorem dX0_clear_12 : decode cX0_clear 12 = .ok (.putfield 25, 3) := by decide +kernel
theorem dX0_clear_15 : decode cX0_clear 15 = .ok (.return_, 1) := by decide +kernel
theorem dX0_copyFrom_0 : decode cX0_copyFrom 0 = .ok (.aload_n 0, 1) := by decide +kernel
theorem dX0_copyFrom_1 : decode cX0_copyFrom 1 = .ok (.aload_n 1, 1) := by decide +kernel
theorem dX0_copyFrom_2 : decode cX0_copyFrom 2 = .ok (.getfield 9, 3) := by decide +kernel
theorem dX0_copyFrom_5 : decode cX0_copyFrom 5 = .ok (.putfield 9, 3) := by decide +kernel
theorem dX0_copyFrom_8 : decode cX0_copyFrom 8 = .ok (.aload_n 0, 1) := by decide +kernel
theorem dX0_copyFrom_9 : decode cX0_copyFrom 9 = .ok (.aload_n 1, 1) := by decide +kernel
theorem dX0_copyFrom_10 : decode cX0_copyFrom 10 = .ok (.getfield 22, 3) := by decide +kernel
theorem dX0_copyFrom_13 : decode cX0_copyFrom 13 = .ok (.putfield 22, 3) := by decide +kernel
theorem dX0_copyFrom_16 : decode cX0_copyFrom 16 = .ok (.aload_n 0, 1) := by decide +kernel
theorem dX0_copyFrom_17 : decode cX0_copyFrom 17 = .ok (.aload_n 1, 1) := by decide +kernel
theorem dX0_copyFrom_18 : decode cX0_copyFrom 18 = .ok (.getfield 25, 3) := by decide +kernel
theorem dX0_copyFrom_21 : decode cX0_copyFrom 21 = .ok (.putfield 25, 3) := by decide +kernel
theorem dX0_copyFrom_24 : decode cX0_copyFrom 24 = .ok (.iconst 0, 1) := by decide +kernel
theorem dX0_copyFrom_25 : decode cX0_copyFrom 25 = .ok (.istore_n 2, 1) := by decide +kernel
theorem dX0_copyFrom_26 : decode cX0_copyFrom 26 = .ok (.iload_n 2, 1) := by decide +kernel
theorem dX0_copyFrom_27 : decode cX0_copyFrom 27 = .ok (.bipush 12, 2) := by decide +kernel
theorem dX0_copyFrom_29 : decode cX0_copyFrom 29 = .ok (.if_icmp .ge 33, 3) := by decide +kernel
theorem dX0_copyFrom_32 : decode cX0_copyFrom 32 = .ok (.aload_n 0, 1) := by decide +kernel
theorem dX0_copyFrom_33 : decode cX0_copyFrom 33 = .ok (.getfield 15, 3) := by decide +kernel
theorem dX0_copyFrom_36 : decode cX0_copyFrom 36 = .ok (.iload_n 2, 1) := by decide +kernel
theorem dX0_copyFrom_37 : decode cX0_copyFrom 37 = .ok (.aload_n 1, 1) := by decide +kernel
theorem dX0_copyFrom_38 : decode cX0_copyFrom 38 = .ok (.getfield 15, 3) := by decide +kernel
theorem dX0_copyFrom_41 : decode cX0_copyFrom 41 = .ok (.iload_n 2, 1) := by decide +kernel
theorem dX0_copyFrom_42 : decode cX0_copyFrom 42 = .ok (.iaload, 1) := by decide +kernel
theorem dX0_copyFrom_43 : decode cX0_copyFrom 43 = .ok (.iastore, 1) := by decide +kernel
theorem dX0_copyFrom_44 : decode cX0_copyFrom 44 = .ok (.aload_n 0, 1) := by decide +kernel
theorem dX0_copyFrom_45 : decode cX0_copyFrom 45 = .ok (.getfield 19, 3) := by decide +kernel
theorem dX0_copyFrom_48 : decode cX0_copyFrom 48 = .ok (.iload_n 2, 1) := by decide +kernel
theorem dX0_copyFrom_49 : decode cX0_copyFrom 49 = .ok (.aload_n 1, 1) := by decide +kernel
theorem dX0_copyFrom_50 : decode cX0_copyFrom 50 = .ok (.getfield 19, 3) := by decide +kernel
theorem dX0_copyFrom_53 : decode cX0_copyFrom 53 = .ok (.iload_n 2, 1) := by decide +kernel
theorem dX0_copyFrom_54 : decode cX0_copyFrom 54 = .ok (.iaload, 1) := by decide +kernel
theorem dX0_copyFrom_55 : decode cX0_copyFrom 55 = .ok (.iastore, 1) := by decide +kernel
theorem dX0_copyFrom_56 : decode cX0_copyFrom 56 = .ok (.iinc 2 1, 3) := by decide +kernel
theorem dX0_copyFrom_59 : decode cX0_copyFrom 59 = .ok (.goto (-33), 3) := by decide +kernel
theorem dX0_copyFrom_62 : decode cX0_copyFrom 62 = .ok (.iconst 0, 1) := by decide +kernel
theorem dX0_copyFrom_63 : decode cX0_copyFrom 63 = .ok (.istore_n 2, 1) := by decide +kernel
theorem dX0_copyFrom_64 : decode cX0_copyFrom 64 = .ok (.iload_n 2, 1) := by decide +kernel
theorem dX0_copyFrom_65 : decode cX0_copyFrom 65 = .ok (.bipush 8, 2) := by decide +kernel
theorem dX0_copyFrom_67 : decode cX0_copyFrom 67 = .ok (.if_icmp .ge 45, 3) := by decide +kernel
theorem dX0_copyFrom_70 : decode cX0_copyFrom 70 = .ok (.aload_n 0, 1) := by decide +kernel
theorem dX0_copyFrom_71 : decode cX0_copyFrom 71 = .ok (.getfield 28, 3) := by decide +kernel
theorem dX0_copyFrom_74 : decode cX0_copyFrom 74 = .ok (.iload_n 2, 1) := by decide +kernel
theorem dX0_copyFrom_75 : decode cX0_copyFrom 75 = .ok (.aload_n 1, 1) := by decide +kernel
theorem dX0_copyFrom_76 : decode cX0_copyFrom 76 = .ok (.getfield 28, 3) := by decide +kernel
theorem dX0_copyFrom_79 : decode cX0_copyFrom 79 = .ok (.iload_n 2, 1) := by decide +kernel
theorem dX0_copyFrom_80 : decode cX0_copyFrom 80 = .ok (.iaload, 1) := by decide +kernel
theorem dX0_copyFrom_81 : decode cX0_copyFrom 81 = .ok (.iastore, 1) := by decide +kernel
theorem dX0_copyFrom_82 : decode cX0_copyFrom 82 = .ok (.aload_n 0, 1) := by decide +kernel
theorem dX0_copyFrom_83 : decode cX0_copyFrom 83 = .ok (.getfield 31, 3) := by decide +kernel
theorem dX0_copyFrom_86 : decode cX0_copyFrom 86 = .ok (.iload_n 2, 1) := by decide +kernel
theorem dX0_copyFrom_87 : decode cX0_copyFrom 87 = .ok (.aload_n 1, 1) := by decide +kernel
theorem dX0_copyFrom_88 : decode cX0_copyFrom 88 = .ok (.getfield 31, 3) := by decide +kernel
theorem dX0_copyFrom_91 : decode cX0_copyFrom 91 = .ok (.iload_n 2, 1) := by decide +kernel
theorem dX0_copyFrom_92 : decode cX0_copyFrom 92 = .ok (.iaload, 1) := by decide +kernel
theorem dX0_copyFrom_93 : decode cX0_copyFrom 93 = .ok (.iastore, 1) := by decide +kernel
theorem dX0_copyFrom_94 : decode cX0_copyFrom 94 = .ok (.aload_n 0, 1) := by decide +kernel
theorem dX0_copyFrom_95 : decode cX0_copyFrom 95 = .ok (.getfield 34, 3) := by decide +kernel
theorem dX0_copyFrom_98 : decode cX0_copyFrom 98 = .ok (.iload_n 2, 1) := by decide +kernel
theorem dX0_copyFrom_99 : decode cX0_copyFrom 99 = .ok (.aload_n 1, 1) := by decide +kernel
theorem dX0_copyFrom_100 : decode cX0_copyFrom 100 = .ok (.getfield 34, 3) := by decide +kernel
theorem dX0_copyFrom_103 : decode cX0_copyFrom 103 = .ok (.iload_n 2, 1) := by decide +kernel
theorem dX0_copyFrom_104 : decode cX0_copyFrom 104 = .ok (.iaload, 1) := by decide +kernel
theorem dX0_copyFrom_105 : decode cX0_copyFrom 105 = .ok (.iastore, 1) := by decide +kernel
theorem dX0_copyFrom_106 : decode cX0_copyFrom 106 = .ok (.iinc 2 1, 3) := by decide +kernel
theorem dX0_copyFrom_109 : decode cX0_copyFrom 109 = .ok (.goto (-45), 3) := by decide +kernel
theorem dX0_copyFrom_112 : decode cX0_copyFrom 112 = .ok (.return_, 1) := by decide +kernel
theorem dX0_has_0 : decode cX0_has 0 = .ok (.iload_n 1, 1) := by decide +kernel
theorem dX0_has_1 : decode cX0_has 1 = .ok (.iconst 0, 1) := by decide +kernel
theorem dX0_has_2 : decode cX0_has 2 = .ok (.aload_n 0, 1) := by decide +kernel
theorem dX0_has_3 : decode cX0_has 3 = .ok (.getfield 9, 3) := by decide +kernel
theorem dX0_has_6 : decode cX0_has 6 = .ok (.iconst 1, 1) := by decide +kernel
theorem dX0_has_7 : decode cX0_has 7 = .ok (.isub, 1) := by decide +kernel
theorem dX0_has_8 : decode cX0_has 8 = .ok (.invokestatic 37, 3) := by decide +kernel
theorem dX0_has_11 : decode cX0_has 11 = .ok (.ireturn, 1) := by decide +kernel
theorem dX0_high_0 : decode cX0_high 0 = .ok (.iconst 0, 1) := by decide +kernel
theorem dX0_high_1 : decode cX0_high 1 = .ok (.istore_n 1, 1) := by decide +kernel
theorem dX0_high_2 : decode cX0_high 2 = .ok (.iconst 0, 1) := by decide +kernel
theorem dX0_high_3 : decode cX0_high 3 = .ok (.istore_n 2, 1) := by decide +kernel
theorem dX0_high_4 : decode cX0_high 4 = .ok (.iload_n 2, 1) := by decide +kernel
theorem dX0_high_5 : decode cX0_high 5 = .ok (.aload_n 0, 1) := by decide +kernel
theorem dX0_high_6 : decode cX0_high 6 = .ok (.getfield 9, 3) := by decide +kernel
theorem dX0_high_9 : decode cX0_high 9 = .ok (.if_icmp .ge 18, 3) := by decide +kernel
theorem dX0_high_12 : decode cX0_high 12 = .ok (.iload_n 1, 1) := by decide +kernel
theorem dX0_high_13 : decode cX0_high 13 = .ok (.aload_n 0, 1) := by decide +kernel
theorem dX0_high_14 : decode cX0_high 14 = .ok (.getfield 15, 3) := by decide +kernel
theorem dX0_high_17 : decode cX0_high 17 = .ok (.iload_n 2, 1) := by decide +kernel
theorem dX0_high_18 : decode cX0_high 18 = .ok (.iaload, 1) := by decide +kernel
theorem dX0_high_19 : decode cX0_high 19 = .ok (.iadd, 1) := by decide +kernel
theorem dX0_high_20 : decode cX0_high 20 = .ok (.istore_n 1, 1) := by decide +kernel
theorem dX0_high_21 : decode cX0_high 21 = .ok (.iinc 2 1, 3) := by decide +kernel
theorem dX0_high_24 : decode cX0_high 24 = .ok (.goto (-20), 3) := by decide +kernel
theorem dX0_high_27 : decode cX0_high 27 = .ok (.iload_n 1, 1) := by decide +kernel
theorem dX0_high_28 : decode cX0_high 28 = .ok (.ireturn, 1) := by decide +kernel
theorem dX0_load_0 : decode cX0_load 0 = .ok (.iconst 0, 1) := by decide +kernel
theorem dX0_load_1 : decode cX0_load 1 = .ok (.istore_n 2, 1) := by decide +kernel
theorem dX0_load_2 : decode cX0_load 2 = .ok (.iconst 0, 1) := by decide +kernel
theorem dX0_load_3 : decode cX0_load 3 = .ok (.istore_n 3, 1) := by decide +kernel
theorem dX0_load_4 : decode cX0_load 4 = .ok (.iload_n 3, 1) := by decide +kernel
theorem dX0_load_5 : decode cX0_load 5 = .ok (.aload_n 0, 1) := by decide +kernel
theorem dX0_load_6 : decode cX0_load 6 = .ok (.getfield 9, 3) := by decide +kernel
theorem dX0_load_9 : decode cX0_load 9 = .ok (.if_icmp .ge 25, 3) := by decide +kernel
theorem dX0_load_12 : decode cX0_load 12 = .ok (.iload_n 2, 1) := by decide +kernel
theorem dX0_load_13 : decode cX0_load 13 = .ok (.aload_n 0, 1) := by decide +kernel
theorem dX0_load_14 : decode cX0_load 14 = .ok (.getfield 15, 3) := by decide +kernel
theorem dX0_load_17 : decode cX0_load 17 = .ok (.iload_n 3, 1) := by decide +kernel
theorem dX0_load_18 : decode cX0_load 18 = .ok (.iaload, 1) := by decide +kernel
theorem dX0_load_19 : decode cX0_load 19 = .ok (.aload_n 1, 1) := by decide +kernel
theorem dX0_load_20 : decode cX0_load 20 = .ok (.getfield 41, 3) := by decide +kernel
theorem dX0_load_23 : decode cX0_load 23 = .ok (.iload_n 3, 1) := by decide +kernel
theorem dX0_load_24 : decode cX0_load 24 = .ok (.iaload, 1) := by decide +kernel
theorem dX0_load_25 : decode cX0_load 25 = .ok (.imul, 1) := by decide +kernel
theorem dX0_load_26 : decode cX0_load 26 = .ok (.iadd, 1) := by decide +kernel
theorem dX0_load_27 : decode cX0_load 27 = .ok (.istore_n 2, 1) := by decide +kernel
theorem dX0_load_28 : decode cX0_load 28 = .ok (.iinc 3 1, 3) := by decide +kernel
theorem dX0_load_31 : decode cX0_load 31 = .ok (.goto (-27), 3) := by decide +kernel
theorem dX0_load_34 : decode cX0_load 34 = .ok (.iload_n 2, 1) := by decide +kernel
theorem dX0_load_35 : decode cX0_load 35 = .ok (.ireturn, 1) := by decide +kernel
theorem dX0_comeIn_0 : decode cX0_comeIn 0 = .ok (.aload_n 0, 1) := by decide +kernel
theorem dX0_comeIn_1 : decode cX0_comeIn 1 = .ok (.getfield 9, 3) := by decide +kernel
theorem dX0_comeIn_4 : decode cX0_comeIn 4 = .ok (.bipush 12, 2) := by decide +kernel
theorem dX0_comeIn_6 : decode cX0_comeIn 6 = .ok (.if_icmp .ge 33, 3) := by decide +kernel
theorem dX0_comeIn_9 : decode cX0_comeIn 9 = .ok (.aload_n 0, 1) := by decide +kernel
theorem dX0_comeIn_10 : decode cX0_comeIn 10 = .ok (.getfield 15, 3) := by decide +kernel
theorem dX0_comeIn_13 : decode cX0_comeIn 13 = .ok (.aload_n 0, 1) := by decide +kernel
theorem dX0_comeIn_14 : decode cX0_comeIn 14 = .ok (.getfield 9, 3) := by decide +kernel
theorem dX0_comeIn_17 : decode cX0_comeIn 17 = .ok (.iload_n 1, 1) := by decide +kernel
theorem dX0_comeIn_18 : decode cX0_comeIn 18 = .ok (.iastore, 1) := by decide +kernel
theorem dX0_comeIn_19 : decode cX0_comeIn 19 = .ok (.aload_n 0, 1) := by decide +kernel
theorem dX0_comeIn_20 : decode cX0_comeIn 20 = .ok (.getfield 19, 3) := by decide +kernel
theorem dX0_comeIn_23 : decode cX0_comeIn 23 = .ok (.aload_n 0, 1) := by decide +kernel
theorem dX0_comeIn_24 : decode cX0_comeIn 24 = .ok (.getfield 9, 3) := by decide +kernel
theorem dX0_comeIn_27 : decode cX0_comeIn 27 = .ok (.iload_n 2, 1) := by decide +kernel
theorem dX0_comeIn_28 : decode cX0_comeIn 28 = .ok (.iastore, 1) := by decide +kernel
theorem dX0_comeIn_29 : decode cX0_comeIn 29 = .ok (.aload_n 0, 1) := by decide +kernel
theorem dX0_comeIn_30 : decode cX0_comeIn 30 = .ok (.dup, 1) := by decide +kernel
theorem dX0_comeIn_31 : decode cX0_comeIn 31 = .ok (.getfield 9, 3) := by decide +kernel
theorem dX0_comeIn_34 : decode cX0_comeIn 34 = .ok (.iconst 1, 1) := by decide +kernel
theorem dX0_comeIn_35 : decode cX0_comeIn 35 = .ok (.iadd, 1) := by decide +kernel
theorem dX0_comeIn_36 : decode cX0_comeIn 36 = .ok (.putfield 9, 3) := by decide +kernel
theorem dX0_comeIn_39 : decode cX0_comeIn 39 = .ok (.return_, 1) := by decide +kernel
theorem dX0_doorOf_0 : decode cX0_doorOf 0 = .ok (.iconst 3, 1) := by decide +kernel
theorem dX0_doorOf_1 : decode cX0_doorOf 1 = .ok (.iload_n 1, 1) := by decide +kernel
theorem dX0_doorOf_2 : decode cX0_doorOf 2 = .ok (.imul, 1) := by decide +kernel
theorem dX0_doorOf_3 : decode cX0_doorOf 3 = .ok (.iconst 1, 1) := by decide +kernel
theorem dX0_doorOf_4 : decode cX0_doorOf 4 = .ok (.aload_n 0, 1) := by decide +kernel
theorem dX0_doorOf_5 : decode cX0_doorOf 5 = .ok (.getfield 9, 3) := by decide +kernel
theorem dX0_doorOf_8 : decode cX0_doorOf 8 = .ok (.invokestatic 46, 3) := by decide +kernel
theorem dX0_doorOf_11 : decode cX0_doorOf 11 = .ok (.idiv, 1) := by decide +kernel
theorem dX0_doorOf_12 : decode cX0_doorOf 12 = .ok (.ireturn, 1) := by decide +kernel
theorem dX0_melt_0 : decode cX0_melt 0 = .ok (.iconst 0, 1) := by decide +kernel
theorem dX0_melt_1 : decode cX0_melt 1 = .ok (.istore_n 3, 1) := by decide +kernel
theorem dX0_melt_2 : decode cX0_melt 2 = .ok (.iconst 0, 1) := by decide +kernel
theorem dX0_melt_3 : decode cX0_melt 3 = .ok (.istore 4, 2) := by decide +kernel
theorem dX0_melt_5 : decode cX0_melt 5 = .ok (.iload 4, 2) := by decide +kernel
theorem dX0_melt_7 : decode cX0_melt 7 = .ok (.aload_n 0, 1) := by decide +kernel
theorem dX0_melt_8 : decode cX0_melt 8 = .ok (.getfield 9, 3) := by decide +kernel
theorem dX0_melt_11 : decode cX0_melt 11 = .ok (.if_icmp .ge 49, 3) := by decide +kernel
theorem dX0_melt_14 : decode cX0_melt 14 = .ok (.aload_n 0, 1) := by decide +kernel
theorem dX0_melt_15 : decode cX0_melt 15 = .ok (.iload 4, 2) := by decide +kernel
theorem dX0_melt_17 : decode cX0_melt 17 = .ok (.invokevirtual 52, 3) := by decide +kernel
theorem dX0_melt_20 : decode cX0_melt 20 = .ok (.iload_n 1, 1) := by decide +kernel
theorem dX0_melt_21 : decode cX0_melt 21 = .ok (.if_icmp .ne 33, 3) := by decide +kernel
theorem dX0_melt_24 : decode cX0_melt 24 = .ok (.aload_n 0, 1) := by decide +kernel
theorem dX0_melt_25 : decode cX0_melt 25 = .ok (.getfield 15, 3) := by decide +kernel
theorem dX0_melt_28 : decode cX0_melt 28 = .ok (.iload 4, 2) := by decide +kernel
theorem dX0_melt_30 : decode cX0_melt 30 = .ok (.iaload, 1) := by decide +kernel
theorem dX0_melt_31 : decode cX0_melt 31 = .ok (.iload_n 2, 1) := by decide +kernel
theorem dX0_melt_32 : decode cX0_melt 32 = .ok (.invokestatic 56, 3) := by decide +kernel
theorem dX0_melt_35 : decode cX0_melt 35 = .ok (.istore 5, 2) := by decide +kernel
theorem dX0_melt_37 : decode cX0_melt 37 = .ok (.aload_n 0, 1) := by decide +kernel
theorem dX0_melt_38 : decode cX0_melt 38 = .ok (.getfield 15, 3) := by decide +kernel
theorem dX0_melt_41 : decode cX0_melt 41 = .ok (.iload 4, 2) := by decide +kernel
theorem dX0_melt_43 : decode cX0_melt 43 = .ok (.dup2, 1) := by decide +kernel
theorem dX0_melt_44 : decode cX0_melt 44 = .ok (.iaload, 1) := by decide +kernel
theorem dX0_melt_45 : decode cX0_melt 45 = .ok (.iload 5, 2) := by decide +kernel
theorem dX0_melt_47 : decode cX0_melt 47 = .ok (.isub, 1) := by decide +kernel
theorem dX0_melt_48 : decode cX0_melt 48 = .ok (.iastore, 1) := by decide +kernel
theorem dX0_melt_49 : decode cX0_melt 49 = .ok (.iload_n 3, 1) := by decide +kernel
theorem dX0_melt_50 : decode cX0_melt 50 = .ok (.iload 5, 2) := by decide +kernel
theorem dX0_melt_52 : decode cX0_melt 52 = .ok (.iadd, 1) := by decide +kernel
theorem dX0_melt_53 : decode cX0_melt 53 = .ok (.istore_n 3, 1) := by decide +kernel
theorem dX0_melt_54 : decode cX0_melt 54 = .ok (.iinc 4 1, 3) := by decide +kernel
theorem dX0_melt_57 : decode cX0_melt 57 = .ok (.goto (-52), 3) := by decide +kernel
theorem dX0_melt_60 : decode cX0_melt 60 = .ok (.iload_n 3, 1) := by decide +kernel
theorem dX0_melt_61 : decode cX0_melt 61 = .ok (.ireturn, 1) := by decide +kernel
theorem dX0_addSale_0 : decode cX0_addSale 0 = .ok (.aload_n 0, 1) := by decide +kernel
theorem dX0_addSale_1 : decode cX0_addSale 1 = .ok (.getfield 25, 3) := by decide +kernel
theorem dX0_addSale_4 : decode cX0_addSale 4 = .ok (.bipush 8, 2) := by decide +kernel
theorem dX0_addSale_6 : decode cX0_addSale 6 = .ok (.if_icmp .lt 7, 3) := by decide +kernel
theorem dX0_addSale_9 : decode cX0_addSale 9 = .ok (.aload_n 0, 1) := by decide +kernel
theorem dX0_addSale_10 : decode cX0_addSale 10 = .ok (.invokevirtual 59, 3) := by decide +kernel
theorem dX0_addSale_13 : decode cX0_addSale 13 = .ok (.aload_n 0, 1) := by decide +kernel
theorem dX0_addSale_14 : decode cX0_addSale 14 = .ok (.getfield 15, 3) := by decide +kernel
theorem dX0_addSale_17 : decode cX0_addSale 17 = .ok (.iload_n 1, 1) := by decide +kernel
theorem dX0_addSale_18 : decode cX0_addSale 18 = .ok (.dup2, 1) := by decide +kernel
theorem dX0_addSale_19 : decode cX0_addSale 19 = .ok (.iaload, 1) := by decide +kernel
theorem dX0_addSale_20 : decode cX0_addSale 20 = .ok (.iload_n 2, 1) := by decide +kernel
theorem dX0_addSale_21 : decode cX0_addSale 21 = .ok (.isub, 1) := by decide +kernel
theorem dX0_addSale_22 : decode cX0_addSale 22 = .ok (.iastore, 1) := by decide +kernel
theorem dX0_addSale_23 : decode cX0_addSale 23 = .ok (.aload_n 0, 1) := by decide +kernel
theorem dX0_addSale_24 : decode cX0_addSale 24 = .ok (.dup, 1) := by decide +kernel
theorem dX0_addSale_25 : decode cX0_addSale 25 = .ok (.getfield 22, 3) := by decide +kernel
theorem dX0_addSale_28 : decode cX0_addSale 28 = .ok (.iload_n 3, 1) := by decide +kernel
theorem dX0_addSale_29 : decode cX0_addSale 29 = .ok (.iadd, 1) := by decide +kernel
theorem dX0_addSale_30 : decode cX0_addSale 30 = .ok (.putfield 22, 3) := by decide +kernel
theorem dX0_addSale_33 : decode cX0_addSale 33 = .ok (.aload_n 0, 1) := by decide +kernel
theorem dX0_addSale_34 : decode cX0_addSale 34 = .ok (.getfield 28, 3) := by decide +kernel
theorem dX0_addSale_37 : decode cX0_addSale 37 = .ok (.aload_n 0, 1) := by decide +kernel
theorem dX0_addSale_38 : decode cX0_addSale 38 = .ok (.getfield 25, 3) := by decide +kernel
theorem dX0_addSale_41 : decode cX0_addSale 41 = .ok (.iload_n 1, 1) := by decide +kernel
theorem dX0_addSale_42 : decode cX0_addSale 42 = .ok (.iastore, 1) := by decide +kernel
theorem dX0_addSale_43 : decode cX0_addSale 43 = .ok (.aload_n 0, 1) := by decide +kernel
theorem dX0_addSale_44 : decode cX0_addSale 44 = .ok (.getfield 31, 3) := by decide +kernel
theorem dX0_addSale_47 : decode cX0_addSale 47 = .ok (.aload_n 0, 1) := by decide +kernel
theorem dX0_addSale_48 : decode cX0_addSale 48 = .ok (.getfield 25, 3) := by decide +kernel
theorem dX0_addSale_51 : decode cX0_addSale 51 = .ok (.iload_n 2, 1) := by decide +kernel
theorem dX0_addSale_52 : decode cX0_addSale 52 = .ok (.iastore, 1) := by decide +kernel
theorem dX0_addSale_53 : decode cX0_addSale 53 = .ok (.aload_n 0, 1) := by decide +kernel
theorem dX0_addSale_54 : decode cX0_addSale 54 = .ok (.getfield 34, 3) := by decide +kernel
theorem dX0_addSale_57 : decode cX0_addSale 57 = .ok (.aload_n 0, 1) := by decide +kernel
theorem dX0_addSale_58 : decode cX0_addSale 58 = .ok (.getfield 25, 3) := by decide +kernel
theorem dX0_addSale_61 : decode cX0_addSale 61 = .ok (.iload_n 3, 1) := by decide +kernel
theorem dX0_addSale_62 : decode cX0_addSale 62 = .ok (.iastore, 1) := by decide +kernel
theorem dX0_addSale_63 : decode cX0_addSale 63 = .ok (.aload_n 0, 1) := by decide +kernel
theorem dX0_addSale_64 : decode cX0_addSale 64 = .ok (.dup, 1) := by decide +kernel
theorem dX0_addSale_65 : decode cX0_addSale 65 = .ok (.getfield 25, 3) := by decide +kernel
theorem dX0_addSale_68 : decode cX0_addSale 68 = .ok (.iconst 1, 1) := by decide +kernel
theorem dX0_addSale_69 : decode cX0_addSale 69 = .ok (.iadd, 1) := by decide +kernel
theorem dX0_addSale_70 : decode cX0_addSale 70 = .ok (.putfield 25, 3) := by decide +kernel
theorem dX0_addSale_73 : decode cX0_addSale 73 = .ok (.return_, 1) := by decide +kernel
theorem dX0_forgetOldestSale_0 : decode cX0_forgetOldestSale 0 = .ok (.iconst 1, 1) := by decide +kernel
theorem dX0_forgetOldestSale_1 : decode cX0_forgetOldestSale 1 = .ok (.istore_n 1, 1) := by decide +kernel
theorem dX0_forgetOldestSale_2 : decode cX0_forgetOldestSale 2 = .ok (.iload_n 1, 1) := by decide +kernel
theorem dX0_forgetOldestSale_3 : decode cX0_forgetOldestSale 3 = .ok (.bipush 8, 2) := by decide +kernel
theorem dX0_forgetOldestSale_5 : decode cX0_forgetOldestSale 5 = .ok (.if_icmp .ge 51, 3) := by decide +kernel
theorem dX0_forgetOldestSale_8 : decode cX0_forgetOldestSale 8 = .ok (.aload_n 0, 1) := by decide +kernel
theorem dX0_forgetOldestSale_9 : decode cX0_forgetOldestSale 9 = .ok (.getfield 28, 3) := by decide +kernel
theorem dX0_forgetOldestSale_12 : decode cX0_forgetOldestSale 12 = .ok (.iload_n 1, 1) := by decide +kernel
theorem dX0_forgetOldestSale_13 : decode cX0_forgetOldestSale 13 = .ok (.iconst 1, 1) := by decide +kernel
theorem dX0_forgetOldestSale_14 : decode cX0_forgetOldestSale 14 = .ok (.isub, 1) := by decide +kernel
theorem dX0_forgetOldestSale_15 : decode cX0_forgetOldestSale 15 = .ok (.aload_n 0, 1) := by decide +kernel
theorem dX0_forgetOldestSale_16 : decode cX0_forgetOldestSale 16 = .ok (.getfield 28, 3) := by decide +kernel
theorem dX0_forgetOldestSale_19 : decode cX0_forgetOldestSale 19 = .ok (.iload_n 1, 1) := by decide +kernel
theorem dX0_forgetOldestSale_20 : decode cX0_forgetOldestSale 20 = .ok (.iaload, 1) := by decide +kernel
theorem dX0_forgetOldestSale_21 : decode cX0_forgetOldestSale 21 = .ok (.iastore, 1) := by decide +kernel
theorem dX0_forgetOldestSale_22 : decode cX0_forgetOldestSale 22 = .ok (.aload_n 0, 1) := by decide +kernel
theorem dX0_forgetOldestSale_23 : decode cX0_forgetOldestSale 23 = .ok (.getfield 31, 3) := by decide +kernel
theorem dX0_forgetOldestSale_26 : decode cX0_forgetOldestSale 26 = .ok (.iload_n 1, 1) := by decide +kernel
theorem dX0_forgetOldestSale_27 : decode cX0_forgetOldestSale 27 = .ok (.iconst 1, 1) := by decide +kernel
theorem dX0_forgetOldestSale_28 : decode cX0_forgetOldestSale 28 = .ok (.isub, 1) := by decide +kernel
theorem dX0_forgetOldestSale_29 : decode cX0_forgetOldestSale 29 = .ok (.aload_n 0, 1) := by decide +kernel
theorem dX0_forgetOldestSale_30 : decode cX0_forgetOldestSale 30 = .ok (.getfield 31, 3) := by decide +kernel
theorem dX0_forgetOldestSale_33 : decode cX0_forgetOldestSale 33 = .ok (.iload_n 1, 1) := by decide +kernel
theorem dX0_forgetOldestSale_34 : decode cX0_forgetOldestSale 34 = .ok (.iaload, 1) := by decide +kernel
theorem dX0_forgetOldestSale_35 : decode cX0_forgetOldestSale 35 = .ok (.iastore, 1) := by decide +kernel
theorem dX0_forgetOldestSale_36 : decode cX0_forgetOldestSale 36 = .ok (.aload_n 0, 1) := by decide +kernel
theorem dX0_forgetOldestSale_37 : decode cX0_forgetOldestSale 37 = .ok (.getfield 34, 3) := by decide +kernel
theorem dX0_forgetOldestSale_40 : decode cX0_forgetOldestSale 40 = .ok (.iload_n 1, 1) := by decide +kernel
theorem dX0_forgetOldestSale_41 : decode cX0_forgetOldestSale 41 = .ok (.iconst 1, 1) := by decide +kernel
theorem dX0_forgetOldestSale_42 : decode cX0_forgetOldestSale 42 = .ok (.isub, 1) := by decide +kernel
theorem dX0_forgetOldestSale_43 : decode cX0_forgetOldestSale 43 = .ok (.aload_n 0, 1) := by decide +kernel
theorem dX0_forgetOldestSale_44 : decode cX0_forgetOldestSale 44 = .ok (.getfield 34, 3) := by decide +kernel
theorem dX0_forgetOldestSale_47 : decode cX0_forgetOldestSale 47 = .ok (.iload_n 1, 1) := by decide +kernel
theorem dX0_forgetOldestSale_48 : decode cX0_forgetOldestSale 48 = .ok (.iaload, 1) := by decide +kernel
theorem dX0_forgetOldestSale_49 : decode cX0_forgetOldestSale 49 = .ok (.iastore, 1) := by decide +kernel
theorem dX0_forgetOldestSale_50 : decode cX0_forgetOldestSale 50 = .ok (.iinc 1 1, 3) := by decide +kernel
theorem dX0_forgetOldestSale_53 : decode cX0_forgetOldestSale 53 = .ok (.goto (-51), 3) := by decide +kernel
theorem dX0_forgetOldestSale_56 : decode cX0_forgetOldestSale 56 = .ok (.aload_n 0, 1) := by decide +kernel
theorem dX0_forgetOldestSale_57 : decode cX0_forgetOldestSale 57 = .ok (.bipush 7, 2) := by decide +kernel
theorem dX0_forgetOldestSale_59 : decode cX0_forgetOldestSale 59 = .ok (.putfield 25, 3) := by decide +kernel
theorem dX0_forgetOldestSale_62 : decode cX0_forgetOldestSale 62 = .ok (.return_, 1) := by decide +kernel
theorem dX0_takeSaleBack_0 : decode cX0_takeSaleBack 0 = .ok (.aload_n 0, 1) := by decide +kernel
theorem dX0_takeSaleBack_1 : decode cX0_takeSaleBack 1 = .ok (.getfield 25, 3) := by decide +kernel
theorem dX0_takeSaleBack_4 : decode cX0_takeSaleBack 4 = .ok (.ifCond .ne 6, 3) := by decide +kernel
theorem dX0_takeSaleBack_7 : decode cX0_takeSaleBack 7 = .ok (.bipush (-2), 2) := by decide +kernel
theorem dX0_takeSaleBack_9 : decode cX0_takeSaleBack 9 = .ok (.ireturn, 1) := by decide +kernel
theorem dX0_takeSaleBack_10 : decode cX0_takeSaleBack 10 = .ok (.aload_n 0, 1) := by decide +kernel
theorem dX0_takeSaleBack_11 : decode cX0_takeSaleBack 11 = .ok (.dup, 1) := by decide +kernel
theorem dX0_takeSaleBack_12 : decode cX0_takeSaleBack 12 = .ok (.getfield 25, 3) := by decide +kernel
theorem dX0_takeSaleBack_15 : decode cX0_takeSaleBack 15 = .ok (.iconst 1, 1) := by decide +kernel
theorem dX0_takeSaleBack_16 : decode cX0_takeSaleBack 16 = .ok (.isub, 1) := by decide +kernel
theorem dX0_takeSaleBack_17 : decode cX0_takeSaleBack 17 = .ok (.putfield 25, 3) := by decide +kernel
theorem dX0_takeSaleBack_20 : decode cX0_takeSaleBack 20 = .ok (.aload_n 0, 1) := by decide +kernel
theorem dX0_takeSaleBack_21 : decode cX0_takeSaleBack 21 = .ok (.getfield 15, 3) := by decide +kernel
theorem dX0_takeSaleBack_24 : decode cX0_takeSaleBack 24 = .ok (.aload_n 0, 1) := by decide +kernel
theorem dX0_takeSaleBack_25 : decode cX0_takeSaleBack 25 = .ok (.getfield 28, 3) := by decide +kernel
theorem dX0_takeSaleBack_28 : decode cX0_takeSaleBack 28 = .ok (.aload_n 0, 1) := by decide +kernel
theorem dX0_takeSaleBack_29 : decode cX0_takeSaleBack 29 = .ok (.getfield 25, 3) := by decide +kernel
theorem dX0_takeSaleBack_32 : decode cX0_takeSaleBack 32 = .ok (.iaload, 1) := by decide +kernel
theorem dX0_takeSaleBack_33 : decode cX0_takeSaleBack 33 = .ok (.dup2, 1) := by decide +kernel
theorem dX0_takeSaleBack_34 : decode cX0_takeSaleBack 34 = .ok (.iaload, 1) := by decide +kernel
theorem dX0_takeSaleBack_35 : decode cX0_takeSaleBack 35 = .ok (.aload_n 0, 1) := by decide +kernel
theorem dX0_takeSaleBack_36 : decode cX0_takeSaleBack 36 = .ok (.getfield 31, 3) := by decide +kernel
theorem dX0_takeSaleBack_39 : decode cX0_takeSaleBack 39 = .ok (.aload_n 0, 1) := by decide +kernel
theorem dX0_takeSaleBack_40 : decode cX0_takeSaleBack 40 = .ok (.getfield 25, 3) := by decide +kernel
theorem dX0_takeSaleBack_43 : decode cX0_takeSaleBack 43 = .ok (.iaload, 1) := by decide +kernel
theorem dX0_takeSaleBack_44 : decode cX0_takeSaleBack 44 = .ok (.iadd, 1) := by decide +kernel
theorem dX0_takeSaleBack_45 : decode cX0_takeSaleBack 45 = .ok (.iastore, 1) := by decide +kernel
theorem dX0_takeSaleBack_46 : decode cX0_takeSaleBack 46 = .ok (.aload_n 0, 1) := by decide +kernel
theorem dX0_takeSaleBack_47 : decode cX0_takeSaleBack 47 = .ok (.dup, 1) := by decide +kernel
theorem dX0_takeSaleBack_48 : decode cX0_takeSaleBack 48 = .ok (.getfield 22, 3) := by decide +kernel
theorem dX0_takeSaleBack_51 : decode cX0_takeSaleBack 51 = .ok (.aload_n 0, 1) := by decide +kernel
theorem dX0_takeSaleBack_52 : decode cX0_takeSaleBack 52 = .ok (.getfield 34, 3) := by decide +kernel
theorem dX0_takeSaleBack_55 : decode cX0_takeSaleBack 55 = .ok (.aload_n 0, 1) := by decide +kernel
theorem dX0_takeSaleBack_56 : decode cX0_takeSaleBack 56 = .ok (.getfield 25, 3) := by decide +kernel
theorem dX0_takeSaleBack_59 : decode cX0_takeSaleBack 59 = .ok (.iaload, 1) := by decide +kernel
theorem dX0_takeSaleBack_60 : decode cX0_takeSaleBack 60 = .ok (.isub, 1) := by decide +kernel
theorem dX0_takeSaleBack_61 : decode cX0_takeSaleBack 61 = .ok (.putfield 22, 3) := by decide +kernel
theorem dX0_takeSaleBack_64 : decode cX0_takeSaleBack 64 = .ok (.aload_n 0, 1) := by decide +kernel
theorem dX0_takeSaleBack_65 : decode cX0_takeSaleBack 65 = .ok (.getfield 31, 3) := by decide +kernel
theorem dX0_takeSaleBack_68 : decode cX0_takeSaleBack 68 = .ok (.aload_n 0, 1) := by decide +kernel
theorem dX0_takeSaleBack_69 : decode cX0_takeSaleBack 69 = .ok (.getfield 25, 3) := by decide +kernel
theorem dX0_takeSaleBack_72 : decode cX0_takeSaleBack 72 = .ok (.iaload, 1) := by decide +kernel
theorem dX0_takeSaleBack_73 : decode cX0_takeSaleBack 73 = .ok (.ireturn, 1) := by decide +kernel
theorem dX1_init_0 : decode cX1_init 0 = .ok (.aload_n 0, 1) := by decide +kernel
theorem dX1_init_1 : decode cX1_init 1 = .ok (.invokespecial 3, 3) := by decide +kernel
theorem dX1_init_4 : decode cX1_init 4 = .ok (.aload_n 0, 1) := by decide +kernel
theorem dX1_init_5 : decode cX1_init 5 = .ok (.bipush 100, 2) := by decide +kernel
theorem dX1_init_7 : decode cX1_init 7 = .ok (.newarray .int, 2) := by decide +kernel
theorem dX1_init_9 : decode cX1_init 9 = .ok (.putfield 9, 3) := by decide +kernel
theorem dX1_init_12 : decode cX1_init 12 = .ok (.aload_n 0, 1) := by decide +kernel
theorem dX1_init_13 : decode cX1_init 13 = .ok (.iconst 0, 1) := by decide +kernel
theorem dX1_init_14 : decode cX1_init 14 = .ok (.putfield 15, 3) := by decide +kernel
theorem dX1_init_17 : decode cX1_init 17 = .ok (.aload_n 0, 1) := by decide +kernel
theorem dX1_init_18 : decode cX1_init 18 = .ok (.iconst 0, 1) := by decide +kernel
theorem dX1_init_19 : decode cX1_init 19 = .ok (.putfield 19, 3) := by decide +kernel
theorem dX1_init_22 : decode cX1_init 22 = .ok (.aload_n 0, 1) := by decide +kernel
theorem dX1_init_23 : decode cX1_init 23 = .ok (.iconst 0, 1) := by decide +kernel
theorem dX1_init_24 : decode cX1_init 24 = .ok (.putfield 22, 3) := by decide +kernel
theorem dX1_init_27 : decode cX1_init 27 = .ok (.aload_n 0, 1) := by decide +kernel
theorem dX1_init_28 : decode cX1_init 28 = .ok (.iconst 0, 1) := by decide +kernel
theorem dX1_init_29 : decode cX1_init 29 = .ok (.putfield 25, 3) := by decide +kernel
theorem dX1_init_32 : decode cX1_init 32 = .ok (.aload_n 0, 1) := by decide +kernel
theorem dX1_init_33 : decode cX1_init 33 = .ok (.iconst 0, 1) := by decide +kernel
theorem dX1_init_34 : decode cX1_init 34 = .ok (.putfield 28, 3) := by decide +kernel
theorem dX1_init_37 : decode cX1_init 37 = .ok (.aload_n 0, 1) := by decide +kernel
theorem dX1_init_38 : decode cX1_init 38 = .ok (.iconst 0, 1) := by decide +kernel
theorem dX1_init_39 : decode cX1_init 39 = .ok (.putfield 31, 3) := by decide +kernel
theorem dX1_init_42 : decode cX1_init 42 = .ok (.return_, 1) := by decide +kernel
theorem dX1_choose_0 : decode cX1_choose 0 = .ok (.aload_n 0, 1) := by decide +kernel
theorem dX1_choose_1 : decode cX1_choose 1 = .ok (.aload_n 3, 1) := by decide +kernel
theorem dX1_choose_2 : decode cX1_choose 2 = .ok (.aload 4, 2) := by decide +kernel
theorem dX1_choose_4 : decode cX1_choose 4 = .ok (.invokevirtual 34, 3) := by decide +kernel
theorem dX1_choose_7 : decode cX1_choose 7 = .ok (.aload_n 0, 1) := by decide +kernel
theorem dX1_choose_8 : decode cX1_choose 8 = .ok (.iconst 0, 1) := by decide +kernel
theorem dX1_choose_9 : decode cX1_choose 9 = .ok (.putfield 25, 3) := by decide +kernel
theorem dX1_choose_12 : decode cX1_choose 12 = .ok (.aload_n 0, 1) := by decide +kernel
theorem dX1_choose_13 : decode cX1_choose 13 = .ok (.iconst (-1), 1) := by decide +kernel
theorem dX1_choose_14 : decode cX1_choose 14 = .ok (.putfield 28, 3) := by decide +kernel
theorem dX1_choose_17 : decode cX1_choose 17 = .ok (.aload_n 0, 1) := by decide +kernel
theorem dX1_choose_18 : decode cX1_choose 18 = .ok (.iconst (-1), 1) := by decide +kernel
theorem dX1_choose_19 : decode cX1_choose 19 = .ok (.putfield 31, 3) := by decide +kernel
theorem dX1_choose_22 : decode cX1_choose 22 = .ok (.iconst 0, 1) := by decide +kernel
theorem dX1_choose_23 : decode cX1_choose 23 = .ok (.istore 5, 2) := by decide +kernel
theorem dX1_choose_25 : decode cX1_choose 25 = .ok (.iload 5, 2) := by decide +kernel
theorem dX1_choose_27 : decode cX1_choose 27 = .ok (.iconst 1, 1) := by decide +kernel
theorem dX1_choose_28 : decode cX1_choose 28 = .ok (.aload_n 3, 1) := by decide +kernel
theorem dX1_choose_29 : decode cX1_choose 29 = .ok (.getfield 38, 3) := by decide +kernel
theorem dX1_choose_32 : decode cX1_choose 32 = .ok (.ishl, 1) := by decide +kernel
theorem dX1_choose_33 : decode cX1_choose 33 = .ok (.if_icmp .ge 63, 3) := by decide +kernel
theorem dX1_choose_36 : decode cX1_choose 36 = .ok (.aload_n 0, 1) := by decide +kernel
theorem dX1_choose_37 : decode cX1_choose 37 = .ok (.getfield 15, 3) := by decide +kernel
theorem dX1_choose_40 : decode cX1_choose 40 = .ok (.iload_n 1, 1) := by decide +kernel
theorem dX1_choose_41 : decode cX1_choose 41 = .ok (.if_icmp .gt 40, 3) := by decide +kernel
theorem dX1_choose_44 : decode cX1_choose 44 = .ok (.aload_n 0, 1) := by decide +kernel
theorem dX1_choose_45 : decode cX1_choose 45 = .ok (.getfield 19, 3) := by decide +kernel
theorem dX1_choose_48 : decode cX1_choose 48 = .ok (.iload_n 2, 1) := by decide +kernel
theorem dX1_choose_49 : decode cX1_choose 49 = .ok (.if_icmp .gt 32, 3) := by decide +kernel
theorem dX1_choose_52 : decode cX1_choose 52 = .ok (.aload_n 0, 1) := by decide +kernel
theorem dX1_choose_53 : decode cX1_choose 53 = .ok (.invokevirtual 43, 3) := by decide +kernel
theorem dX1_choose_56 : decode cX1_choose 56 = .ok (.ifCond .eq 25, 3) := by decide +kernel
theorem dX1_choose_59 : decode cX1_choose 59 = .ok (.aload_n 0, 1) := by decide +kernel
theorem dX1_choose_60 : decode cX1_choose 60 = .ok (.iload 5, 2) := by decide +kernel
theorem dX1_choose_62 : decode cX1_choose 62 = .ok (.putfield 25, 3) := by decide +kernel
theorem dX1_choose_65 : decode cX1_choose 65 = .ok (.aload_n 0, 1) := by decide +kernel
theorem dX1_choose_66 : decode cX1_choose 66 = .ok (.aload_n 0, 1) := by decide +kernel
theorem dX1_choose_67 : decode cX1_choose 67 = .ok (.getfield 22, 3) := by decide +kernel
theorem dX1_choose_70 : decode cX1_choose 70 = .ok (.putfield 28, 3) := by decide +kernel
theorem dX1_choose_73 : decode cX1_choose 73 = .ok (.aload_n 0, 1) := by decide +kernel
theorem dX1_choose_74 : decode cX1_choose 74 = .ok (.aload_n 0, 1) := by decide +kernel
theorem dX1_choose_75 : decode cX1_choose 75 = .ok (.getfield 15, 3) := by decide +kernel
theorem dX1_choose_78 : decode cX1_choose 78 = .ok (.putfield 31, 3) := by decide +kernel
theorem dX1_choose_81 : decode cX1_choose 81 = .ok (.aload_n 0, 1) := by decide +kernel
theorem dX1_choose_82 : decode cX1_choose 82 = .ok (.iload 5, 2) := by decide +kernel
theorem dX1_choose_84 : decode cX1_choose 84 = .ok (.aload_n 3, 1) := by decide +kernel
theorem dX1_choose_85 : decode cX1_choose 85 = .ok (.aload 4, 2) := by decide +kernel
theorem dX1_choose_87 : decode cX1_choose 87 = .ok (.invokevirtual 47, 3) := by decide +kernel
theorem dX1_choose_90 : decode cX1_choose 90 = .ok (.iinc 5 1, 3) := by decide +kernel
theorem dX1_choose_93 : decode cX1_choose 93 = .ok (.goto (-68), 3) := by decide +kernel
theorem dX1_choose_96 : decode cX1_choose 96 = .ok (.return_, 1) := by decide +kernel
theorem dX1_startWithAll_0 : decode cX1_startWithAll 0 = .ok (.aload_n 0, 1) := by decide +kernel
theorem dX1_startWithAll_1 : decode cX1_startWithAll 1 = .ok (.getfield 9, 3) := by decide +kernel
theorem dX1_startWithAll_4 : decode cX1_startWithAll 4 = .ok (.iconst 0, 1) := by decide +kernel
theorem dX1_startWithAll_5 : decode cX1_startWithAll 5 = .ok (.invokestatic 51, 3) := by decide +kernel
theorem dX1_startWithAll_8 : decode cX1_startWithAll 8 = .ok (.aload_n 0, 1) := by decide +kernel
theorem dX1_startWithAll_9 : decode cX1_startWithAll 9 = .ok (.iconst 0, 1) := by decide +kernel
theorem dX1_startWithAll_10 : decode cX1_startWithAll 10 = .ok (.putfield 15, 3) := by decide +kernel
theorem dX1_startWithAll_13 : decode cX1_startWithAll 13 = .ok (.aload_n 0, 1) := by decide +kernel
theorem dX1_startWithAll_14 : decode cX1_startWithAll 14 = .ok (.iconst 0, 1) := by decide +kernel
theorem dX1_startWithAll_15 : decode cX1_startWithAll 15 = .ok (.putfield 19, 3) := by decide +kernel
theorem dX1_startWithAll_18 : decode cX1_startWithAll 18 = .ok (.aload_n 0, 1) := by decide +kernel
theorem dX1_startWithAll_19 : decode cX1_startWithAll 19 = .ok (.iconst 0, 1) := by decide +kernel
theorem dX1_startWithAll_20 : decode cX1_startWithAll 20 = .ok (.putfield 22, 3) := by decide +kernel
theorem dX1_startWithAll_23 : decode cX1_startWithAll 23 = .ok (.iconst 0, 1) := by decide +kernel
theorem dX1_startWithAll_24 : decode cX1_startWithAll 24 = .ok (.istore_n 3, 1) := by decide +kernel
theorem dX1_startWithAll_25 : decode cX1_startWithAll 25 = .ok (.iload_n 3, 1) := by decide +kernel
theorem dX1_startWithAll_26 : decode cX1_startWithAll 26 = .ok (.aload_n 1, 1) := by decide +kernel
theorem dX1_startWithAll_27 : decode cX1_startWithAll 27 = .ok (.getfield 38, 3) := by decide +kernel
theorem dX1_startWithAll_30 : decode cX1_startWithAll 30 = .ok (.if_icmp .ge 31, 3) := by decide +kernel
theorem dX1_startWithAll_33 : decode cX1_startWithAll 33 = .ok (.aload_n 0, 1) := by decide +kernel
theorem dX1_startWithAll_34 : decode cX1_startWithAll 34 = .ok (.aload_n 1, 1) := by decide +kernel
theorem dX1_startWithAll_35 : decode cX1_startWithAll 35 = .ok (.getfield 57, 3) := by decide +kernel
theorem dX1_startWithAll_38 : decode cX1_startWithAll 38 = .ok (.iload_n 3, 1) := by decide +kernel
theorem dX1_startWithAll_39 : decode cX1_startWithAll 39 = .ok (.iaload, 1) := by decide +kernel
theorem dX1_startWithAll_40 : decode cX1_startWithAll 40 = .ok (.aload_n 2, 1) := by decide +kernel
theorem dX1_startWithAll_41 : decode cX1_startWithAll 41 = .ok (.getfield 60, 3) := by decide +kernel
theorem dX1_startWithAll_44 : decode cX1_startWithAll 44 = .ok (.iload_n 3, 1) := by decide +kernel
theorem dX1_startWithAll_45 : decode cX1_startWithAll 45 = .ok (.iaload, 1) := by decide +kernel
theorem dX1_startWithAll_46 : decode cX1_startWithAll 46 = .ok (.aload_n 2, 1) := by decide +kernel
theorem dX1_startWithAll_47 : decode cX1_startWithAll 47 = .ok (.getfield 65, 3) := by decide +kernel
theorem dX1_startWithAll_50 : decode cX1_startWithAll 50 = .ok (.iload_n 3, 1) := by decide +kernel
theorem dX1_startWithAll_51 : decode cX1_startWithAll 51 = .ok (.iaload, 1) := by decide +kernel
theorem dX1_startWithAll_52 : decode cX1_startWithAll 52 = .ok (.invokevirtual 68, 3) := by decide +kernel
theorem dX1_startWithAll_55 : decode cX1_startWithAll 55 = .ok (.iinc 3 1, 3) := by decide +kernel
theorem dX1_startWithAll_58 : decode cX1_startWithAll 58 = .ok (.goto (-33), 3) := by decide +kernel
theorem dX1_startWithAll_61 : decode cX1_startWithAll 61 = .ok (.return_, 1) := by decide +kernel
theorem dX1_isBetter_0 : decode cX1_isBetter 0 = .ok (.aload_n 0, 1) := by decide +kernel
theorem dX1_isBetter_1 : decode cX1_isBetter 1 = .ok (.getfield 22, 3) := by decide +kernel
theorem dX1_isBetter_4 : decode cX1_isBetter 4 = .ok (.aload_n 0, 1) := by decide +kernel
theorem dX1_isBetter_5 : decode cX1_isBetter 5 = .ok (.getfield 28, 3) := by decide +kernel
theorem dX1_isBetter_8 : decode cX1_isBetter 8 = .ok (.if_icmp .gt 25, 3) := by decide +kernel
theorem dX1_isBetter_11 : decode cX1_isBetter 11 = .ok (.aload_n 0, 1) := by decide +kernel
theorem dX1_isBetter_12 : decode cX1_isBetter 12 = .ok (.getfield 22, 3) := by decide +kernel
theorem dX1_isBetter_15 : decode cX1_isBetter 15 = .ok (.aload_n 0, 1) := by decide +kernel
theorem dX1_isBetter_16 : decode cX1_isBetter 16 = .ok (.getfield 28, 3) := by decide +kernel
theorem dX1_isBetter_19 : decode cX1_isBetter 19 = .ok (.if_icmp .ne 18, 3) := by decide +kernel
theorem dX1_isBetter_22 : decode cX1_isBetter 22 = .ok (.aload_n 0, 1) := by decide +kernel
theorem dX1_isBetter_23 : decode cX1_isBetter 23 = .ok (.getfield 15, 3) := by decide +kernel
theorem dX1_isBetter_26 : decode cX1_isBetter 26 = .ok (.aload_n 0, 1) := by decide +kernel
theorem dX1_isBetter_27 : decode cX1_isBetter 27 = .ok (.getfield 31, 3) := by decide +kernel
theorem dX1_isBetter_30 : decode cX1_isBetter 30 = .ok (.if_icmp .le 7, 3) := by decide +kernel
theorem dX1_isBetter_33 : decode cX1_isBetter 33 = .ok (.iconst 1, 1) := by decide +kernel
theorem dX1_isBetter_34 : decode cX1_isBetter 34 = .ok (.goto 4, 3) := by decide +kernel
theorem dX1_isBetter_37 : decode cX1_isBetter 37 = .ok (.iconst 0, 1) := by decide +kernel
theorem dX1_isBetter_38 : decode cX1_isBetter 38 = .ok (.ireturn, 1) := by decide +kernel
theorem dX1_goOn_0 : decode cX1_goOn 0 = .ok (.iconst 0, 1) := by decide +kernel
theorem dX1_goOn_1 : decode cX1_goOn 1 = .ok (.istore 4, 2) := by decide +kernel
theorem dX1_goOn_3 : decode cX1_goOn 3 = .ok (.iload 4, 2) := by decide +kernel
theorem dX1_goOn_5 : decode cX1_goOn 5 = .ok (.aload_n 2, 1) := by decide +kernel
theorem dX1_goOn_6 : decode cX1_goOn 6 = .ok (.getfield 38, 3) := by decide +kernel
theorem dX1_goOn_9 : decode cX1_goOn 9 = .ok (.if_icmp .ge 69, 3) := by decide +kernel
theorem dX1_goOn_12 : decode cX1_goOn 12 = .ok (.iload_n 1, 1) := by decide +kernel
theorem dX1_goOn_13 : decode cX1_goOn 13 = .ok (.iload 4, 2) := by decide +kernel
theorem dX1_goOn_15 : decode cX1_goOn 15 = .ok (.ishr, 1) := by decide +kernel
theorem dX1_goOn_16 : decode cX1_goOn 16 = .ok (.iconst 1, 1) := by decide +kernel
theorem dX1_goOn_17 : decode cX1_goOn 17 = .ok (.iand, 1) := by decide +kernel
theorem dX1_goOn_18 : decode cX1_goOn 18 = .ok (.ifCond .ne 29, 3) := by decide +kernel
theorem dX1_goOn_21 : decode cX1_goOn 21 = .ok (.aload_n 0, 1) := by decide +kernel
theorem dX1_goOn_22 : decode cX1_goOn 22 = .ok (.aload_n 2, 1) := by decide +kernel
theorem dX1_goOn_23 : decode cX1_goOn 23 = .ok (.getfield 57, 3) := by decide +kernel
theorem dX1_goOn_26 : decode cX1_goOn 26 = .ok (.iload 4, 2) := by decide +kernel
theorem dX1_goOn_28 : decode cX1_goOn 28 = .ok (.iaload, 1) := by decide +kernel
theorem dX1_goOn_29 : decode cX1_goOn 29 = .ok (.aload_n 3, 1) := by decide +kernel
theorem dX1_goOn_30 : decode cX1_goOn 30 = .ok (.getfield 60, 3) := by decide +kernel
theorem dX1_goOn_33 : decode cX1_goOn 33 = .ok (.iload 4, 2) := by decide +kernel
theorem dX1_goOn_35 : decode cX1_goOn 35 = .ok (.iaload, 1) := by decide +kernel
theorem dX1_goOn_36 : decode cX1_goOn 36 = .ok (.aload_n 3, 1) := by decide +kernel
theorem dX1_goOn_37 : decode cX1_goOn 37 = .ok (.getfield 65, 3) := by decide +kernel
theorem dX1_goOn_40 : decode cX1_goOn 40 = .ok (.iload 4, 2) := by decide +kernel
theorem dX1_goOn_42 : decode cX1_goOn 42 = .ok (.iaload, 1) := by decide +kernel
theorem dX1_goOn_43 : decode cX1_goOn 43 = .ok (.invokevirtual 72, 3) := by decide +kernel
theorem dX1_goOn_46 : decode cX1_goOn 46 = .ok (.return_, 1) := by decide +kernel
theorem dX1_goOn_47 : decode cX1_goOn 47 = .ok (.aload_n 0, 1) := by decide +kernel
theorem dX1_goOn_48 : decode cX1_goOn 48 = .ok (.aload_n 2, 1) := by decide +kernel
theorem dX1_goOn_49 : decode cX1_goOn 49 = .ok (.getfield 57, 3) := by decide +kernel
theorem dX1_goOn_52 : decode cX1_goOn 52 = .ok (.iload 4, 2) := by decide +kernel
theorem dX1_goOn_54 : decode cX1_goOn 54 = .ok (.iaload, 1) := by decide +kernel
theorem dX1_goOn_55 : decode cX1_goOn 55 = .ok (.aload_n 3, 1) := by decide +kernel
theorem dX1_goOn_56 : decode cX1_goOn 56 = .ok (.getfield 60, 3) := by decide +kernel
theorem dX1_goOn_59 : decode cX1_goOn 59 = .ok (.iload 4, 2) := by decide +kernel
theorem dX1_goOn_61 : decode cX1_goOn 61 = .ok (.iaload, 1) := by decide +kernel
theorem dX1_goOn_62 : decode cX1_goOn 62 = .ok (.aload_n 3, 1) := by decide +kernel
theorem dX1_goOn_63 : decode cX1_goOn 63 = .ok (.getfield 65, 3) := by decide +kernel
theorem dX1_goOn_66 : decode cX1_goOn 66 = .ok (.iload 4, 2) := by decide +kernel
theorem dX1_goOn_68 : decode cX1_goOn 68 = .ok (.iaload, 1) := by decide +kernel
theorem dX1_goOn_69 : decode cX1_goOn 69 = .ok (.invokevirtual 68, 3) := by decide +kernel
theorem dX1_goOn_72 : decode cX1_goOn 72 = .ok (.iinc 4 1, 3) := by decide +kernel
theorem dX1_goOn_75 : decode cX1_goOn 75 = .ok (.goto (-72), 3) := by decide +kernel
theorem dX1_goOn_78 : decode cX1_goOn 78 = .ok (.return_, 1) := by decide +kernel
theorem dX1_putBack_0 : decode cX1_putBack 0 = .ok (.iload_n 1, 1) := by decide +kernel
theorem dX1_putBack_1 : decode cX1_putBack 1 = .ok (.ifCond .le 58, 3) := by decide +kernel
theorem dX1_putBack_4 : decode cX1_putBack 4 = .ok (.aload_n 0, 1) := by decide +kernel
theorem dX1_putBack_5 : decode cX1_putBack 5 = .ok (.dup, 1) := by decide +kernel
theorem dX1_putBack_6 : decode cX1_putBack 6 = .ok (.getfield 15, 3) := by decide +kernel
theorem dX1_putBack_9 : decode cX1_putBack 9 = .ok (.iload_n 1, 1) := by decide +kernel
theorem dX1_putBack_10 : decode cX1_putBack 10 = .ok (.iadd, 1) := by decide +kernel
theorem dX1_putBack_11 : decode cX1_putBack 11 = .ok (.putfield 15, 3) := by decide +kernel
theorem dX1_putBack_14 : decode cX1_putBack 14 = .ok (.aload_n 0, 1) := by decide +kernel
theorem dX1_putBack_15 : decode cX1_putBack 15 = .ok (.dup, 1) := by decide +kernel
theorem dX1_putBack_16 : decode cX1_putBack 16 = .ok (.getfield 19, 3) := by decide +kernel
theorem dX1_putBack_19 : decode cX1_putBack 19 = .ok (.iload_n 1, 1) := by decide +kernel
theorem dX1_putBack_20 : decode cX1_putBack 20 = .ok (.iload_n 2, 1) := by decide +kernel
theorem dX1_putBack_21 : decode cX1_putBack 21 = .ok (.imul, 1) := by decide +kernel
theorem dX1_putBack_22 : decode cX1_putBack 22 = .ok (.iadd, 1) := by decide +kernel
theorem dX1_putBack_23 : decode cX1_putBack 23 = .ok (.putfield 19, 3) := by decide +kernel
theorem dX1_putBack_26 : decode cX1_putBack 26 = .ok (.aload_n 0, 1) := by decide +kernel
theorem dX1_putBack_27 : decode cX1_putBack 27 = .ok (.dup, 1) := by decide +kernel
theorem dX1_putBack_28 : decode cX1_putBack 28 = .ok (.getfield 22, 3) := by decide +kernel
theorem dX1_putBack_31 : decode cX1_putBack 31 = .ok (.aload_n 0, 1) := by decide +kernel
theorem dX1_putBack_32 : decode cX1_putBack 32 = .ok (.getfield 9, 3) := by decide +kernel
theorem dX1_putBack_35 : decode cX1_putBack 35 = .ok (.iload_n 3, 1) := by decide +kernel
theorem dX1_putBack_36 : decode cX1_putBack 36 = .ok (.iaload, 1) := by decide +kernel
theorem dX1_putBack_37 : decode cX1_putBack 37 = .ok (.ifCond .ne 7, 3) := by decide +kernel
theorem dX1_putBack_40 : decode cX1_putBack 40 = .ok (.iconst 1, 1) := by decide +kernel
theorem dX1_putBack_41 : decode cX1_putBack 41 = .ok (.goto 4, 3) := by decide +kernel
theorem dX1_putBack_44 : decode cX1_putBack 44 = .ok (.iconst 0, 1) := by decide +kernel
theorem dX1_putBack_45 : decode cX1_putBack 45 = .ok (.iadd, 1) := by decide +kernel
theorem dX1_putBack_46 : decode cX1_putBack 46 = .ok (.putfield 22, 3) := by decide +kernel
theorem dX1_putBack_49 : decode cX1_putBack 49 = .ok (.aload_n 0, 1) := by decide +kernel
theorem dX1_putBack_50 : decode cX1_putBack 50 = .ok (.getfield 9, 3) := by decide +kernel
theorem dX1_putBack_53 : decode cX1_putBack 53 = .ok (.iload_n 3, 1) := by decide +kernel
theorem dX1_putBack_54 : decode cX1_putBack 54 = .ok (.dup2, 1) := by decide +kernel
theorem dX1_putBack_55 : decode cX1_putBack 55 = .ok (.iaload, 1) := by decide +kernel
theorem dX1_putBack_56 : decode cX1_putBack 56 = .ok (.iconst 1, 1) := by decide +kernel
theorem dX1_putBack_57 : decode cX1_putBack 57 = .ok (.iadd, 1) := by decide +kernel
theorem dX1_putBack_58 : decode cX1_putBack 58 = .ok (.iastore, 1) := by decide +kernel
theorem dX1_putBack_59 : decode cX1_putBack 59 = .ok (.return_, 1) := by decide +kernel
theorem dX1_takeOut_0 : decode cX1_takeOut 0 = .ok (.iload_n 1, 1) := by decide +kernel
theorem dX1_takeOut_1 : decode cX1_takeOut 1 = .ok (.ifCond .le 58, 3) := by decide +kernel
theorem dX1_takeOut_4 : decode cX1_takeOut 4 = .ok (.aload_n 0, 1) := by decide +kernel
theorem dX1_takeOut_5 : decode cX1_takeOut 5 = .ok (.dup, 1) := by decide +kernel
theorem dX1_takeOut_6 : decode cX1_takeOut 6 = .ok (.getfield 15, 3) := by decide +kernel
theorem dX1_takeOut_9 : decode cX1_takeOut 9 = .ok (.iload_n 1, 1) := by decide +kernel
theorem dX1_takeOut_10 : decode cX1_takeOut 10 = .ok (.isub, 1) := by decide +kernel
theorem dX1_takeOut_11 : decode cX1_takeOut 11 = .ok (.putfield 15, 3) := by decide +kernel
theorem dX1_takeOut_14 : decode cX1_takeOut 14 = .ok (.aload_n 0, 1) := by decide +kernel
theorem dX1_takeOut_15 : decode cX1_takeOut 15 = .ok (.dup, 1) := by decide +kernel
theorem dX1_takeOut_16 : decode cX1_takeOut 16 = .ok (.getfield 19, 3) := by decide +kernel
theorem dX1_takeOut_19 : decode cX1_takeOut 19 = .ok (.iload_n 1, 1) := by decide +kernel
theorem dX1_takeOut_20 : decode cX1_takeOut 20 = .ok (.iload_n 2, 1) := by decide +kernel
theorem dX1_takeOut_21 : decode cX1_takeOut 21 = .ok (.imul, 1) := by decide +kernel
theorem dX1_takeOut_22 : decode cX1_takeOut 22 = .ok (.isub, 1) := by decide +kernel
theorem dX1_takeOut_23 : decode cX1_takeOut 23 = .ok (.putfield 19, 3) := by decide +kernel
theorem dX1_takeOut_26 : decode cX1_takeOut 26 = .ok (.aload_n 0, 1) := by decide +kernel
theorem dX1_takeOut_27 : decode cX1_takeOut 27 = .ok (.getfield 9, 3) := by decide +kernel
theorem dX1_takeOut_30 : decode cX1_takeOut 30 = .ok (.iload_n 3, 1) := by decide +kernel
theorem dX1_takeOut_31 : decode cX1_takeOut 31 = .ok (.dup2, 1) := by decide +kernel
theorem dX1_takeOut_32 : decode cX1_takeOut 32 = .ok (.iaload, 1) := by decide +kernel
theorem dX1_takeOut_33 : decode cX1_takeOut 33 = .ok (.iconst 1, 1) := by decide +kernel
theorem dX1_takeOut_34 : decode cX1_takeOut 34 = .ok (.isub, 1) := by decide +kernel
theorem dX1_takeOut_35 : decode cX1_takeOut 35 = .ok (.iastore, 1) := by decide +kernel
theorem dX1_takeOut_36 : decode cX1_takeOut 36 = .ok (.aload_n 0, 1) := by decide +kernel
theorem dX1_takeOut_37 : decode cX1_takeOut 37 = .ok (.dup, 1) := by decide +kernel
theorem dX1_takeOut_38 : decode cX1_takeOut 38 = .ok (.getfield 22, 3) := by decide +kernel
theorem dX1_takeOut_41 : decode cX1_takeOut 41 = .ok (.aload_n 0, 1) := by decide +kernel
theorem dX1_takeOut_42 : decode cX1_takeOut 42 = .ok (.getfield 9, 3) := by decide +kernel
theorem dX1_takeOut_45 : decode cX1_takeOut 45 = .ok (.iload_n 3, 1) := by decide +kernel
theorem dX1_takeOut_46 : decode cX1_takeOut 46 = .ok (.iaload, 1) := by decide +kernel
theorem dX1_takeOut_47 : decode cX1_takeOut 47 = .ok (.ifCond .ne 7, 3) := by decide +kernel
theorem dX1_takeOut_50 : decode cX1_takeOut 50 = .ok (.iconst 1, 1) := by decide +kernel
theorem dX1_takeOut_51 : decode cX1_takeOut 51 = .ok (.goto 4, 3) := by decide +kernel
theorem dX1_takeOut_54 : decode cX1_takeOut 54 = .ok (.iconst 0, 1) := by decide +kernel
theorem dX1_takeOut_55 : decode cX1_takeOut 55 = .ok (.isub, 1) := by decide +kernel
theorem dX1_takeOut_56 : decode cX1_takeOut 56 = .ok (.putfield 22, 3) := by decide +kernel
theorem dX1_takeOut_59 : decode cX1_takeOut 59 = .ok (.return_, 1) := by decide +kernel
theorem dX2_init_0 : decode cX2_init 0 = .ok (.aload_n 0, 1) := by decide +kernel
theorem dX2_init_1 : decode cX2_init 1 = .ok (.invokespecial 3, 3) := by decide +kernel
theorem dX2_init_4 : decode cX2_init 4 = .ok (.aload_n 0, 1) := by decide +kernel
theorem dX2_init_5 : decode cX2_init 5 = .ok (.bipush 14, 2) := by decide +kernel
theorem dX2_init_7 : decode cX2_init 7 = .ok (.newarray .int, 2) := by decide +kernel
theorem dX2_init_9 : decode cX2_init 9 = .ok (.putfield 9, 3) := by decide +kernel
theorem dX2_init_12 : decode cX2_init 12 = .ok (.aload_n 0, 1) := by decide +kernel
theorem dX2_init_13 : decode cX2_init 13 = .ok (.iconst 0, 1) := by decide +kernel
theorem dX2_init_14 : decode cX2_init 14 = .ok (.putfield 15, 3) := by decide +kernel
theorem dX2_init_17 : decode cX2_init 17 = .ok (.aload_n 0, 1) := by decide +kernel
theorem dX2_init_18 : decode cX2_init 18 = .ok (.bipush 15, 2) := by decide +kernel
theorem dX2_init_20 : decode cX2_init 20 = .ok (.newarray .int, 2) := by decide +kernel
theorem dX2_init_22 : decode cX2_init 22 = .ok (.putfield 19, 3) := by decide +kernel
theorem dX2_init_25 : decode cX2_init 25 = .ok (.return_, 1) := by decide +kernel
theorem dX2_add_0 : decode cX2_add 0 = .ok (.aload_n 0, 1) := by decide +kernel
theorem dX2_add_1 : decode cX2_add 1 = .ok (.getfield 15, 3) := by decide +kernel
theorem dX2_add_4 : decode cX2_add 4 = .ok (.bipush 14, 2) := by decide +kernel
theorem dX2_add_6 : decode cX2_add 6 = .ok (.if_icmp .lt 5, 3) := by decide +kernel
theorem dX2_add_9 : decode cX2_add 9 = .ok (.iconst 0, 1) := by decide +kernel
theorem dX2_add_10 : decode cX2_add 10 = .ok (.ireturn, 1) := by decide +kernel
theorem dX2_add_11 : decode cX2_add 11 = .ok (.aload_n 0, 1) := by decide +kernel
theorem dX2_add_12 : decode cX2_add 12 = .ok (.getfield 9, 3) := by decide +kernel
theorem dX2_add_15 : decode cX2_add 15 = .ok (.aload_n 0, 1) := by decide +kernel
theorem dX2_add_16 : decode cX2_add 16 = .ok (.getfield 15, 3) := by decide +kernel
theorem dX2_add_19 : decode cX2_add 19 = .ok (.iload_n 1, 1) := by decide +kernel
theorem dX2_add_20 : decode cX2_add 20 = .ok (.iastore, 1) := by decide +kernel
theorem dX2_add_21 : decode cX2_add 21 = .ok (.aload_n 0, 1) := by decide +kernel
theorem dX2_add_22 : decode cX2_add 22 = .ok (.dup, 1) := by decide +kernel
theorem dX2_add_23 : decode cX2_add 23 = .ok (.getfield 15, 3) := by decide +kernel
theorem dX2_add_26 : decode cX2_add 26 = .ok (.iconst 1, 1) := by decide +kernel
theorem dX2_add_27 : decode cX2_add 27 = .ok (.iadd, 1) := by decide +kernel
theorem dX2_add_28 : decode cX2_add 28 = .ok (.putfield 15, 3) := by decide +kernel
theorem dX2_add_31 : decode cX2_add 31 = .ok (.iconst 1, 1) := by decide +kernel
theorem dX2_add_32 : decode cX2_add 32 = .ok (.ireturn, 1) := by decide +kernel
theorem dX2_clear_0 : decode cX2_clear 0 = .ok (.aload_n 0, 1) := by decide +kernel
theorem dX2_clear_1 : decode cX2_clear 1 = .ok (.getfield 15, 3) := by decide +kernel
theorem dX2_clear_4 : decode cX2_clear 4 = .ok (.istore_n 1, 1) := by decide +kernel
theorem dX2_clear_5 : decode cX2_clear 5 = .ok (.aload_n 0, 1) := by decide +kernel
theorem dX2_clear_6 : decode cX2_clear 6 = .ok (.iconst 0, 1) := by decide +kernel
theorem dX2_clear_7 : decode cX2_clear 7 = .ok (.putfield 15, 3) := by decide +kernel
theorem dX2_clear_10 : decode cX2_clear 10 = .ok (.iload_n 1, 1) := by decide +kernel
theorem dX2_clear_11 : decode cX2_clear 11 = .ok (.ireturn, 1) := by decide +kernel
theorem dX2_changesTo_0 : decode cX2_changesTo 0 = .ok (.iconst 0, 1) := by decide +kernel
theorem dX2_changesTo_1 : decode cX2_changesTo 1 = .ok (.istore_n 2, 1) := by decide +kernel
theorem dX2_changesTo_2 : decode cX2_changesTo 2 = .ok (.iload_n 2, 1) := by decide +kernel
theorem dX2_changesTo_3 : decode cX2_changesTo 3 = .ok (.aload_n 0, 1) := by decide +kernel
theorem dX2_changesTo_4 : decode cX2_changesTo 4 = .ok (.getfield 15, 3) := by decide +kernel
theorem dX2_changesTo_7 : decode cX2_changesTo 7 = .ok (.if_icmp .gt 16, 3) := by decide +kernel
theorem dX2_changesTo_10 : decode cX2_changesTo 10 = .ok (.aload_n 0, 1) := by decide +kernel
theorem dX2_changesTo_11 : decode cX2_changesTo 11 = .ok (.getfield 19, 3) := by decide +kernel
theorem dX2_changesTo_14 : decode cX2_changesTo 14 = .ok (.iload_n 2, 1) := by decide +kernel
theorem dX2_changesTo_15 : decode cX2_changesTo 15 = .ok (.iload_n 2, 1) := by decide +kernel
theorem dX2_changesTo_16 : decode cX2_changesTo 16 = .ok (.iastore, 1) := by decide +kernel
theorem dX2_changesTo_17 : decode cX2_changesTo 17 = .ok (.iinc 2 1, 3) := by decide +kernel
theorem dX2_changesTo_20 : decode cX2_changesTo 20 = .ok (.goto (-18), 3) := by decide +kernel
theorem dX2_changesTo_23 : decode cX2_changesTo 23 = .ok (.iconst 0, 1) := by decide +kernel
theorem dX2_changesTo_24 : decode cX2_changesTo 24 = .ok (.istore_n 2, 1) := by decide +kernel
theorem dX2_changesTo_25 : decode cX2_changesTo 25 = .ok (.iload_n 2, 1) := by decide +kernel
theorem dX2_changesTo_26 : decode cX2_changesTo 26 = .ok (.aload_n 1, 1) := by decide +kernel
theorem dX2_changesTo_27 : decode cX2_changesTo 27 = .ok (.getfield 22, 3) := by decide +kernel
theorem dX2_changesTo_30 : decode cX2_changesTo 30 = .ok (.if_icmp .ge 28, 3) := by decide +kernel
theorem dX2_changesTo_33 : decode cX2_changesTo 33 = .ok (.aload_n 1, 1) := by decide +kernel
theorem dX2_changesTo_34 : decode cX2_changesTo 34 = .ok (.getfield 25, 3) := by decide +kernel
theorem dX2_changesTo_37 : decode cX2_changesTo 37 = .ok (.iload_n 2, 1) := by decide +kernel
theorem dX2_changesTo_38 : decode cX2_changesTo 38 = .ok (.iaload, 1) := by decide +kernel
theorem dX2_changesTo_39 : decode cX2_changesTo 39 = .ok (.ifCond .le 13, 3) := by decide +kernel
theorem dX2_changesTo_42 : decode cX2_changesTo 42 = .ok (.aload_n 0, 1) := by decide +kernel
theorem dX2_changesTo_43 : decode cX2_changesTo 43 = .ok (.aload_n 1, 1) := by decide +kernel
theorem dX2_changesTo_44 : decode cX2_changesTo 44 = .ok (.getfield 28, 3) := by decide +kernel
theorem dX2_changesTo_47 : decode cX2_changesTo 47 = .ok (.iload_n 2, 1) := by decide +kernel
theorem dX2_changesTo_48 : decode cX2_changesTo 48 = .ok (.iaload, 1) := by decide +kernel
theorem dX2_changesTo_49 : decode cX2_changesTo 49 = .ok (.invokevirtual 31, 3) := by decide +kernel
theorem dX2_changesTo_52 : decode cX2_changesTo 52 = .ok (.iinc 2 1, 3) := by decide +kernel
theorem dX2_changesTo_55 : decode cX2_changesTo 55 = .ok (.goto (-30), 3) := by decide +kernel
theorem dX2_changesTo_58 : decode cX2_changesTo 58 = .ok (.aload_n 0, 1) := by decide +kernel
theorem dX2_changesTo_59 : decode cX2_changesTo 59 = .ok (.getfield 19, 3) := by decide +kernel
theorem dX2_changesTo_62 : decode cX2_changesTo 62 = .ok (.aload_n 0, 1) := by decide +kernel
theorem dX2_changesTo_63 : decode cX2_changesTo 63 = .ok (.getfield 15, 3) := by decide +kernel
theorem dX2_changesTo_66 : decode cX2_changesTo 66 = .ok (.iaload, 1) := by decide +kernel
theorem dX2_changesTo_67 : decode cX2_changesTo 67 = .ok (.ireturn, 1) := by decide +kernel
theorem dX2_addLayer_0 : decode cX2_addLayer 0 = .ok (.aload_n 0, 1) := by decide +kernel
theorem dX2_addLayer_1 : decode cX2_addLayer 1 = .ok (.getfield 19, 3) := by decide +kernel
theorem dX2_addLayer_4 : decode cX2_addLayer 4 = .ok (.iconst 0, 1) := by decide +kernel
theorem dX2_addLayer_5 : decode cX2_addLayer 5 = .ok (.iaload, 1) := by decide +kernel
theorem dX2_addLayer_6 : decode cX2_addLayer 6 = .ok (.istore_n 2, 1) := by decide +kernel
theorem dX2_addLayer_7 : decode cX2_addLayer 7 = .ok (.aload_n 0, 1) := by decide +kernel
theorem dX2_addLayer_8 : decode cX2_addLayer 8 = .ok (.getfield 19, 3) := by decide +kernel
theorem dX2_addLayer_11 : decode cX2_addLayer 11 = .ok (.iconst 0, 1) := by decide +kernel
theorem dX2_addLayer_12 : decode cX2_addLayer 12 = .ok (.dup2, 1) := by decide +kernel
theorem dX2_addLayer_13 : decode cX2_addLayer 13 = .ok (.iaload, 1) := by decide +kernel
theorem dX2_addLayer_14 : decode cX2_addLayer 14 = .ok (.iconst 1, 1) := by decide +kernel
theorem dX2_addLayer_15 : decode cX2_addLayer 15 = .ok (.iadd, 1) := by decide +kernel
theorem dX2_addLayer_16 : decode cX2_addLayer 16 = .ok (.iastore, 1) := by decide +kernel
theorem dX2_addLayer_17 : decode cX2_addLayer 17 = .ok (.iconst 1, 1) := by decide +kernel
theorem dX2_addLayer_18 : decode cX2_addLayer 18 = .ok (.istore_n 3, 1) := by decide +kernel
theorem dX2_addLayer_19 : decode cX2_addLayer 19 = .ok (.iload_n 3, 1) := by decide +kernel
theorem dX2_addLayer_20 : decode cX2_addLayer 20 = .ok (.aload_n 0, 1) := by decide +kernel
theorem dX2_addLayer_21 : decode cX2_addLayer 21 = .ok (.getfield 15, 3) := by decide +kernel
theorem dX2_addLayer_24 : decode cX2_addLayer 24 = .ok (.if_icmp .gt 62, 3) := by decide +kernel
theorem dX2_addLayer_27 : decode cX2_addLayer 27 = .ok (.iload_n 2, 1) := by decide +kernel
theorem dX2_addLayer_28 : decode cX2_addLayer 28 = .ok (.aload_n 0, 1) := by decide +kernel
theorem dX2_addLayer_29 : decode cX2_addLayer 29 = .ok (.getfield 9, 3) := by decide +kernel
theorem dX2_addLayer_32 : decode cX2_addLayer 32 = .ok (.iload_n 3, 1) := by decide +kernel
theorem dX2_addLayer_33 : decode cX2_addLayer 33 = .ok (.iconst 1, 1) := by decide +kernel
theorem dX2_addLayer_34 : decode cX2_addLayer 34 = .ok (.isub, 1) := by decide +kernel
theorem dX2_addLayer_35 : decode cX2_addLayer 35 = .ok (.iaload, 1) := by decide +kernel
theorem dX2_addLayer_36 : decode cX2_addLayer 36 = .ok (.iload_n 1, 1) := by decide +kernel
theorem dX2_addLayer_37 : decode cX2_addLayer 37 = .ok (.if_icmp .ne 7, 3) := by decide +kernel
theorem dX2_addLayer_40 : decode cX2_addLayer 40 = .ok (.iconst 0, 1) := by decide +kernel
theorem dX2_addLayer_41 : decode cX2_addLayer 41 = .ok (.goto 4, 3) := by decide +kernel
theorem dX2_addLayer_44 : decode cX2_addLayer 44 = .ok (.iconst 1, 1) := by decide +kernel
theorem dX2_addLayer_45 : decode cX2_addLayer 45 = .ok (.iadd, 1) := by decide +kernel
theorem dX2_addLayer_46 : decode cX2_addLayer 46 = .ok (.istore 4, 2) := by decide +kernel
theorem dX2_addLayer_48 : decode cX2_addLayer 48 = .ok (.aload_n 0, 1) := by decide +kernel
theorem dX2_addLayer_49 : decode cX2_addLayer 49 = .ok (.getfield 19, 3) := by decide +kernel
theorem dX2_addLayer_52 : decode cX2_addLayer 52 = .ok (.iload_n 3, 1) := by decide +kernel
theorem dX2_addLayer_53 : decode cX2_addLayer 53 = .ok (.iaload, 1) := by decide +kernel
theorem dX2_addLayer_54 : decode cX2_addLayer 54 = .ok (.istore_n 2, 1) := by decide +kernel
theorem dX2_addLayer_55 : decode cX2_addLayer 55 = .ok (.aload_n 0, 1) := by decide +kernel
theorem dX2_addLayer_56 : decode cX2_addLayer 56 = .ok (.getfield 19, 3) := by decide +kernel
theorem dX2_addLayer_59 : decode cX2_addLayer 59 = .ok (.iload_n 3, 1) := by decide +kernel
theorem dX2_addLayer_60 : decode cX2_addLayer 60 = .ok (.iload 4, 2) := by decide +kernel
theorem dX2_addLayer_62 : decode cX2_addLayer 62 = .ok (.iconst 1, 1) := by decide +kernel
theorem dX2_addLayer_63 : decode cX2_addLayer 63 = .ok (.iload_n 2, 1) := by decide +kernel
theorem dX2_addLayer_64 : decode cX2_addLayer 64 = .ok (.aload_n 0, 1) := by decide +kernel
theorem dX2_addLayer_65 : decode cX2_addLayer 65 = .ok (.getfield 19, 3) := by decide +kernel
theorem dX2_addLayer_68 : decode cX2_addLayer 68 = .ok (.iload_n 3, 1) := by decide +kernel
theorem dX2_addLayer_69 : decode cX2_addLayer 69 = .ok (.iconst 1, 1) := by decide +kernel
theorem dX2_addLayer_70 : decode cX2_addLayer 70 = .ok (.isub, 1) := by decide +kernel
theorem dX2_addLayer_71 : decode cX2_addLayer 71 = .ok (.iaload, 1) := by decide +kernel
theorem dX2_addLayer_72 : decode cX2_addLayer 72 = .ok (.invokestatic 35, 3) := by decide +kernel
theorem dX2_addLayer_75 : decode cX2_addLayer 75 = .ok (.iadd, 1) := by decide +kernel
theorem dX2_addLayer_76 : decode cX2_addLayer 76 = .ok (.invokestatic 35, 3) := by decide +kernel
theorem dX2_addLayer_79 : decode cX2_addLayer 79 = .ok (.iastore, 1) := by decide +kernel
theorem dX2_addLayer_80 : decode cX2_addLayer 80 = .ok (.iinc 3 1, 3) := by decide +kernel
theorem dX2_addLayer_83 : decode cX2_addLayer 83 = .ok (.goto (-64), 3) := by decide +kernel
theorem dX2_addLayer_86 : decode cX2_addLayer 86 = .ok (.return_, 1) := by decide +kernel
theorem dX2_firstUnlike_0 : decode cX2_firstUnlike 0 = .ok (.iconst 0, 1) := by decide +kernel
theorem dX2_firstUnlike_1 : decode cX2_firstUnlike 1 = .ok (.istore_n 2, 1) := by decide +kernel
theorem dX2_firstUnlike_2 : decode cX2_firstUnlike 2 = .ok (.iconst 0, 1) := by decide +kernel
theorem dX2_firstUnlike_3 : decode cX2_firstUnlike 3 = .ok (.istore_n 3, 1) := by decide +kernel
theorem dX2_firstUnlike_4 : decode cX2_firstUnlike 4 = .ok (.iload_n 3, 1) := by decide +kernel
theorem dX2_firstUnlike_5 : decode cX2_firstUnlike 5 = .ok (.aload_n 1, 1) := by decide +kernel
theorem dX2_firstUnlike_6 : decode cX2_firstUnlike 6 = .ok (.getfield 22, 3) := by decide +kernel
theorem dX2_firstUnlike_9 : decode cX2_firstUnlike 9 = .ok (.if_icmp .ge 46, 3) := by decide +kernel
theorem dX2_firstUnlike_12 : decode cX2_firstUnlike 12 = .ok (.aload_n 1, 1) := by decide +kernel
theorem dX2_firstUnlike_13 : decode cX2_firstUnlike 13 = .ok (.getfield 25, 3) := by decide +kernel
theorem dX2_firstUnlike_16 : decode cX2_firstUnlike 16 = .ok (.iload_n 3, 1) := by decide +kernel
theorem dX2_firstUnlike_17 : decode cX2_firstUnlike 17 = .ok (.iaload, 1) := by decide +kernel
theorem dX2_firstUnlike_18 : decode cX2_firstUnlike 18 = .ok (.ifCond .le 31, 3) := by decide +kernel
theorem dX2_firstUnlike_21 : decode cX2_firstUnlike 21 = .ok (.iload_n 2, 1) := by decide +kernel
theorem dX2_firstUnlike_22 : decode cX2_firstUnlike 22 = .ok (.aload_n 0, 1) := by decide +kernel
theorem dX2_firstUnlike_23 : decode cX2_firstUnlike 23 = .ok (.getfield 15, 3) := by decide +kernel
theorem dX2_firstUnlike_26 : decode cX2_firstUnlike 26 = .ok (.if_icmp .ge 18, 3) := by decide +kernel
theorem dX2_firstUnlike_29 : decode cX2_firstUnlike 29 = .ok (.aload_n 0, 1) := by decide +kernel
theorem dX2_firstUnlike_30 : decode cX2_firstUnlike 30 = .ok (.getfield 9, 3) := by decide +kernel
theorem dX2_firstUnlike_33 : decode cX2_firstUnlike 33 = .ok (.iload_n 2, 1) := by decide +kernel
theorem dX2_firstUnlike_34 : decode cX2_firstUnlike 34 = .ok (.iaload, 1) := by decide +kernel
theorem dX2_firstUnlike_35 : decode cX2_firstUnlike 35 = .ok (.aload_n 1, 1) := by decide +kernel
theorem dX2_firstUnlike_36 : decode cX2_firstUnlike 36 = .ok (.getfield 28, 3) := by decide +kernel
theorem dX2_firstUnlike_39 : decode cX2_firstUnlike 39 = .ok (.iload_n 3, 1) := by decide +kernel
theorem dX2_firstUnlike_40 : decode cX2_firstUnlike 40 = .ok (.iaload, 1) := by decide +kernel
theorem dX2_firstUnlike_41 : decode cX2_firstUnlike 41 = .ok (.if_icmp .eq 5, 3) := by decide +kernel
theorem dX2_firstUnlike_44 : decode cX2_firstUnlike 44 = .ok (.iload_n 3, 1) := by decide +kernel
theorem dX2_firstUnlike_45 : decode cX2_firstUnlike 45 = .ok (.ireturn, 1) := by decide +kernel
theorem dX2_firstUnlike_46 : decode cX2_firstUnlike 46 = .ok (.iinc 2 1, 3) := by decide +kernel
theorem dX2_firstUnlike_49 : decode cX2_firstUnlike 49 = .ok (.iinc 3 1, 3) := by decide +kernel
theorem dX2_firstUnlike_52 : decode cX2_firstUnlike 52 = .ok (.goto (-48), 3) := by decide +kernel
theorem dX2_firstUnlike_55 : decode cX2_firstUnlike 55 = .ok (.aload_n 1, 1) := by decide +kernel
theorem dX2_firstUnlike_56 : decode cX2_firstUnlike 56 = .ok (.getfield 22, 3) := by decide +kernel
theorem dX2_firstUnlike_59 : decode cX2_firstUnlike 59 = .ok (.ireturn, 1) := by decide +kernel
theorem dX3_init_0 : decode cX3_init 0 = .ok (.aload_n 0, 1) := by decide +kernel
theorem dX3_init_1 : decode cX3_init 1 = .ok (.invokespecial 3, 3) := by decide +kernel
theorem dX3_init_4 : decode cX3_init 4 = .ok (.aload_n 0, 1) := by decide +kernel
theorem dX3_init_5 : decode cX3_init 5 = .ok (.sipush 400, 3) := by decide +kernel
theorem dX3_init_8 : decode cX3_init 8 = .ok (.newarray .byte, 2) := by decide +kernel
theorem dX3_init_10 : decode cX3_init 10 = .ok (.putfield 9, 3) := by decide +kernel
theorem dX3_init_13 : decode cX3_init 13 = .ok (.aload_n 0, 1) := by decide +kernel
theorem dX3_init_14 : decode cX3_init 14 = .ok (.iconst 0, 1) := by decide +kernel
theorem dX3_init_15 : decode cX3_init 15 = .ok (.putfield 15, 3) := by decide +kernel
theorem dX3_init_18 : decode cX3_init 18 = .ok (.aload_n 0, 1) := by decide +kernel
theorem dX3_init_19 : decode cX3_init 19 = .ok (.iconst 4, 1) := by decide +kernel
theorem dX3_init_20 : decode cX3_init 20 = .ok (.newarray .int, 2) := by decide +kernel
theorem dX3_init_22 : decode cX3_init 22 = .ok (.putfield 19, 3) := by decide +kernel
theorem dX3_init_25 : decode cX3_init 25 = .ok (.aload_n 0, 1) := by decide +kernel
theorem dX3_init_26 : decode cX3_init 26 = .ok (.iconst 0, 1) := by decide +kernel
theorem dX3_init_27 : decode cX3_init 27 = .ok (.putfield 23, 3) := by decide +kernel
theorem dX3_init_30 : decode cX3_init 30 = .ok (.aload_n 0, 1) := by decide +kernel
theorem dX3_init_31 : decode cX3_init 31 = .ok (.iconst 0, 1) := by decide +kernel
theorem dX3_init_32 : decode cX3_init 32 = .ok (.putfield 26, 3) := by decide +kernel
theorem dX3_init_35 : decode cX3_init 35 = .ok (.aload_n 0, 1) := by decide +kernel
theorem dX3_init_36 : decode cX3_init 36 = .ok (.iconst 0, 1) := by decide +kernel
theorem dX3_init_37 : decode cX3_init 37 = .ok (.putfield 29, 3) := by decide +kernel
theorem dX3_init_40 : decode cX3_init 40 = .ok (.return_, 1) := by decide +kernel
theorem dX3_append_0 : decode cX3_append 0 = .ok (.iload_n 1, 1) := by decide +kernel
theorem dX3_append_1 : decode cX3_append 1 = .ok (.sipush 400, 3) := by decide +kernel
theorem dX3_append_4 : decode cX3_append 4 = .ok (.aload_n 0, 1) := by decide +kernel
theorem dX3_append_5 : decode cX3_append 5 = .ok (.getfield 15, 3) := by decide +kernel
theorem dX3_append_8 : decode cX3_append 8 = .ok (.isub, 1) := by decide +kernel
theorem dX3_append_9 : decode cX3_append 9 = .ok (.if_icmp .le 5, 3) := by decide +kernel
theorem dX3_append_12 : decode cX3_append 12 = .ok (.iconst 0, 1) := by decide +kernel
theorem dX3_append_13 : decode cX3_append 13 = .ok (.ireturn, 1) := by decide +kernel
theorem dX3_append_14 : decode cX3_append 14 = .ok (.iload_n 1, 1) := by decide +kernel
theorem dX3_append_15 : decode cX3_append 15 = .ok (.iconst 1, 1) := by decide +kernel
theorem dX3_append_16 : decode cX3_append 16 = .ok (.isub, 1) := by decide +kernel
theorem dX3_append_17 : decode cX3_append 17 = .ok (.istore 4, 2) := by decide +kernel
theorem dX3_append_19 : decode cX3_append 19 = .ok (.iload 4, 2) := by decide +kernel
theorem dX3_append_21 : decode cX3_append 21 = .ok (.ifCond .lt 37, 3) := by decide +kernel
theorem dX3_append_24 : decode cX3_append 24 = .ok (.aload_n 0, 1) := by decide +kernel
theorem dX3_append_25 : decode cX3_append 25 = .ok (.getfield 9, 3) := by decide +kernel
theorem dX3_append_28 : decode cX3_append 28 = .ok (.aload_n 0, 1) := by decide +kernel
theorem dX3_append_29 : decode cX3_append 29 = .ok (.getfield 15, 3) := by decide +kernel
theorem dX3_append_32 : decode cX3_append 32 = .ok (.lload_n 2, 1) := by decide +kernel
theorem dX3_append_33 : decode cX3_append 33 = .ok (.bipush 8, 2) := by decide +kernel
theorem dX3_append_35 : decode cX3_append 35 = .ok (.iload 4, 2) := by decide +kernel
theorem dX3_append_37 : decode cX3_append 37 = .ok (.imul, 1) := by decide +kernel
theorem dX3_append_38 : decode cX3_append 38 = .ok (.lushr, 1) := by decide +kernel
theorem dX3_append_39 : decode cX3_append 39 = .ok (.l2i, 1) := by decide +kernel
theorem dX3_append_40 : decode cX3_append 40 = .ok (.i2b, 1) := by decide +kernel
theorem dX3_append_41 : decode cX3_append 41 = .ok (.bastore, 1) := by decide +kernel
theorem dX3_append_42 : decode cX3_append 42 = .ok (.aload_n 0, 1) := by decide +kernel
theorem dX3_append_43 : decode cX3_append 43 = .ok (.dup, 1) := by decide +kernel
theorem dX3_append_44 : decode cX3_append 44 = .ok (.getfield 15, 3) := by decide +kernel
theorem dX3_append_47 : decode cX3_append 47 = .ok (.iconst 1, 1) := by decide +kernel
theorem dX3_append_48 : decode cX3_append 48 = .ok (.iadd, 1) := by decide +kernel
theorem dX3_append_49 : decode cX3_append 49 = .ok (.putfield 15, 3) := by decide +kernel
theorem dX3_append_52 : decode cX3_append 52 = .ok (.iinc 4 (-1), 3) := by decide +kernel
theorem dX3_append_55 : decode cX3_append 55 = .ok (.goto (-36), 3) := by decide +kernel
theorem dX3_append_58 : decode cX3_append 58 = .ok (.iconst 1, 1) := by decide +kernel
theorem dX3_append_59 : decode cX3_append 59 = .ok (.ireturn, 1) := by decide +kernel
theorem dX3_clear_0 : decode cX3_clear 0 = .ok (.aload_n 0, 1) := by decide +kernel
theorem dX3_clear_1 : decode cX3_clear 1 = .ok (.getfield 15, 3) := by decide +kernel
theorem dX3_clear_4 : decode cX3_clear 4 = .ok (.istore_n 1, 1) := by decide +kernel
theorem dX3_clear_5 : decode cX3_clear 5 = .ok (.aload_n 0, 1) := by decide +kernel
theorem dX3_clear_6 : decode cX3_clear 6 = .ok (.iconst 0, 1) := by decide +kernel
theorem dX3_clear_7 : decode cX3_clear 7 = .ok (.putfield 15, 3) := by decide +kernel
theorem dX3_clear_10 : decode cX3_clear 10 = .ok (.iload_n 1, 1) := by decide +kernel
theorem dX3_clear_11 : decode cX3_clear 11 = .ok (.ireturn, 1) := by decide +kernel
theorem dX3_tellTo_0 : decode cX3_tellTo 0 = .ok (.aload_n 1, 1) := by decide +kernel
theorem dX3_tellTo_1 : decode cX3_tellTo 1 = .ok (.invokevirtual 32, 3) := by decide +kernel
theorem dX3_tellTo_4 : decode cX3_tellTo 4 = .ok (.iconst 0, 1) := by decide +kernel
theorem dX3_tellTo_5 : decode cX3_tellTo 5 = .ok (.istore_n 2, 1) := by decide +kernel
theorem dX3_tellTo_6 : decode cX3_tellTo 6 = .ok (.iconst 0, 1) := by decide +kernel
theorem dX3_tellTo_7 : decode cX3_tellTo 7 = .ok (.istore_n 3, 1) := by decide +kernel
theorem dX3_tellTo_8 : decode cX3_tellTo 8 = .ok (.iload_n 3, 1) := by decide +kernel
theorem dX3_tellTo_9 : decode cX3_tellTo 9 = .ok (.aload_n 0, 1) := by decide +kernel
theorem dX3_tellTo_10 : decode cX3_tellTo 10 = .ok (.getfield 15, 3) := by decide +kernel
theorem dX3_tellTo_13 : decode cX3_tellTo 13 = .ok (.if_icmp .ge 114, 3) := by decide +kernel
theorem dX3_tellTo_16 : decode cX3_tellTo 16 = .ok (.aload_n 0, 1) := by decide +kernel
theorem dX3_tellTo_17 : decode cX3_tellTo 17 = .ok (.getfield 9, 3) := by decide +kernel
theorem dX3_tellTo_20 : decode cX3_tellTo 20 = .ok (.iload_n 3, 1) := by decide +kernel
theorem dX3_tellTo_21 : decode cX3_tellTo 21 = .ok (.baload, 1) := by decide +kernel
theorem dX3_tellTo_22 : decode cX3_tellTo 22 = .ok (.istore 4, 2) := by decide +kernel
theorem dX3_tellTo_24 : decode cX3_tellTo 24 = .ok (.iload_n 3, 1) := by decide +kernel
theorem dX3_tellTo_25 : decode cX3_tellTo 25 = .ok (.iload_n 2, 1) := by decide +kernel
theorem dX3_tellTo_26 : decode cX3_tellTo 26 = .ok (.if_icmp .ne 10, 3) := by decide +kernel
theorem dX3_tellTo_29 : decode cX3_tellTo 29 = .ok (.aload_n 0, 1) := by decide +kernel
theorem dX3_tellTo_30 : decode cX3_tellTo 30 = .ok (.invokevirtual 37, 3) := by decide +kernel
theorem dX3_tellTo_33 : decode cX3_tellTo 33 = .ok (.goto 88, 3) := by decide +kernel
theorem dX3_tellTo_36 : decode cX3_tellTo 36 = .ok (.iload 4, 2) := by decide +kernel
theorem dX3_tellTo_38 : decode cX3_tellTo 38 = .ok (.bipush 48, 2) := by decide +kernel
theorem dX3_tellTo_40 : decode cX3_tellTo 40 = .ok (.if_icmp .lt 24, 3) := by decide +kernel
theorem dX3_tellTo_43 : decode cX3_tellTo 43 = .ok (.iload 4, 2) := by decide +kernel
theorem dX3_tellTo_45 : decode cX3_tellTo 45 = .ok (.bipush 57, 2) := by decide +kernel
theorem dX3_tellTo_47 : decode cX3_tellTo 47 = .ok (.if_icmp .gt 17, 3) := by decide +kernel
theorem dX3_tellTo_50 : decode cX3_tellTo 50 = .ok (.aload_n 0, 1) := by decide +kernel
theorem dX3_tellTo_51 : decode cX3_tellTo 51 = .ok (.iload 4, 2) := by decide +kernel
theorem dX3_tellTo_53 : decode cX3_tellTo 53 = .ok (.bipush 48, 2) := by decide +kernel
theorem dX3_tellTo_55 : decode cX3_tellTo 55 = .ok (.isub, 1) := by decide +kernel
theorem dX3_tellTo_56 : decode cX3_tellTo 56 = .ok (.invokevirtual 40, 3) := by decide +kernel
theorem dX3_tellTo_59 : decode cX3_tellTo 59 = .ok (.ifCond .ne 62, 3) := by decide +kernel
theorem dX3_tellTo_62 : decode cX3_tellTo 62 = .ok (.iload_n 2, 1) := by decide +kernel
theorem dX3_tellTo_63 : decode cX3_tellTo 63 = .ok (.ireturn, 1) := by decide +kernel
theorem dX3_tellTo_64 : decode cX3_tellTo 64 = .ok (.iload 4, 2) := by decide +kernel
theorem dX3_tellTo_66 : decode cX3_tellTo 66 = .ok (.bipush 44, 2) := by decide +kernel
theorem dX3_tellTo_68 : decode cX3_tellTo 68 = .ok (.if_icmp .eq 10, 3) := by decide +kernel
theorem dX3_tellTo_71 : decode cX3_tellTo 71 = .ok (.iload 4, 2) := by decide +kernel
theorem dX3_tellTo_73 : decode cX3_tellTo 73 = .ok (.bipush 59, 2) := by decide +kernel
theorem dX3_tellTo_75 : decode cX3_tellTo 75 = .ok (.if_icmp .ne 10, 3) := by decide +kernel
theorem dX3_tellTo_78 : decode cX3_tellTo 78 = .ok (.aload_n 0, 1) := by decide +kernel
theorem dX3_tellTo_79 : decode cX3_tellTo 79 = .ok (.invokevirtual 44, 3) := by decide +kernel
theorem dX3_tellTo_82 : decode cX3_tellTo 82 = .ok (.ifCond .ne 5, 3) := by decide +kernel
theorem dX3_tellTo_85 : decode cX3_tellTo 85 = .ok (.iload_n 2, 1) := by decide +kernel
theorem dX3_tellTo_86 : decode cX3_tellTo 86 = .ok (.ireturn, 1) := by decide +kernel
theorem dX3_tellTo_87 : decode cX3_tellTo 87 = .ok (.iload 4, 2) := by decide +kernel
theorem dX3_tellTo_89 : decode cX3_tellTo 89 = .ok (.bipush 59, 2) := by decide +kernel
theorem dX3_tellTo_91 : decode cX3_tellTo 91 = .ok (.if_icmp .ne 30, 3) := by decide +kernel
theorem dX3_tellTo_94 : decode cX3_tellTo 94 = .ok (.aload_n 1, 1) := by decide +kernel
theorem dX3_tellTo_95 : decode cX3_tellTo 95 = .ok (.aload_n 0, 1) := by decide +kernel
theorem dX3_tellTo_96 : decode cX3_tellTo 96 = .ok (.getfield 9, 3) := by decide +kernel
theorem dX3_tellTo_99 : decode cX3_tellTo 99 = .ok (.iload_n 2, 1) := by decide +kernel
theorem dX3_tellTo_100 : decode cX3_tellTo 100 = .ok (.baload, 1) := by decide +kernel
theorem dX3_tellTo_101 : decode cX3_tellTo 101 = .ok (.aload_n 0, 1) := by decide +kernel
theorem dX3_tellTo_102 : decode cX3_tellTo 102 = .ok (.getfield 19, 3) := by decide +kernel
theorem dX3_tellTo_105 : decode cX3_tellTo 105 = .ok (.aload_n 0, 1) := by decide +kernel
theorem dX3_tellTo_106 : decode cX3_tellTo 106 = .ok (.getfield 23, 3) := by decide +kernel
theorem dX3_tellTo_109 : decode cX3_tellTo 109 = .ok (.invokevirtual 48, 3) := by decide +kernel
theorem dX3_tellTo_112 : decode cX3_tellTo 112 = .ok (.ifCond .ne 5, 3) := by decide +kernel
theorem dX3_tellTo_115 : decode cX3_tellTo 115 = .ok (.iload_n 2, 1) := by decide +kernel
theorem dX3_tellTo_116 : decode cX3_tellTo 116 = .ok (.ireturn, 1) := by decide +kernel
theorem dX3_tellTo_117 : decode cX3_tellTo 117 = .ok (.iload_n 3, 1) := by decide +kernel
theorem dX3_tellTo_118 : decode cX3_tellTo 118 = .ok (.iconst 1, 1) := by decide +kernel
theorem dX3_tellTo_119 : decode cX3_tellTo 119 = .ok (.iadd, 1) := by decide +kernel
theorem dX3_tellTo_120 : decode cX3_tellTo 120 = .ok (.istore_n 2, 1) := by decide +kernel
theorem dX3_tellTo_121 : decode cX3_tellTo 121 = .ok (.iinc 3 1, 3) := by decide +kernel
theorem dX3_tellTo_124 : decode cX3_tellTo 124 = .ok (.goto (-116), 3) := by decide +kernel
theorem dX3_tellTo_127 : decode cX3_tellTo 127 = .ok (.iload_n 2, 1) := by decide +kernel
theorem dX3_tellTo_128 : decode cX3_tellTo 128 = .ok (.aload_n 0, 1) := by decide +kernel
theorem dX3_tellTo_129 : decode cX3_tellTo 129 = .ok (.getfield 15, 3) := by decide +kernel
theorem dX3_tellTo_132 : decode cX3_tellTo 132 = .ok (.if_icmp .ne 8, 3) := by decide +kernel
theorem dX3_tellTo_135 : decode cX3_tellTo 135 = .ok (.bipush (-4), 2) := by decide +kernel
theorem dX3_tellTo_137 : decode cX3_tellTo 137 = .ok (.goto 4, 3) := by decide +kernel
theorem dX3_tellTo_140 : decode cX3_tellTo 140 = .ok (.iload_n 2, 1) := by decide +kernel
theorem dX3_tellTo_141 : decode cX3_tellTo 141 = .ok (.ireturn, 1) := by decide +kernel
theorem dX3_startItem_0 : decode cX3_startItem 0 = .ok (.aload_n 0, 1) := by decide +kernel
theorem dX3_startItem_1 : decode cX3_startItem 1 = .ok (.iconst 0, 1) := by decide +kernel
theorem dX3_startItem_2 : decode cX3_startItem 2 = .ok (.putfield 23, 3) := by decide +kernel
theorem dX3_startItem_5 : decode cX3_startItem 5 = .ok (.aload_n 0, 1) := by decide +kernel
theorem dX3_startItem_6 : decode cX3_startItem 6 = .ok (.iconst 0, 1) := by decide +kernel
theorem dX3_startItem_7 : decode cX3_startItem 7 = .ok (.putfield 26, 3) := by decide +kernel
theorem dX3_startItem_10 : decode cX3_startItem 10 = .ok (.aload_n 0, 1) := by decide +kernel
theorem dX3_startItem_11 : decode cX3_startItem 11 = .ok (.iconst 0, 1) := by decide +kernel
theorem dX3_startItem_12 : decode cX3_startItem 12 = .ok (.putfield 29, 3) := by decide +kernel
theorem dX3_startItem_15 : decode cX3_startItem 15 = .ok (.return_, 1) := by decide +kernel
theorem dX3_addFigure_0 : decode cX3_addFigure 0 = .ok (.aload_n 0, 1) := by decide +kernel
theorem dX3_addFigure_1 : decode cX3_addFigure 1 = .ok (.getfield 26, 3) := by decide +kernel
theorem dX3_addFigure_4 : decode cX3_addFigure 4 = .ok (.iconst 3, 1) := by decide +kernel
theorem dX3_addFigure_5 : decode cX3_addFigure 5 = .ok (.if_icmp .lt 5, 3) := by decide +kernel
theorem dX3_addFigure_8 : decode cX3_addFigure 8 = .ok (.iconst 0, 1) := by decide +kernel
theorem dX3_addFigure_9 : decode cX3_addFigure 9 = .ok (.ireturn, 1) := by decide +kernel
theorem dX3_addFigure_10 : decode cX3_addFigure 10 = .ok (.aload_n 0, 1) := by decide +kernel
theorem dX3_addFigure_11 : decode cX3_addFigure 11 = .ok (.dup, 1) := by decide +kernel
theorem dX3_addFigure_12 : decode cX3_addFigure 12 = .ok (.getfield 26, 3) := by decide +kernel
theorem dX3_addFigure_15 : decode cX3_addFigure 15 = .ok (.iconst 1, 1) := by decide +kernel
theorem dX3_addFigure_16 : decode cX3_addFigure 16 = .ok (.iadd, 1) := by decide +kernel
theorem dX3_addFigure_17 : decode cX3_addFigure 17 = .ok (.putfield 26, 3) := by decide +kernel
theorem dX3_addFigure_20 : decode cX3_addFigure 20 = .ok (.aload_n 0, 1) := by decide +kernel
theorem dX3_addFigure_21 : decode cX3_addFigure 21 = .ok (.bipush 10, 2) := by decide +kernel
theorem dX3_addFigure_23 : decode cX3_addFigure 23 = .ok (.aload_n 0, 1) := by decide +kernel
theorem dX3_addFigure_24 : decode cX3_addFigure 24 = .ok (.getfield 29, 3) := by decide +kernel
theorem dX3_addFigure_27 : decode cX3_addFigure 27 = .ok (.imul, 1) := by decide +kernel
theorem dX3_addFigure_28 : decode cX3_addFigure 28 = .ok (.iload_n 1, 1) := by decide +kernel
theorem dX3_addFigure_29 : decode cX3_addFigure 29 = .ok (.iadd, 1) := by decide +kernel
theorem dX3_addFigure_30 : decode cX3_addFigure 30 = .ok (.putfield 29, 3) := by decide +kernel
theorem dX3_addFigure_33 : decode cX3_addFigure 33 = .ok (.iconst 1, 1) := by decide +kernel
theorem dX3_addFigure_34 : decode cX3_addFigure 34 = .ok (.ireturn, 1) := by decide +kernel
theorem dX3_endNumber_0 : decode cX3_endNumber 0 = .ok (.aload_n 0, 1) := by decide +kernel
theorem dX3_endNumber_1 : decode cX3_endNumber 1 = .ok (.getfield 26, 3) := by decide +kernel
theorem dX3_endNumber_4 : decode cX3_endNumber 4 = .ok (.ifCond .eq 11, 3) := by decide +kernel
theorem dX3_endNumber_7 : decode cX3_endNumber 7 = .ok (.aload_n 0, 1) := by decide +kernel
theorem dX3_endNumber_8 : decode cX3_endNumber 8 = .ok (.getfield 23, 3) := by decide +kernel
theorem dX3_endNumber_11 : decode cX3_endNumber 11 = .ok (.iconst 4, 1) := by decide +kernel
theorem dX3_endNumber_12 : decode cX3_endNumber 12 = .ok (.if_icmp .lt 5, 3) := by decide +kernel
theorem dX3_endNumber_15 : decode cX3_endNumber 15 = .ok (.iconst 0, 1) := by decide +kernel
theorem dX3_endNumber_16 : decode cX3_endNumber 16 = .ok (.ireturn, 1) := by decide +kernel
theorem dX3_endNumber_17 : decode cX3_endNumber 17 = .ok (.aload_n 0, 1) := by decide +kernel
theorem dX3_endNumber_18 : decode cX3_endNumber 18 = .ok (.getfield 19, 3) := by decide +kernel
theorem dX3_endNumber_21 : decode cX3_endNumber 21 = .ok (.aload_n 0, 1) := by decide +kernel
theorem dX3_endNumber_22 : decode cX3_endNumber 22 = .ok (.getfield 23, 3) := by decide +kernel
theorem dX3_endNumber_25 : decode cX3_endNumber 25 = .ok (.aload_n 0, 1) := by decide +kernel
theorem dX3_endNumber_26 : decode cX3_endNumber 26 = .ok (.getfield 29, 3) := by decide +kernel
theorem dX3_endNumber_29 : decode cX3_endNumber 29 = .ok (.iastore, 1) := by decide +kernel
theorem dX3_endNumber_30 : decode cX3_endNumber 30 = .ok (.aload_n 0, 1) := by decide +kernel
theorem dX3_endNumber_31 : decode cX3_endNumber 31 = .ok (.dup, 1) := by decide +kernel
theorem dX3_endNumber_32 : decode cX3_endNumber 32 = .ok (.getfield 23, 3) := by decide +kernel
theorem dX3_endNumber_35 : decode cX3_endNumber 35 = .ok (.iconst 1, 1) := by decide +kernel
theorem dX3_endNumber_36 : decode cX3_endNumber 36 = .ok (.iadd, 1) := by decide +kernel
theorem dX3_endNumber_37 : decode cX3_endNumber 37 = .ok (.putfield 23, 3) := by decide +kernel
theorem dX3_endNumber_40 : decode cX3_endNumber 40 = .ok (.aload_n 0, 1) := by decide +kernel
theorem dX3_endNumber_41 : decode cX3_endNumber 41 = .ok (.iconst 0, 1) := by decide +kernel
theorem dX3_endNumber_42 : decode cX3_endNumber 42 = .ok (.putfield 26, 3) := by decide +kernel
theorem dX3_endNumber_45 : decode cX3_endNumber 45 = .ok (.aload_n 0, 1) := by decide +kernel
theorem dX3_endNumber_46 : decode cX3_endNumber 46 = .ok (.iconst 0, 1) := by decide +kernel
theorem dX3_endNumber_47 : decode cX3_endNumber 47 = .ok (.putfield 29, 3) := by decide +kernel
theorem dX3_endNumber_50 : decode cX3_endNumber 50 = .ok (.iconst 1, 1) := by decide +kernel
theorem dX3_endNumber_51 : decode cX3_endNumber 51 = .ok (.ireturn, 1) := by decide +kernel
theorem dX4_init_0 : decode cX4_init 0 = .ok (.aload_n 0, 1) := by decide +kernel
theorem dX4_init_1 : decode cX4_init 1 = .ok (.invokespecial 3, 3) := by decide +kernel
theorem dX4_init_4 : decode cX4_init 4 = .ok (.aload_n 0, 1) := by decide +kernel
theorem dX4_init_5 : decode cX4_init 5 = .ok (.iconst 3, 1) := by decide +kernel
theorem dX4_init_6 : decode cX4_init 6 = .ok (.bipush 7, 2) := by decide +kernel
theorem dX4_init_8 : decode cX4_init 8 = .ok (.multianewarray 9 2, 4) := by decide +kernel
theorem dX4_init_12 : decode cX4_init 12 = .ok (.putfield 11, 3) := by decide +kernel
theorem dX4_init_15 : decode cX4_init 15 = .ok (.aload_n 0, 1) := by decide +kernel
theorem dX4_init_16 : decode cX4_init 16 = .ok (.iconst 0, 1) := by decide +kernel
theorem dX4_init_17 : decode cX4_init 17 = .ok (.putfield 16, 3) := by decide +kernel
theorem dX4_init_20 : decode cX4_init 20 = .ok (.aload_n 0, 1) := by decide +kernel
theorem dX4_init_21 : decode cX4_init 21 = .ok (.iconst 0, 1) := by decide +kernel
theorem dX4_init_22 : decode cX4_init 22 = .ok (.putfield 20, 3) := by decide +kernel
theorem dX4_init_25 : decode cX4_init 25 = .ok (.aload_n 0, 1) := by decide +kernel
theorem dX4_init_26 : decode cX4_init 26 = .ok (.iconst 0, 1) := by decide +kernel
theorem dX4_init_27 : decode cX4_init 27 = .ok (.putfield 23, 3) := by decide +kernel
theorem dX4_init_30 : decode cX4_init 30 = .ok (.return_, 1) := by decide +kernel
theorem dX4_choose_0 : decode cX4_choose 0 = .ok (.aload_n 0, 1) := by decide +kernel
theorem dX4_choose_1 : decode cX4_choose 1 = .ok (.iload_n 1, 1) := by decide +kernel
theorem dX4_choose_2 : decode cX4_choose 2 = .ok (.aload_n 2, 1) := by decide +kernel
theorem dX4_choose_3 : decode cX4_choose 3 = .ok (.aload_n 3, 1) := by decide +kernel
theorem dX4_choose_4 : decode cX4_choose 4 = .ok (.invokevirtual 26, 3) := by decide +kernel
theorem dX4_choose_7 : decode cX4_choose 7 = .ok (.aload_n 0, 1) := by decide +kernel
theorem dX4_choose_8 : decode cX4_choose 8 = .ok (.ldc 32, 2) := by decide +kernel
theorem dX4_choose_10 : decode cX4_choose 10 = .ok (.putfield 16, 3) := by decide +kernel
theorem dX4_choose_13 : decode cX4_choose 13 = .ok (.iload_n 1, 1) := by decide +kernel
theorem dX4_choose_14 : decode cX4_choose 14 = .ok (.istore 4, 2) := by decide +kernel
theorem dX4_choose_16 : decode cX4_choose 16 = .ok (.iload 4, 2) := by decide +kernel
theorem dX4_choose_18 : decode cX4_choose 18 = .ok (.ifCond .lt 89, 3) := by decide +kernel
theorem dX4_choose_21 : decode cX4_choose 21 = .ok (.iload_n 1, 1) := by decide +kernel
theorem dX4_choose_22 : decode cX4_choose 22 = .ok (.iload 4, 2) := by decide +kernel
theorem dX4_choose_24 : decode cX4_choose 24 = .ok (.isub, 1) := by decide +kernel
theorem dX4_choose_25 : decode cX4_choose 25 = .ok (.istore 5, 2) := by decide +kernel
theorem dX4_choose_27 : decode cX4_choose 27 = .ok (.iload 5, 2) := by decide +kernel
theorem dX4_choose_29 : decode cX4_choose 29 = .ok (.ifCond .lt 72, 3) := by decide +kernel
theorem dX4_choose_32 : decode cX4_choose 32 = .ok (.aload_n 0, 1) := by decide +kernel
theorem dX4_choose_33 : decode cX4_choose 33 = .ok (.getfield 11, 3) := by decide +kernel
theorem dX4_choose_36 : decode cX4_choose 36 = .ok (.iconst 0, 1) := by decide +kernel
theorem dX4_choose_37 : decode cX4_choose 37 = .ok (.aaload, 1) := by decide +kernel
theorem dX4_choose_38 : decode cX4_choose 38 = .ok (.iload 4, 2) := by decide +kernel
theorem dX4_choose_40 : decode cX4_choose 40 = .ok (.iaload, 1) := by decide +kernel
theorem dX4_choose_41 : decode cX4_choose 41 = .ok (.aload_n 0, 1) := by decide +kernel
theorem dX4_choose_42 : decode cX4_choose 42 = .ok (.getfield 11, 3) := by decide +kernel
theorem dX4_choose_45 : decode cX4_choose 45 = .ok (.iconst 1, 1) := by decide +kernel
theorem dX4_choose_46 : decode cX4_choose 46 = .ok (.aaload, 1) := by decide +kernel
theorem dX4_choose_47 : decode cX4_choose 47 = .ok (.iload 5, 2) := by decide +kernel
theorem dX4_choose_49 : decode cX4_choose 49 = .ok (.iaload, 1) := by decide +kernel
theorem dX4_choose_50 : decode cX4_choose 50 = .ok (.iadd, 1) := by decide +kernel
theorem dX4_choose_51 : decode cX4_choose 51 = .ok (.aload_n 0, 1) := by decide +kernel
theorem dX4_choose_52 : decode cX4_choose 52 = .ok (.getfield 11, 3) := by decide +kernel
theorem dX4_choose_55 : decode cX4_choose 55 = .ok (.iconst 2, 1) := by decide +kernel
theorem dX4_choose_56 : decode cX4_choose 56 = .ok (.aaload, 1) := by decide +kernel
theorem dX4_choose_57 : decode cX4_choose 57 = .ok (.iload_n 1, 1) := by decide +kernel
theorem dX4_choose_58 : decode cX4_choose 58 = .ok (.iload 4, 2) := by decide +kernel
theorem dX4_choose_60 : decode cX4_choose 60 = .ok (.isub, 1) := by decide +kernel
theorem dX4_choose_61 : decode cX4_choose 61 = .ok (.iload 5, 2) := by decide +kernel
theorem dX4_choose_63 : decode cX4_choose 63 = .ok (.isub, 1) := by decide +kernel
theorem dX4_choose_64 : decode cX4_choose 64 = .ok (.iaload, 1) := by decide +kernel
theorem dX4_choose_65 : decode cX4_choose 65 = .ok (.iadd, 1) := by decide +kernel
theorem dX4_choose_66 : decode cX4_choose 66 = .ok (.istore 6, 2) := by decide +kernel
theorem dX4_choose_68 : decode cX4_choose 68 = .ok (.iload 6, 2) := by decide +kernel
theorem dX4_choose_70 : decode cX4_choose 70 = .ok (.aload_n 0, 1) := by decide +kernel
theorem dX4_choose_71 : decode cX4_choose 71 = .ok (.getfield 16, 3) := by decide +kernel
theorem dX4_choose_74 : decode cX4_choose 74 = .ok (.if_icmp .ge 21, 3) := by decide +kernel
theorem dX4_choose_77 : decode cX4_choose 77 = .ok (.aload_n 0, 1) := by decide +kernel
theorem dX4_choose_78 : decode cX4_choose 78 = .ok (.iload 6, 2) := by decide +kernel
theorem dX4_choose_80 : decode cX4_choose 80 = .ok (.putfield 16, 3) := by decide +kernel
theorem dX4_choose_83 : decode cX4_choose 83 = .ok (.aload_n 0, 1) := by decide +kernel
theorem dX4_choose_84 : decode cX4_choose 84 = .ok (.iload 4, 2) := by decide +kernel
theorem dX4_choose_86 : decode cX4_choose 86 = .ok (.putfield 20, 3) := by decide +kernel
theorem dX4_choose_89 : decode cX4_choose 89 = .ok (.aload_n 0, 1) := by decide +kernel
theorem dX4_choose_90 : decode cX4_choose 90 = .ok (.iload 5, 2) := by decide +kernel
theorem dX4_choose_92 : decode cX4_choose 92 = .ok (.putfield 23, 3) := by decide +kernel
theorem dX4_choose_95 : decode cX4_choose 95 = .ok (.iinc 5 (-1), 3) := by decide +kernel
theorem dX4_choose_98 : decode cX4_choose 98 = .ok (.goto (-71), 3) := by decide +kernel
theorem dX4_choose_101 : decode cX4_choose 101 = .ok (.iinc 4 (-1), 3) := by decide +kernel
theorem dX4_choose_104 : decode cX4_choose 104 = .ok (.goto (-88), 3) := by decide +kernel
theorem dX4_choose_107 : decode cX4_choose 107 = .ok (.return_, 1) := by decide +kernel
theorem dX4_doorAt_0 : decode cX4_doorAt 0 = .ok (.iload_n 1, 1) := by decide +kernel
theorem dX4_doorAt_1 : decode cX4_doorAt 1 = .ok (.aload_n 0, 1) := by decide +kernel
theorem dX4_doorAt_2 : decode cX4_doorAt 2 = .ok (.getfield 20, 3) := by decide +kernel
theorem dX4_doorAt_5 : decode cX4_doorAt 5 = .ok (.if_icmp .ge 5, 3) := by decide +kernel
theorem dX4_doorAt_8 : decode cX4_doorAt 8 = .ok (.iconst 0, 1) := by decide +kernel
theorem dX4_doorAt_9 : decode cX4_doorAt 9 = .ok (.ireturn, 1) := by decide +kernel
theorem dX4_doorAt_10 : decode cX4_doorAt 10 = .ok (.iload_n 1, 1) := by decide +kernel
theorem dX4_doorAt_11 : decode cX4_doorAt 11 = .ok (.aload_n 0, 1) := by decide +kernel
theorem dX4_doorAt_12 : decode cX4_doorAt 12 = .ok (.getfield 20, 3) := by decide +kernel
theorem dX4_doorAt_15 : decode cX4_doorAt 15 = .ok (.aload_n 0, 1) := by decide +kernel
theorem dX4_doorAt_16 : decode cX4_doorAt 16 = .ok (.getfield 23, 3) := by decide +kernel
theorem dX4_doorAt_19 : decode cX4_doorAt 19 = .ok (.iadd, 1) := by decide +kernel
theorem dX4_doorAt_20 : decode cX4_doorAt 20 = .ok (.if_icmp .ge 7, 3) := by decide +kernel
theorem dX4_doorAt_23 : decode cX4_doorAt 23 = .ok (.iconst 1, 1) := by decide +kernel
theorem dX4_doorAt_24 : decode cX4_doorAt 24 = .ok (.goto 4, 3) := by decide +kernel
theorem dX4_doorAt_27 : decode cX4_doorAt 27 = .ok (.iconst 2, 1) := by decide +kernel
theorem dX4_doorAt_28 : decode cX4_doorAt 28 = .ok (.ireturn, 1) := by decide +kernel
theorem dX4_weigh_0 : decode cX4_weigh 0 = .ok (.iconst 0, 1) := by decide +kernel
theorem dX4_weigh_1 : decode cX4_weigh 1 = .ok (.istore 4, 2) := by decide +kernel
theorem dX4_weigh_3 : decode cX4_weigh 3 = .ok (.iload 4, 2) := by decide +kernel
theorem dX4_weigh_5 : decode cX4_weigh 5 = .ok (.iload_n 1, 1) := by decide +kernel
theorem dX4_weigh_6 : decode cX4_weigh 6 = .ok (.if_icmp .gt 98, 3) := by decide +kernel
theorem dX4_weigh_9 : decode cX4_weigh 9 = .ok (.iconst 0, 1) := by decide +kernel
theorem dX4_weigh_10 : decode cX4_weigh 10 = .ok (.istore 5, 2) := by decide +kernel
theorem dX4_weigh_12 : decode cX4_weigh 12 = .ok (.iload 5, 2) := by decide +kernel
theorem dX4_weigh_14 : decode cX4_weigh 14 = .ok (.iconst 3, 1) := by decide +kernel
theorem dX4_weigh_15 : decode cX4_weigh 15 = .ok (.if_icmp .ge 20, 3) := by decide +kernel
theorem dX4_weigh_18 : decode cX4_weigh 18 = .ok (.aload_n 0, 1) := by decide +kernel
theorem dX4_weigh_19 : decode cX4_weigh 19 = .ok (.getfield 11, 3) := by decide +kernel
theorem dX4_weigh_22 : decode cX4_weigh 22 = .ok (.iload 5, 2) := by decide +kernel
theorem dX4_weigh_24 : decode cX4_weigh 24 = .ok (.aaload, 1) := by decide +kernel
theorem dX4_weigh_25 : decode cX4_weigh 25 = .ok (.iload 4, 2) := by decide +kernel
theorem dX4_weigh_27 : decode cX4_weigh 27 = .ok (.iconst 0, 1) := by decide +kernel
theorem dX4_weigh_28 : decode cX4_weigh 28 = .ok (.iastore, 1) := by decide +kernel
theorem dX4_weigh_29 : decode cX4_weigh 29 = .ok (.iinc 5 1, 3) := by decide +kernel
theorem dX4_weigh_32 : decode cX4_weigh 32 = .ok (.goto (-20), 3) := by decide +kernel
theorem dX4_weigh_35 : decode cX4_weigh 35 = .ok (.iconst 0, 1) := by decide +kernel
theorem dX4_weigh_36 : decode cX4_weigh 36 = .ok (.istore 5, 2) := by decide +kernel
theorem dX4_weigh_38 : decode cX4_weigh 38 = .ok (.iload 5, 2) := by decide +kernel
theorem dX4_weigh_40 : decode cX4_weigh 40 = .ok (.aload_n 2, 1) := by decide +kernel
theorem dX4_weigh_41 : decode cX4_weigh 41 = .ok (.getfield 33, 3) := by decide +kernel
theorem dX4_weigh_44 : decode cX4_weigh 44 = .ok (.if_icmp .ge 54, 3) := by decide +kernel
theorem dX4_weigh_47 : decode cX4_weigh 47 = .ok (.aload_n 2, 1) := by decide +kernel
theorem dX4_weigh_48 : decode cX4_weigh 48 = .ok (.getfield 38, 3) := by decide +kernel
theorem dX4_weigh_51 : decode cX4_weigh 51 = .ok (.iload 5, 2) := by decide +kernel
theorem dX4_weigh_53 : decode cX4_weigh 53 = .ok (.iaload, 1) := by decide +kernel
theorem dX4_weigh_54 : decode cX4_weigh 54 = .ok (.iload 4, 2) := by decide +kernel
theorem dX4_weigh_56 : decode cX4_weigh 56 = .ok (.aload_n 3, 1) := by decide +kernel
theorem dX4_weigh_57 : decode cX4_weigh 57 = .ok (.getfield 42, 3) := by decide +kernel
theorem dX4_weigh_60 : decode cX4_weigh 60 = .ok (.imul, 1) := by decide +kernel
theorem dX4_weigh_61 : decode cX4_weigh 61 = .ok (.invokestatic 47, 3) := by decide +kernel
theorem dX4_weigh_64 : decode cX4_weigh 64 = .ok (.istore 6, 2) := by decide +kernel
theorem dX4_weigh_66 : decode cX4_weigh 66 = .ok (.aload_n 0, 1) := by decide +kernel
theorem dX4_weigh_67 : decode cX4_weigh 67 = .ok (.getfield 11, 3) := by decide +kernel
theorem dX4_weigh_70 : decode cX4_weigh 70 = .ok (.aload_n 2, 1) := by decide +kernel
theorem dX4_weigh_71 : decode cX4_weigh 71 = .ok (.iload 5, 2) := by decide +kernel
theorem dX4_weigh_73 : decode cX4_weigh 73 = .ok (.invokevirtual 53, 3) := by decide +kernel
theorem dX4_weigh_76 : decode cX4_weigh 76 = .ok (.aaload, 1) := by decide +kernel
theorem dX4_weigh_77 : decode cX4_weigh 77 = .ok (.iload 4, 2) := by decide +kernel
theorem dX4_weigh_79 : decode cX4_weigh 79 = .ok (.dup2, 1) := by decide +kernel
theorem dX4_weigh_80 : decode cX4_weigh 80 = .ok (.iaload, 1) := by decide +kernel
theorem dX4_weigh_81 : decode cX4_weigh 81 = .ok (.iload 6, 2) := by decide +kernel
theorem dX4_weigh_83 : decode cX4_weigh 83 = .ok (.aload_n 3, 1) := by decide +kernel
theorem dX4_weigh_84 : decode cX4_weigh 84 = .ok (.iload 5, 2) := by decide +kernel
theorem dX4_weigh_86 : decode cX4_weigh 86 = .ok (.invokevirtual 57, 3) := by decide +kernel
theorem dX4_weigh_89 : decode cX4_weigh 89 = .ok (.imul, 1) := by decide +kernel
theorem dX4_weigh_90 : decode cX4_weigh 90 = .ok (.iadd, 1) := by decide +kernel
theorem dX4_weigh_91 : decode cX4_weigh 91 = .ok (.iastore, 1) := by decide +kernel
theorem dX4_weigh_92 : decode cX4_weigh 92 = .ok (.iinc 5 1, 3) := by decide +kernel
theorem dX4_weigh_95 : decode cX4_weigh 95 = .ok (.goto (-57), 3) := by decide +kernel
theorem dX4_weigh_98 : decode cX4_weigh 98 = .ok (.iinc 4 1, 3) := by decide +kernel
theorem dX4_weigh_101 : decode cX4_weigh 101 = .ok (.goto (-98), 3) := by decide +kernel
theorem dX4_weigh_104 : decode cX4_weigh 104 = .ok (.return_, 1) := by decide +kernel
theorem dX5_init_0 : decode cX5_init 0 = .ok (.aload_n 0, 1) := by decide +kernel
theorem dX5_init_1 : decode cX5_init 1 = .ok (.invokespecial 3, 3) := by decide +kernel
theorem dX5_init_4 : decode cX5_init 4 = .ok (.aload_n 0, 1) := by decide +kernel
theorem dX5_init_5 : decode cX5_init 5 = .ok (.bipush 12, 2) := by decide +kernel
theorem dX5_init_7 : decode cX5_init 7 = .ok (.newarray .int, 2) := by decide +kernel
theorem dX5_init_9 : decode cX5_init 9 = .ok (.putfield 9, 3) := by decide +kernel
theorem dX5_init_12 : decode cX5_init 12 = .ok (.aload_n 0, 1) := by decide +kernel
theorem dX5_init_13 : decode cX5_init 13 = .ok (.bipush 12, 2) := by decide +kernel
theorem dX5_init_15 : decode cX5_init 15 = .ok (.newarray .int, 2) := by decide +kernel
theorem dX5_init_17 : decode cX5_init 17 = .ok (.putfield 15, 3) := by decide +kernel
theorem dX5_init_20 : decode cX5_init 20 = .ok (.aload_n 0, 1) := by decide +kernel
theorem dX5_init_21 : decode cX5_init 21 = .ok (.bipush 12, 2) := by decide +kernel
theorem dX5_init_23 : decode cX5_init 23 = .ok (.newarray .int, 2) := by decide +kernel
theorem dX5_init_25 : decode cX5_init 25 = .ok (.putfield 18, 3) := by decide +kernel
theorem dX5_init_28 : decode cX5_init 28 = .ok (.aload_n 0, 1) := by decide +kernel
theorem dX5_init_29 : decode cX5_init 29 = .ok (.bipush 12, 2) := by decide +kernel
theorem dX5_init_31 : decode cX5_init 31 = .ok (.newarray .int, 2) := by decide +kernel
theorem dX5_init_33 : decode cX5_init 33 = .ok (.putfield 21, 3) := by decide +kernel
theorem dX5_init_36 : decode cX5_init 36 = .ok (.aload_n 0, 1) := by decide +kernel
theorem dX5_init_37 : decode cX5_init 37 = .ok (.bipush 100, 2) := by decide +kernel
theorem dX5_init_39 : decode cX5_init 39 = .ok (.newarray .int, 2) := by decide +kernel
theorem dX5_init_41 : decode cX5_init 41 = .ok (.putfield 24, 3) := by decide +kernel
theorem dX5_init_44 : decode cX5_init 44 = .ok (.aload_n 0, 1) := by decide +kernel
theorem dX5_init_45 : decode cX5_init 45 = .ok (.invokevirtual 27, 3) := by decide +kernel
theorem dX5_init_48 : decode cX5_init 48 = .ok (.return_, 1) := by decide +kernel
theorem dX5_forget_0 : decode cX5_forget 0 = .ok (.aload_n 0, 1) := by decide +kernel
theorem dX5_forget_1 : decode cX5_forget 1 = .ok (.sipush 400, 3) := by decide +kernel
theorem dX5_forget_4 : decode cX5_forget 4 = .ok (.putfield 30, 3) := by decide +kernel
theorem dX5_forget_7 : decode cX5_forget 7 = .ok (.aload_n 0, 1) := by decide +kernel
theorem dX5_forget_8 : decode cX5_forget 8 = .ok (.bipush 60, 2) := by decide +kernel
theorem dX5_forget_10 : decode cX5_forget 10 = .ok (.putfield 34, 3) := by decide +kernel
theorem dX5_forget_13 : decode cX5_forget 13 = .ok (.aload_n 0, 1) := by decide +kernel
theorem dX5_forget_14 : decode cX5_forget 14 = .ok (.iconst 5, 1) := by decide +kernel
theorem dX5_forget_15 : decode cX5_forget 15 = .ok (.putfield 37, 3) := by decide +kernel
theorem dX5_forget_18 : decode cX5_forget 18 = .ok (.aload_n 0, 1) := by decide +kernel
theorem dX5_forget_19 : decode cX5_forget 19 = .ok (.iconst 1, 1) := by decide +kernel
theorem dX5_forget_20 : decode cX5_forget 20 = .ok (.putfield 40, 3) := by decide +kernel
theorem dX5_forget_23 : decode cX5_forget 23 = .ok (.aload_n 0, 1) := by decide +kernel
theorem dX5_forget_24 : decode cX5_forget 24 = .ok (.iconst 0, 1) := by decide +kernel
theorem dX5_forget_25 : decode cX5_forget 25 = .ok (.putfield 43, 3) := by decide +kernel
theorem dX5_forget_28 : decode cX5_forget 28 = .ok (.aload_n 0, 1) := by decide +kernel
theorem dX5_forget_29 : decode cX5_forget 29 = .ok (.iconst 0, 1) := by decide +kernel
theorem dX5_forget_30 : decode cX5_forget 30 = .ok (.putfield 46, 3) := by decide +kernel
theorem dX5_forget_33 : decode cX5_forget 33 = .ok (.aload_n 0, 1) := by decide +kernel
theorem dX5_forget_34 : decode cX5_forget 34 = .ok (.getfield 24, 3) := by decide +kernel
theorem dX5_forget_37 : decode cX5_forget 37 = .ok (.bipush 10, 2) := by decide +kernel
theorem dX5_forget_39 : decode cX5_forget 39 = .ok (.invokestatic 49, 3) := by decide +kernel
theorem dX5_forget_42 : decode cX5_forget 42 = .ok (.return_, 1) := by decide +kernel
theorem dX5_take_0 : decode cX5_take 0 = .ok (.iload_n 1, 1) := by decide +kernel
theorem dX5_take_1 : decode cX5_take 1 = .ok (.lookupswitch 159 #[(98, 59), (102, 83), (112, 113), (115, 137), (116, 137), (118, 137)], 59) := by decide +kernel
theorem dX5_take_60 : decode cX5_take 60 = .ok (.iload_n 3, 1) := by decide +kernel
theorem dX5_take_61 : decode cX5_take 61 = .ok (.iconst 2, 1) := by decide +kernel
theorem dX5_take_62 : decode cX5_take 62 = .ok (.if_icmp .ne 20, 3) := by decide +kernel
theorem dX5_take_65 : decode cX5_take 65 = .ok (.aload_n 0, 1) := by decide +kernel
theorem dX5_take_66 : decode cX5_take 66 = .ok (.aload_n 2, 1) := by decide +kernel
theorem dX5_take_67 : decode cX5_take 67 = .ok (.iconst 0, 1) := by decide +kernel
theorem dX5_take_68 : decode cX5_take 68 = .ok (.iaload, 1) := by decide +kernel
theorem dX5_take_69 : decode cX5_take 69 = .ok (.aload_n 2, 1) := by decide +kernel
theorem dX5_take_70 : decode cX5_take 70 = .ok (.iconst 1, 1) := by decide +kernel
theorem dX5_take_71 : decode cX5_take 71 = .ok (.iaload, 1) := by decide +kernel
theorem dX5_take_72 : decode cX5_take 72 = .ok (.invokevirtual 55, 3) := by decide +kernel
theorem dX5_take_75 : decode cX5_take 75 = .ok (.ifCond .eq 7, 3) := by decide +kernel
theorem dX5_take_78 : decode cX5_take 78 = .ok (.iconst 1, 1) := by decide +kernel
theorem dX5_take_79 : decode cX5_take 79 = .ok (.goto 4, 3) := by decide +kernel
theorem dX5_take_82 : decode cX5_take 82 = .ok (.iconst 0, 1) := by decide +kernel
theorem dX5_take_83 : decode cX5_take 83 = .ok (.ireturn, 1) := by decide +kernel
theorem dX5_take_84 : decode cX5_take 84 = .ok (.iload_n 3, 1) := by decide +kernel
theorem dX5_take_85 : decode cX5_take 85 = .ok (.iconst 4, 1) := by decide +kernel
theorem dX5_take_86 : decode cX5_take 86 = .ok (.if_icmp .ne 26, 3) := by decide +kernel
theorem dX5_take_89 : decode cX5_take 89 = .ok (.aload_n 0, 1) := by decide +kernel
theorem dX5_take_90 : decode cX5_take 90 = .ok (.aload_n 2, 1) := by decide +kernel
theorem dX5_take_91 : decode cX5_take 91 = .ok (.iconst 0, 1) := by decide +kernel
theorem dX5_take_92 : decode cX5_take 92 = .ok (.iaload, 1) := by decide +kernel
theorem dX5_take_93 : decode cX5_take 93 = .ok (.aload_n 2, 1) := by decide +kernel
theorem dX5_take_94 : decode cX5_take 94 = .ok (.iconst 1, 1) := by decide +kernel
theorem dX5_take_95 : decode cX5_take 95 = .ok (.iaload, 1) := by decide +kernel
theorem dX5_take_96 : decode cX5_take 96 = .ok (.aload_n 2, 1) := by decide +kernel
theorem dX5_take_97 : decode cX5_take 97 = .ok (.iconst 2, 1) := by decide +kernel
theorem dX5_take_98 : decode cX5_take 98 = .ok (.iaload, 1) := by decide +kernel
theorem dX5_take_99 : decode cX5_take 99 = .ok (.aload_n 2, 1) := by decide +kernel
theorem dX5_take_100 : decode cX5_take 100 = .ok (.iconst 3, 1) := by decide +kernel
theorem dX5_take_101 : decode cX5_take 101 = .ok (.iaload, 1) := by decide +kernel
theorem dX5_take_102 : decode cX5_take 102 = .ok (.invokevirtual 59, 3) := by decide +kernel
theorem dX5_take_105 : decode cX5_take 105 = .ok (.ifCond .eq 7, 3) := by decide +kernel
theorem dX5_take_108 : decode cX5_take 108 = .ok (.iconst 1, 1) := by decide +kernel
theorem dX5_take_109 : decode cX5_take 109 = .ok (.goto 4, 3) := by decide +kernel
theorem dX5_take_112 : decode cX5_take 112 = .ok (.iconst 0, 1) := by decide +kernel
theorem dX5_take_113 : decode cX5_take 113 = .ok (.ireturn, 1) := by decide +kernel
theorem dX5_take_114 : decode cX5_take 114 = .ok (.iload_n 3, 1) := by decide +kernel
theorem dX5_take_115 : decode cX5_take 115 = .ok (.iconst 2, 1) := by decide +kernel
theorem dX5_take_116 : decode cX5_take 116 = .ok (.if_icmp .ne 20, 3) := by decide +kernel
theorem dX5_take_119 : decode cX5_take 119 = .ok (.aload_n 0, 1) := by decide +kernel
theorem dX5_take_120 : decode cX5_take 120 = .ok (.aload_n 2, 1) := by decide +kernel
theorem dX5_take_121 : decode cX5_take 121 = .ok (.iconst 0, 1) := by decide +kernel
theorem dX5_take_122 : decode cX5_take 122 = .ok (.iaload, 1) := by decide +kernel
theorem dX5_take_123 : decode cX5_take 123 = .ok (.aload_n 2, 1) := by decide +kernel
theorem dX5_take_124 : decode cX5_take 124 = .ok (.iconst 1, 1) := by decide +kernel
theorem dX5_take_125 : decode cX5_take 125 = .ok (.iaload, 1) := by decide +kernel
theorem dX5_take_126 : decode cX5_take 126 = .ok (.invokevirtual 63, 3) := by decide +kernel
theorem dX5_take_129 : decode cX5_take 129 = .ok (.ifCond .eq 7, 3) := by decide +kernel
theorem dX5_take_132 : decode cX5_take 132 = .ok (.iconst 1, 1) := by decide +kernel
theorem dX5_take_133 : decode cX5_take 133 = .ok (.goto 4, 3) := by decide +kernel
theorem dX5_take_136 : decode cX5_take 136 = .ok (.iconst 0, 1) := by decide +kernel
theorem dX5_take_137 : decode cX5_take 137 = .ok (.ireturn, 1) := by decide +kernel
theorem dX5_take_138 : decode cX5_take 138 = .ok (.iload_n 3, 1) := by decide +kernel
theorem dX5_take_139 : decode cX5_take 139 = .ok (.iconst 1, 1) := by decide +kernel
theorem dX5_take_140 : decode cX5_take 140 = .ok (.if_icmp .ne 18, 3) := by decide +kernel
theorem dX5_take_143 : decode cX5_take 143 = .ok (.aload_n 0, 1) := by decide +kernel
theorem dX5_take_144 : decode cX5_take 144 = .ok (.iload_n 1, 1) := by decide +kernel
theorem dX5_take_145 : decode cX5_take 145 = .ok (.aload_n 2, 1) := by decide +kernel
theorem dX5_take_146 : decode cX5_take 146 = .ok (.iconst 0, 1) := by decide +kernel
theorem dX5_take_147 : decode cX5_take 147 = .ok (.iaload, 1) := by decide +kernel
theorem dX5_take_148 : decode cX5_take 148 = .ok (.invokevirtual 66, 3) := by decide +kernel
theorem dX5_take_151 : decode cX5_take 151 = .ok (.ifCond .eq 7, 3) := by decide +kernel
theorem dX5_take_154 : decode cX5_take 154 = .ok (.iconst 1, 1) := by decide +kernel
theorem dX5_take_155 : decode cX5_take 155 = .ok (.goto 4, 3) := by decide +kernel
theorem dX5_take_158 : decode cX5_take 158 = .ok (.iconst 0, 1) := by decide +kernel
theorem dX5_take_159 : decode cX5_take 159 = .ok (.ireturn, 1) := by decide +kernel
theorem dX5_take_160 : decode cX5_take 160 = .ok (.iconst 0, 1) := by decide +kernel
theorem dX5_take_161 : decode cX5_take 161 = .ok (.ireturn, 1) := by decide +kernel
theorem dX5_setBarn_0 : decode cX5_setBarn 0 = .ok (.iload_n 1, 1) := by decide +kernel
theorem dX5_setBarn_1 : decode cX5_setBarn 1 = .ok (.iconst 1, 1) := by decide +kernel
theorem dX5_setBarn_2 : decode cX5_setBarn 2 = .ok (.sipush 999, 3) := by decide +kernel
theorem dX5_setBarn_5 : decode cX5_setBarn 5 = .ok (.invokestatic 69, 3) := by decide +kernel
theorem dX5_setBarn_8 : decode cX5_setBarn 8 = .ok (.ifCond .eq 13, 3) := by decide +kernel
theorem dX5_setBarn_11 : decode cX5_setBarn 11 = .ok (.iload_n 2, 1) := by decide +kernel
theorem dX5_setBarn_12 : decode cX5_setBarn 12 = .ok (.iconst 1, 1) := by decide +kernel
theorem dX5_setBarn_13 : decode cX5_setBarn 13 = .ok (.bipush 99, 2) := by decide +kernel
theorem dX5_setBarn_15 : decode cX5_setBarn 15 = .ok (.invokestatic 69, 3) := by decide +kernel
theorem dX5_setBarn_18 : decode cX5_setBarn 18 = .ok (.ifCond .ne 5, 3) := by decide +kernel
theorem dX5_setBarn_21 : decode cX5_setBarn 21 = .ok (.iconst 0, 1) := by decide +kernel
theorem dX5_setBarn_22 : decode cX5_setBarn 22 = .ok (.ireturn, 1) := by decide +kernel
theorem dX5_setBarn_23 : decode cX5_setBarn 23 = .ok (.aload_n 0, 1) := by decide +kernel
theorem dX5_setBarn_24 : decode cX5_setBarn 24 = .ok (.iload_n 1, 1) := by decide +kernel
theorem dX5_setBarn_25 : decode cX5_setBarn 25 = .ok (.putfield 30, 3) := by decide +kernel
theorem dX5_setBarn_28 : decode cX5_setBarn 28 = .ok (.aload_n 0, 1) := by decide +kernel
theorem dX5_setBarn_29 : decode cX5_setBarn 29 = .ok (.iload_n 2, 1) := by decide +kernel
theorem dX5_setBarn_30 : decode cX5_setBarn 30 = .ok (.putfield 34, 3) := by decide +kernel
theorem dX5_setBarn_33 : decode cX5_setBarn 33 = .ok (.iconst 1, 1) := by decide +kernel
theorem dX5_setBarn_34 : decode cX5_setBarn 34 = .ok (.ireturn, 1) := by decide +kernel
theorem dX5_addFall_0 : decode cX5_addFall 0 = .ok (.iload_n 1, 1) := by decide +kernel
theorem dX5_addFall_1 : decode cX5_addFall 1 = .ok (.invokestatic 73, 3) := by decide +kernel
theorem dX5_addFall_4 : decode cX5_addFall 4 = .ok (.ifCond .eq 38, 3) := by decide +kernel
theorem dX5_addFall_7 : decode cX5_addFall 7 = .ok (.iload_n 2, 1) := by decide +kernel
theorem dX5_addFall_8 : decode cX5_addFall 8 = .ok (.iconst 1, 1) := by decide +kernel
theorem dX5_addFall_9 : decode cX5_addFall 9 = .ok (.bipush 20, 2) := by decide +kernel
theorem dX5_addFall_11 : decode cX5_addFall 11 = .ok (.invokestatic 69, 3) := by decide +kernel
theorem dX5_addFall_14 : decode cX5_addFall 14 = .ok (.ifCond .eq 28, 3) := by decide +kernel
theorem dX5_addFall_17 : decode cX5_addFall 17 = .ok (.iload_n 3, 1) := by decide +kernel
theorem dX5_addFall_18 : decode cX5_addFall 18 = .ok (.iconst 1, 1) := by decide +kernel
theorem dX5_addFall_19 : decode cX5_addFall 19 = .ok (.bipush 9, 2) := by decide +kernel
theorem dX5_addFall_21 : decode cX5_addFall 21 = .ok (.invokestatic 69, 3) := by decide +kernel
theorem dX5_addFall_24 : decode cX5_addFall 24 = .ok (.ifCond .eq 18, 3) := by decide +kernel
theorem dX5_addFall_27 : decode cX5_addFall 27 = .ok (.iload 4, 2) := by decide +kernel
theorem dX5_addFall_29 : decode cX5_addFall 29 = .ok (.iconst 0, 1) := by decide +kernel
theorem dX5_addFall_30 : decode cX5_addFall 30 = .ok (.bipush 9, 2) := by decide +kernel
theorem dX5_addFall_32 : decode cX5_addFall 32 = .ok (.invokestatic 69, 3) := by decide +kernel
theorem dX5_addFall_35 : decode cX5_addFall 35 = .ok (.ifCond .eq 7, 3) := by decide +kernel
theorem dX5_addFall_38 : decode cX5_addFall 38 = .ok (.iconst 1, 1) := by decide +kernel
theorem dX5_addFall_39 : decode cX5_addFall 39 = .ok (.goto 4, 3) := by decide +kernel
theorem dX5_addFall_42 : decode cX5_addFall 42 = .ok (.iconst 0, 1) := by decide +kernel
theorem dX5_addFall_43 : decode cX5_addFall 43 = .ok (.istore 5, 2) := by decide +kernel
theorem dX5_addFall_45 : decode cX5_addFall 45 = .ok (.iload 5, 2) := by decide +kernel
theorem dX5_addFall_47 : decode cX5_addFall 47 = .ok (.ifCond .eq 34, 3) := by decide +kernel
theorem dX5_addFall_50 : decode cX5_addFall 50 = .ok (.aload_n 0, 1) := by decide +kernel
theorem dX5_addFall_51 : decode cX5_addFall 51 = .ok (.getfield 46, 3) := by decide +kernel
theorem dX5_addFall_54 : decode cX5_addFall 54 = .ok (.bipush 12, 2) := by decide +kernel
theorem dX5_addFall_56 : decode cX5_addFall 56 = .ok (.if_icmp .ge 25, 3) := by decide +kernel
theorem dX5_addFall_59 : decode cX5_addFall 59 = .ok (.aload_n 0, 1) := by decide +kernel
theorem dX5_addFall_60 : decode cX5_addFall 60 = .ok (.getfield 46, 3) := by decide +kernel
theorem dX5_addFall_63 : decode cX5_addFall 63 = .ok (.ifCond .le 20, 3) := by decide +kernel
theorem dX5_addFall_66 : decode cX5_addFall 66 = .ok (.iload_n 1, 1) := by decide +kernel
theorem dX5_addFall_67 : decode cX5_addFall 67 = .ok (.aload_n 0, 1) := by decide +kernel
theorem dX5_addFall_68 : decode cX5_addFall 68 = .ok (.getfield 9, 3) := by decide +kernel
theorem dX5_addFall_71 : decode cX5_addFall 71 = .ok (.aload_n 0, 1) := by decide +kernel
theorem dX5_addFall_72 : decode cX5_addFall 72 = .ok (.getfield 46, 3) := by decide +kernel
theorem dX5_addFall_75 : decode cX5_addFall 75 = .ok (.iconst 1, 1) := by decide +kernel
theorem dX5_addFall_76 : decode cX5_addFall 76 = .ok (.isub, 1) := by decide +kernel
theorem dX5_addFall_77 : decode cX5_addFall 77 = .ok (.iaload, 1) := by decide +kernel
theorem dX5_addFall_78 : decode cX5_addFall 78 = .ok (.if_icmp .ge 5, 3) := by decide +kernel
theorem dX5_addFall_81 : decode cX5_addFall 81 = .ok (.iconst 0, 1) := by decide +kernel
theorem dX5_addFall_82 : decode cX5_addFall 82 = .ok (.ireturn, 1) := by decide +kernel
theorem dX5_addFall_83 : decode cX5_addFall 83 = .ok (.aload_n 0, 1) := by decide +kernel
theorem dX5_addFall_84 : decode cX5_addFall 84 = .ok (.getfield 9, 3) := by decide +kernel
theorem dX5_addFall_87 : decode cX5_addFall 87 = .ok (.aload_n 0, 1) := by decide +kernel
theorem dX5_addFall_88 : decode cX5_addFall 88 = .ok (.getfield 46, 3) := by decide +kernel
theorem dX5_addFall_91 : decode cX5_addFall 91 = .ok (.iload_n 1, 1) := by decide +kernel
theorem dX5_addFall_92 : decode cX5_addFall 92 = .ok (.iastore, 1) := by decide +kernel
theorem dX5_addFall_93 : decode cX5_addFall 93 = .ok (.aload_n 0, 1) := by decide +kernel
theorem dX5_addFall_94 : decode cX5_addFall 94 = .ok (.getfield 15, 3) := by decide +kernel
theorem dX5_addFall_97 : decode cX5_addFall 97 = .ok (.aload_n 0, 1) := by decide +kernel
theorem dX5_addFall_98 : decode cX5_addFall 98 = .ok (.getfield 46, 3) := by decide +kernel
theorem dX5_addFall_101 : decode cX5_addFall 101 = .ok (.iload_n 2, 1) := by decide +kernel
theorem dX5_addFall_102 : decode cX5_addFall 102 = .ok (.iastore, 1) := by decide +kernel
theorem dX5_addFall_103 : decode cX5_addFall 103 = .ok (.aload_n 0, 1) := by decide +kernel
theorem dX5_addFall_104 : decode cX5_addFall 104 = .ok (.getfield 18, 3) := by decide +kernel
theorem dX5_addFall_107 : decode cX5_addFall 107 = .ok (.aload_n 0, 1) := by decide +kernel
theorem dX5_addFall_108 : decode cX5_addFall 108 = .ok (.getfield 46, 3) := by decide +kernel
theorem dX5_addFall_111 : decode cX5_addFall 111 = .ok (.iload_n 3, 1) := by decide +kernel
theorem dX5_addFall_112 : decode cX5_addFall 112 = .ok (.iastore, 1) := by decide +kernel
theorem dX5_addFall_113 : decode cX5_addFall 113 = .ok (.aload_n 0, 1) := by decide +kernel
theorem dX5_addFall_114 : decode cX5_addFall 114 = .ok (.getfield 21, 3) := by decide +kernel
theorem dX5_addFall_117 : decode cX5_addFall 117 = .ok (.aload_n 0, 1) := by decide +kernel
theorem dX5_addFall_118 : decode cX5_addFall 118 = .ok (.getfield 46, 3) := by decide +kernel
theorem dX5_addFall_121 : decode cX5_addFall 121 = .ok (.iload 4, 2) := by decide +kernel
theorem dX5_addFall_123 : decode cX5_addFall 123 = .ok (.iastore, 1) := by decide +kernel
theorem dX5_addFall_124 : decode cX5_addFall 124 = .ok (.aload_n 0, 1) := by decide +kernel
theorem dX5_addFall_125 : decode cX5_addFall 125 = .ok (.dup, 1) := by decide +kernel
theorem dX5_addFall_126 : decode cX5_addFall 126 = .ok (.getfield 46, 3) := by decide +kernel
theorem dX5_addFall_129 : decode cX5_addFall 129 = .ok (.iconst 1, 1) := by decide +kernel
theorem dX5_addFall_130 : decode cX5_addFall 130 = .ok (.iadd, 1) := by decide +kernel
theorem dX5_addFall_131 : decode cX5_addFall 131 = .ok (.putfield 46, 3) := by decide +kernel
theorem dX5_addFall_134 : decode cX5_addFall 134 = .ok (.iconst 1, 1) := by decide +kernel
theorem dX5_addFall_135 : decode cX5_addFall 135 = .ok (.ireturn, 1) := by decide +kernel
theorem dX5_setCost_0 : decode cX5_setCost 0 = .ok (.iload_n 1, 1) := by decide +kernel
theorem dX5_setCost_1 : decode cX5_setCost 1 = .ok (.invokestatic 73, 3) := by decide +kernel
theorem dX5_setCost_4 : decode cX5_setCost 4 = .ok (.ifCond .eq 13, 3) := by decide +kernel
theorem dX5_setCost_7 : decode cX5_setCost 7 = .ok (.iload_n 2, 1) := by decide +kernel
theorem dX5_setCost_8 : decode cX5_setCost 8 = .ok (.iconst 0, 1) := by decide +kernel
theorem dX5_setCost_9 : decode cX5_setCost 9 = .ok (.bipush 99, 2) := by decide +kernel
theorem dX5_setCost_11 : decode cX5_setCost 11 = .ok (.invokestatic 69, 3) := by decide +kernel
theorem dX5_setCost_14 : decode cX5_setCost 14 = .ok (.ifCond .ne 5, 3) := by decide +kernel
theorem dX5_setCost_17 : decode cX5_setCost 17 = .ok (.iconst 0, 1) := by decide +kernel
theorem dX5_setCost_18 : decode cX5_setCost 18 = .ok (.ireturn, 1) := by decide +kernel
theorem dX5_setCost_19 : decode cX5_setCost 19 = .ok (.aload_n 0, 1) := by decide +kernel
theorem dX5_setCost_20 : decode cX5_setCost 20 = .ok (.getfield 24, 3) := by decide +kernel
theorem dX5_setCost_23 : decode cX5_setCost 23 = .ok (.iload_n 1, 1) := by decide +kernel
theorem dX5_setCost_24 : decode cX5_setCost 24 = .ok (.iload_n 2, 1) := by decide +kernel
theorem dX5_setCost_25 : decode cX5_setCost 25 = .ok (.iastore, 1) := by decide +kernel
theorem dX5_setCost_26 : decode cX5_setCost 26 = .ok (.iconst 1, 1) := by decide +kernel
theorem dX5_setCost_27 : decode cX5_setCost 27 = .ok (.ireturn, 1) := by decide +kernel
theorem dX5_setOne_0 : decode cX5_setOne 0 = .ok (.iload_n 1, 1) := by decide +kernel
theorem dX5_setOne_1 : decode cX5_setOne 1 = .ok (.bipush 116, 2) := by decide +kernel
theorem dX5_setOne_3 : decode cX5_setOne 3 = .ok (.if_icmp .ne 21, 3) := by decide +kernel
theorem dX5_setOne_6 : decode cX5_setOne 6 = .ok (.iload_n 2, 1) := by decide +kernel
theorem dX5_setOne_7 : decode cX5_setOne 7 = .ok (.iconst 1, 1) := by decide +kernel
theorem dX5_setOne_8 : decode cX5_setOne 8 = .ok (.bipush 50, 2) := by decide +kernel
theorem dX5_setOne_10 : decode cX5_setOne 10 = .ok (.invokestatic 69, 3) := by decide +kernel
theorem dX5_setOne_13 : decode cX5_setOne 13 = .ok (.ifCond .eq 11, 3) := by decide +kernel
theorem dX5_setOne_16 : decode cX5_setOne 16 = .ok (.aload_n 0, 1) := by decide +kernel
theorem dX5_setOne_17 : decode cX5_setOne 17 = .ok (.iload_n 2, 1) := by decide +kernel
theorem dX5_setOne_18 : decode cX5_setOne 18 = .ok (.putfield 37, 3) := by decide +kernel
theorem dX5_setOne_21 : decode cX5_setOne 21 = .ok (.goto 52, 3) := by decide +kernel
theorem dX5_setOne_24 : decode cX5_setOne 24 = .ok (.iload_n 1, 1) := by decide +kernel
theorem dX5_setOne_25 : decode cX5_setOne 25 = .ok (.bipush 115, 2) := by decide +kernel
theorem dX5_setOne_27 : decode cX5_setOne 27 = .ok (.if_icmp .ne 20, 3) := by decide +kernel
theorem dX5_setOne_30 : decode cX5_setOne 30 = .ok (.iload_n 2, 1) := by decide +kernel
theorem dX5_setOne_31 : decode cX5_setOne 31 = .ok (.iconst 0, 1) := by decide +kernel
theorem dX5_setOne_32 : decode cX5_setOne 32 = .ok (.iconst 4, 1) := by decide +kernel
theorem dX5_setOne_33 : decode cX5_setOne 33 = .ok (.invokestatic 69, 3) := by decide +kernel
theorem dX5_setOne_36 : decode cX5_setOne 36 = .ok (.ifCond .eq 11, 3) := by decide +kernel
theorem dX5_setOne_39 : decode cX5_setOne 39 = .ok (.aload_n 0, 1) := by decide +kernel
theorem dX5_setOne_40 : decode cX5_setOne 40 = .ok (.iload_n 2, 1) := by decide +kernel
theorem dX5_setOne_41 : decode cX5_setOne 41 = .ok (.putfield 40, 3) := by decide +kernel
theorem dX5_setOne_44 : decode cX5_setOne 44 = .ok (.goto 29, 3) := by decide +kernel
theorem dX5_setOne_47 : decode cX5_setOne 47 = .ok (.iload_n 1, 1) := by decide +kernel
theorem dX5_setOne_48 : decode cX5_setOne 48 = .ok (.bipush 118, 2) := by decide +kernel
theorem dX5_setOne_50 : decode cX5_setOne 50 = .ok (.if_icmp .ne 21, 3) := by decide +kernel
theorem dX5_setOne_53 : decode cX5_setOne 53 = .ok (.iload_n 2, 1) := by decide +kernel
theorem dX5_setOne_54 : decode cX5_setOne 54 = .ok (.iconst 0, 1) := by decide +kernel
theorem dX5_setOne_55 : decode cX5_setOne 55 = .ok (.bipush 9, 2) := by decide +kernel
theorem dX5_setOne_57 : decode cX5_setOne 57 = .ok (.invokestatic 69, 3) := by decide +kernel
theorem dX5_setOne_60 : decode cX5_setOne 60 = .ok (.ifCond .eq 11, 3) := by decide +kernel
theorem dX5_setOne_63 : decode cX5_setOne 63 = .ok (.aload_n 0, 1) := by decide +kernel
theorem dX5_setOne_64 : decode cX5_setOne 64 = .ok (.iload_n 2, 1) := by decide +kernel
theorem dX5_setOne_65 : decode cX5_setOne 65 = .ok (.putfield 43, 3) := by decide +kernel
theorem dX5_setOne_68 : decode cX5_setOne 68 = .ok (.goto 5, 3) := by decide +kernel
theorem dX5_setOne_71 : decode cX5_setOne 71 = .ok (.iconst 0, 1) := by decide +kernel
theorem dX5_setOne_72 : decode cX5_setOne 72 = .ok (.ireturn, 1) := by decide +kernel
theorem dX5_setOne_73 : decode cX5_setOne 73 = .ok (.iconst 1, 1) := by decide +kernel
theorem dX5_setOne_74 : decode cX5_setOne 74 = .ok (.ireturn, 1) := by decide +kernel
theorem dX5_costOf_0 : decode cX5_costOf 0 = .ok (.aload_n 0, 1) := by decide +kernel
theorem dX5_costOf_1 : decode cX5_costOf 1 = .ok (.getfield 24, 3) := by decide +kernel
theorem dX5_costOf_4 : decode cX5_costOf 4 = .ok (.aload_n 0, 1) := by decide +kernel
theorem dX5_costOf_5 : decode cX5_costOf 5 = .ok (.getfield 9, 3) := by decide +kernel
theorem dX5_costOf_8 : decode cX5_costOf 8 = .ok (.iload_n 1, 1) := by decide +kernel
theorem dX5_costOf_9 : decode cX5_costOf 9 = .ok (.iaload, 1) := by decide +kernel
theorem dX5_costOf_10 : decode cX5_costOf 10 = .ok (.iaload, 1) := by decide +kernel
theorem dX5_costOf_11 : decode cX5_costOf 11 = .ok (.ireturn, 1) := by decide +kernel
theorem dX5_bears_0 : decode cX5_bears 0 = .ok (.iload_n 1, 1) := by decide +kernel
theorem dX5_bears_1 : decode cX5_bears 1 = .ok (.bipush 10, 2) := by decide +kernel
theorem dX5_bears_3 : decode cX5_bears 3 = .ok (.aload_n 0, 1) := by decide +kernel
theorem dX5_bears_4 : decode cX5_bears 4 = .ok (.getfield 34, 3) := by decide +kernel
theorem dX5_bears_7 : decode cX5_bears 7 = .ok (.imul, 1) := by decide +kernel
theorem dX5_bears_8 : decode cX5_bears 8 = .ok (.if_icmp .gt 18, 3) := by decide +kernel
theorem dX5_bears_11 : decode cX5_bears 11 = .ok (.iload_n 2, 1) := by decide +kernel
theorem dX5_bears_12 : decode cX5_bears 12 = .ok (.bipush 10, 2) := by decide +kernel
theorem dX5_bears_14 : decode cX5_bears 14 = .ok (.aload_n 0, 1) := by decide +kernel
theorem dX5_bears_15 : decode cX5_bears 15 = .ok (.getfield 30, 3) := by decide +kernel
theorem dX5_bears_18 : decode cX5_bears 18 = .ok (.imul, 1) := by decide +kernel
theorem dX5_bears_19 : decode cX5_bears 19 = .ok (.if_icmp .gt 7, 3) := by decide +kernel
theorem dX5_bears_22 : decode cX5_bears 22 = .ok (.iconst 1, 1) := by decide +kernel
theorem dX5_bears_23 : decode cX5_bears 23 = .ok (.goto 4, 3) := by decide +kernel
theorem dX5_bears_26 : decode cX5_bears 26 = .ok (.iconst 0, 1) := by decide +kernel
theorem dX5_bears_27 : decode cX5_bears 27 = .ok (.ireturn, 1) := by decide +kernel
theorem dX6_init_0 : decode cX6_init 0 = .ok (.aload_n 0, 1) := by decide +kernel
theorem dX6_init_1 : decode cX6_init 1 = .ok (.invokespecial 1, 3) := by decide +kernel
theorem dX6_init_4 : decode cX6_init 4 = .ok (.aload_n 0, 1) := by decide +kernel
theorem dX6_init_5 : decode cX6_init 5 = .ok (.new 7, 3) := by decide +kernel
theorem dX6_init_8 : decode cX6_init 8 = .ok (.dup, 1) := by decide +kernel
theorem dX6_init_9 : decode cX6_init 9 = .ok (.invokespecial 9, 3) := by decide +kernel
theorem dX6_init_12 : decode cX6_init 12 = .ok (.putfield 10, 3) := by decide +kernel
theorem dX6_init_15 : decode cX6_init 15 = .ok (.aload_n 0, 1) := by decide +kernel
theorem dX6_init_16 : decode cX6_init 16 = .ok (.new 16, 3) := by decide +kernel
theorem dX6_init_19 : decode cX6_init 19 = .ok (.dup, 1) := by decide +kernel
theorem dX6_init_20 : decode cX6_init 20 = .ok (.invokespecial 18, 3) := by decide +kernel
theorem dX6_init_23 : decode cX6_init 23 = .ok (.putfield 19, 3) := by decide +kernel
theorem dX6_init_26 : decode cX6_init 26 = .ok (.aload_n 0, 1) := by decide +kernel
theorem dX6_init_27 : decode cX6_init 27 = .ok (.new 16, 3) := by decide +kernel
theorem dX6_init_30 : decode cX6_init 30 = .ok (.dup, 1) := by decide +kernel
theorem dX6_init_31 : decode cX6_init 31 = .ok (.invokespecial 18, 3) := by decide +kernel
theorem dX6_init_34 : decode cX6_init 34 = .ok (.putfield 23, 3) := by decide +kernel
theorem dX6_init_37 : decode cX6_init 37 = .ok (.aload_n 0, 1) := by decide +kernel
theorem dX6_init_38 : decode cX6_init 38 = .ok (.new 26, 3) := by decide +kernel
theorem dX6_init_41 : decode cX6_init 41 = .ok (.dup, 1) := by decide +kernel
theorem dX6_init_42 : decode cX6_init 42 = .ok (.invokespecial 28, 3) := by decide +kernel
theorem dX6_init_45 : decode cX6_init 45 = .ok (.putfield 29, 3) := by decide +kernel
theorem dX6_init_48 : decode cX6_init 48 = .ok (.aload_n 0, 1) := by decide +kernel
theorem dX6_init_49 : decode cX6_init 49 = .ok (.new 26, 3) := by decide +kernel
theorem dX6_init_52 : decode cX6_init 52 = .ok (.dup, 1) := by decide +kernel
theorem dX6_init_53 : decode cX6_init 53 = .ok (.invokespecial 28, 3) := by decide +kernel
theorem dX6_init_56 : decode cX6_init 56 = .ok (.putfield 33, 3) := by decide +kernel
theorem dX6_init_59 : decode cX6_init 59 = .ok (.aload_n 0, 1) := by decide +kernel
theorem dX6_init_60 : decode cX6_init 60 = .ok (.new 26, 3) := by decide +kernel
theorem dX6_init_63 : decode cX6_init 63 = .ok (.dup, 1) := by decide +kernel
theorem dX6_init_64 : decode cX6_init 64 = .ok (.invokespecial 28, 3) := by decide +kernel
theorem dX6_init_67 : decode cX6_init 67 = .ok (.putfield 36, 3) := by decide +kernel
theorem dX6_init_70 : decode cX6_init 70 = .ok (.aload_n 0, 1) := by decide +kernel
theorem dX6_init_71 : decode cX6_init 71 = .ok (.iconst 0, 1) := by decide +kernel
theorem dX6_init_72 : decode cX6_init 72 = .ok (.putfield 39, 3) := by decide +kernel
theorem dX6_init_75 : decode cX6_init 75 = .ok (.aload_n 0, 1) := by decide +kernel
theorem dX6_init_76 : decode cX6_init 76 = .ok (.new 43, 3) := by decide +kernel
theorem dX6_init_79 : decode cX6_init 79 = .ok (.dup, 1) := by decide +kernel
theorem dX6_init_80 : decode cX6_init 80 = .ok (.invokespecial 45, 3) := by decide +kernel
theorem dX6_init_83 : decode cX6_init 83 = .ok (.putfield 46, 3) := by decide +kernel
theorem dX6_init_86 : decode cX6_init 86 = .ok (.aload_n 0, 1) := by decide +kernel
theorem dX6_init_87 : decode cX6_init 87 = .ok (.new 50, 3) := by decide +kernel
theorem dX6_init_90 : decode cX6_init 90 = .ok (.dup, 1) := by decide +kernel
theorem dX6_init_91 : decode cX6_init 91 = .ok (.invokespecial 52, 3) := by decide +kernel
theorem dX6_init_94 : decode cX6_init 94 = .ok (.putfield 53, 3) := by decide +kernel
theorem dX6_init_97 : decode cX6_init 97 = .ok (.aload_n 0, 1) := by decide +kernel
theorem dX6_init_98 : decode cX6_init 98 = .ok (.new 57, 3) := by decide +kernel
theorem dX6_init_101 : decode cX6_init 101 = .ok (.dup, 1) := by decide +kernel
theorem dX6_init_102 : decode cX6_init 102 = .ok (.invokespecial 59, 3) := by decide +kernel
theorem dX6_init_105 : decode cX6_init 105 = .ok (.putfield 60, 3) := by decide +kernel
theorem dX6_init_108 : decode cX6_init 108 = .ok (.aload_n 0, 1) := by decide +kernel
theorem dX6_init_109 : decode cX6_init 109 = .ok (.getfield 19, 3) := by decide +kernel
theorem dX6_init_112 : decode cX6_init 112 = .ok (.iconst 0, 1) := by decide +kernel
theorem dX6_init_113 : decode cX6_init 113 = .ok (.iconst 5, 1) := by decide +kernel
theorem dX6_init_114 : decode cX6_init 114 = .ok (.iconst 2, 1) := by decide +kernel
theorem dX6_init_115 : decode cX6_init 115 = .ok (.iconst 1, 1) := by decide +kernel
theorem dX6_init_116 : decode cX6_init 116 = .ok (.invokevirtual 64, 3) := by decide +kernel
theorem dX6_init_119 : decode cX6_init 119 = .ok (.pop, 1) := by decide +kernel
theorem dX6_init_120 : decode cX6_init 120 = .ok (.return_, 1) := by decide +kernel
theorem dX6_write_0 : decode cX6_write 0 = .ok (.iload_n 1, 1) := by decide +kernel
theorem dX6_write_1 : decode cX6_write 1 = .ok (.iconst 1, 1) := by decide +kernel
theorem dX6_write_2 : decode cX6_write 2 = .ok (.bipush 8, 2) := by decide +kernel
theorem dX6_write_4 : decode cX6_write 4 = .ok (.invokestatic 68, 3) := by decide +kernel
theorem dX6_write_7 : decode cX6_write 7 = .ok (.ifCond .ne 5, 3) := by decide +kernel
theorem dX6_write_10 : decode cX6_write 10 = .ok (.iconst (-1), 1) := by decide +kernel
theorem dX6_write_11 : decode cX6_write 11 = .ok (.ireturn, 1) := by decide +kernel
theorem dX6_write_12 : decode cX6_write 12 = .ok (.aload_n 0, 1) := by decide +kernel
theorem dX6_write_13 : decode cX6_write 13 = .ok (.getfield 10, 3) := by decide +kernel
theorem dX6_write_16 : decode cX6_write 16 = .ok (.iload_n 1, 1) := by decide +kernel
theorem dX6_write_17 : decode cX6_write 17 = .ok (.lload_n 2, 1) := by decide +kernel
theorem dX6_write_18 : decode cX6_write 18 = .ok (.invokevirtual 72, 3) := by decide +kernel
theorem dX6_write_21 : decode cX6_write 21 = .ok (.ifCond .eq 13, 3) := by decide +kernel
theorem dX6_write_24 : decode cX6_write 24 = .ok (.aload_n 0, 1) := by decide +kernel
theorem dX6_write_25 : decode cX6_write 25 = .ok (.getfield 10, 3) := by decide +kernel
theorem dX6_write_28 : decode cX6_write 28 = .ok (.getfield 76, 3) := by decide +kernel
theorem dX6_write_31 : decode cX6_write 31 = .ok (.goto 5, 3) := by decide +kernel
theorem dX6_write_34 : decode cX6_write 34 = .ok (.bipush (-3), 2) := by decide +kernel
theorem dX6_write_36 : decode cX6_write 36 = .ok (.ireturn, 1) := by decide +kernel
theorem dX6_wipe_0 : decode cX6_wipe 0 = .ok (.aload_n 0, 1) := by decide +kernel
theorem dX6_wipe_1 : decode cX6_wipe 1 = .ok (.getfield 10, 3) := by decide +kernel
theorem dX6_wipe_4 : decode cX6_wipe 4 = .ok (.invokevirtual 79, 3) := by decide +kernel
theorem dX6_wipe_7 : decode cX6_wipe 7 = .ok (.ireturn, 1) := by decide +kernel
theorem dX6_fault_0 : decode cX6_fault 0 = .ok (.aload_n 0, 1) := by decide +kernel
theorem dX6_fault_1 : decode cX6_fault 1 = .ok (.getfield 10, 3) := by decide +kernel
theorem dX6_fault_4 : decode cX6_fault 4 = .ok (.aload_n 0, 1) := by decide +kernel
theorem dX6_fault_5 : decode cX6_fault 5 = .ok (.getfield 23, 3) := by decide +kernel
theorem dX6_fault_8 : decode cX6_fault 8 = .ok (.invokevirtual 83, 3) := by decide +kernel
theorem dX6_fault_11 : decode cX6_fault 11 = .ok (.ireturn, 1) := by decide +kernel
theorem dX6_lay_0 : decode cX6_lay 0 = .ok (.aload_n 0, 1) := by decide +kernel
theorem dX6_lay_1 : decode cX6_lay 1 = .ok (.getfield 10, 3) := by decide +kernel
theorem dX6_lay_4 : decode cX6_lay 4 = .ok (.aload_n 0, 1) := by decide +kernel
theorem dX6_lay_5 : decode cX6_lay 5 = .ok (.getfield 23, 3) := by decide +kernel
theorem dX6_lay_8 : decode cX6_lay 8 = .ok (.invokevirtual 83, 3) := by decide +kernel
theorem dX6_lay_11 : decode cX6_lay 11 = .ok (.bipush (-4), 2) := by decide +kernel
theorem dX6_lay_13 : decode cX6_lay 13 = .ok (.if_icmp .ne 13, 3) := by decide +kernel
theorem dX6_lay_16 : decode cX6_lay 16 = .ok (.aload_n 0, 1) := by decide +kernel
theorem dX6_lay_17 : decode cX6_lay 17 = .ok (.getfield 23, 3) := by decide +kernel
theorem dX6_lay_20 : decode cX6_lay 20 = .ok (.getfield 87, 3) := by decide +kernel
theorem dX6_lay_23 : decode cX6_lay 23 = .ok (.ifCond .ne 6, 3) := by decide +kernel
theorem dX6_lay_26 : decode cX6_lay 26 = .ok (.bipush (-2), 2) := by decide +kernel
theorem dX6_lay_28 : decode cX6_lay 28 = .ok (.ireturn, 1) := by decide +kernel
theorem dX6_lay_29 : decode cX6_lay 29 = .ok (.aload_n 0, 1) := by decide +kernel
theorem dX6_lay_30 : decode cX6_lay 30 = .ok (.getfield 19, 3) := by decide +kernel
theorem dX6_lay_33 : decode cX6_lay 33 = .ok (.astore_n 1, 1) := by decide +kernel
theorem dX6_lay_34 : decode cX6_lay 34 = .ok (.aload_n 0, 1) := by decide +kernel
theorem dX6_lay_35 : decode cX6_lay 35 = .ok (.aload_n 0, 1) := by decide +kernel
theorem dX6_lay_36 : decode cX6_lay 36 = .ok (.getfield 23, 3) := by decide +kernel
theorem dX6_lay_39 : decode cX6_lay 39 = .ok (.putfield 19, 3) := by decide +kernel
theorem dX6_lay_42 : decode cX6_lay 42 = .ok (.aload_n 0, 1) := by decide +kernel
theorem dX6_lay_43 : decode cX6_lay 43 = .ok (.aload_n 1, 1) := by decide +kernel
theorem dX6_lay_44 : decode cX6_lay 44 = .ok (.putfield 23, 3) := by decide +kernel
theorem dX6_lay_47 : decode cX6_lay 47 = .ok (.aload_n 0, 1) := by decide +kernel
theorem dX6_lay_48 : decode cX6_lay 48 = .ok (.getfield 29, 3) := by decide +kernel
theorem dX6_lay_51 : decode cX6_lay 51 = .ok (.invokevirtual 90, 3) := by decide +kernel
theorem dX6_lay_54 : decode cX6_lay 54 = .ok (.aload_n 0, 1) := by decide +kernel
theorem dX6_lay_55 : decode cX6_lay 55 = .ok (.iconst 0, 1) := by decide +kernel
theorem dX6_lay_56 : decode cX6_lay 56 = .ok (.putfield 39, 3) := by decide +kernel
theorem dX6_lay_59 : decode cX6_lay 59 = .ok (.aload_n 0, 1) := by decide +kernel
theorem dX6_lay_60 : decode cX6_lay 60 = .ok (.getfield 46, 3) := by decide +kernel
theorem dX6_lay_63 : decode cX6_lay 63 = .ok (.invokevirtual 92, 3) := by decide +kernel
theorem dX6_lay_66 : decode cX6_lay 66 = .ok (.pop, 1) := by decide +kernel
theorem dX6_lay_67 : decode cX6_lay 67 = .ok (.aload_n 0, 1) := by decide +kernel
theorem dX6_lay_68 : decode cX6_lay 68 = .ok (.getfield 19, 3) := by decide +kernel
theorem dX6_lay_71 : decode cX6_lay 71 = .ok (.getfield 87, 3) := by decide +kernel
theorem dX6_lay_74 : decode cX6_lay 74 = .ok (.ireturn, 1) := by decide +kernel
theorem dX6_falls_0 : decode cX6_falls 0 = .ok (.iload_n 1, 1) := by decide +kernel
theorem dX6_falls_1 : decode cX6_falls 1 = .ok (.iconst 0, 1) := by decide +kernel
theorem dX6_falls_2 : decode cX6_falls 2 = .ok (.aload_n 0, 1) := by decide +kernel
theorem dX6_falls_3 : decode cX6_falls 3 = .ok (.getfield 19, 3) := by decide +kernel
theorem dX6_falls_6 : decode cX6_falls 6 = .ok (.getfield 87, 3) := by decide +kernel
theorem dX6_falls_9 : decode cX6_falls 9 = .ok (.iconst 1, 1) := by decide +kernel
theorem dX6_falls_10 : decode cX6_falls 10 = .ok (.isub, 1) := by decide +kernel
theorem dX6_falls_11 : decode cX6_falls 11 = .ok (.invokestatic 68, 3) := by decide +kernel
theorem dX6_falls_14 : decode cX6_falls 14 = .ok (.ifCond .ne 5, 3) := by decide +kernel
theorem dX6_falls_17 : decode cX6_falls 17 = .ok (.iconst (-1), 1) := by decide +kernel
theorem dX6_falls_18 : decode cX6_falls 18 = .ok (.ireturn, 1) := by decide +kernel
theorem dX6_falls_19 : decode cX6_falls 19 = .ok (.iload_n 2, 1) := by decide +kernel
theorem dX6_falls_20 : decode cX6_falls 20 = .ok (.tableswitch 85 0 4 #[36, 46, 56, 66, 76], 36) := by decide +kernel
theorem dX6_falls_56 : decode cX6_falls 56 = .ok (.aload_n 0, 1) := by decide +kernel
theorem dX6_falls_57 : decode cX6_falls 57 = .ok (.getfield 19, 3) := by decide +kernel
theorem dX6_falls_60 : decode cX6_falls 60 = .ok (.getfield 93, 3) := by decide +kernel
theorem dX6_falls_63 : decode cX6_falls 63 = .ok (.iload_n 1, 1) := by decide +kernel
theorem dX6_falls_64 : decode cX6_falls 64 = .ok (.iaload, 1) := by decide +kernel
theorem dX6_falls_65 : decode cX6_falls 65 = .ok (.ireturn, 1) := by decide +kernel
theorem dX6_falls_66 : decode cX6_falls 66 = .ok (.aload_n 0, 1) := by decide +kernel
theorem dX6_falls_67 : decode cX6_falls 67 = .ok (.getfield 19, 3) := by decide +kernel
theorem dX6_falls_70 : decode cX6_falls 70 = .ok (.getfield 97, 3) := by decide +kernel
theorem dX6_falls_73 : decode cX6_falls 73 = .ok (.iload_n 1, 1) := by decide +kernel
theorem dX6_falls_74 : decode cX6_falls 74 = .ok (.iaload, 1) := by decide +kernel
theorem dX6_falls_75 : decode cX6_falls 75 = .ok (.ireturn, 1) := by decide +kernel
theorem dX6_falls_76 : decode cX6_falls 76 = .ok (.aload_n 0, 1) := by decide +kernel
theorem dX6_falls_77 : decode cX6_falls 77 = .ok (.getfield 19, 3) := by decide +kernel
theorem dX6_falls_80 : decode cX6_falls 80 = .ok (.getfield 100, 3) := by decide +kernel
theorem dX6_falls_83 : decode cX6_falls 83 = .ok (.iload_n 1, 1) := by decide +kernel
theorem dX6_falls_84 : decode cX6_falls 84 = .ok (.iaload, 1) := by decide +kernel
theorem dX6_falls_85 : decode cX6_falls 85 = .ok (.ireturn, 1) := by decide +kernel
theorem dX6_falls_86 : decode cX6_falls 86 = .ok (.aload_n 0, 1) := by decide +kernel
theorem dX6_falls_87 : decode cX6_falls 87 = .ok (.getfield 19, 3) := by decide +kernel
theorem dX6_falls_90 : decode cX6_falls 90 = .ok (.getfield 103, 3) := by decide +kernel
theorem dX6_falls_93 : decode cX6_falls 93 = .ok (.iload_n 1, 1) := by decide +kernel
theorem dX6_falls_94 : decode cX6_falls 94 = .ok (.iaload, 1) := by decide +kernel
theorem dX6_falls_95 : decode cX6_falls 95 = .ok (.ireturn, 1) := by decide +kernel
theorem dX6_falls_96 : decode cX6_falls 96 = .ok (.aload_n 0, 1) := by decide +kernel
theorem dX6_falls_97 : decode cX6_falls 97 = .ok (.getfield 19, 3) := by decide +kernel
theorem dX6_falls_100 : decode cX6_falls 100 = .ok (.iload_n 1, 1) := by decide +kernel
theorem dX6_falls_101 : decode cX6_falls 101 = .ok (.invokevirtual 106, 3) := by decide +kernel
theorem dX6_falls_104 : decode cX6_falls 104 = .ok (.ireturn, 1) := by decide +kernel
theorem dX6_falls_105 : decode cX6_falls 105 = .ok (.iconst (-1), 1) := by decide +kernel
theorem dX6_falls_106 : decode cX6_falls 106 = .ok (.ireturn, 1) := by decide +kernel
theorem dX6_fall_0 : decode cX6_fall 0 = .ok (.aload_n 0, 1) := by decide +kernel
theorem dX6_fall_1 : decode cX6_fall 1 = .ok (.getfield 29, 3) := by decide +kernel
theorem dX6_fall_4 : decode cX6_fall 4 = .ok (.getfield 110, 3) := by decide +kernel
theorem dX6_fall_7 : decode cX6_fall 7 = .ok (.istore_n 1, 1) := by decide +kernel
theorem dX6_fall_8 : decode cX6_fall 8 = .ok (.iload_n 1, 1) := by decide +kernel
theorem dX6_fall_9 : decode cX6_fall 9 = .ok (.aload_n 0, 1) := by decide +kernel
theorem dX6_fall_10 : decode cX6_fall 10 = .ok (.getfield 19, 3) := by decide +kernel
theorem dX6_fall_13 : decode cX6_fall 13 = .ok (.getfield 87, 3) := by decide +kernel
theorem dX6_fall_16 : decode cX6_fall 16 = .ok (.if_icmp .lt 6, 3) := by decide +kernel
theorem dX6_fall_19 : decode cX6_fall 19 = .ok (.bipush (-2), 2) := by decide +kernel
theorem dX6_fall_21 : decode cX6_fall 21 = .ok (.ireturn, 1) := by decide +kernel
theorem dX6_fall_22 : decode cX6_fall 22 = .ok (.bipush 10, 2) := by decide +kernel
theorem dX6_fall_24 : decode cX6_fall 24 = .ok (.aload_n 0, 1) := by decide +kernel
theorem dX6_fall_25 : decode cX6_fall 25 = .ok (.getfield 19, 3) := by decide +kernel
theorem dX6_fall_28 : decode cX6_fall 28 = .ok (.getfield 97, 3) := by decide +kernel
theorem dX6_fall_31 : decode cX6_fall 31 = .ok (.iload_n 1, 1) := by decide +kernel
theorem dX6_fall_32 : decode cX6_fall 32 = .ok (.iaload, 1) := by decide +kernel
theorem dX6_fall_33 : decode cX6_fall 33 = .ok (.imul, 1) := by decide +kernel
theorem dX6_fall_34 : decode cX6_fall 34 = .ok (.istore_n 2, 1) := by decide +kernel
theorem dX6_fall_35 : decode cX6_fall 35 = .ok (.aload_n 0, 1) := by decide +kernel
theorem dX6_fall_36 : decode cX6_fall 36 = .ok (.getfield 19, 3) := by decide +kernel
theorem dX6_fall_39 : decode cX6_fall 39 = .ok (.aload_n 0, 1) := by decide +kernel
theorem dX6_fall_40 : decode cX6_fall 40 = .ok (.getfield 29, 3) := by decide +kernel
theorem dX6_fall_43 : decode cX6_fall 43 = .ok (.invokevirtual 113, 3) := by decide +kernel
theorem dX6_fall_46 : decode cX6_fall 46 = .ok (.iload_n 2, 1) := by decide +kernel
theorem dX6_fall_47 : decode cX6_fall 47 = .ok (.iadd, 1) := by decide +kernel
theorem dX6_fall_48 : decode cX6_fall 48 = .ok (.aload_n 0, 1) := by decide +kernel
theorem dX6_fall_49 : decode cX6_fall 49 = .ok (.getfield 29, 3) := by decide +kernel
theorem dX6_fall_52 : decode cX6_fall 52 = .ok (.aload_n 0, 1) := by decide +kernel
theorem dX6_fall_53 : decode cX6_fall 53 = .ok (.getfield 19, 3) := by decide +kernel
theorem dX6_fall_56 : decode cX6_fall 56 = .ok (.invokevirtual 116, 3) := by decide +kernel
theorem dX6_fall_59 : decode cX6_fall 59 = .ok (.iload_n 2, 1) := by decide +kernel
theorem dX6_fall_60 : decode cX6_fall 60 = .ok (.aload_n 0, 1) := by decide +kernel
theorem dX6_fall_61 : decode cX6_fall 61 = .ok (.getfield 19, 3) := by decide +kernel
theorem dX6_fall_64 : decode cX6_fall 64 = .ok (.getfield 100, 3) := by decide +kernel
theorem dX6_fall_67 : decode cX6_fall 67 = .ok (.iload_n 1, 1) := by decide +kernel
theorem dX6_fall_68 : decode cX6_fall 68 = .ok (.iaload, 1) := by decide +kernel
theorem dX6_fall_69 : decode cX6_fall 69 = .ok (.imul, 1) := by decide +kernel
theorem dX6_fall_70 : decode cX6_fall 70 = .ok (.iadd, 1) := by decide +kernel
theorem dX6_fall_71 : decode cX6_fall 71 = .ok (.invokevirtual 119, 3) := by decide +kernel
theorem dX6_fall_74 : decode cX6_fall 74 = .ok (.ifCond .ne 6, 3) := by decide +kernel
theorem dX6_fall_77 : decode cX6_fall 77 = .ok (.bipush (-3), 2) := by decide +kernel
theorem dX6_fall_79 : decode cX6_fall 79 = .ok (.ireturn, 1) := by decide +kernel
theorem dX6_fall_80 : decode cX6_fall 80 = .ok (.aload_n 0, 1) := by decide +kernel
theorem dX6_fall_81 : decode cX6_fall 81 = .ok (.getfield 29, 3) := by decide +kernel
theorem dX6_fall_84 : decode cX6_fall 84 = .ok (.iload_n 2, 1) := by decide +kernel
theorem dX6_fall_85 : decode cX6_fall 85 = .ok (.aload_n 0, 1) := by decide +kernel
theorem dX6_fall_86 : decode cX6_fall 86 = .ok (.getfield 19, 3) := by decide +kernel
theorem dX6_fall_89 : decode cX6_fall 89 = .ok (.getfield 103, 3) := by decide +kernel
theorem dX6_fall_92 : decode cX6_fall 92 = .ok (.iload_n 1, 1) := by decide +kernel
theorem dX6_fall_93 : decode cX6_fall 93 = .ok (.iaload, 1) := by decide +kernel
theorem dX6_fall_94 : decode cX6_fall 94 = .ok (.invokevirtual 123, 3) := by decide +kernel
theorem dX6_fall_97 : decode cX6_fall 97 = .ok (.aload_n 0, 1) := by decide +kernel
theorem dX6_fall_98 : decode cX6_fall 98 = .ok (.getfield 29, 3) := by decide +kernel
theorem dX6_fall_101 : decode cX6_fall 101 = .ok (.getfield 110, 3) := by decide +kernel
theorem dX6_fall_104 : decode cX6_fall 104 = .ok (.ireturn, 1) := by decide +kernel
theorem dX6_layer_0 : decode cX6_layer 0 = .ok (.aload_n 0, 1) := by decide +kernel
theorem dX6_layer_1 : decode cX6_layer 1 = .ok (.getfield 29, 3) := by decide +kernel
theorem dX6_layer_4 : decode cX6_layer 4 = .ok (.iload_n 1, 1) := by decide +kernel
theorem dX6_layer_5 : decode cX6_layer 5 = .ok (.invokevirtual 127, 3) := by decide +kernel
theorem dX6_layer_8 : decode cX6_layer 8 = .ok (.ifCond .ne 5, 3) := by decide +kernel
theorem dX6_layer_11 : decode cX6_layer 11 = .ok (.iconst (-1), 1) := by decide +kernel
theorem dX6_layer_12 : decode cX6_layer 12 = .ok (.ireturn, 1) := by decide +kernel
theorem dX6_layer_13 : decode cX6_layer 13 = .ok (.iload_n 2, 1) := by decide +kernel
theorem dX6_layer_14 : decode cX6_layer 14 = .ok (.tableswitch 55 0 2 #[26, 36, 46], 26) := by decide +kernel
theorem dX6_layer_40 : decode cX6_layer 40 = .ok (.aload_n 0, 1) := by decide +kernel
theorem dX6_layer_41 : decode cX6_layer 41 = .ok (.getfield 29, 3) := by decide +kernel
theorem dX6_layer_44 : decode cX6_layer 44 = .ok (.getfield 131, 3) := by decide +kernel
theorem dX6_layer_47 : decode cX6_layer 47 = .ok (.iload_n 1, 1) := by decide +kernel
theorem dX6_layer_48 : decode cX6_layer 48 = .ok (.iaload, 1) := by decide +kernel
theorem dX6_layer_49 : decode cX6_layer 49 = .ok (.ireturn, 1) := by decide +kernel
theorem dX6_layer_50 : decode cX6_layer 50 = .ok (.aload_n 0, 1) := by decide +kernel
theorem dX6_layer_51 : decode cX6_layer 51 = .ok (.getfield 29, 3) := by decide +kernel
theorem dX6_layer_54 : decode cX6_layer 54 = .ok (.getfield 134, 3) := by decide +kernel
theorem dX6_layer_57 : decode cX6_layer 57 = .ok (.iload_n 1, 1) := by decide +kernel
theorem dX6_layer_58 : decode cX6_layer 58 = .ok (.iaload, 1) := by decide +kernel
theorem dX6_layer_59 : decode cX6_layer 59 = .ok (.ireturn, 1) := by decide +kernel
theorem dX6_layer_60 : decode cX6_layer 60 = .ok (.aload_n 0, 1) := by decide +kernel
theorem dX6_layer_61 : decode cX6_layer 61 = .ok (.getfield 29, 3) := by decide +kernel
theorem dX6_layer_64 : decode cX6_layer 64 = .ok (.iload_n 1, 1) := by decide +kernel
theorem dX6_layer_65 : decode cX6_layer 65 = .ok (.invokevirtual 137, 3) := by decide +kernel
theorem dX6_layer_68 : decode cX6_layer 68 = .ok (.ireturn, 1) := by decide +kernel
theorem dX6_layer_69 : decode cX6_layer 69 = .ok (.iconst (-1), 1) := by decide +kernel
theorem dX6_layer_70 : decode cX6_layer 70 = .ok (.ireturn, 1) := by decide +kernel
theorem dX6_firstOut_0 : decode cX6_firstOut 0 = .ok (.aload_n 0, 1) := by decide +kernel
theorem dX6_firstOut_1 : decode cX6_firstOut 1 = .ok (.aload_n 0, 1) := by decide +kernel
theorem dX6_firstOut_2 : decode cX6_firstOut 2 = .ok (.getfield 29, 3) := by decide +kernel
theorem dX6_firstOut_5 : decode cX6_firstOut 5 = .ok (.getfield 110, 3) := by decide +kernel
theorem dX6_firstOut_8 : decode cX6_firstOut 8 = .ok (.aload_n 0, 1) := by decide +kernel
theorem dX6_firstOut_9 : decode cX6_firstOut 9 = .ok (.getfield 29, 3) := by decide +kernel
theorem dX6_firstOut_12 : decode cX6_firstOut 12 = .ok (.invokevirtual 113, 3) := by decide +kernel
theorem dX6_firstOut_15 : decode cX6_firstOut 15 = .ok (.aload_n 0, 1) := by decide +kernel
theorem dX6_firstOut_16 : decode cX6_firstOut 16 = .ok (.getfield 29, 3) := by decide +kernel
theorem dX6_firstOut_19 : decode cX6_firstOut 19 = .ok (.aload_n 0, 1) := by decide +kernel
theorem dX6_firstOut_20 : decode cX6_firstOut 20 = .ok (.getfield 19, 3) := by decide +kernel
theorem dX6_firstOut_23 : decode cX6_firstOut 23 = .ok (.invokevirtual 116, 3) := by decide +kernel
theorem dX6_firstOut_26 : decode cX6_firstOut 26 = .ok (.iconst (-1), 1) := by decide +kernel
theorem dX6_firstOut_27 : decode cX6_firstOut 27 = .ok (.invokevirtual 140, 3) := by decide +kernel
theorem dX6_firstOut_30 : decode cX6_firstOut 30 = .ok (.istore_n 1, 1) := by decide +kernel
theorem dX6_firstOut_31 : decode cX6_firstOut 31 = .ok (.iload_n 1, 1) := by decide +kernel
theorem dX6_firstOut_32 : decode cX6_firstOut 32 = .ok (.aload_n 0, 1) := by decide +kernel
theorem dX6_firstOut_33 : decode cX6_firstOut 33 = .ok (.getfield 19, 3) := by decide +kernel
theorem dX6_firstOut_36 : decode cX6_firstOut 36 = .ok (.getfield 87, 3) := by decide +kernel
theorem dX6_firstOut_39 : decode cX6_firstOut 39 = .ok (.if_icmp .ne 8, 3) := by decide +kernel
theorem dX6_firstOut_42 : decode cX6_firstOut 42 = .ok (.bipush (-4), 2) := by decide +kernel
theorem dX6_firstOut_44 : decode cX6_firstOut 44 = .ok (.goto 4, 3) := by decide +kernel
theorem dX6_firstOut_47 : decode cX6_firstOut 47 = .ok (.iload_n 1, 1) := by decide +kernel
theorem dX6_firstOut_48 : decode cX6_firstOut 48 = .ok (.ireturn, 1) := by decide +kernel
theorem dX6_thaw_0 : decode cX6_thaw 0 = .ok (.iload_n 1, 1) := by decide +kernel
theorem dX6_thaw_1 : decode cX6_thaw 1 = .ok (.iconst 0, 1) := by decide +kernel
theorem dX6_thaw_2 : decode cX6_thaw 2 = .ok (.iconst 2, 1) := by decide +kernel
theorem dX6_thaw_3 : decode cX6_thaw 3 = .ok (.invokestatic 68, 3) := by decide +kernel
theorem dX6_thaw_6 : decode cX6_thaw 6 = .ok (.ifCond .ne 5, 3) := by decide +kernel
theorem dX6_thaw_9 : decode cX6_thaw 9 = .ok (.iconst (-1), 1) := by decide +kernel
theorem dX6_thaw_10 : decode cX6_thaw 10 = .ok (.ireturn, 1) := by decide +kernel
theorem dX6_thaw_11 : decode cX6_thaw 11 = .ok (.aload_n 0, 1) := by decide +kernel
theorem dX6_thaw_12 : decode cX6_thaw 12 = .ok (.getfield 29, 3) := by decide +kernel
theorem dX6_thaw_15 : decode cX6_thaw 15 = .ok (.iload_n 1, 1) := by decide +kernel
theorem dX6_thaw_16 : decode cX6_thaw 16 = .ok (.aload_n 0, 1) := by decide +kernel
theorem dX6_thaw_17 : decode cX6_thaw 17 = .ok (.getfield 19, 3) := by decide +kernel
theorem dX6_thaw_20 : decode cX6_thaw 20 = .ok (.getfield 144, 3) := by decide +kernel
theorem dX6_thaw_23 : decode cX6_thaw 23 = .ok (.invokevirtual 147, 3) := by decide +kernel
theorem dX6_thaw_26 : decode cX6_thaw 26 = .ok (.ireturn, 1) := by decide +kernel
theorem dX6_doors_0 : decode cX6_doors 0 = .ok (.iload_n 1, 1) := by decide +kernel
theorem dX6_doors_1 : decode cX6_doors 1 = .ok (.iconst 1, 1) := by decide +kernel
theorem dX6_doors_2 : decode cX6_doors 2 = .ok (.bipush 6, 2) := by decide +kernel
theorem dX6_doors_4 : decode cX6_doors 4 = .ok (.invokestatic 68, 3) := by decide +kernel
theorem dX6_doors_7 : decode cX6_doors 7 = .ok (.ifCond .eq 14, 3) := by decide +kernel
theorem dX6_doors_10 : decode cX6_doors 10 = .ok (.iload_n 2, 1) := by decide +kernel
theorem dX6_doors_11 : decode cX6_doors 11 = .ok (.iconst (-1), 1) := by decide +kernel
theorem dX6_doors_12 : decode cX6_doors 12 = .ok (.iload_n 1, 1) := by decide +kernel
theorem dX6_doors_13 : decode cX6_doors 13 = .ok (.iconst 1, 1) := by decide +kernel
theorem dX6_doors_14 : decode cX6_doors 14 = .ok (.isub, 1) := by decide +kernel
theorem dX6_doors_15 : decode cX6_doors 15 = .ok (.invokestatic 68, 3) := by decide +kernel
theorem dX6_doors_18 : decode cX6_doors 18 = .ok (.ifCond .ne 5, 3) := by decide +kernel
theorem dX6_doors_21 : decode cX6_doors 21 = .ok (.iconst (-1), 1) := by decide +kernel
theorem dX6_doors_22 : decode cX6_doors 22 = .ok (.ireturn, 1) := by decide +kernel
theorem dX6_doors_23 : decode cX6_doors 23 = .ok (.aload_n 0, 1) := by decide +kernel
theorem dX6_doors_24 : decode cX6_doors 24 = .ok (.getfield 53, 3) := by decide +kernel
theorem dX6_doors_27 : decode cX6_doors 27 = .ok (.iload_n 1, 1) := by decide +kernel
theorem dX6_doors_28 : decode cX6_doors 28 = .ok (.aload_n 0, 1) := by decide +kernel
theorem dX6_doors_29 : decode cX6_doors 29 = .ok (.getfield 29, 3) := by decide +kernel
theorem dX6_doors_32 : decode cX6_doors 32 = .ok (.aload_n 0, 1) := by decide +kernel
theorem dX6_doors_33 : decode cX6_doors 33 = .ok (.getfield 19, 3) := by decide +kernel
theorem dX6_doors_36 : decode cX6_doors 36 = .ok (.invokevirtual 151, 3) := by decide +kernel
theorem dX6_doors_39 : decode cX6_doors 39 = .ok (.iload_n 2, 1) := by decide +kernel
theorem dX6_doors_40 : decode cX6_doors 40 = .ok (.iconst (-1), 1) := by decide +kernel
theorem dX6_doors_41 : decode cX6_doors 41 = .ok (.if_icmp .ne 13, 3) := by decide +kernel
theorem dX6_doors_44 : decode cX6_doors 44 = .ok (.aload_n 0, 1) := by decide +kernel
theorem dX6_doors_45 : decode cX6_doors 45 = .ok (.getfield 53, 3) := by decide +kernel
theorem dX6_doors_48 : decode cX6_doors 48 = .ok (.getfield 155, 3) := by decide +kernel
theorem dX6_doors_51 : decode cX6_doors 51 = .ok (.goto 11, 3) := by decide +kernel
theorem dX6_doors_54 : decode cX6_doors 54 = .ok (.aload_n 0, 1) := by decide +kernel
theorem dX6_doors_55 : decode cX6_doors 55 = .ok (.getfield 53, 3) := by decide +kernel
theorem dX6_doors_58 : decode cX6_doors 58 = .ok (.iload_n 2, 1) := by decide +kernel
theorem dX6_doors_59 : decode cX6_doors 59 = .ok (.invokevirtual 158, 3) := by decide +kernel
theorem dX6_doors_62 : decode cX6_doors 62 = .ok (.ireturn, 1) := by decide +kernel
theorem dX6_sell_0 : decode cX6_sell 0 = .ok (.aload_n 0, 1) := by decide +kernel
theorem dX6_sell_1 : decode cX6_sell 1 = .ok (.getfield 29, 3) := by decide +kernel
theorem dX6_sell_4 : decode cX6_sell 4 = .ok (.iload_n 1, 1) := by decide +kernel
theorem dX6_sell_5 : decode cX6_sell 5 = .ok (.invokevirtual 127, 3) := by decide +kernel
theorem dX6_sell_8 : decode cX6_sell 8 = .ok (.ifCond .eq 14, 3) := by decide +kernel
theorem dX6_sell_11 : decode cX6_sell 11 = .ok (.iload_n 2, 1) := by decide +kernel
theorem dX6_sell_12 : decode cX6_sell 12 = .ok (.iconst 1, 1) := by decide +kernel
theorem dX6_sell_13 : decode cX6_sell 13 = .ok (.sipush 200, 3) := by decide +kernel
theorem dX6_sell_16 : decode cX6_sell 16 = .ok (.invokestatic 68, 3) := by decide +kernel
theorem dX6_sell_19 : decode cX6_sell 19 = .ok (.ifCond .ne 5, 3) := by decide +kernel
theorem dX6_sell_22 : decode cX6_sell 22 = .ok (.iconst (-1), 1) := by decide +kernel
theorem dX6_sell_23 : decode cX6_sell 23 = .ok (.ireturn, 1) := by decide +kernel
theorem dX6_sell_24 : decode cX6_sell 24 = .ok (.aload_n 0, 1) := by decide +kernel
theorem dX6_sell_25 : decode cX6_sell 25 = .ok (.getfield 29, 3) := by decide +kernel
theorem dX6_sell_28 : decode cX6_sell 28 = .ok (.getfield 131, 3) := by decide +kernel
theorem dX6_sell_31 : decode cX6_sell 31 = .ok (.iload_n 1, 1) := by decide +kernel
theorem dX6_sell_32 : decode cX6_sell 32 = .ok (.iaload, 1) := by decide +kernel
theorem dX6_sell_33 : decode cX6_sell 33 = .ok (.iload_n 2, 1) := by decide +kernel
theorem dX6_sell_34 : decode cX6_sell 34 = .ok (.if_icmp .ge 6, 3) := by decide +kernel
theorem dX6_sell_37 : decode cX6_sell 37 = .ok (.bipush (-2), 2) := by decide +kernel
theorem dX6_sell_39 : decode cX6_sell 39 = .ok (.ireturn, 1) := by decide +kernel
theorem dX6_sell_40 : decode cX6_sell 40 = .ok (.iload_n 2, 1) := by decide +kernel
theorem dX6_sell_41 : decode cX6_sell 41 = .ok (.aload_n 0, 1) := by decide +kernel
theorem dX6_sell_42 : decode cX6_sell 42 = .ok (.getfield 19, 3) := by decide +kernel
theorem dX6_sell_45 : decode cX6_sell 45 = .ok (.iload_n 1, 1) := by decide +kernel
theorem dX6_sell_46 : decode cX6_sell 46 = .ok (.invokevirtual 106, 3) := by decide +kernel
theorem dX6_sell_49 : decode cX6_sell 49 = .ok (.imul, 1) := by decide +kernel
theorem dX6_sell_50 : decode cX6_sell 50 = .ok (.bipush 10, 2) := by decide +kernel
theorem dX6_sell_52 : decode cX6_sell 52 = .ok (.idiv, 1) := by decide +kernel
theorem dX6_sell_53 : decode cX6_sell 53 = .ok (.istore_n 3, 1) := by decide +kernel
theorem dX6_sell_54 : decode cX6_sell 54 = .ok (.aload_n 0, 1) := by decide +kernel
theorem dX6_sell_55 : decode cX6_sell 55 = .ok (.getfield 29, 3) := by decide +kernel
theorem dX6_sell_58 : decode cX6_sell 58 = .ok (.iload_n 1, 1) := by decide +kernel
theorem dX6_sell_59 : decode cX6_sell 59 = .ok (.iload_n 2, 1) := by decide +kernel
theorem dX6_sell_60 : decode cX6_sell 60 = .ok (.iload_n 3, 1) := by decide +kernel
theorem dX6_sell_61 : decode cX6_sell 61 = .ok (.invokevirtual 161, 3) := by decide +kernel
theorem dX6_sell_64 : decode cX6_sell 64 = .ok (.iload_n 3, 1) := by decide +kernel
theorem dX6_sell_65 : decode cX6_sell 65 = .ok (.ireturn, 1) := by decide +kernel
theorem dX6_undo_0 : decode cX6_undo 0 = .ok (.aload_n 0, 1) := by decide +kernel
theorem dX6_undo_1 : decode cX6_undo 1 = .ok (.getfield 29, 3) := by decide +kernel
theorem dX6_undo_4 : decode cX6_undo 4 = .ok (.invokevirtual 165, 3) := by decide +kernel
theorem dX6_undo_7 : decode cX6_undo 7 = .ok (.ireturn, 1) := by decide +kernel
theorem dX6_swap_0 : decode cX6_swap 0 = .ok (.aload_n 0, 1) := by decide +kernel
theorem dX6_swap_1 : decode cX6_swap 1 = .ok (.getfield 29, 3) := by decide +kernel
theorem dX6_swap_4 : decode cX6_swap 4 = .ok (.iload_n 1, 1) := by decide +kernel
theorem dX6_swap_5 : decode cX6_swap 5 = .ok (.invokevirtual 127, 3) := by decide +kernel
theorem dX6_swap_8 : decode cX6_swap 8 = .ok (.ifCond .eq 13, 3) := by decide +kernel
theorem dX6_swap_11 : decode cX6_swap 11 = .ok (.iload_n 2, 1) := by decide +kernel
theorem dX6_swap_12 : decode cX6_swap 12 = .ok (.iconst 0, 1) := by decide +kernel
theorem dX6_swap_13 : decode cX6_swap 13 = .ok (.bipush 9, 2) := by decide +kernel
theorem dX6_swap_15 : decode cX6_swap 15 = .ok (.invokestatic 68, 3) := by decide +kernel
theorem dX6_swap_18 : decode cX6_swap 18 = .ok (.ifCond .ne 5, 3) := by decide +kernel
theorem dX6_swap_21 : decode cX6_swap 21 = .ok (.iconst (-1), 1) := by decide +kernel
theorem dX6_swap_22 : decode cX6_swap 22 = .ok (.ireturn, 1) := by decide +kernel
theorem dX6_swap_23 : decode cX6_swap 23 = .ok (.aload_n 0, 1) := by decide +kernel
theorem dX6_swap_24 : decode cX6_swap 24 = .ok (.getfield 29, 3) := by decide +kernel
theorem dX6_swap_27 : decode cX6_swap 27 = .ok (.getfield 134, 3) := by decide +kernel
theorem dX6_swap_30 : decode cX6_swap 30 = .ok (.iload_n 1, 1) := by decide +kernel
theorem dX6_swap_31 : decode cX6_swap 31 = .ok (.iaload, 1) := by decide +kernel
theorem dX6_swap_32 : decode cX6_swap 32 = .ok (.istore_n 3, 1) := by decide +kernel
theorem dX6_swap_33 : decode cX6_swap 33 = .ok (.aload_n 0, 1) := by decide +kernel
theorem dX6_swap_34 : decode cX6_swap 34 = .ok (.getfield 29, 3) := by decide +kernel
theorem dX6_swap_37 : decode cX6_swap 37 = .ok (.getfield 134, 3) := by decide +kernel
theorem dX6_swap_40 : decode cX6_swap 40 = .ok (.iload_n 1, 1) := by decide +kernel
theorem dX6_swap_41 : decode cX6_swap 41 = .ok (.iload_n 2, 1) := by decide +kernel
theorem dX6_swap_42 : decode cX6_swap 42 = .ok (.iastore, 1) := by decide +kernel
theorem dX6_swap_43 : decode cX6_swap 43 = .ok (.iload_n 3, 1) := by decide +kernel
theorem dX6_swap_44 : decode cX6_swap 44 = .ok (.ireturn, 1) := by decide +kernel
theorem dX6_letGo_0 : decode cX6_letGo 0 = .ok (.iload_n 1, 1) := by decide +kernel
theorem dX6_letGo_1 : decode cX6_letGo 1 = .ok (.iconst 1, 1) := by decide +kernel
theorem dX6_letGo_2 : decode cX6_letGo 2 = .ok (.sipush 999, 3) := by decide +kernel
theorem dX6_letGo_5 : decode cX6_letGo 5 = .ok (.invokestatic 68, 3) := by decide +kernel
theorem dX6_letGo_8 : decode cX6_letGo 8 = .ok (.ifCond .eq 22, 3) := by decide +kernel
theorem dX6_letGo_11 : decode cX6_letGo 11 = .ok (.iload_n 2, 1) := by decide +kernel
theorem dX6_letGo_12 : decode cX6_letGo 12 = .ok (.iconst 1, 1) := by decide +kernel
theorem dX6_letGo_13 : decode cX6_letGo 13 = .ok (.bipush 99, 2) := by decide +kernel
theorem dX6_letGo_15 : decode cX6_letGo 15 = .ok (.invokestatic 68, 3) := by decide +kernel
theorem dX6_letGo_18 : decode cX6_letGo 18 = .ok (.ifCond .eq 12, 3) := by decide +kernel
theorem dX6_letGo_21 : decode cX6_letGo 21 = .ok (.iload_n 3, 1) := by decide +kernel
theorem dX6_letGo_22 : decode cX6_letGo 22 = .ok (.iconst 0, 1) := by decide +kernel
theorem dX6_letGo_23 : decode cX6_letGo 23 = .ok (.iconst 2, 1) := by decide +kernel
theorem dX6_letGo_24 : decode cX6_letGo 24 = .ok (.invokestatic 68, 3) := by decide +kernel
theorem dX6_letGo_27 : decode cX6_letGo 27 = .ok (.ifCond .ne 5, 3) := by decide +kernel
theorem dX6_letGo_30 : decode cX6_letGo 30 = .ok (.iconst (-1), 1) := by decide +kernel
theorem dX6_letGo_31 : decode cX6_letGo 31 = .ok (.ireturn, 1) := by decide +kernel
theorem dX6_letGo_32 : decode cX6_letGo 32 = .ok (.aload_n 0, 1) := by decide +kernel
theorem dX6_letGo_33 : decode cX6_letGo 33 = .ok (.getfield 60, 3) := by decide +kernel
theorem dX6_letGo_36 : decode cX6_letGo 36 = .ok (.bipush 10, 2) := by decide +kernel
theorem dX6_letGo_38 : decode cX6_letGo 38 = .ok (.iload_n 2, 1) := by decide +kernel
theorem dX6_letGo_39 : decode cX6_letGo 39 = .ok (.imul, 1) := by decide +kernel
theorem dX6_letGo_40 : decode cX6_letGo 40 = .ok (.bipush 10, 2) := by decide +kernel
theorem dX6_letGo_42 : decode cX6_letGo 42 = .ok (.iload_n 1, 1) := by decide +kernel
theorem dX6_letGo_43 : decode cX6_letGo 43 = .ok (.imul, 1) := by decide +kernel
theorem dX6_letGo_44 : decode cX6_letGo 44 = .ok (.aload_n 0, 1) := by decide +kernel
theorem dX6_letGo_45 : decode cX6_letGo 45 = .ok (.getfield 29, 3) := by decide +kernel
theorem dX6_letGo_48 : decode cX6_letGo 48 = .ok (.aload_n 0, 1) := by decide +kernel
theorem dX6_letGo_49 : decode cX6_letGo 49 = .ok (.getfield 19, 3) := by decide +kernel
theorem dX6_letGo_52 : decode cX6_letGo 52 = .ok (.invokevirtual 168, 3) := by decide +kernel
theorem dX6_letGo_55 : decode cX6_letGo 55 = .ok (.iload_n 3, 1) := by decide +kernel
theorem dX6_letGo_56 : decode cX6_letGo 56 = .ok (.ifCond .ne 11, 3) := by decide +kernel
theorem dX6_letGo_59 : decode cX6_letGo 59 = .ok (.aload_n 0, 1) := by decide +kernel
theorem dX6_letGo_60 : decode cX6_letGo 60 = .ok (.getfield 60, 3) := by decide +kernel
theorem dX6_letGo_63 : decode cX6_letGo 63 = .ok (.getfield 171, 3) := by decide +kernel
theorem dX6_letGo_66 : decode cX6_letGo 66 = .ok (.ireturn, 1) := by decide +kernel
theorem dX6_letGo_67 : decode cX6_letGo 67 = .ok (.iload_n 3, 1) := by decide +kernel
theorem dX6_letGo_68 : decode cX6_letGo 68 = .ok (.iconst 1, 1) := by decide +kernel
theorem dX6_letGo_69 : decode cX6_letGo 69 = .ok (.if_icmp .ne 13, 3) := by decide +kernel
theorem dX6_letGo_72 : decode cX6_letGo 72 = .ok (.aload_n 0, 1) := by decide +kernel
theorem dX6_letGo_73 : decode cX6_letGo 73 = .ok (.getfield 60, 3) := by decide +kernel
theorem dX6_letGo_76 : decode cX6_letGo 76 = .ok (.getfield 174, 3) := by decide +kernel
theorem dX6_letGo_79 : decode cX6_letGo 79 = .ok (.goto 10, 3) := by decide +kernel
theorem dX6_letGo_82 : decode cX6_letGo 82 = .ok (.aload_n 0, 1) := by decide +kernel
theorem dX6_letGo_83 : decode cX6_letGo 83 = .ok (.getfield 60, 3) := by decide +kernel
theorem dX6_letGo_86 : decode cX6_letGo 86 = .ok (.getfield 177, 3) := by decide +kernel
theorem dX6_letGo_89 : decode cX6_letGo 89 = .ok (.ireturn, 1) := by decide +kernel
theorem dX6_odds_0 : decode cX6_odds 0 = .ok (.iload_n 1, 1) := by decide +kernel
theorem dX6_odds_1 : decode cX6_odds 1 = .ok (.iload_n 2, 1) := by decide +kernel
theorem dX6_odds_2 : decode cX6_odds 2 = .ok (.invokestatic 180, 3) := by decide +kernel
theorem dX6_odds_5 : decode cX6_odds 5 = .ok (.ifCond .eq 20, 3) := by decide +kernel
theorem dX6_odds_8 : decode cX6_odds 8 = .ok (.iload_n 3, 1) := by decide +kernel
theorem dX6_odds_9 : decode cX6_odds 9 = .ok (.invokestatic 183, 3) := by decide +kernel
theorem dX6_odds_12 : decode cX6_odds 12 = .ok (.ifCond .eq 13, 3) := by decide +kernel
theorem dX6_odds_15 : decode cX6_odds 15 = .ok (.iload 4, 2) := by decide +kernel
theorem dX6_odds_17 : decode cX6_odds 17 = .ok (.iconst 0, 1) := by decide +kernel
theorem dX6_odds_18 : decode cX6_odds 18 = .ok (.iconst 1, 1) := by decide +kernel
theorem dX6_odds_19 : decode cX6_odds 19 = .ok (.invokestatic 68, 3) := by decide +kernel
theorem dX6_odds_22 : decode cX6_odds 22 = .ok (.ifCond .ne 5, 3) := by decide +kernel
theorem dX6_odds_25 : decode cX6_odds 25 = .ok (.iconst (-1), 1) := by decide +kernel
theorem dX6_odds_26 : decode cX6_odds 26 = .ok (.ireturn, 1) := by decide +kernel
theorem dX6_odds_27 : decode cX6_odds 27 = .ok (.aload_n 0, 1) := by decide +kernel
theorem dX6_odds_28 : decode cX6_odds 28 = .ok (.iload_n 1, 1) := by decide +kernel
theorem dX6_odds_29 : decode cX6_odds 29 = .ok (.iload_n 2, 1) := by decide +kernel
theorem dX6_odds_30 : decode cX6_odds 30 = .ok (.invokevirtual 186, 3) := by decide +kernel
theorem dX6_odds_33 : decode cX6_odds 33 = .ok (.istore 5, 2) := by decide +kernel
theorem dX6_odds_35 : decode cX6_odds 35 = .ok (.iload 5, 2) := by decide +kernel
theorem dX6_odds_37 : decode cX6_odds 37 = .ok (.ifCond .ne 6, 3) := by decide +kernel
theorem dX6_odds_40 : decode cX6_odds 40 = .ok (.bipush (-4), 2) := by decide +kernel
theorem dX6_odds_42 : decode cX6_odds 42 = .ok (.ireturn, 1) := by decide +kernel
theorem dX6_odds_43 : decode cX6_odds 43 = .ok (.aload_n 0, 1) := by decide +kernel
theorem dX6_odds_44 : decode cX6_odds 44 = .ok (.iload_n 1, 1) := by decide +kernel
theorem dX6_odds_45 : decode cX6_odds 45 = .ok (.iload_n 2, 1) := by decide +kernel
theorem dX6_odds_46 : decode cX6_odds 46 = .ok (.iload_n 3, 1) := by decide +kernel
theorem dX6_odds_47 : decode cX6_odds 47 = .ok (.invokevirtual 189, 3) := by decide +kernel
theorem dX6_odds_50 : decode cX6_odds 50 = .ok (.istore 6, 2) := by decide +kernel
theorem dX6_odds_52 : decode cX6_odds 52 = .ok (.iconst 1, 1) := by decide +kernel
theorem dX6_odds_53 : decode cX6_odds 53 = .ok (.iload 5, 2) := by decide +kernel
theorem dX6_odds_55 : decode cX6_odds 55 = .ok (.iload 6, 2) := by decide +kernel
theorem dX6_odds_57 : decode cX6_odds 57 = .ok (.invokestatic 193, 3) := by decide +kernel
theorem dX6_odds_60 : decode cX6_odds 60 = .ok (.invokestatic 196, 3) := by decide +kernel
theorem dX6_odds_63 : decode cX6_odds 63 = .ok (.istore 7, 2) := by decide +kernel
theorem dX6_odds_65 : decode cX6_odds 65 = .ok (.iload 4, 2) := by decide +kernel
theorem dX6_odds_67 : decode cX6_odds 67 = .ok (.ifCond .ne 8, 3) := by decide +kernel
theorem dX6_odds_70 : decode cX6_odds 70 = .ok (.iload 6, 2) := by decide +kernel
theorem dX6_odds_72 : decode cX6_odds 72 = .ok (.goto 5, 3) := by decide +kernel
theorem dX6_odds_75 : decode cX6_odds 75 = .ok (.iload 5, 2) := by decide +kernel
theorem dX6_odds_77 : decode cX6_odds 77 = .ok (.iload 7, 2) := by decide +kernel
theorem dX6_odds_79 : decode cX6_odds 79 = .ok (.idiv, 1) := by decide +kernel
theorem dX6_odds_80 : decode cX6_odds 80 = .ok (.ireturn, 1) := by decide +kernel
theorem dX6_likeliest_0 : decode cX6_likeliest 0 = .ok (.iload_n 1, 1) := by decide +kernel
theorem dX6_likeliest_1 : decode cX6_likeliest 1 = .ok (.iload_n 2, 1) := by decide +kernel
theorem dX6_likeliest_2 : decode cX6_likeliest 2 = .ok (.invokestatic 180, 3) := by decide +kernel
theorem dX6_likeliest_5 : decode cX6_likeliest 5 = .ok (.ifCond .ne 5, 3) := by decide +kernel
theorem dX6_likeliest_8 : decode cX6_likeliest 8 = .ok (.iconst (-1), 1) := by decide +kernel
theorem dX6_likeliest_9 : decode cX6_likeliest 9 = .ok (.ireturn, 1) := by decide +kernel
theorem dX6_likeliest_10 : decode cX6_likeliest 10 = .ok (.bipush (-4), 2) := by decide +kernel
theorem dX6_likeliest_12 : decode cX6_likeliest 12 = .ok (.istore_n 3, 1) := by decide +kernel
theorem dX6_likeliest_13 : decode cX6_likeliest 13 = .ok (.iconst 0, 1) := by decide +kernel
theorem dX6_likeliest_14 : decode cX6_likeliest 14 = .ok (.istore 4, 2) := by decide +kernel
theorem dX6_likeliest_16 : decode cX6_likeliest 16 = .ok (.iconst 0, 1) := by decide +kernel
theorem dX6_likeliest_17 : decode cX6_likeliest 17 = .ok (.istore 5, 2) := by decide +kernel
theorem dX6_likeliest_19 : decode cX6_likeliest 19 = .ok (.iload 5, 2) := by decide +kernel
theorem dX6_likeliest_21 : decode cX6_likeliest 21 = .ok (.aload_n 0, 1) := by decide +kernel
theorem dX6_likeliest_22 : decode cX6_likeliest 22 = .ok (.getfield 29, 3) := by decide +kernel
theorem dX6_likeliest_25 : decode cX6_likeliest 25 = .ok (.getfield 110, 3) := by decide +kernel
theorem dX6_likeliest_28 : decode cX6_likeliest 28 = .ok (.if_icmp .ge 49, 3) := by decide +kernel
theorem dX6_likeliest_31 : decode cX6_likeliest 31 = .ok (.aload_n 0, 1) := by decide +kernel
theorem dX6_likeliest_32 : decode cX6_likeliest 32 = .ok (.iload_n 1, 1) := by decide +kernel
theorem dX6_likeliest_33 : decode cX6_likeliest 33 = .ok (.iload_n 2, 1) := by decide +kernel
theorem dX6_likeliest_34 : decode cX6_likeliest 34 = .ok (.aload_n 0, 1) := by decide +kernel
theorem dX6_likeliest_35 : decode cX6_likeliest 35 = .ok (.getfield 19, 3) := by decide +kernel
theorem dX6_likeliest_38 : decode cX6_likeliest 38 = .ok (.getfield 93, 3) := by decide +kernel
theorem dX6_likeliest_41 : decode cX6_likeliest 41 = .ok (.iload 5, 2) := by decide +kernel
theorem dX6_likeliest_43 : decode cX6_likeliest 43 = .ok (.iaload, 1) := by decide +kernel
theorem dX6_likeliest_44 : decode cX6_likeliest 44 = .ok (.invokevirtual 189, 3) := by decide +kernel
theorem dX6_likeliest_47 : decode cX6_likeliest 47 = .ok (.istore 6, 2) := by decide +kernel
theorem dX6_likeliest_49 : decode cX6_likeliest 49 = .ok (.iload 6, 2) := by decide +kernel
theorem dX6_likeliest_51 : decode cX6_likeliest 51 = .ok (.iload 4, 2) := by decide +kernel
theorem dX6_likeliest_53 : decode cX6_likeliest 53 = .ok (.if_icmp .le 18, 3) := by decide +kernel
theorem dX6_likeliest_56 : decode cX6_likeliest 56 = .ok (.iload 6, 2) := by decide +kernel
theorem dX6_likeliest_58 : decode cX6_likeliest 58 = .ok (.istore 4, 2) := by decide +kernel
theorem dX6_likeliest_60 : decode cX6_likeliest 60 = .ok (.aload_n 0, 1) := by decide +kernel
theorem dX6_likeliest_61 : decode cX6_likeliest 61 = .ok (.getfield 19, 3) := by decide +kernel
theorem dX6_likeliest_64 : decode cX6_likeliest 64 = .ok (.getfield 93, 3) := by decide +kernel
theorem dX6_likeliest_67 : decode cX6_likeliest 67 = .ok (.iload 5, 2) := by decide +kernel
theorem dX6_likeliest_69 : decode cX6_likeliest 69 = .ok (.iaload, 1) := by decide +kernel
theorem dX6_likeliest_70 : decode cX6_likeliest 70 = .ok (.istore_n 3, 1) := by decide +kernel
theorem dX6_likeliest_71 : decode cX6_likeliest 71 = .ok (.iinc 5 1, 3) := by decide +kernel
theorem dX6_likeliest_74 : decode cX6_likeliest 74 = .ok (.goto (-55), 3) := by decide +kernel
theorem dX6_likeliest_77 : decode cX6_likeliest 77 = .ok (.iload_n 3, 1) := by decide +kernel
theorem dX6_likeliest_78 : decode cX6_likeliest 78 = .ok (.ireturn, 1) := by decide +kernel
theorem dX6_mark_0 : decode cX6_mark 0 = .ok (.iload_n 1, 1) := by decide +kernel
theorem dX6_mark_1 : decode cX6_mark 1 = .ok (.iconst 0, 1) := by decide +kernel
theorem dX6_mark_2 : decode cX6_mark 2 = .ok (.bipush 9, 2) := by decide +kernel
theorem dX6_mark_4 : decode cX6_mark 4 = .ok (.invokestatic 68, 3) := by decide +kernel
theorem dX6_mark_7 : decode cX6_mark 7 = .ok (.ifCond .ne 5, 3) := by decide +kernel
theorem dX6_mark_10 : decode cX6_mark 10 = .ok (.iconst (-1), 1) := by decide +kernel
theorem dX6_mark_11 : decode cX6_mark 11 = .ok (.ireturn, 1) := by decide +kernel
theorem dX6_mark_12 : decode cX6_mark 12 = .ok (.aload_n 0, 1) := by decide +kernel
theorem dX6_mark_13 : decode cX6_mark 13 = .ok (.getfield 46, 3) := by decide +kernel
theorem dX6_mark_16 : decode cX6_mark 16 = .ok (.iload_n 1, 1) := by decide +kernel
theorem dX6_mark_17 : decode cX6_mark 17 = .ok (.invokevirtual 201, 3) := by decide +kernel
theorem dX6_mark_20 : decode cX6_mark 20 = .ok (.ifCond .eq 13, 3) := by decide +kernel
theorem dX6_mark_23 : decode cX6_mark 23 = .ok (.aload_n 0, 1) := by decide +kernel
theorem dX6_mark_24 : decode cX6_mark 24 = .ok (.getfield 46, 3) := by decide +kernel
theorem dX6_mark_27 : decode cX6_mark 27 = .ok (.getfield 204, 3) := by decide +kernel
theorem dX6_mark_30 : decode cX6_mark 30 = .ok (.goto 5, 3) := by decide +kernel
theorem dX6_mark_33 : decode cX6_mark 33 = .ok (.bipush (-3), 2) := by decide +kernel
theorem dX6_mark_35 : decode cX6_mark 35 = .ok (.ireturn, 1) := by decide +kernel
theorem dX6_noMarks_0 : decode cX6_noMarks 0 = .ok (.aload_n 0, 1) := by decide +kernel
theorem dX6_noMarks_1 : decode cX6_noMarks 1 = .ok (.getfield 46, 3) := by decide +kernel
theorem dX6_noMarks_4 : decode cX6_noMarks 4 = .ok (.invokevirtual 92, 3) := by decide +kernel
theorem dX6_noMarks_7 : decode cX6_noMarks 7 = .ok (.ireturn, 1) := by decide +kernel
theorem dX6_far_0 : decode cX6_far 0 = .ok (.aload_n 0, 1) := by decide +kernel
theorem dX6_far_1 : decode cX6_far 1 = .ok (.getfield 46, 3) := by decide +kernel
theorem dX6_far_4 : decode cX6_far 4 = .ok (.aload_n 0, 1) := by decide +kernel
theorem dX6_far_5 : decode cX6_far 5 = .ok (.getfield 29, 3) := by decide +kernel
theorem dX6_far_8 : decode cX6_far 8 = .ok (.invokevirtual 205, 3) := by decide +kernel
theorem dX6_far_11 : decode cX6_far 11 = .ok (.ireturn, 1) := by decide +kernel
theorem dX6_odd_0 : decode cX6_odd 0 = .ok (.aload_n 0, 1) := by decide +kernel
theorem dX6_odd_1 : decode cX6_odd 1 = .ok (.getfield 46, 3) := by decide +kernel
theorem dX6_odd_4 : decode cX6_odd 4 = .ok (.aload_n 0, 1) := by decide +kernel
theorem dX6_odd_5 : decode cX6_odd 5 = .ok (.getfield 29, 3) := by decide +kernel
theorem dX6_odd_8 : decode cX6_odd 8 = .ok (.invokevirtual 205, 3) := by decide +kernel
theorem dX6_odd_11 : decode cX6_odd 11 = .ok (.ifCond .ne 8, 3) := by decide +kernel
theorem dX6_odd_14 : decode cX6_odd 14 = .ok (.bipush (-4), 2) := by decide +kernel
theorem dX6_odd_16 : decode cX6_odd 16 = .ok (.goto 14, 3) := by decide +kernel
theorem dX6_odd_19 : decode cX6_odd 19 = .ok (.aload_n 0, 1) := by decide +kernel
theorem dX6_odd_20 : decode cX6_odd 20 = .ok (.getfield 46, 3) := by decide +kernel
theorem dX6_odd_23 : decode cX6_odd 23 = .ok (.aload_n 0, 1) := by decide +kernel
theorem dX6_odd_24 : decode cX6_odd 24 = .ok (.getfield 29, 3) := by decide +kernel
theorem dX6_odd_27 : decode cX6_odd 27 = .ok (.invokevirtual 209, 3) := by decide +kernel
theorem dX6_odd_30 : decode cX6_odd 30 = .ok (.ireturn, 1) := by decide +kernel
theorem dX6_wish_0 : decode cX6_wish 0 = .ok (.iload_n 1, 1) := by decide +kernel
theorem dX6_wish_1 : decode cX6_wish 1 = .ok (.invokestatic 183, 3) := by decide +kernel
theorem dX6_wish_4 : decode cX6_wish 4 = .ok (.ifCond .eq 11, 3) := by decide +kernel
theorem dX6_wish_7 : decode cX6_wish 7 = .ok (.aload_n 0, 1) := by decide +kernel
theorem dX6_wish_8 : decode cX6_wish 8 = .ok (.iload_n 1, 1) := by decide +kernel
theorem dX6_wish_9 : decode cX6_wish 9 = .ok (.invokevirtual 212, 3) := by decide +kernel
theorem dX6_wish_12 : decode cX6_wish 12 = .ok (.goto 4, 3) := by decide +kernel
theorem dX6_wish_15 : decode cX6_wish 15 = .ok (.iconst (-1), 1) := by decide +kernel
theorem dX6_wish_16 : decode cX6_wish 16 = .ok (.ireturn, 1) := by decide +kernel
theorem dX6_nearest_0 : decode cX6_nearest 0 = .ok (.iload_n 1, 1) := by decide +kernel
theorem dX6_nearest_1 : decode cX6_nearest 1 = .ok (.invokestatic 183, 3) := by decide +kernel
theorem dX6_nearest_4 : decode cX6_nearest 4 = .ok (.ifCond .eq 14, 3) := by decide +kernel
theorem dX6_nearest_7 : decode cX6_nearest 7 = .ok (.iload_n 2, 1) := by decide +kernel
theorem dX6_nearest_8 : decode cX6_nearest 8 = .ok (.iconst 1, 1) := by decide +kernel
theorem dX6_nearest_9 : decode cX6_nearest 9 = .ok (.sipush 999, 3) := by decide +kernel
theorem dX6_nearest_12 : decode cX6_nearest 12 = .ok (.invokestatic 68, 3) := by decide +kernel
theorem dX6_nearest_15 : decode cX6_nearest 15 = .ok (.ifCond .ne 5, 3) := by decide +kernel
theorem dX6_nearest_18 : decode cX6_nearest 18 = .ok (.iconst (-1), 1) := by decide +kernel
theorem dX6_nearest_19 : decode cX6_nearest 19 = .ok (.ireturn, 1) := by decide +kernel
theorem dX6_nearest_20 : decode cX6_nearest 20 = .ok (.bipush (-4), 2) := by decide +kernel
theorem dX6_nearest_22 : decode cX6_nearest 22 = .ok (.istore_n 3, 1) := by decide +kernel
theorem dX6_nearest_23 : decode cX6_nearest 23 = .ok (.bipush 100, 2) := by decide +kernel
theorem dX6_nearest_25 : decode cX6_nearest 25 = .ok (.istore 4, 2) := by decide +kernel
theorem dX6_nearest_27 : decode cX6_nearest 27 = .ok (.iconst 0, 1) := by decide +kernel
theorem dX6_nearest_28 : decode cX6_nearest 28 = .ok (.istore 5, 2) := by decide +kernel
theorem dX6_nearest_30 : decode cX6_nearest 30 = .ok (.iload 5, 2) := by decide +kernel
theorem dX6_nearest_32 : decode cX6_nearest 32 = .ok (.aload_n 0, 1) := by decide +kernel
theorem dX6_nearest_33 : decode cX6_nearest 33 = .ok (.getfield 29, 3) := by decide +kernel
theorem dX6_nearest_36 : decode cX6_nearest 36 = .ok (.getfield 110, 3) := by decide +kernel
theorem dX6_nearest_39 : decode cX6_nearest 39 = .ok (.if_icmp .ge 66, 3) := by decide +kernel
theorem dX6_nearest_42 : decode cX6_nearest 42 = .ok (.aload_n 0, 1) := by decide +kernel
theorem dX6_nearest_43 : decode cX6_nearest 43 = .ok (.getfield 19, 3) := by decide +kernel
theorem dX6_nearest_46 : decode cX6_nearest 46 = .ok (.getfield 93, 3) := by decide +kernel
theorem dX6_nearest_49 : decode cX6_nearest 49 = .ok (.iload 5, 2) := by decide +kernel
theorem dX6_nearest_51 : decode cX6_nearest 51 = .ok (.iaload, 1) := by decide +kernel
theorem dX6_nearest_52 : decode cX6_nearest 52 = .ok (.iload_n 1, 1) := by decide +kernel
theorem dX6_nearest_53 : decode cX6_nearest 53 = .ok (.isub, 1) := by decide +kernel
theorem dX6_nearest_54 : decode cX6_nearest 54 = .ok (.invokestatic 215, 3) := by decide +kernel
theorem dX6_nearest_57 : decode cX6_nearest 57 = .ok (.istore 6, 2) := by decide +kernel
theorem dX6_nearest_59 : decode cX6_nearest 59 = .ok (.iload 6, 2) := by decide +kernel
theorem dX6_nearest_61 : decode cX6_nearest 61 = .ok (.iload 4, 2) := by decide +kernel
theorem dX6_nearest_63 : decode cX6_nearest 63 = .ok (.if_icmp .ge 36, 3) := by decide +kernel
theorem dX6_nearest_66 : decode cX6_nearest 66 = .ok (.aload_n 0, 1) := by decide +kernel
theorem dX6_nearest_67 : decode cX6_nearest 67 = .ok (.aload_n 0, 1) := by decide +kernel
theorem dX6_nearest_68 : decode cX6_nearest 68 = .ok (.getfield 19, 3) := by decide +kernel
theorem dX6_nearest_71 : decode cX6_nearest 71 = .ok (.getfield 93, 3) := by decide +kernel
theorem dX6_nearest_74 : decode cX6_nearest 74 = .ok (.iload 5, 2) := by decide +kernel
theorem dX6_nearest_76 : decode cX6_nearest 76 = .ok (.iaload, 1) := by decide +kernel
theorem dX6_nearest_77 : decode cX6_nearest 77 = .ok (.invokevirtual 212, 3) := by decide +kernel
theorem dX6_nearest_80 : decode cX6_nearest 80 = .ok (.iload_n 2, 1) := by decide +kernel
theorem dX6_nearest_81 : decode cX6_nearest 81 = .ok (.if_icmp .lt 18, 3) := by decide +kernel
theorem dX6_nearest_84 : decode cX6_nearest 84 = .ok (.iload 6, 2) := by decide +kernel
theorem dX6_nearest_86 : decode cX6_nearest 86 = .ok (.istore 4, 2) := by decide +kernel
theorem dX6_nearest_88 : decode cX6_nearest 88 = .ok (.aload_n 0, 1) := by decide +kernel
theorem dX6_nearest_89 : decode cX6_nearest 89 = .ok (.getfield 19, 3) := by decide +kernel
theorem dX6_nearest_92 : decode cX6_nearest 92 = .ok (.getfield 93, 3) := by decide +kernel
theorem dX6_nearest_95 : decode cX6_nearest 95 = .ok (.iload 5, 2) := by decide +kernel
theorem dX6_nearest_97 : decode cX6_nearest 97 = .ok (.iaload, 1) := by decide +kernel
theorem dX6_nearest_98 : decode cX6_nearest 98 = .ok (.istore_n 3, 1) := by decide +kernel
theorem dX6_nearest_99 : decode cX6_nearest 99 = .ok (.iinc 5 1, 3) := by decide +kernel
theorem dX6_nearest_102 : decode cX6_nearest 102 = .ok (.goto (-72), 3) := by decide +kernel
theorem dX6_nearest_105 : decode cX6_nearest 105 = .ok (.iload_n 3, 1) := by decide +kernel
theorem dX6_nearest_106 : decode cX6_nearest 106 = .ok (.ireturn, 1) := by decide +kernel
theorem dX6_moved_0 : decode cX6_moved 0 = .ok (.iload_n 1, 1) := by decide +kernel
theorem dX6_moved_1 : decode cX6_moved 1 = .ok (.bipush 10, 2) := by decide +kernel
theorem dX6_moved_3 : decode cX6_moved 3 = .ok (.sipush 9990, 3) := by decide +kernel
theorem dX6_moved_6 : decode cX6_moved 6 = .ok (.invokestatic 68, 3) := by decide +kernel
theorem dX6_moved_9 : decode cX6_moved 9 = .ok (.ifCond .ne 5, 3) := by decide +kernel
theorem dX6_moved_12 : decode cX6_moved 12 = .ok (.iconst (-1), 1) := by decide +kernel
theorem dX6_moved_13 : decode cX6_moved 13 = .ok (.ireturn, 1) := by decide +kernel
theorem dX6_moved_14 : decode cX6_moved 14 = .ok (.iconst 0, 1) := by decide +kernel
theorem dX6_moved_15 : decode cX6_moved 15 = .ok (.istore_n 2, 1) := by decide +kernel
theorem dX6_moved_16 : decode cX6_moved 16 = .ok (.iconst 0, 1) := by decide +kernel
theorem dX6_moved_17 : decode cX6_moved 17 = .ok (.istore_n 3, 1) := by decide +kernel
theorem dX6_moved_18 : decode cX6_moved 18 = .ok (.iconst 0, 1) := by decide +kernel
theorem dX6_moved_19 : decode cX6_moved 19 = .ok (.istore 4, 2) := by decide +kernel
theorem dX6_moved_21 : decode cX6_moved 21 = .ok (.iload 4, 2) := by decide +kernel
theorem dX6_moved_23 : decode cX6_moved 23 = .ok (.aload_n 0, 1) := by decide +kernel
theorem dX6_moved_24 : decode cX6_moved 24 = .ok (.getfield 29, 3) := by decide +kernel
theorem dX6_moved_27 : decode cX6_moved 27 = .ok (.getfield 110, 3) := by decide +kernel
theorem dX6_moved_30 : decode cX6_moved 30 = .ok (.if_icmp .ge 68, 3) := by decide +kernel
theorem dX6_moved_33 : decode cX6_moved 33 = .ok (.aload_n 0, 1) := by decide +kernel
theorem dX6_moved_34 : decode cX6_moved 34 = .ok (.getfield 29, 3) := by decide +kernel
theorem dX6_moved_37 : decode cX6_moved 37 = .ok (.getfield 131, 3) := by decide +kernel
theorem dX6_moved_40 : decode cX6_moved 40 = .ok (.iload 4, 2) := by decide +kernel
theorem dX6_moved_42 : decode cX6_moved 42 = .ok (.iaload, 1) := by decide +kernel
theorem dX6_moved_43 : decode cX6_moved 43 = .ok (.aload_n 0, 1) := by decide +kernel
theorem dX6_moved_44 : decode cX6_moved 44 = .ok (.getfield 19, 3) := by decide +kernel
theorem dX6_moved_47 : decode cX6_moved 47 = .ok (.getfield 100, 3) := by decide +kernel
theorem dX6_moved_50 : decode cX6_moved 50 = .ok (.iload 4, 2) := by decide +kernel
theorem dX6_moved_52 : decode cX6_moved 52 = .ok (.iaload, 1) := by decide +kernel
theorem dX6_moved_53 : decode cX6_moved 53 = .ok (.imul, 1) := by decide +kernel
theorem dX6_moved_54 : decode cX6_moved 54 = .ok (.istore 5, 2) := by decide +kernel
theorem dX6_moved_56 : decode cX6_moved 56 = .ok (.iload 5, 2) := by decide +kernel
theorem dX6_moved_58 : decode cX6_moved 58 = .ok (.iload_n 1, 1) := by decide +kernel
theorem dX6_moved_59 : decode cX6_moved 59 = .ok (.if_icmp .le 6, 3) := by decide +kernel
theorem dX6_moved_62 : decode cX6_moved 62 = .ok (.bipush (-4), 2) := by decide +kernel
theorem dX6_moved_64 : decode cX6_moved 64 = .ok (.ireturn, 1) := by decide +kernel
theorem dX6_moved_65 : decode cX6_moved 65 = .ok (.iload 5, 2) := by decide +kernel
theorem dX6_moved_67 : decode cX6_moved 67 = .ok (.ifCond .le 20, 3) := by decide +kernel
theorem dX6_moved_70 : decode cX6_moved 70 = .ok (.iload_n 2, 1) := by decide +kernel
theorem dX6_moved_71 : decode cX6_moved 71 = .ok (.ifCond .eq 11, 3) := by decide +kernel
theorem dX6_moved_74 : decode cX6_moved 74 = .ok (.iload_n 3, 1) := by decide +kernel
theorem dX6_moved_75 : decode cX6_moved 75 = .ok (.iload 5, 2) := by decide +kernel
theorem dX6_moved_77 : decode cX6_moved 77 = .ok (.iadd, 1) := by decide +kernel
theorem dX6_moved_78 : decode cX6_moved 78 = .ok (.iload_n 1, 1) := by decide +kernel
theorem dX6_moved_79 : decode cX6_moved 79 = .ok (.if_icmp .le 8, 3) := by decide +kernel
theorem dX6_moved_82 : decode cX6_moved 82 = .ok (.iinc 2 1, 3) := by decide +kernel
theorem dX6_moved_85 : decode cX6_moved 85 = .ok (.iconst 0, 1) := by decide +kernel
theorem dX6_moved_86 : decode cX6_moved 86 = .ok (.istore_n 3, 1) := by decide +kernel
theorem dX6_moved_87 : decode cX6_moved 87 = .ok (.iload_n 3, 1) := by decide +kernel
theorem dX6_moved_88 : decode cX6_moved 88 = .ok (.iload 5, 2) := by decide +kernel
theorem dX6_moved_90 : decode cX6_moved 90 = .ok (.iadd, 1) := by decide +kernel
theorem dX6_moved_91 : decode cX6_moved 91 = .ok (.istore_n 3, 1) := by decide +kernel
theorem dX6_moved_92 : decode cX6_moved 92 = .ok (.iinc 4 1, 3) := by decide +kernel
theorem dX6_moved_95 : decode cX6_moved 95 = .ok (.goto (-74), 3) := by decide +kernel
theorem dX6_moved_98 : decode cX6_moved 98 = .ok (.iload_n 2, 1) := by decide +kernel
theorem dX6_moved_99 : decode cX6_moved 99 = .ok (.ifCond .ne 7, 3) := by decide +kernel
theorem dX6_moved_102 : decode cX6_moved 102 = .ok (.iconst 0, 1) := by decide +kernel
theorem dX6_moved_103 : decode cX6_moved 103 = .ok (.goto 8, 3) := by decide +kernel
theorem dX6_moved_106 : decode cX6_moved 106 = .ok (.iconst 2, 1) := by decide +kernel
theorem dX6_moved_107 : decode cX6_moved 107 = .ok (.iload_n 2, 1) := by decide +kernel
theorem dX6_moved_108 : decode cX6_moved 108 = .ok (.imul, 1) := by decide +kernel
theorem dX6_moved_109 : decode cX6_moved 109 = .ok (.iconst 1, 1) := by decide +kernel
theorem dX6_moved_110 : decode cX6_moved 110 = .ok (.isub, 1) := by decide +kernel
theorem dX6_moved_111 : decode cX6_moved 111 = .ok (.ireturn, 1) := by decide +kernel
theorem dX6_rent_0 : decode cX6_rent 0 = .ok (.iload_n 1, 1) := by decide +kernel
theorem dX6_rent_1 : decode cX6_rent 1 = .ok (.iconst 1, 1) := by decide +kernel
theorem dX6_rent_2 : decode cX6_rent 2 = .ok (.ldc 218, 2) := by decide +kernel
theorem dX6_rent_4 : decode cX6_rent 4 = .ok (.invokestatic 68, 3) := by decide +kernel
theorem dX6_rent_7 : decode cX6_rent 7 = .ok (.ifCond .ne 7, 3) := by decide +kernel
theorem dX6_rent_10 : decode cX6_rent 10 = .ok (.ldc2_w 219, 3) := by decide +kernel
theorem dX6_rent_13 : decode cX6_rent 13 = .ok (.lreturn, 1) := by decide +kernel
theorem dX6_rent_14 : decode cX6_rent 14 = .ok (.lconst 0, 1) := by decide +kernel
theorem dX6_rent_15 : decode cX6_rent 15 = .ok (.lstore_n 2, 1) := by decide +kernel
theorem dX6_rent_16 : decode cX6_rent 16 = .ok (.iconst 0, 1) := by decide +kernel
theorem dX6_rent_17 : decode cX6_rent 17 = .ok (.istore 4, 2) := by decide +kernel
theorem dX6_rent_19 : decode cX6_rent 19 = .ok (.iload 4, 2) := by decide +kernel
theorem dX6_rent_21 : decode cX6_rent 21 = .ok (.aload_n 0, 1) := by decide +kernel
theorem dX6_rent_22 : decode cX6_rent 22 = .ok (.getfield 29, 3) := by decide +kernel
theorem dX6_rent_25 : decode cX6_rent 25 = .ok (.getfield 110, 3) := by decide +kernel
theorem dX6_rent_28 : decode cX6_rent 28 = .ok (.if_icmp .ge 33, 3) := by decide +kernel
theorem dX6_rent_31 : decode cX6_rent 31 = .ok (.lload_n 2, 1) := by decide +kernel
theorem dX6_rent_32 : decode cX6_rent 32 = .ok (.aload_n 0, 1) := by decide +kernel
theorem dX6_rent_33 : decode cX6_rent 33 = .ok (.getfield 29, 3) := by decide +kernel
theorem dX6_rent_36 : decode cX6_rent 36 = .ok (.getfield 131, 3) := by decide +kernel
theorem dX6_rent_39 : decode cX6_rent 39 = .ok (.iload 4, 2) := by decide +kernel
theorem dX6_rent_41 : decode cX6_rent 41 = .ok (.iaload, 1) := by decide +kernel
theorem dX6_rent_42 : decode cX6_rent 42 = .ok (.aload_n 0, 1) := by decide +kernel
theorem dX6_rent_43 : decode cX6_rent 43 = .ok (.getfield 19, 3) := by decide +kernel
theorem dX6_rent_46 : decode cX6_rent 46 = .ok (.iload 4, 2) := by decide +kernel
theorem dX6_rent_48 : decode cX6_rent 48 = .ok (.invokevirtual 106, 3) := by decide +kernel
theorem dX6_rent_51 : decode cX6_rent 51 = .ok (.imul, 1) := by decide +kernel
theorem dX6_rent_52 : decode cX6_rent 52 = .ok (.i2l, 1) := by decide +kernel
theorem dX6_rent_53 : decode cX6_rent 53 = .ok (.ladd, 1) := by decide +kernel
theorem dX6_rent_54 : decode cX6_rent 54 = .ok (.lstore_n 2, 1) := by decide +kernel
theorem dX6_rent_55 : decode cX6_rent 55 = .ok (.iinc 4 1, 3) := by decide +kernel
theorem dX6_rent_58 : decode cX6_rent 58 = .ok (.goto (-39), 3) := by decide +kernel
theorem dX6_rent_61 : decode cX6_rent 61 = .ok (.iload_n 1, 1) := by decide +kernel
theorem dX6_rent_62 : decode cX6_rent 62 = .ok (.i2l, 1) := by decide +kernel
theorem dX6_rent_63 : decode cX6_rent 63 = .ok (.lload_n 2, 1) := by decide +kernel
theorem dX6_rent_64 : decode cX6_rent 64 = .ok (.lmul, 1) := by decide +kernel
theorem dX6_rent_65 : decode cX6_rent 65 = .ok (.ldc2_w 221, 3) := by decide +kernel
theorem dX6_rent_68 : decode cX6_rent 68 = .ok (.ldiv, 1) := by decide +kernel
theorem dX6_rent_69 : decode cX6_rent 69 = .ok (.lreturn, 1) := by decide +kernel
theorem dX6_winter_0 : decode cX6_winter 0 = .ok (.iload_n 1, 1) := by decide +kernel
theorem dX6_winter_1 : decode cX6_winter 1 = .ok (.invokestatic 223, 3) := by decide +kernel
theorem dX6_winter_4 : decode cX6_winter 4 = .ok (.ifCond .eq 14, 3) := by decide +kernel
theorem dX6_winter_7 : decode cX6_winter 7 = .ok (.aload_n 0, 1) := by decide +kernel
theorem dX6_winter_8 : decode cX6_winter 8 = .ok (.iconst 0, 1) := by decide +kernel
theorem dX6_winter_9 : decode cX6_winter 9 = .ok (.iconst 0, 1) := by decide +kernel
theorem dX6_winter_10 : decode cX6_winter 10 = .ok (.iconst 0, 1) := by decide +kernel
theorem dX6_winter_11 : decode cX6_winter 11 = .ok (.iload_n 1, 1) := by decide +kernel
theorem dX6_winter_12 : decode cX6_winter 12 = .ok (.invokevirtual 140, 3) := by decide +kernel
theorem dX6_winter_15 : decode cX6_winter 15 = .ok (.goto 4, 3) := by decide +kernel
theorem dX6_winter_18 : decode cX6_winter 18 = .ok (.iconst (-1), 1) := by decide +kernel
theorem dX6_winter_19 : decode cX6_winter 19 = .ok (.ireturn, 1) := by decide +kernel
theorem dX6_ten_0 : decode cX6_ten 0 = .ok (.iload_n 1, 1) := by decide +kernel
theorem dX6_ten_1 : decode cX6_ten 1 = .ok (.invokestatic 223, 3) := by decide +kernel
theorem dX6_ten_4 : decode cX6_ten 4 = .ok (.ifCond .ne 5, 3) := by decide +kernel
theorem dX6_ten_7 : decode cX6_ten 7 = .ok (.iconst (-1), 1) := by decide +kernel
theorem dX6_ten_8 : decode cX6_ten 8 = .ok (.ireturn, 1) := by decide +kernel
theorem dX6_ten_9 : decode cX6_ten 9 = .ok (.iconst 0, 1) := by decide +kernel
theorem dX6_ten_10 : decode cX6_ten 10 = .ok (.istore_n 2, 1) := by decide +kernel
theorem dX6_ten_11 : decode cX6_ten 11 = .ok (.iconst 0, 1) := by decide +kernel
theorem dX6_ten_12 : decode cX6_ten 12 = .ok (.istore_n 3, 1) := by decide +kernel
theorem dX6_ten_13 : decode cX6_ten 13 = .ok (.iload_n 3, 1) := by decide +kernel
theorem dX6_ten_14 : decode cX6_ten 14 = .ok (.bipush 10, 2) := by decide +kernel
theorem dX6_ten_16 : decode cX6_ten 16 = .ok (.if_icmp .ge 36, 3) := by decide +kernel
theorem dX6_ten_19 : decode cX6_ten 19 = .ok (.aload_n 0, 1) := by decide +kernel
theorem dX6_ten_20 : decode cX6_ten 20 = .ok (.iconst 0, 1) := by decide +kernel
theorem dX6_ten_21 : decode cX6_ten 21 = .ok (.iconst 0, 1) := by decide +kernel
theorem dX6_ten_22 : decode cX6_ten 22 = .ok (.iconst 0, 1) := by decide +kernel
theorem dX6_ten_23 : decode cX6_ten 23 = .ok (.iload_n 1, 1) := by decide +kernel
theorem dX6_ten_24 : decode cX6_ten 24 = .ok (.iload_n 3, 1) := by decide +kernel
theorem dX6_ten_25 : decode cX6_ten 25 = .ok (.iadd, 1) := by decide +kernel
theorem dX6_ten_26 : decode cX6_ten 26 = .ok (.sipush 10000, 3) := by decide +kernel
theorem dX6_ten_29 : decode cX6_ten 29 = .ok (.irem, 1) := by decide +kernel
theorem dX6_ten_30 : decode cX6_ten 30 = .ok (.invokevirtual 140, 3) := by decide +kernel
theorem dX6_ten_33 : decode cX6_ten 33 = .ok (.aload_n 0, 1) := by decide +kernel
theorem dX6_ten_34 : decode cX6_ten 34 = .ok (.getfield 19, 3) := by decide +kernel
theorem dX6_ten_37 : decode cX6_ten 37 = .ok (.getfield 87, 3) := by decide +kernel
theorem dX6_ten_40 : decode cX6_ten 40 = .ok (.if_icmp .ne 6, 3) := by decide +kernel
theorem dX6_ten_43 : decode cX6_ten 43 = .ok (.iinc 2 1, 3) := by decide +kernel
theorem dX6_ten_46 : decode cX6_ten 46 = .ok (.iinc 3 1, 3) := by decide +kernel
theorem dX6_ten_49 : decode cX6_ten 49 = .ok (.goto (-36), 3) := by decide +kernel
theorem dX6_ten_52 : decode cX6_ten 52 = .ok (.iload_n 2, 1) := by decide +kernel
theorem dX6_ten_53 : decode cX6_ten 53 = .ok (.ireturn, 1) := by decide +kernel
theorem dX6_keep_0 : decode cX6_keep 0 = .ok (.aload_n 0, 1) := by decide +kernel
theorem dX6_keep_1 : decode cX6_keep 1 = .ok (.getfield 39, 3) := by decide +kernel
theorem dX6_keep_4 : decode cX6_keep 4 = .ok (.iconst 2, 1) := by decide +kernel
theorem dX6_keep_5 : decode cX6_keep 5 = .ok (.if_icmp .lt 6, 3) := by decide +kernel
theorem dX6_keep_8 : decode cX6_keep 8 = .ok (.bipush (-3), 2) := by decide +kernel
theorem dX6_keep_10 : decode cX6_keep 10 = .ok (.ireturn, 1) := by decide +kernel
theorem dX6_keep_11 : decode cX6_keep 11 = .ok (.aload_n 0, 1) := by decide +kernel
theorem dX6_keep_12 : decode cX6_keep 12 = .ok (.aload_n 0, 1) := by decide +kernel
theorem dX6_keep_13 : decode cX6_keep 13 = .ok (.getfield 39, 3) := by decide +kernel
theorem dX6_keep_16 : decode cX6_keep 16 = .ok (.invokevirtual 226, 3) := by decide +kernel
theorem dX6_keep_19 : decode cX6_keep 19 = .ok (.aload_n 0, 1) := by decide +kernel
theorem dX6_keep_20 : decode cX6_keep 20 = .ok (.getfield 29, 3) := by decide +kernel
theorem dX6_keep_23 : decode cX6_keep 23 = .ok (.invokevirtual 230, 3) := by decide +kernel
theorem dX6_keep_26 : decode cX6_keep 26 = .ok (.aload_n 0, 1) := by decide +kernel
theorem dX6_keep_27 : decode cX6_keep 27 = .ok (.dup, 1) := by decide +kernel
theorem dX6_keep_28 : decode cX6_keep 28 = .ok (.getfield 39, 3) := by decide +kernel
theorem dX6_keep_31 : decode cX6_keep 31 = .ok (.iconst 1, 1) := by decide +kernel
theorem dX6_keep_32 : decode cX6_keep 32 = .ok (.iadd, 1) := by decide +kernel
theorem dX6_keep_33 : decode cX6_keep 33 = .ok (.putfield 39, 3) := by decide +kernel
theorem dX6_keep_36 : decode cX6_keep 36 = .ok (.aload_n 0, 1) := by decide +kernel
theorem dX6_keep_37 : decode cX6_keep 37 = .ok (.getfield 39, 3) := by decide +kernel
theorem dX6_keep_40 : decode cX6_keep 40 = .ok (.ireturn, 1) := by decide +kernel
theorem dX6_back_0 : decode cX6_back 0 = .ok (.aload_n 0, 1) := by decide +kernel
theorem dX6_back_1 : decode cX6_back 1 = .ok (.getfield 39, 3) := by decide +kernel
theorem dX6_back_4 : decode cX6_back 4 = .ok (.ifCond .ne 6, 3) := by decide +kernel
theorem dX6_back_7 : decode cX6_back 7 = .ok (.bipush (-2), 2) := by decide +kernel
theorem dX6_back_9 : decode cX6_back 9 = .ok (.ireturn, 1) := by decide +kernel
theorem dX6_back_10 : decode cX6_back 10 = .ok (.aload_n 0, 1) := by decide +kernel
theorem dX6_back_11 : decode cX6_back 11 = .ok (.dup, 1) := by decide +kernel
theorem dX6_back_12 : decode cX6_back 12 = .ok (.getfield 39, 3) := by decide +kernel
theorem dX6_back_15 : decode cX6_back 15 = .ok (.iconst 1, 1) := by decide +kernel
theorem dX6_back_16 : decode cX6_back 16 = .ok (.isub, 1) := by decide +kernel
theorem dX6_back_17 : decode cX6_back 17 = .ok (.putfield 39, 3) := by decide +kernel
theorem dX6_back_20 : decode cX6_back 20 = .ok (.aload_n 0, 1) := by decide +kernel
theorem dX6_back_21 : decode cX6_back 21 = .ok (.getfield 29, 3) := by decide +kernel
theorem dX6_back_24 : decode cX6_back 24 = .ok (.aload_n 0, 1) := by decide +kernel
theorem dX6_back_25 : decode cX6_back 25 = .ok (.aload_n 0, 1) := by decide +kernel
theorem dX6_back_26 : decode cX6_back 26 = .ok (.getfield 39, 3) := by decide +kernel
theorem dX6_back_29 : decode cX6_back 29 = .ok (.invokevirtual 226, 3) := by decide +kernel
theorem dX6_back_32 : decode cX6_back 32 = .ok (.invokevirtual 230, 3) := by decide +kernel
theorem dX6_back_35 : decode cX6_back 35 = .ok (.aload_n 0, 1) := by decide +kernel
theorem dX6_back_36 : decode cX6_back 36 = .ok (.getfield 39, 3) := by decide +kernel
theorem dX6_back_39 : decode cX6_back 39 = .ok (.ireturn, 1) := by decide +kernel
theorem dX6_count_0 : decode cX6_count 0 = .ok (.iload_n 1, 1) := by decide +kernel
theorem dX6_count_1 : decode cX6_count 1 = .ok (.tableswitch 124 0 8 #[51, 59, 67, 75, 87, 95, 103, 111, 116], 51) := by decide +kernel
theorem dX6_count_52 : decode cX6_count 52 = .ok (.aload_n 0, 1) := by decide +kernel
theorem dX6_count_53 : decode cX6_count 53 = .ok (.getfield 19, 3) := by decide +kernel
theorem dX6_count_56 : decode cX6_count 56 = .ok (.getfield 87, 3) := by decide +kernel
theorem dX6_count_59 : decode cX6_count 59 = .ok (.ireturn, 1) := by decide +kernel
theorem dX6_count_60 : decode cX6_count 60 = .ok (.aload_n 0, 1) := by decide +kernel
theorem dX6_count_61 : decode cX6_count 61 = .ok (.getfield 29, 3) := by decide +kernel
theorem dX6_count_64 : decode cX6_count 64 = .ok (.getfield 110, 3) := by decide +kernel
theorem dX6_count_67 : decode cX6_count 67 = .ok (.ireturn, 1) := by decide +kernel
theorem dX6_count_68 : decode cX6_count 68 = .ok (.aload_n 0, 1) := by decide +kernel
theorem dX6_count_69 : decode cX6_count 69 = .ok (.getfield 29, 3) := by decide +kernel
theorem dX6_count_72 : decode cX6_count 72 = .ok (.invokevirtual 113, 3) := by decide +kernel
theorem dX6_count_75 : decode cX6_count 75 = .ok (.ireturn, 1) := by decide +kernel
theorem dX6_count_76 : decode cX6_count 76 = .ok (.aload_n 0, 1) := by decide +kernel
theorem dX6_count_77 : decode cX6_count 77 = .ok (.getfield 29, 3) := by decide +kernel
theorem dX6_count_80 : decode cX6_count 80 = .ok (.aload_n 0, 1) := by decide +kernel
theorem dX6_count_81 : decode cX6_count 81 = .ok (.getfield 19, 3) := by decide +kernel
theorem dX6_count_84 : decode cX6_count 84 = .ok (.invokevirtual 116, 3) := by decide +kernel
theorem dX6_count_87 : decode cX6_count 87 = .ok (.ireturn, 1) := by decide +kernel
theorem dX6_count_88 : decode cX6_count 88 = .ok (.aload_n 0, 1) := by decide +kernel
theorem dX6_count_89 : decode cX6_count 89 = .ok (.getfield 29, 3) := by decide +kernel
theorem dX6_count_92 : decode cX6_count 92 = .ok (.getfield 234, 3) := by decide +kernel
theorem dX6_count_95 : decode cX6_count 95 = .ok (.ireturn, 1) := by decide +kernel
theorem dX6_count_96 : decode cX6_count 96 = .ok (.aload_n 0, 1) := by decide +kernel
theorem dX6_count_97 : decode cX6_count 97 = .ok (.getfield 29, 3) := by decide +kernel
theorem dX6_count_100 : decode cX6_count 100 = .ok (.getfield 237, 3) := by decide +kernel
theorem dX6_count_103 : decode cX6_count 103 = .ok (.ireturn, 1) := by decide +kernel
theorem dX6_count_104 : decode cX6_count 104 = .ok (.aload_n 0, 1) := by decide +kernel
theorem dX6_count_105 : decode cX6_count 105 = .ok (.getfield 46, 3) := by decide +kernel
theorem dX6_count_108 : decode cX6_count 108 = .ok (.getfield 204, 3) := by decide +kernel
theorem dX6_count_111 : decode cX6_count 111 = .ok (.ireturn, 1) := by decide +kernel
theorem dX6_count_112 : decode cX6_count 112 = .ok (.aload_n 0, 1) := by decide +kernel
theorem dX6_count_113 : decode cX6_count 113 = .ok (.getfield 39, 3) := by decide +kernel
theorem dX6_count_116 : decode cX6_count 116 = .ok (.ireturn, 1) := by decide +kernel
theorem dX6_count_117 : decode cX6_count 117 = .ok (.aload_n 0, 1) := by decide +kernel
theorem dX6_count_118 : decode cX6_count 118 = .ok (.getfield 10, 3) := by decide +kernel
theorem dX6_count_121 : decode cX6_count 121 = .ok (.getfield 76, 3) := by decide +kernel
theorem dX6_count_124 : decode cX6_count 124 = .ok (.ireturn, 1) := by decide +kernel
theorem dX6_count_125 : decode cX6_count 125 = .ok (.iconst (-1), 1) := by decide +kernel
theorem dX6_count_126 : decode cX6_count 126 = .ok (.ireturn, 1) := by decide +kernel
theorem dX6_inside_0 : decode cX6_inside 0 = .ok (.iload_n 0, 1) := by decide +kernel
theorem dX6_inside_1 : decode cX6_inside 1 = .ok (.iload_n 1, 1) := by decide +kernel
theorem dX6_inside_2 : decode cX6_inside 2 = .ok (.if_icmp .lt 12, 3) := by decide +kernel
theorem dX6_inside_5 : decode cX6_inside 5 = .ok (.iload_n 0, 1) := by decide +kernel
theorem dX6_inside_6 : decode cX6_inside 6 = .ok (.iload_n 2, 1) := by decide +kernel
theorem dX6_inside_7 : decode cX6_inside 7 = .ok (.if_icmp .gt 7, 3) := by decide +kernel
theorem dX6_inside_10 : decode cX6_inside 10 = .ok (.iconst 1, 1) := by decide +kernel
theorem dX6_inside_11 : decode cX6_inside 11 = .ok (.goto 4, 3) := by decide +kernel
theorem dX6_inside_14 : decode cX6_inside 14 = .ok (.iconst 0, 1) := by decide +kernel
theorem dX6_inside_15 : decode cX6_inside 15 = .ok (.ireturn, 1) := by decide +kernel
theorem dX6_isYear_0 : decode cX6_isYear 0 = .ok (.iload_n 0, 1) := by decide +kernel
theorem dX6_isYear_1 : decode cX6_isYear 1 = .ok (.iconst 0, 1) := by decide +kernel
theorem dX6_isYear_2 : decode cX6_isYear 2 = .ok (.bipush 99, 2) := by decide +kernel
theorem dX6_isYear_4 : decode cX6_isYear 4 = .ok (.invokestatic 68, 3) := by decide +kernel
theorem dX6_isYear_7 : decode cX6_isYear 7 = .ok (.ireturn, 1) := by decide +kernel
theorem dX6_isWinter_0 : decode cX6_isWinter 0 = .ok (.iload_n 0, 1) := by decide +kernel
theorem dX6_isWinter_1 : decode cX6_isWinter 1 = .ok (.iconst 0, 1) := by decide +kernel
theorem dX6_isWinter_2 : decode cX6_isWinter 2 = .ok (.sipush 9999, 3) := by decide +kernel
theorem dX6_isWinter_5 : decode cX6_isWinter 5 = .ok (.invokestatic 68, 3) := by decide +kernel
theorem dX6_isWinter_8 : decode cX6_isWinter 8 = .ok (.ireturn, 1) := by decide +kernel
theorem dX6_isPiece_0 : decode cX6_isPiece 0 = .ok (.iload_n 0, 1) := by decide +kernel
theorem dX6_isPiece_1 : decode cX6_isPiece 1 = .ok (.iconst 0, 1) := by decide +kernel
theorem dX6_isPiece_2 : decode cX6_isPiece 2 = .ok (.bipush 9, 2) := by decide +kernel
theorem dX6_isPiece_4 : decode cX6_isPiece 4 = .ok (.invokestatic 68, 3) := by decide +kernel
theorem dX6_isPiece_7 : decode cX6_isPiece 7 = .ok (.ifCond .eq 17, 3) := by decide +kernel
theorem dX6_isPiece_10 : decode cX6_isPiece 10 = .ok (.iload_n 1, 1) := by decide +kernel
theorem dX6_isPiece_11 : decode cX6_isPiece 11 = .ok (.iconst 1, 1) := by decide +kernel
theorem dX6_isPiece_12 : decode cX6_isPiece 12 = .ok (.bipush 9, 2) := by decide +kernel
theorem dX6_isPiece_14 : decode cX6_isPiece 14 = .ok (.invokestatic 68, 3) := by decide +kernel
theorem dX6_isPiece_17 : decode cX6_isPiece 17 = .ok (.ifCond .eq 7, 3) := by decide +kernel
theorem dX6_isPiece_20 : decode cX6_isPiece 20 = .ok (.iconst 1, 1) := by decide +kernel
theorem dX6_isPiece_21 : decode cX6_isPiece 21 = .ok (.goto 4, 3) := by decide +kernel
theorem dX6_isPiece_24 : decode cX6_isPiece 24 = .ok (.iconst 0, 1) := by decide +kernel
theorem dX6_isPiece_25 : decode cX6_isPiece 25 = .ok (.ireturn, 1) := by decide +kernel
theorem dX6_keptAt_0 : decode cX6_keptAt 0 = .ok (.iload_n 1, 1) := by decide +kernel
theorem dX6_keptAt_1 : decode cX6_keptAt 1 = .ok (.ifCond .ne 10, 3) := by decide +kernel
theorem dX6_keptAt_4 : decode cX6_keptAt 4 = .ok (.aload_n 0, 1) := by decide +kernel
theorem dX6_keptAt_5 : decode cX6_keptAt 5 = .ok (.getfield 33, 3) := by decide +kernel
theorem dX6_keptAt_8 : decode cX6_keptAt 8 = .ok (.goto 7, 3) := by decide +kernel
theorem dX6_keptAt_11 : decode cX6_keptAt 11 = .ok (.aload_n 0, 1) := by decide +kernel
theorem dX6_keptAt_12 : decode cX6_keptAt 12 = .ok (.getfield 36, 3) := by decide +kernel
theorem dX6_keptAt_15 : decode cX6_keptAt 15 = .ok (.areturn, 1) := by decide +kernel
theorem dX6_firstThatCannot_0 : decode cX6_firstThatCannot 0 = .ok (.iload_n 1, 1) := by decide +kernel
theorem dX6_firstThatCannot_1 : decode cX6_firstThatCannot 1 = .ok (.istore 5, 2) := by decide +kernel
theorem dX6_firstThatCannot_3 : decode cX6_firstThatCannot 3 = .ok (.iload 5, 2) := by decide +kernel
theorem dX6_firstThatCannot_5 : decode cX6_firstThatCannot 5 = .ok (.aload_n 0, 1) := by decide +kernel
theorem dX6_firstThatCannot_6 : decode cX6_firstThatCannot 6 = .ok (.getfield 19, 3) := by decide +kernel
theorem dX6_firstThatCannot_9 : decode cX6_firstThatCannot 9 = .ok (.getfield 87, 3) := by decide +kernel
theorem dX6_firstThatCannot_12 : decode cX6_firstThatCannot 12 = .ok (.if_icmp .ge 69, 3) := by decide +kernel
theorem dX6_firstThatCannot_15 : decode cX6_firstThatCannot 15 = .ok (.bipush 10, 2) := by decide +kernel
theorem dX6_firstThatCannot_17 : decode cX6_firstThatCannot 17 = .ok (.aload_n 0, 1) := by decide +kernel
theorem dX6_firstThatCannot_18 : decode cX6_firstThatCannot 18 = .ok (.getfield 19, 3) := by decide +kernel
theorem dX6_firstThatCannot_21 : decode cX6_firstThatCannot 21 = .ok (.getfield 97, 3) := by decide +kernel
theorem dX6_firstThatCannot_24 : decode cX6_firstThatCannot 24 = .ok (.iload 5, 2) := by decide +kernel
theorem dX6_firstThatCannot_26 : decode cX6_firstThatCannot 26 = .ok (.iaload, 1) := by decide +kernel
theorem dX6_firstThatCannot_27 : decode cX6_firstThatCannot 27 = .ok (.aload_n 0, 1) := by decide +kernel
theorem dX6_firstThatCannot_28 : decode cX6_firstThatCannot 28 = .ok (.iload 5, 2) := by decide +kernel
theorem dX6_firstThatCannot_30 : decode cX6_firstThatCannot 30 = .ok (.iload 4, 2) := by decide +kernel
theorem dX6_firstThatCannot_32 : decode cX6_firstThatCannot 32 = .ok (.invokevirtual 240, 3) := by decide +kernel
theorem dX6_firstThatCannot_35 : decode cX6_firstThatCannot 35 = .ok (.iadd, 1) := by decide +kernel
theorem dX6_firstThatCannot_36 : decode cX6_firstThatCannot 36 = .ok (.imul, 1) := by decide +kernel
theorem dX6_firstThatCannot_37 : decode cX6_firstThatCannot 37 = .ok (.istore 6, 2) := by decide +kernel
theorem dX6_firstThatCannot_39 : decode cX6_firstThatCannot 39 = .ok (.iload_n 2, 1) := by decide +kernel
theorem dX6_firstThatCannot_40 : decode cX6_firstThatCannot 40 = .ok (.iload 6, 2) := by decide +kernel
theorem dX6_firstThatCannot_42 : decode cX6_firstThatCannot 42 = .ok (.iadd, 1) := by decide +kernel
theorem dX6_firstThatCannot_43 : decode cX6_firstThatCannot 43 = .ok (.istore_n 2, 1) := by decide +kernel
theorem dX6_firstThatCannot_44 : decode cX6_firstThatCannot 44 = .ok (.iload_n 3, 1) := by decide +kernel
theorem dX6_firstThatCannot_45 : decode cX6_firstThatCannot 45 = .ok (.iload 6, 2) := by decide +kernel
theorem dX6_firstThatCannot_47 : decode cX6_firstThatCannot 47 = .ok (.aload_n 0, 1) := by decide +kernel
theorem dX6_firstThatCannot_48 : decode cX6_firstThatCannot 48 = .ok (.getfield 19, 3) := by decide +kernel
theorem dX6_firstThatCannot_51 : decode cX6_firstThatCannot 51 = .ok (.getfield 100, 3) := by decide +kernel
theorem dX6_firstThatCannot_54 : decode cX6_firstThatCannot 54 = .ok (.iload 5, 2) := by decide +kernel
theorem dX6_firstThatCannot_56 : decode cX6_firstThatCannot 56 = .ok (.iaload, 1) := by decide +kernel
theorem dX6_firstThatCannot_57 : decode cX6_firstThatCannot 57 = .ok (.imul, 1) := by decide +kernel
theorem dX6_firstThatCannot_58 : decode cX6_firstThatCannot 58 = .ok (.iadd, 1) := by decide +kernel
theorem dX6_firstThatCannot_59 : decode cX6_firstThatCannot 59 = .ok (.istore_n 3, 1) := by decide +kernel
theorem dX6_firstThatCannot_60 : decode cX6_firstThatCannot 60 = .ok (.aload_n 0, 1) := by decide +kernel
theorem dX6_firstThatCannot_61 : decode cX6_firstThatCannot 61 = .ok (.getfield 19, 3) := by decide +kernel
theorem dX6_firstThatCannot_64 : decode cX6_firstThatCannot 64 = .ok (.iload_n 2, 1) := by decide +kernel
theorem dX6_firstThatCannot_65 : decode cX6_firstThatCannot 65 = .ok (.iload_n 3, 1) := by decide +kernel
theorem dX6_firstThatCannot_66 : decode cX6_firstThatCannot 66 = .ok (.invokevirtual 119, 3) := by decide +kernel
theorem dX6_firstThatCannot_69 : decode cX6_firstThatCannot 69 = .ok (.ifCond .ne 6, 3) := by decide +kernel
theorem dX6_firstThatCannot_72 : decode cX6_firstThatCannot 72 = .ok (.iload 5, 2) := by decide +kernel
theorem dX6_firstThatCannot_74 : decode cX6_firstThatCannot 74 = .ok (.ireturn, 1) := by decide +kernel
theorem dX6_firstThatCannot_75 : decode cX6_firstThatCannot 75 = .ok (.iinc 5 1, 3) := by decide +kernel
theorem dX6_firstThatCannot_78 : decode cX6_firstThatCannot 78 = .ok (.goto (-75), 3) := by decide +kernel
theorem dX6_firstThatCannot_81 : decode cX6_firstThatCannot 81 = .ok (.aload_n 0, 1) := by decide +kernel
theorem dX6_firstThatCannot_82 : decode cX6_firstThatCannot 82 = .ok (.getfield 19, 3) := by decide +kernel
theorem dX6_firstThatCannot_85 : decode cX6_firstThatCannot 85 = .ok (.getfield 87, 3) := by decide +kernel
theorem dX6_firstThatCannot_88 : decode cX6_firstThatCannot 88 = .ok (.ireturn, 1) := by decide +kernel
theorem dX6_moreInches_0 : decode cX6_moreInches 0 = .ok (.iload_n 2, 1) := by decide +kernel
theorem dX6_moreInches_1 : decode cX6_moreInches 1 = .ok (.iconst (-1), 1) := by decide +kernel
theorem dX6_moreInches_2 : decode cX6_moreInches 2 = .ok (.if_icmp .ne 5, 3) := by decide +kernel
theorem dX6_moreInches_5 : decode cX6_moreInches 5 = .ok (.iconst 0, 1) := by decide +kernel
theorem dX6_moreInches_6 : decode cX6_moreInches 6 = .ok (.ireturn, 1) := by decide +kernel
theorem dX6_moreInches_7 : decode cX6_moreInches 7 = .ok (.ldc2_w 243, 3) := by decide +kernel
theorem dX6_moreInches_10 : decode cX6_moreInches 10 = .ok (.iload_n 2, 1) := by decide +kernel
theorem dX6_moreInches_11 : decode cX6_moreInches 11 = .ok (.i2l, 1) := by decide +kernel
theorem dX6_moreInches_12 : decode cX6_moreInches 12 = .ok (.lmul, 1) := by decide +kernel
theorem dX6_moreInches_13 : decode cX6_moreInches 13 = .ok (.ldc2_w 245, 3) := by decide +kernel
theorem dX6_moreInches_16 : decode cX6_moreInches 16 = .ok (.iload_n 1, 1) := by decide +kernel
theorem dX6_moreInches_17 : decode cX6_moreInches 17 = .ok (.i2l, 1) := by decide +kernel
theorem dX6_moreInches_18 : decode cX6_moreInches 18 = .ok (.lmul, 1) := by decide +kernel
theorem dX6_moreInches_19 : decode cX6_moreInches 19 = .ok (.ladd, 1) := by decide +kernel
theorem dX6_moreInches_20 : decode cX6_moreInches 20 = .ok (.lconst 1, 1) := by decide +kernel
theorem dX6_moreInches_21 : decode cX6_moreInches 21 = .ok (.ladd, 1) := by decide +kernel
theorem dX6_moreInches_22 : decode cX6_moreInches 22 = .ok (.lstore_n 3, 1) := by decide +kernel
theorem dX6_moreInches_23 : decode cX6_moreInches 23 = .ok (.iconst 1, 1) := by decide +kernel
theorem dX6_moreInches_24 : decode cX6_moreInches 24 = .ok (.aload_n 0, 1) := by decide +kernel
theorem dX6_moreInches_25 : decode cX6_moreInches 25 = .ok (.getfield 19, 3) := by decide +kernel
theorem dX6_moreInches_28 : decode cX6_moreInches 28 = .ok (.getfield 247, 3) := by decide +kernel
theorem dX6_moreInches_31 : decode cX6_moreInches 31 = .ok (.iconst 1, 1) := by decide +kernel
theorem dX6_moreInches_32 : decode cX6_moreInches 32 = .ok (.iadd, 1) := by decide +kernel
theorem dX6_moreInches_33 : decode cX6_moreInches 33 = .ok (.invokestatic 196, 3) := by decide +kernel
theorem dX6_moreInches_36 : decode cX6_moreInches 36 = .ok (.istore 5, 2) := by decide +kernel
theorem dX6_moreInches_38 : decode cX6_moreInches 38 = .ok (.lload_n 3, 1) := by decide +kernel
theorem dX6_moreInches_39 : decode cX6_moreInches 39 = .ok (.lload_n 3, 1) := by decide +kernel
theorem dX6_moreInches_40 : decode cX6_moreInches 40 = .ok (.lmul, 1) := by decide +kernel
theorem dX6_moreInches_41 : decode cX6_moreInches 41 = .ok (.ldc2_w 250, 3) := by decide +kernel
theorem dX6_moreInches_44 : decode cX6_moreInches 44 = .ok (.lrem, 1) := by decide +kernel
theorem dX6_moreInches_45 : decode cX6_moreInches 45 = .ok (.iload 5, 2) := by decide +kernel
theorem dX6_moreInches_47 : decode cX6_moreInches 47 = .ok (.i2l, 1) := by decide +kernel
theorem dX6_moreInches_48 : decode cX6_moreInches 48 = .ok (.lrem, 1) := by decide +kernel
theorem dX6_moreInches_49 : decode cX6_moreInches 49 = .ok (.l2i, 1) := by decide +kernel
theorem dX6_moreInches_50 : decode cX6_moreInches 50 = .ok (.ireturn, 1) := by decide +kernel
theorem dX6_weightOf_0 : decode cX6_weightOf 0 = .ok (.iload_n 2, 1) := by decide +kernel
theorem dX6_weightOf_1 : decode cX6_weightOf 1 = .ok (.aload_n 0, 1) := by decide +kernel
theorem dX6_weightOf_2 : decode cX6_weightOf 2 = .ok (.getfield 19, 3) := by decide +kernel
theorem dX6_weightOf_5 : decode cX6_weightOf 5 = .ok (.getfield 103, 3) := by decide +kernel
theorem dX6_weightOf_8 : decode cX6_weightOf 8 = .ok (.iload_n 1, 1) := by decide +kernel
theorem dX6_weightOf_9 : decode cX6_weightOf 9 = .ok (.iaload, 1) := by decide +kernel
theorem dX6_weightOf_10 : decode cX6_weightOf 10 = .ok (.if_icmp .ne 16, 3) := by decide +kernel
theorem dX6_weightOf_13 : decode cX6_weightOf 13 = .ok (.bipush 10, 2) := by decide +kernel
theorem dX6_weightOf_15 : decode cX6_weightOf 15 = .ok (.aload_n 0, 1) := by decide +kernel
theorem dX6_weightOf_16 : decode cX6_weightOf 16 = .ok (.getfield 19, 3) := by decide +kernel
theorem dX6_weightOf_19 : decode cX6_weightOf 19 = .ok (.getfield 252, 3) := by decide +kernel
theorem dX6_weightOf_22 : decode cX6_weightOf 22 = .ok (.isub, 1) := by decide +kernel
theorem dX6_weightOf_23 : decode cX6_weightOf 23 = .ok (.goto 10, 3) := by decide +kernel
theorem dX6_weightOf_26 : decode cX6_weightOf 26 = .ok (.aload_n 0, 1) := by decide +kernel
theorem dX6_weightOf_27 : decode cX6_weightOf 27 = .ok (.getfield 19, 3) := by decide +kernel
theorem dX6_weightOf_30 : decode cX6_weightOf 30 = .ok (.getfield 252, 3) := by decide +kernel
theorem dX6_weightOf_33 : decode cX6_weightOf 33 = .ok (.istore 4, 2) := by decide +kernel
theorem dX6_weightOf_35 : decode cX6_weightOf 35 = .ok (.iload_n 3, 1) := by decide +kernel
theorem dX6_weightOf_36 : decode cX6_weightOf 36 = .ok (.aload_n 0, 1) := by decide +kernel
theorem dX6_weightOf_37 : decode cX6_weightOf 37 = .ok (.getfield 19, 3) := by decide +kernel
theorem dX6_weightOf_40 : decode cX6_weightOf 40 = .ok (.getfield 100, 3) := by decide +kernel
theorem dX6_weightOf_43 : decode cX6_weightOf 43 = .ok (.iload_n 1, 1) := by decide +kernel
theorem dX6_weightOf_44 : decode cX6_weightOf 44 = .ok (.iaload, 1) := by decide +kernel
theorem dX6_weightOf_45 : decode cX6_weightOf 45 = .ok (.if_icmp .ne 8, 3) := by decide +kernel
theorem dX6_weightOf_48 : decode cX6_weightOf 48 = .ok (.bipush 9, 2) := by decide +kernel
theorem dX6_weightOf_50 : decode cX6_weightOf 50 = .ok (.goto 4, 3) := by decide +kernel
theorem dX6_weightOf_53 : decode cX6_weightOf 53 = .ok (.iconst 1, 1) := by decide +kernel
theorem dX6_weightOf_54 : decode cX6_weightOf 54 = .ok (.istore 5, 2) := by decide +kernel
theorem dX6_weightOf_56 : decode cX6_weightOf 56 = .ok (.aload_n 0, 1) := by decide +kernel
theorem dX6_weightOf_57 : decode cX6_weightOf 57 = .ok (.getfield 29, 3) := by decide +kernel
theorem dX6_weightOf_60 : decode cX6_weightOf 60 = .ok (.getfield 131, 3) := by decide +kernel
theorem dX6_weightOf_63 : decode cX6_weightOf 63 = .ok (.iload_n 1, 1) := by decide +kernel
theorem dX6_weightOf_64 : decode cX6_weightOf 64 = .ok (.iaload, 1) := by decide +kernel
theorem dX6_weightOf_65 : decode cX6_weightOf 65 = .ok (.iload 4, 2) := by decide +kernel
theorem dX6_weightOf_67 : decode cX6_weightOf 67 = .ok (.imul, 1) := by decide +kernel
theorem dX6_weightOf_68 : decode cX6_weightOf 68 = .ok (.iload 5, 2) := by decide +kernel
theorem dX6_weightOf_70 : decode cX6_weightOf 70 = .ok (.imul, 1) := by decide +kernel
theorem dX6_weightOf_71 : decode cX6_weightOf 71 = .ok (.ireturn, 1) := by decide +kernel
theorem dX6_weightOfAll_0 : decode cX6_weightOfAll 0 = .ok (.iconst 0, 1) := by decide +kernel
theorem dX6_weightOfAll_1 : decode cX6_weightOfAll 1 = .ok (.istore_n 3, 1) := by decide +kernel
theorem dX6_weightOfAll_2 : decode cX6_weightOfAll 2 = .ok (.iconst 0, 1) := by decide +kernel
theorem dX6_weightOfAll_3 : decode cX6_weightOfAll 3 = .ok (.istore 4, 2) := by decide +kernel
theorem dX6_weightOfAll_5 : decode cX6_weightOfAll 5 = .ok (.iload 4, 2) := by decide +kernel
theorem dX6_weightOfAll_7 : decode cX6_weightOfAll 7 = .ok (.aload_n 0, 1) := by decide +kernel
theorem dX6_weightOfAll_8 : decode cX6_weightOfAll 8 = .ok (.getfield 29, 3) := by decide +kernel
theorem dX6_weightOfAll_11 : decode cX6_weightOfAll 11 = .ok (.getfield 110, 3) := by decide +kernel
theorem dX6_weightOfAll_14 : decode cX6_weightOfAll 14 = .ok (.if_icmp .ge 20, 3) := by decide +kernel
theorem dX6_weightOfAll_17 : decode cX6_weightOfAll 17 = .ok (.iload_n 3, 1) := by decide +kernel
theorem dX6_weightOfAll_18 : decode cX6_weightOfAll 18 = .ok (.aload_n 0, 1) := by decide +kernel
theorem dX6_weightOfAll_19 : decode cX6_weightOfAll 19 = .ok (.iload 4, 2) := by decide +kernel
theorem dX6_weightOfAll_21 : decode cX6_weightOfAll 21 = .ok (.iload_n 1, 1) := by decide +kernel
theorem dX6_weightOfAll_22 : decode cX6_weightOfAll 22 = .ok (.iload_n 2, 1) := by decide +kernel
theorem dX6_weightOfAll_23 : decode cX6_weightOfAll 23 = .ok (.invokevirtual 255, 3) := by decide +kernel
theorem dX6_weightOfAll_26 : decode cX6_weightOfAll 26 = .ok (.iadd, 1) := by decide +kernel
theorem dX6_weightOfAll_27 : decode cX6_weightOfAll 27 = .ok (.istore_n 3, 1) := by decide +kernel
theorem dX6_weightOfAll_28 : decode cX6_weightOfAll 28 = .ok (.iinc 4 1, 3) := by decide +kernel
theorem dX6_weightOfAll_31 : decode cX6_weightOfAll 31 = .ok (.goto (-26), 3) := by decide +kernel
theorem dX6_weightOfAll_34 : decode cX6_weightOfAll 34 = .ok (.iload_n 3, 1) := by decide +kernel
theorem dX6_weightOfAll_35 : decode cX6_weightOfAll 35 = .ok (.ireturn, 1) := by decide +kernel
theorem dX6_weightOfYear_0 : decode cX6_weightOfYear 0 = .ok (.iconst 0, 1) := by decide +kernel
theorem dX6_weightOfYear_1 : decode cX6_weightOfYear 1 = .ok (.istore 4, 2) := by decide +kernel
theorem dX6_weightOfYear_3 : decode cX6_weightOfYear 3 = .ok (.iconst 0, 1) := by decide +kernel
theorem dX6_weightOfYear_4 : decode cX6_weightOfYear 4 = .ok (.istore 5, 2) := by decide +kernel
theorem dX6_weightOfYear_6 : decode cX6_weightOfYear 6 = .ok (.iload 5, 2) := by decide +kernel
theorem dX6_weightOfYear_8 : decode cX6_weightOfYear 8 = .ok (.aload_n 0, 1) := by decide +kernel
theorem dX6_weightOfYear_9 : decode cX6_weightOfYear 9 = .ok (.getfield 29, 3) := by decide +kernel
theorem dX6_weightOfYear_12 : decode cX6_weightOfYear 12 = .ok (.getfield 110, 3) := by decide +kernel
theorem dX6_weightOfYear_15 : decode cX6_weightOfYear 15 = .ok (.if_icmp .ge 36, 3) := by decide +kernel
theorem dX6_weightOfYear_18 : decode cX6_weightOfYear 18 = .ok (.aload_n 0, 1) := by decide +kernel
theorem dX6_weightOfYear_19 : decode cX6_weightOfYear 19 = .ok (.getfield 19, 3) := by decide +kernel
theorem dX6_weightOfYear_22 : decode cX6_weightOfYear 22 = .ok (.getfield 93, 3) := by decide +kernel
theorem dX6_weightOfYear_25 : decode cX6_weightOfYear 25 = .ok (.iload 5, 2) := by decide +kernel
theorem dX6_weightOfYear_27 : decode cX6_weightOfYear 27 = .ok (.iaload, 1) := by decide +kernel
theorem dX6_weightOfYear_28 : decode cX6_weightOfYear 28 = .ok (.iload_n 3, 1) := by decide +kernel
theorem dX6_weightOfYear_29 : decode cX6_weightOfYear 29 = .ok (.if_icmp .ne 16, 3) := by decide +kernel
theorem dX6_weightOfYear_32 : decode cX6_weightOfYear 32 = .ok (.iload 4, 2) := by decide +kernel
theorem dX6_weightOfYear_34 : decode cX6_weightOfYear 34 = .ok (.aload_n 0, 1) := by decide +kernel
theorem dX6_weightOfYear_35 : decode cX6_weightOfYear 35 = .ok (.iload 5, 2) := by decide +kernel
theorem dX6_weightOfYear_37 : decode cX6_weightOfYear 37 = .ok (.iload_n 1, 1) := by decide +kernel
theorem dX6_weightOfYear_38 : decode cX6_weightOfYear 38 = .ok (.iload_n 2, 1) := by decide +kernel
theorem dX6_weightOfYear_39 : decode cX6_weightOfYear 39 = .ok (.invokevirtual 255, 3) := by decide +kernel
theorem dX6_weightOfYear_42 : decode cX6_weightOfYear 42 = .ok (.iadd, 1) := by decide +kernel
theorem dX6_weightOfYear_43 : decode cX6_weightOfYear 43 = .ok (.istore 4, 2) := by decide +kernel
theorem dX6_weightOfYear_45 : decode cX6_weightOfYear 45 = .ok (.iinc 5 1, 3) := by decide +kernel
theorem dX6_weightOfYear_48 : decode cX6_weightOfYear 48 = .ok (.goto (-42), 3) := by decide +kernel
theorem dX6_weightOfYear_51 : decode cX6_weightOfYear 51 = .ok (.iload 4, 2) := by decide +kernel
theorem dX6_weightOfYear_53 : decode cX6_weightOfYear 53 = .ok (.ireturn, 1) := by decide +kernel
theorem dX6_tenthsOfYear_0 : decode cX6_tenthsOfYear 0 = .ok (.iconst 0, 1) := by decide +kernel
theorem dX6_tenthsOfYear_1 : decode cX6_tenthsOfYear 1 = .ok (.istore_n 2, 1) := by decide +kernel
theorem dX6_tenthsOfYear_2 : decode cX6_tenthsOfYear 2 = .ok (.iconst 0, 1) := by decide +kernel
theorem dX6_tenthsOfYear_3 : decode cX6_tenthsOfYear 3 = .ok (.istore_n 3, 1) := by decide +kernel
theorem dX6_tenthsOfYear_4 : decode cX6_tenthsOfYear 4 = .ok (.iload_n 3, 1) := by decide +kernel
theorem dX6_tenthsOfYear_5 : decode cX6_tenthsOfYear 5 = .ok (.aload_n 0, 1) := by decide +kernel
theorem dX6_tenthsOfYear_6 : decode cX6_tenthsOfYear 6 = .ok (.getfield 29, 3) := by decide +kernel
theorem dX6_tenthsOfYear_9 : decode cX6_tenthsOfYear 9 = .ok (.getfield 110, 3) := by decide +kernel
theorem dX6_tenthsOfYear_12 : decode cX6_tenthsOfYear 12 = .ok (.if_icmp .ge 34, 3) := by decide +kernel
theorem dX6_tenthsOfYear_15 : decode cX6_tenthsOfYear 15 = .ok (.aload_n 0, 1) := by decide +kernel
theorem dX6_tenthsOfYear_16 : decode cX6_tenthsOfYear 16 = .ok (.getfield 19, 3) := by decide +kernel
theorem dX6_tenthsOfYear_19 : decode cX6_tenthsOfYear 19 = .ok (.getfield 93, 3) := by decide +kernel
theorem dX6_tenthsOfYear_22 : decode cX6_tenthsOfYear 22 = .ok (.iload_n 3, 1) := by decide +kernel
theorem dX6_tenthsOfYear_23 : decode cX6_tenthsOfYear 23 = .ok (.iaload, 1) := by decide +kernel
theorem dX6_tenthsOfYear_24 : decode cX6_tenthsOfYear 24 = .ok (.iload_n 1, 1) := by decide +kernel
theorem dX6_tenthsOfYear_25 : decode cX6_tenthsOfYear 25 = .ok (.if_icmp .ne 15, 3) := by decide +kernel
theorem dX6_tenthsOfYear_28 : decode cX6_tenthsOfYear 28 = .ok (.iload_n 2, 1) := by decide +kernel
theorem dX6_tenthsOfYear_29 : decode cX6_tenthsOfYear 29 = .ok (.aload_n 0, 1) := by decide +kernel
theorem dX6_tenthsOfYear_30 : decode cX6_tenthsOfYear 30 = .ok (.getfield 29, 3) := by decide +kernel
theorem dX6_tenthsOfYear_33 : decode cX6_tenthsOfYear 33 = .ok (.getfield 131, 3) := by decide +kernel
theorem dX6_tenthsOfYear_36 : decode cX6_tenthsOfYear 36 = .ok (.iload_n 3, 1) := by decide +kernel
theorem dX6_tenthsOfYear_37 : decode cX6_tenthsOfYear 37 = .ok (.iaload, 1) := by decide +kernel
theorem dX6_tenthsOfYear_38 : decode cX6_tenthsOfYear 38 = .ok (.iadd, 1) := by decide +kernel
theorem dX6_tenthsOfYear_39 : decode cX6_tenthsOfYear 39 = .ok (.istore_n 2, 1) := by decide +kernel
theorem dX6_tenthsOfYear_40 : decode cX6_tenthsOfYear 40 = .ok (.iinc 3 1, 3) := by decide +kernel
theorem dX6_tenthsOfYear_43 : decode cX6_tenthsOfYear 43 = .ok (.goto (-39), 3) := by decide +kernel
theorem dX6_tenthsOfYear_46 : decode cX6_tenthsOfYear 46 = .ok (.iload_n 2, 1) := by decide +kernel
theorem dX6_tenthsOfYear_47 : decode cX6_tenthsOfYear 47 = .ok (.ireturn, 1) := by decide +kernel
theorem dX6_commonDivisor_0 : decode cX6_commonDivisor 0 = .ok (.iconst 0, 1) := by decide +kernel
theorem dX6_commonDivisor_1 : decode cX6_commonDivisor 1 = .ok (.istore_n 2, 1) := by decide +kernel
theorem dX6_commonDivisor_2 : decode cX6_commonDivisor 2 = .ok (.iload_n 2, 1) := by decide +kernel
theorem dX6_commonDivisor_3 : decode cX6_commonDivisor 3 = .ok (.bipush 64, 2) := by decide +kernel
theorem dX6_commonDivisor_5 : decode cX6_commonDivisor 5 = .ok (.if_icmp .ge 21, 3) := by decide +kernel
theorem dX6_commonDivisor_8 : decode cX6_commonDivisor 8 = .ok (.iload_n 1, 1) := by decide +kernel
theorem dX6_commonDivisor_9 : decode cX6_commonDivisor 9 = .ok (.ifCond .eq 17, 3) := by decide +kernel
theorem dX6_commonDivisor_12 : decode cX6_commonDivisor 12 = .ok (.iload_n 0, 1) := by decide +kernel
theorem dX6_commonDivisor_13 : decode cX6_commonDivisor 13 = .ok (.iload_n 1, 1) := by decide +kernel
theorem dX6_commonDivisor_14 : decode cX6_commonDivisor 14 = .ok (.irem, 1) := by decide +kernel
theorem dX6_commonDivisor_15 : decode cX6_commonDivisor 15 = .ok (.istore_n 3, 1) := by decide +kernel
theorem dX6_commonDivisor_16 : decode cX6_commonDivisor 16 = .ok (.iload_n 1, 1) := by decide +kernel
theorem dX6_commonDivisor_17 : decode cX6_commonDivisor 17 = .ok (.istore_n 0, 1) := by decide +kernel
theorem dX6_commonDivisor_18 : decode cX6_commonDivisor 18 = .ok (.iload_n 3, 1) := by decide +kernel
theorem dX6_commonDivisor_19 : decode cX6_commonDivisor 19 = .ok (.istore_n 1, 1) := by decide +kernel
theorem dX6_commonDivisor_20 : decode cX6_commonDivisor 20 = .ok (.iinc 2 1, 3) := by decide +kernel
theorem dX6_commonDivisor_23 : decode cX6_commonDivisor 23 = .ok (.goto (-21), 3) := by decide +kernel
theorem dX6_commonDivisor_26 : decode cX6_commonDivisor 26 = .ok (.iload_n 0, 1) := by decide +kernel
theorem dX6_commonDivisor_27 : decode cX6_commonDivisor 27 = .ok (.ireturn, 1) := by decide +kernel
theorem dX7_init_0 : decode cX7_init 0 = .ok (.aload_n 0, 1) := by decide +kernel
theorem dX7_init_1 : decode cX7_init 1 = .ok (.invokespecial 1, 3) := by decide +kernel
theorem dX7_init_4 : decode cX7_init 4 = .ok (.aload_n 0, 1) := by decide +kernel
theorem dX7_init_5 : decode cX7_init 5 = .ok (.sipush 400, 3) := by decide +kernel
theorem dX7_init_8 : decode cX7_init 8 = .ok (.newarray .byte, 2) := by decide +kernel
theorem dX7_init_10 : decode cX7_init 10 = .ok (.putfield 7, 3) := by decide +kernel
theorem dX7_init_13 : decode cX7_init 13 = .ok (.aload_n 0, 1) := by decide +kernel
theorem dX7_init_14 : decode cX7_init 14 = .ok (.bipush 10, 2) := by decide +kernel
theorem dX7_init_16 : decode cX7_init 16 = .ok (.newarray .int, 2) := by decide +kernel
theorem dX7_init_18 : decode cX7_init 18 = .ok (.putfield 13, 3) := by decide +kernel
theorem dX7_init_21 : decode cX7_init 21 = .ok (.aload_n 0, 1) := by decide +kernel
theorem dX7_init_22 : decode cX7_init 22 = .ok (.iconst 2, 1) := by decide +kernel
theorem dX7_init_23 : decode cX7_init 23 = .ok (.newarray .int, 2) := by decide +kernel
theorem dX7_init_25 : decode cX7_init 25 = .ok (.putfield 17, 3) := by decide +kernel
theorem dX7_init_28 : decode cX7_init 28 = .ok (.aload_n 0, 1) := by decide +kernel
theorem dX7_init_29 : decode cX7_init 29 = .ok (.bipush 96, 2) := by decide +kernel
theorem dX7_init_31 : decode cX7_init 31 = .ok (.newarray .int, 2) := by decide +kernel
theorem dX7_init_33 : decode cX7_init 33 = .ok (.putfield 20, 3) := by decide +kernel
theorem dX7_init_36 : decode cX7_init 36 = .ok (.aload_n 0, 1) := by decide +kernel
theorem dX7_init_37 : decode cX7_init 37 = .ok (.sipush 200, 3) := by decide +kernel
theorem dX7_init_40 : decode cX7_init 40 = .ok (.newarray .int, 2) := by decide +kernel
theorem dX7_init_42 : decode cX7_init 42 = .ok (.putfield 23, 3) := by decide +kernel
theorem dX7_init_45 : decode cX7_init 45 = .ok (.aload_n 0, 1) := by decide +kernel
theorem dX7_init_46 : decode cX7_init 46 = .ok (.iconst 3, 1) := by decide +kernel
theorem dX7_init_47 : decode cX7_init 47 = .ok (.newarray .int, 2) := by decide +kernel
theorem dX7_init_49 : decode cX7_init 49 = .ok (.putfield 26, 3) := by decide +kernel
theorem dX7_init_52 : decode cX7_init 52 = .ok (.aload_n 0, 1) := by decide +kernel
theorem dX7_init_53 : decode cX7_init 53 = .ok (.bipush 36, 2) := by decide +kernel
theorem dX7_init_55 : decode cX7_init 55 = .ok (.newarray .int, 2) := by decide +kernel
theorem dX7_init_57 : decode cX7_init 57 = .ok (.putfield 29, 3) := by decide +kernel
theorem dX7_init_60 : decode cX7_init 60 = .ok (.aload_n 0, 1) := by decide +kernel
theorem dX7_init_61 : decode cX7_init 61 = .ok (.bipush 36, 2) := by decide +kernel
theorem dX7_init_63 : decode cX7_init 63 = .ok (.newarray .int, 2) := by decide +kernel
theorem dX7_init_65 : decode cX7_init 65 = .ok (.putfield 32, 3) := by decide +kernel
theorem dX7_init_68 : decode cX7_init 68 = .ok (.aload_n 0, 1) := by decide +kernel
theorem dX7_init_69 : decode cX7_init 69 = .ok (.iconst 3, 1) := by decide +kernel
theorem dX7_init_70 : decode cX7_init 70 = .ok (.newarray .long, 2) := by decide +kernel
theorem dX7_init_72 : decode cX7_init 72 = .ok (.putfield 35, 3) := by decide +kernel
theorem dX7_init_75 : decode cX7_init 75 = .ok (.aload_n 0, 1) := by decide +kernel
theorem dX7_init_76 : decode cX7_init 76 = .ok (.iconst 3, 1) := by decide +kernel
theorem dX7_init_77 : decode cX7_init 77 = .ok (.newarray .int, 2) := by decide +kernel
theorem dX7_init_79 : decode cX7_init 79 = .ok (.putfield 39, 3) := by decide +kernel
theorem dX7_init_82 : decode cX7_init 82 = .ok (.aload_n 0, 1) := by decide +kernel
theorem dX7_init_83 : decode cX7_init 83 = .ok (.bipush 72, 2) := by decide +kernel
theorem dX7_init_85 : decode cX7_init 85 = .ok (.newarray .int, 2) := by decide +kernel
theorem dX7_init_87 : decode cX7_init 87 = .ok (.putfield 42, 3) := by decide +kernel
theorem dX7_init_90 : decode cX7_init 90 = .ok (.aload_n 0, 1) := by decide +kernel
theorem dX7_init_91 : decode cX7_init 91 = .ok (.bipush 14, 2) := by decide +kernel
theorem dX7_init_93 : decode cX7_init 93 = .ok (.newarray .int, 2) := by decide +kernel
theorem dX7_init_95 : decode cX7_init 95 = .ok (.putfield 45, 3) := by decide +kernel
theorem dX7_init_98 : decode cX7_init 98 = .ok (.aload_n 0, 1) := by decide +kernel
theorem dX7_init_99 : decode cX7_init 99 = .ok (.bipush 12, 2) := by decide +kernel
theorem dX7_init_101 : decode cX7_init 101 = .ok (.newarray .int, 2) := by decide +kernel
theorem dX7_init_103 : decode cX7_init 103 = .ok (.putfield 48, 3) := by decide +kernel
theorem dX7_init_106 : decode cX7_init 106 = .ok (.aload_n 0, 1) := by decide +kernel
theorem dX7_init_107 : decode cX7_init 107 = .ok (.bipush 6, 2) := by decide +kernel
theorem dX7_init_109 : decode cX7_init 109 = .ok (.newarray .int, 2) := by decide +kernel
theorem dX7_init_111 : decode cX7_init 111 = .ok (.putfield 51, 3) := by decide +kernel
theorem dX7_init_114 : decode cX7_init 114 = .ok (.aload_n 0, 1) := by decide +kernel
theorem dX7_init_115 : decode cX7_init 115 = .ok (.bipush 6, 2) := by decide +kernel
theorem dX7_init_117 : decode cX7_init 117 = .ok (.newarray .int, 2) := by decide +kernel
theorem dX7_init_119 : decode cX7_init 119 = .ok (.putfield 54, 3) := by decide +kernel
theorem dX7_init_122 : decode cX7_init 122 = .ok (.aload_n 0, 1) := by decide +kernel
theorem dX7_init_123 : decode cX7_init 123 = .ok (.bipush 12, 2) := by decide +kernel
theorem dX7_init_125 : decode cX7_init 125 = .ok (.newarray .int, 2) := by decide +kernel
theorem dX7_init_127 : decode cX7_init 127 = .ok (.putfield 57, 3) := by decide +kernel
theorem dX7_init_130 : decode cX7_init 130 = .ok (.aload_n 0, 1) := by decide +kernel
theorem dX7_init_131 : decode cX7_init 131 = .ok (.bipush 12, 2) := by decide +kernel
theorem dX7_init_133 : decode cX7_init 133 = .ok (.newarray .int, 2) := by decide +kernel
theorem dX7_init_135 : decode cX7_init 135 = .ok (.putfield 60, 3) := by decide +kernel
theorem dX7_init_138 : decode cX7_init 138 = .ok (.aload_n 0, 1) := by decide +kernel
theorem dX7_init_139 : decode cX7_init 139 = .ok (.sipush 225, 3) := by decide +kernel
theorem dX7_init_142 : decode cX7_init 142 = .ok (.newarray .int, 2) := by decide +kernel
theorem dX7_init_144 : decode cX7_init 144 = .ok (.putfield 63, 3) := by decide +kernel
theorem dX7_init_147 : decode cX7_init 147 = .ok (.aload_n 0, 1) := by decide +kernel
theorem dX7_init_148 : decode cX7_init 148 = .ok (.iconst 4, 1) := by decide +kernel
theorem dX7_init_149 : decode cX7_init 149 = .ok (.newarray .int, 2) := by decide +kernel
theorem dX7_init_151 : decode cX7_init 151 = .ok (.putfield 66, 3) := by decide +kernel
theorem dX7_init_154 : decode cX7_init 154 = .ok (.aload_n 0, 1) := by decide +kernel
theorem dX7_init_155 : decode cX7_init 155 = .ok (.invokevirtual 69, 3) := by decide +kernel
theorem dX7_init_158 : decode cX7_init 158 = .ok (.aload_n 0, 1) := by decide +kernel
theorem dX7_init_159 : decode cX7_init 159 = .ok (.getfield 17, 3) := by decide +kernel
theorem dX7_init_162 : decode cX7_init 162 = .ok (.iconst 1, 1) := by decide +kernel
theorem dX7_init_163 : decode cX7_init 163 = .ok (.iconst 1, 1) := by decide +kernel
theorem dX7_init_164 : decode cX7_init 164 = .ok (.iastore, 1) := by decide +kernel
theorem dX7_init_165 : decode cX7_init 165 = .ok (.aload_n 0, 1) := by decide +kernel
theorem dX7_init_166 : decode cX7_init 166 = .ok (.getfield 20, 3) := by decide +kernel
theorem dX7_init_169 : decode cX7_init 169 = .ok (.bipush 48, 2) := by decide +kernel
theorem dX7_init_171 : decode cX7_init 171 = .ok (.iconst 0, 1) := by decide +kernel
theorem dX7_init_172 : decode cX7_init 172 = .ok (.iastore, 1) := by decide +kernel
theorem dX7_init_173 : decode cX7_init 173 = .ok (.aload_n 0, 1) := by decide +kernel
theorem dX7_init_174 : decode cX7_init 174 = .ok (.getfield 20, 3) := by decide +kernel
theorem dX7_init_177 : decode cX7_init 177 = .ok (.bipush 49, 2) := by decide +kernel
theorem dX7_init_179 : decode cX7_init 179 = .ok (.iconst 5, 1) := by decide +kernel
theorem dX7_init_180 : decode cX7_init 180 = .ok (.iastore, 1) := by decide +kernel
theorem dX7_init_181 : decode cX7_init 181 = .ok (.aload_n 0, 1) := by decide +kernel
theorem dX7_init_182 : decode cX7_init 182 = .ok (.getfield 20, 3) := by decide +kernel
theorem dX7_init_185 : decode cX7_init 185 = .ok (.bipush 50, 2) := by decide +kernel
theorem dX7_init_187 : decode cX7_init 187 = .ok (.iconst 2, 1) := by decide +kernel
theorem dX7_init_188 : decode cX7_init 188 = .ok (.iastore, 1) := by decide +kernel
theorem dX7_init_189 : decode cX7_init 189 = .ok (.aload_n 0, 1) := by decide +kernel
theorem dX7_init_190 : decode cX7_init 190 = .ok (.getfield 20, 3) := by decide +kernel
theorem dX7_init_193 : decode cX7_init 193 = .ok (.bipush 51, 2) := by decide +kernel
theorem dX7_init_195 : decode cX7_init 195 = .ok (.iconst 1, 1) := by decide +kernel
theorem dX7_init_196 : decode cX7_init 196 = .ok (.iastore, 1) := by decide +kernel
theorem dX7_init_197 : decode cX7_init 197 = .ok (.aload_n 0, 1) := by decide +kernel
theorem dX7_init_198 : decode cX7_init 198 = .ok (.invokevirtual 72, 3) := by decide +kernel
theorem dX7_init_201 : decode cX7_init 201 = .ok (.return_, 1) := by decide +kernel
theorem dX7_in_0 : decode cX7_in 0 = .ok (.lload_n 0, 1) := by decide +kernel
theorem dX7_in_1 : decode cX7_in 1 = .ok (.lload_n 2, 1) := by decide +kernel
theorem dX7_in_2 : decode cX7_in 2 = .ok (.lcmp, 1) := by decide +kernel
theorem dX7_in_3 : decode cX7_in 3 = .ok (.ifCond .lt 14, 3) := by decide +kernel
theorem dX7_in_6 : decode cX7_in 6 = .ok (.lload_n 0, 1) := by decide +kernel
theorem dX7_in_7 : decode cX7_in 7 = .ok (.lload 4, 2) := by decide +kernel
theorem dX7_in_9 : decode cX7_in 9 = .ok (.lcmp, 1) := by decide +kernel
theorem dX7_in_10 : decode cX7_in 10 = .ok (.ifCond .gt 7, 3) := by decide +kernel
theorem dX7_in_13 : decode cX7_in 13 = .ok (.iconst 1, 1) := by decide +kernel
theorem dX7_in_14 : decode cX7_in 14 = .ok (.goto 4, 3) := by decide +kernel
theorem dX7_in_17 : decode cX7_in 17 = .ok (.iconst 0, 1) := by decide +kernel
theorem dX7_in_18 : decode cX7_in 18 = .ok (.ireturn, 1) := by decide +kernel
theorem dX7_write_0 : decode cX7_write 0 = .ok (.iload_n 1, 1) := by decide +kernel
theorem dX7_write_1 : decode cX7_write 1 = .ok (.i2l, 1) := by decide +kernel
theorem dX7_write_2 : decode cX7_write 2 = .ok (.lconst 1, 1) := by decide +kernel
theorem dX7_write_3 : decode cX7_write 3 = .ok (.ldc2_w 75, 3) := by decide +kernel
theorem dX7_write_6 : decode cX7_write 6 = .ok (.invokestatic 77, 3) := by decide +kernel
theorem dX7_write_9 : decode cX7_write 9 = .ok (.ifCond .ne 5, 3) := by decide +kernel
theorem dX7_write_12 : decode cX7_write 12 = .ok (.iconst (-1), 1) := by decide +kernel
theorem dX7_write_13 : decode cX7_write 13 = .ok (.ireturn, 1) := by decide +kernel
theorem dX7_write_14 : decode cX7_write 14 = .ok (.aload_n 0, 1) := by decide +kernel
theorem dX7_write_15 : decode cX7_write 15 = .ok (.getfield 81, 3) := by decide +kernel
theorem dX7_write_18 : decode cX7_write 18 = .ok (.iload_n 1, 1) := by decide +kernel
theorem dX7_write_19 : decode cX7_write 19 = .ok (.iadd, 1) := by decide +kernel
theorem dX7_write_20 : decode cX7_write 20 = .ok (.sipush 400, 3) := by decide +kernel
theorem dX7_write_23 : decode cX7_write 23 = .ok (.if_icmp .le 6, 3) := by decide +kernel
theorem dX7_write_26 : decode cX7_write 26 = .ok (.bipush (-3), 2) := by decide +kernel
theorem dX7_write_28 : decode cX7_write 28 = .ok (.ireturn, 1) := by decide +kernel
theorem dX7_write_29 : decode cX7_write 29 = .ok (.iload_n 1, 1) := by decide +kernel
theorem dX7_write_30 : decode cX7_write 30 = .ok (.iconst 1, 1) := by decide +kernel
theorem dX7_write_31 : decode cX7_write 31 = .ok (.isub, 1) := by decide +kernel
theorem dX7_write_32 : decode cX7_write 32 = .ok (.istore 4, 2) := by decide +kernel
theorem dX7_write_34 : decode cX7_write 34 = .ok (.iload 4, 2) := by decide +kernel
theorem dX7_write_36 : decode cX7_write 36 = .ok (.ifCond .lt 37, 3) := by decide +kernel
theorem dX7_write_39 : decode cX7_write 39 = .ok (.aload_n 0, 1) := by decide +kernel
theorem dX7_write_40 : decode cX7_write 40 = .ok (.getfield 7, 3) := by decide +kernel
theorem dX7_write_43 : decode cX7_write 43 = .ok (.aload_n 0, 1) := by decide +kernel
theorem dX7_write_44 : decode cX7_write 44 = .ok (.getfield 81, 3) := by decide +kernel
theorem dX7_write_47 : decode cX7_write 47 = .ok (.lload_n 2, 1) := by decide +kernel
theorem dX7_write_48 : decode cX7_write 48 = .ok (.bipush 8, 2) := by decide +kernel
theorem dX7_write_50 : decode cX7_write 50 = .ok (.iload 4, 2) := by decide +kernel
theorem dX7_write_52 : decode cX7_write 52 = .ok (.imul, 1) := by decide +kernel
theorem dX7_write_53 : decode cX7_write 53 = .ok (.lshr, 1) := by decide +kernel
theorem dX7_write_54 : decode cX7_write 54 = .ok (.l2i, 1) := by decide +kernel
theorem dX7_write_55 : decode cX7_write 55 = .ok (.i2b, 1) := by decide +kernel
theorem dX7_write_56 : decode cX7_write 56 = .ok (.bastore, 1) := by decide +kernel
theorem dX7_write_57 : decode cX7_write 57 = .ok (.aload_n 0, 1) := by decide +kernel
theorem dX7_write_58 : decode cX7_write 58 = .ok (.dup, 1) := by decide +kernel
theorem dX7_write_59 : decode cX7_write 59 = .ok (.getfield 81, 3) := by decide +kernel
theorem dX7_write_62 : decode cX7_write 62 = .ok (.iconst 1, 1) := by decide +kernel
theorem dX7_write_63 : decode cX7_write 63 = .ok (.iadd, 1) := by decide +kernel
theorem dX7_write_64 : decode cX7_write 64 = .ok (.putfield 81, 3) := by decide +kernel
theorem dX7_write_67 : decode cX7_write 67 = .ok (.iinc 4 (-1), 3) := by decide +kernel
theorem dX7_write_70 : decode cX7_write 70 = .ok (.goto (-36), 3) := by decide +kernel
theorem dX7_write_73 : decode cX7_write 73 = .ok (.aload_n 0, 1) := by decide +kernel
theorem dX7_write_74 : decode cX7_write 74 = .ok (.getfield 81, 3) := by decide +kernel
theorem dX7_write_77 : decode cX7_write 77 = .ok (.ireturn, 1) := by decide +kernel
theorem dX7_wipe_0 : decode cX7_wipe 0 = .ok (.aload_n 0, 1) := by decide +kernel
theorem dX7_wipe_1 : decode cX7_wipe 1 = .ok (.getfield 81, 3) := by decide +kernel
theorem dX7_wipe_4 : decode cX7_wipe 4 = .ok (.istore_n 1, 1) := by decide +kernel
theorem dX7_wipe_5 : decode cX7_wipe 5 = .ok (.aload_n 0, 1) := by decide +kernel
theorem dX7_wipe_6 : decode cX7_wipe 6 = .ok (.iconst 0, 1) := by decide +kernel
theorem dX7_wipe_7 : decode cX7_wipe 7 = .ok (.putfield 81, 3) := by decide +kernel
theorem dX7_wipe_10 : decode cX7_wipe 10 = .ok (.iload_n 1, 1) := by decide +kernel
theorem dX7_wipe_11 : decode cX7_wipe 11 = .ok (.ireturn, 1) := by decide +kernel
theorem dX7_number_0 : decode cX7_number 0 = .ok (.iconst 0, 1) := by decide +kernel
theorem dX7_number_1 : decode cX7_number 1 = .ok (.istore_n 1, 1) := by decide +kernel
theorem dX7_number_2 : decode cX7_number 2 = .ok (.iconst 0, 1) := by decide +kernel
theorem dX7_number_3 : decode cX7_number 3 = .ok (.istore_n 2, 1) := by decide +kernel
theorem dX7_number_4 : decode cX7_number 4 = .ok (.aload_n 0, 1) := by decide +kernel
theorem dX7_number_5 : decode cX7_number 5 = .ok (.getfield 85, 3) := by decide +kernel
theorem dX7_number_8 : decode cX7_number 8 = .ok (.aload_n 0, 1) := by decide +kernel
theorem dX7_number_9 : decode cX7_number 9 = .ok (.getfield 81, 3) := by decide +kernel
theorem dX7_number_12 : decode cX7_number 12 = .ok (.if_icmp .ge 68, 3) := by decide +kernel
theorem dX7_number_15 : decode cX7_number 15 = .ok (.aload_n 0, 1) := by decide +kernel
theorem dX7_number_16 : decode cX7_number 16 = .ok (.getfield 7, 3) := by decide +kernel
theorem dX7_number_19 : decode cX7_number 19 = .ok (.aload_n 0, 1) := by decide +kernel
theorem dX7_number_20 : decode cX7_number 20 = .ok (.getfield 85, 3) := by decide +kernel
theorem dX7_number_23 : decode cX7_number 23 = .ok (.baload, 1) := by decide +kernel
theorem dX7_number_24 : decode cX7_number 24 = .ok (.i2l, 1) := by decide +kernel
theorem dX7_number_25 : decode cX7_number 25 = .ok (.ldc2_w 88, 3) := by decide +kernel
theorem dX7_number_28 : decode cX7_number 28 = .ok (.ldc2_w 90, 3) := by decide +kernel
theorem dX7_number_31 : decode cX7_number 31 = .ok (.invokestatic 77, 3) := by decide +kernel
theorem dX7_number_34 : decode cX7_number 34 = .ok (.ifCond .eq 46, 3) := by decide +kernel
theorem dX7_number_37 : decode cX7_number 37 = .ok (.iload_n 2, 1) := by decide +kernel
theorem dX7_number_38 : decode cX7_number 38 = .ok (.iconst 3, 1) := by decide +kernel
theorem dX7_number_39 : decode cX7_number 39 = .ok (.if_icmp .ge 23, 3) := by decide +kernel
theorem dX7_number_42 : decode cX7_number 42 = .ok (.bipush 10, 2) := by decide +kernel
theorem dX7_number_44 : decode cX7_number 44 = .ok (.iload_n 1, 1) := by decide +kernel
theorem dX7_number_45 : decode cX7_number 45 = .ok (.imul, 1) := by decide +kernel
theorem dX7_number_46 : decode cX7_number 46 = .ok (.aload_n 0, 1) := by decide +kernel
theorem dX7_number_47 : decode cX7_number 47 = .ok (.getfield 7, 3) := by decide +kernel
theorem dX7_number_50 : decode cX7_number 50 = .ok (.aload_n 0, 1) := by decide +kernel
theorem dX7_number_51 : decode cX7_number 51 = .ok (.getfield 85, 3) := by decide +kernel
theorem dX7_number_54 : decode cX7_number 54 = .ok (.baload, 1) := by decide +kernel
theorem dX7_number_55 : decode cX7_number 55 = .ok (.iadd, 1) := by decide +kernel
theorem dX7_number_56 : decode cX7_number 56 = .ok (.bipush 48, 2) := by decide +kernel
theorem dX7_number_58 : decode cX7_number 58 = .ok (.isub, 1) := by decide +kernel
theorem dX7_number_59 : decode cX7_number 59 = .ok (.goto 4, 3) := by decide +kernel
theorem dX7_number_62 : decode cX7_number 62 = .ok (.iload_n 1, 1) := by decide +kernel
theorem dX7_number_63 : decode cX7_number 63 = .ok (.istore_n 1, 1) := by decide +kernel
theorem dX7_number_64 : decode cX7_number 64 = .ok (.iinc 2 1, 3) := by decide +kernel
theorem dX7_number_67 : decode cX7_number 67 = .ok (.aload_n 0, 1) := by decide +kernel
theorem dX7_number_68 : decode cX7_number 68 = .ok (.dup, 1) := by decide +kernel
theorem dX7_number_69 : decode cX7_number 69 = .ok (.getfield 85, 3) := by decide +kernel
theorem dX7_number_72 : decode cX7_number 72 = .ok (.iconst 1, 1) := by decide +kernel
theorem dX7_number_73 : decode cX7_number 73 = .ok (.iadd, 1) := by decide +kernel
theorem dX7_number_74 : decode cX7_number 74 = .ok (.putfield 85, 3) := by decide +kernel
theorem dX7_number_77 : decode cX7_number 77 = .ok (.goto (-73), 3) := by decide +kernel
theorem dX7_number_80 : decode cX7_number 80 = .ok (.iload_n 2, 1) := by decide +kernel
theorem dX7_number_81 : decode cX7_number 81 = .ok (.i2l, 1) := by decide +kernel
theorem dX7_number_82 : decode cX7_number 82 = .ok (.lconst 1, 1) := by decide +kernel
theorem dX7_number_83 : decode cX7_number 83 = .ok (.ldc2_w 92, 3) := by decide +kernel
theorem dX7_number_86 : decode cX7_number 86 = .ok (.invokestatic 77, 3) := by decide +kernel
theorem dX7_number_89 : decode cX7_number 89 = .ok (.ifCond .eq 7, 3) := by decide +kernel
theorem dX7_number_92 : decode cX7_number 92 = .ok (.iload_n 1, 1) := by decide +kernel
theorem dX7_number_93 : decode cX7_number 93 = .ok (.goto 4, 3) := by decide +kernel
theorem dX7_number_96 : decode cX7_number 96 = .ok (.iconst (-1), 1) := by decide +kernel
theorem dX7_number_97 : decode cX7_number 97 = .ok (.ireturn, 1) := by decide +kernel
theorem dX7_parts_0 : decode cX7_parts 0 = .ok (.iload_n 0, 1) := by decide +kernel
theorem dX7_parts_1 : decode cX7_parts 1 = .ok (.bipush 102, 2) := by decide +kernel
theorem dX7_parts_3 : decode cX7_parts 3 = .ok (.if_icmp .ne 7, 3) := by decide +kernel
theorem dX7_parts_6 : decode cX7_parts 6 = .ok (.iconst 4, 1) := by decide +kernel
theorem dX7_parts_7 : decode cX7_parts 7 = .ok (.goto 42, 3) := by decide +kernel
theorem dX7_parts_10 : decode cX7_parts 10 = .ok (.iload_n 0, 1) := by decide +kernel
theorem dX7_parts_11 : decode cX7_parts 11 = .ok (.bipush 98, 2) := by decide +kernel
theorem dX7_parts_13 : decode cX7_parts 13 = .ok (.if_icmp .eq 9, 3) := by decide +kernel
theorem dX7_parts_16 : decode cX7_parts 16 = .ok (.iload_n 0, 1) := by decide +kernel
theorem dX7_parts_17 : decode cX7_parts 17 = .ok (.bipush 112, 2) := by decide +kernel
theorem dX7_parts_19 : decode cX7_parts 19 = .ok (.if_icmp .ne 7, 3) := by decide +kernel
theorem dX7_parts_22 : decode cX7_parts 22 = .ok (.iconst 2, 1) := by decide +kernel
theorem dX7_parts_23 : decode cX7_parts 23 = .ok (.goto 26, 3) := by decide +kernel
theorem dX7_parts_26 : decode cX7_parts 26 = .ok (.iload_n 0, 1) := by decide +kernel
theorem dX7_parts_27 : decode cX7_parts 27 = .ok (.bipush 116, 2) := by decide +kernel
theorem dX7_parts_29 : decode cX7_parts 29 = .ok (.if_icmp .eq 15, 3) := by decide +kernel
theorem dX7_parts_32 : decode cX7_parts 32 = .ok (.iload_n 0, 1) := by decide +kernel
theorem dX7_parts_33 : decode cX7_parts 33 = .ok (.bipush 115, 2) := by decide +kernel
theorem dX7_parts_35 : decode cX7_parts 35 = .ok (.if_icmp .eq 9, 3) := by decide +kernel
theorem dX7_parts_38 : decode cX7_parts 38 = .ok (.iload_n 0, 1) := by decide +kernel
theorem dX7_parts_39 : decode cX7_parts 39 = .ok (.bipush 118, 2) := by decide +kernel
theorem dX7_parts_41 : decode cX7_parts 41 = .ok (.if_icmp .ne 7, 3) := by decide +kernel
theorem dX7_parts_44 : decode cX7_parts 44 = .ok (.iconst 1, 1) := by decide +kernel
theorem dX7_parts_45 : decode cX7_parts 45 = .ok (.goto 4, 3) := by decide +kernel
theorem dX7_parts_48 : decode cX7_parts 48 = .ok (.iconst 0, 1) := by decide +kernel
theorem dX7_parts_49 : decode cX7_parts 49 = .ok (.ireturn, 1) := by decide +kernel
theorem dX7_isIn_0 : decode cX7_isIn 0 = .ok (.aload_n 0, 1) := by decide +kernel
theorem dX7_isIn_1 : decode cX7_isIn 1 = .ok (.getfield 66, 3) := by decide +kernel
theorem dX7_isIn_4 : decode cX7_isIn 4 = .ok (.iload_n 1, 1) := by decide +kernel
theorem dX7_isIn_5 : decode cX7_isIn 5 = .ok (.iaload, 1) := by decide +kernel
theorem dX7_isIn_6 : decode cX7_isIn 6 = .ok (.i2l, 1) := by decide +kernel
theorem dX7_isIn_7 : decode cX7_isIn 7 = .ok (.iload_n 2, 1) := by decide +kernel
theorem dX7_isIn_8 : decode cX7_isIn 8 = .ok (.i2l, 1) := by decide +kernel
theorem dX7_isIn_9 : decode cX7_isIn 9 = .ok (.iload_n 3, 1) := by decide +kernel
theorem dX7_isIn_10 : decode cX7_isIn 10 = .ok (.i2l, 1) := by decide +kernel
theorem dX7_isIn_11 : decode cX7_isIn 11 = .ok (.invokestatic 77, 3) := by decide +kernel
theorem dX7_isIn_14 : decode cX7_isIn 14 = .ok (.ireturn, 1) := by decide +kernel
theorem dX7_isItem_0 : decode cX7_isItem 0 = .ok (.aload_n 0, 1) := by decide +kernel
theorem dX7_isItem_1 : decode cX7_isItem 1 = .ok (.getfield 7, 3) := by decide +kernel
theorem dX7_isItem_4 : decode cX7_isItem 4 = .ok (.aload_n 0, 1) := by decide +kernel
theorem dX7_isItem_5 : decode cX7_isItem 5 = .ok (.getfield 85, 3) := by decide +kernel
theorem dX7_isItem_8 : decode cX7_isItem 8 = .ok (.baload, 1) := by decide +kernel
theorem dX7_isItem_9 : decode cX7_isItem 9 = .ok (.istore_n 1, 1) := by decide +kernel
theorem dX7_isItem_10 : decode cX7_isItem 10 = .ok (.aload_n 0, 1) := by decide +kernel
theorem dX7_isItem_11 : decode cX7_isItem 11 = .ok (.dup, 1) := by decide +kernel
theorem dX7_isItem_12 : decode cX7_isItem 12 = .ok (.getfield 85, 3) := by decide +kernel
theorem dX7_isItem_15 : decode cX7_isItem 15 = .ok (.iconst 1, 1) := by decide +kernel
theorem dX7_isItem_16 : decode cX7_isItem 16 = .ok (.iadd, 1) := by decide +kernel
theorem dX7_isItem_17 : decode cX7_isItem 17 = .ok (.putfield 85, 3) := by decide +kernel
theorem dX7_isItem_20 : decode cX7_isItem 20 = .ok (.iload_n 1, 1) := by decide +kernel
theorem dX7_isItem_21 : decode cX7_isItem 21 = .ok (.invokestatic 94, 3) := by decide +kernel
theorem dX7_isItem_24 : decode cX7_isItem 24 = .ok (.istore_n 2, 1) := by decide +kernel
theorem dX7_isItem_25 : decode cX7_isItem 25 = .ok (.iload_n 2, 1) := by decide +kernel
theorem dX7_isItem_26 : decode cX7_isItem 26 = .ok (.ifCond .le 7, 3) := by decide +kernel
theorem dX7_isItem_29 : decode cX7_isItem 29 = .ok (.iconst 1, 1) := by decide +kernel
theorem dX7_isItem_30 : decode cX7_isItem 30 = .ok (.goto 4, 3) := by decide +kernel
theorem dX7_isItem_33 : decode cX7_isItem 33 = .ok (.iconst 0, 1) := by decide +kernel
theorem dX7_isItem_34 : decode cX7_isItem 34 = .ok (.istore_n 3, 1) := by decide +kernel
theorem dX7_isItem_35 : decode cX7_isItem 35 = .ok (.iconst 0, 1) := by decide +kernel
theorem dX7_isItem_36 : decode cX7_isItem 36 = .ok (.istore 4, 2) := by decide +kernel
theorem dX7_isItem_38 : decode cX7_isItem 38 = .ok (.iload 4, 2) := by decide +kernel
theorem dX7_isItem_40 : decode cX7_isItem 40 = .ok (.iload_n 2, 1) := by decide +kernel
theorem dX7_isItem_41 : decode cX7_isItem 41 = .ok (.if_icmp .ge 103, 3) := by decide +kernel
theorem dX7_isItem_44 : decode cX7_isItem 44 = .ok (.iload_n 3, 1) := by decide +kernel
theorem dX7_isItem_45 : decode cX7_isItem 45 = .ok (.ifCond .eq 99, 3) := by decide +kernel
theorem dX7_isItem_48 : decode cX7_isItem 48 = .ok (.iload 4, 2) := by decide +kernel
theorem dX7_isItem_50 : decode cX7_isItem 50 = .ok (.ifCond .eq 28, 3) := by decide +kernel
theorem dX7_isItem_53 : decode cX7_isItem 53 = .ok (.aload_n 0, 1) := by decide +kernel
theorem dX7_isItem_54 : decode cX7_isItem 54 = .ok (.getfield 85, 3) := by decide +kernel
theorem dX7_isItem_57 : decode cX7_isItem 57 = .ok (.aload_n 0, 1) := by decide +kernel
theorem dX7_isItem_58 : decode cX7_isItem 58 = .ok (.getfield 81, 3) := by decide +kernel
theorem dX7_isItem_61 : decode cX7_isItem 61 = .ok (.if_icmp .ge 21, 3) := by decide +kernel
theorem dX7_isItem_64 : decode cX7_isItem 64 = .ok (.aload_n 0, 1) := by decide +kernel
theorem dX7_isItem_65 : decode cX7_isItem 65 = .ok (.getfield 7, 3) := by decide +kernel
theorem dX7_isItem_68 : decode cX7_isItem 68 = .ok (.aload_n 0, 1) := by decide +kernel
theorem dX7_isItem_69 : decode cX7_isItem 69 = .ok (.getfield 85, 3) := by decide +kernel
theorem dX7_isItem_72 : decode cX7_isItem 72 = .ok (.baload, 1) := by decide +kernel
theorem dX7_isItem_73 : decode cX7_isItem 73 = .ok (.bipush 44, 2) := by decide +kernel
theorem dX7_isItem_75 : decode cX7_isItem 75 = .ok (.if_icmp .ne 7, 3) := by decide +kernel
theorem dX7_isItem_78 : decode cX7_isItem 78 = .ok (.iconst 1, 1) := by decide +kernel
theorem dX7_isItem_79 : decode cX7_isItem 79 = .ok (.goto 4, 3) := by decide +kernel
theorem dX7_isItem_82 : decode cX7_isItem 82 = .ok (.iconst 0, 1) := by decide +kernel
theorem dX7_isItem_83 : decode cX7_isItem 83 = .ok (.istore_n 3, 1) := by decide +kernel
theorem dX7_isItem_84 : decode cX7_isItem 84 = .ok (.aload_n 0, 1) := by decide +kernel
theorem dX7_isItem_85 : decode cX7_isItem 85 = .ok (.dup, 1) := by decide +kernel
theorem dX7_isItem_86 : decode cX7_isItem 86 = .ok (.getfield 85, 3) := by decide +kernel
theorem dX7_isItem_89 : decode cX7_isItem 89 = .ok (.iload 4, 2) := by decide +kernel
theorem dX7_isItem_91 : decode cX7_isItem 91 = .ok (.ifCond .ne 7, 3) := by decide +kernel
theorem dX7_isItem_94 : decode cX7_isItem 94 = .ok (.iconst 0, 1) := by decide +kernel
theorem dX7_isItem_95 : decode cX7_isItem 95 = .ok (.goto 4, 3) := by decide +kernel
theorem dX7_isItem_98 : decode cX7_isItem 98 = .ok (.iconst 1, 1) := by decide +kernel
theorem dX7_isItem_99 : decode cX7_isItem 99 = .ok (.iadd, 1) := by decide +kernel
theorem dX7_isItem_100 : decode cX7_isItem 100 = .ok (.putfield 85, 3) := by decide +kernel
theorem dX7_isItem_103 : decode cX7_isItem 103 = .ok (.aload_n 0, 1) := by decide +kernel
theorem dX7_isItem_104 : decode cX7_isItem 104 = .ok (.getfield 66, 3) := by decide +kernel
theorem dX7_isItem_107 : decode cX7_isItem 107 = .ok (.iload 4, 2) := by decide +kernel
theorem dX7_isItem_109 : decode cX7_isItem 109 = .ok (.iload_n 3, 1) := by decide +kernel
theorem dX7_isItem_110 : decode cX7_isItem 110 = .ok (.ifCond .eq 10, 3) := by decide +kernel
theorem dX7_isItem_113 : decode cX7_isItem 113 = .ok (.aload_n 0, 1) := by decide +kernel
theorem dX7_isItem_114 : decode cX7_isItem 114 = .ok (.invokevirtual 98, 3) := by decide +kernel
theorem dX7_isItem_117 : decode cX7_isItem 117 = .ok (.goto 4, 3) := by decide +kernel
theorem dX7_isItem_120 : decode cX7_isItem 120 = .ok (.iconst (-1), 1) := by decide +kernel
theorem dX7_isItem_121 : decode cX7_isItem 121 = .ok (.iastore, 1) := by decide +kernel
theorem dX7_isItem_122 : decode cX7_isItem 122 = .ok (.aload_n 0, 1) := by decide +kernel
theorem dX7_isItem_123 : decode cX7_isItem 123 = .ok (.getfield 66, 3) := by decide +kernel
theorem dX7_isItem_126 : decode cX7_isItem 126 = .ok (.iload 4, 2) := by decide +kernel
theorem dX7_isItem_128 : decode cX7_isItem 128 = .ok (.iaload, 1) := by decide +kernel
theorem dX7_isItem_129 : decode cX7_isItem 129 = .ok (.ifCond .lt 7, 3) := by decide +kernel
theorem dX7_isItem_132 : decode cX7_isItem 132 = .ok (.iconst 1, 1) := by decide +kernel
theorem dX7_isItem_133 : decode cX7_isItem 133 = .ok (.goto 4, 3) := by decide +kernel
theorem dX7_isItem_136 : decode cX7_isItem 136 = .ok (.iconst 0, 1) := by decide +kernel
theorem dX7_isItem_137 : decode cX7_isItem 137 = .ok (.istore_n 3, 1) := by decide +kernel
theorem dX7_isItem_138 : decode cX7_isItem 138 = .ok (.iinc 4 1, 3) := by decide +kernel
theorem dX7_isItem_141 : decode cX7_isItem 141 = .ok (.goto (-103), 3) := by decide +kernel
theorem dX7_isItem_144 : decode cX7_isItem 144 = .ok (.iload_n 3, 1) := by decide +kernel
end
section
theorem dX7_isItem_145 : decode cX7_isItem 145 = .ok (.ifCond .eq 32, 3) := by decide +kernel
theorem dX7_isItem_148 : decode cX7_isItem 148 = .ok (.aload_n 0, 1) := by decide +kernel
theorem dX7_isItem_149 : decode cX7_isItem 149 = .ok (.getfield 85, 3) := by decide +kernel
theorem dX7_isItem_152 : decode cX7_isItem 152 = .ok (.aload_n 0, 1) := by decide +kernel
theorem dX7_isItem_153 : decode cX7_isItem 153 = .ok (.getfield 81, 3) := by decide +kernel
theorem dX7_isItem_156 : decode cX7_isItem 156 = .ok (.if_icmp .ge 21, 3) := by decide +kernel
theorem dX7_isItem_159 : decode cX7_isItem 159 = .ok (.aload_n 0, 1) := by decide +kernel
theorem dX7_isItem_160 : decode cX7_isItem 160 = .ok (.getfield 7, 3) := by decide +kernel
theorem dX7_isItem_163 : decode cX7_isItem 163 = .ok (.aload_n 0, 1) := by decide +kernel
theorem dX7_isItem_164 : decode cX7_isItem 164 = .ok (.getfield 85, 3) := by decide +kernel
theorem dX7_isItem_167 : decode cX7_isItem 167 = .ok (.baload, 1) := by decide +kernel
theorem dX7_isItem_168 : decode cX7_isItem 168 = .ok (.bipush 59, 2) := by decide +kernel
theorem dX7_isItem_170 : decode cX7_isItem 170 = .ok (.if_icmp .ne 7, 3) := by decide +kernel
theorem dX7_isItem_173 : decode cX7_isItem 173 = .ok (.iconst 1, 1) := by decide +kernel
theorem dX7_isItem_174 : decode cX7_isItem 174 = .ok (.goto 4, 3) := by decide +kernel
theorem dX7_isItem_177 : decode cX7_isItem 177 = .ok (.iconst 0, 1) := by decide +kernel
theorem dX7_isItem_178 : decode cX7_isItem 178 = .ok (.istore_n 3, 1) := by decide +kernel
theorem dX7_isItem_179 : decode cX7_isItem 179 = .ok (.aload_n 0, 1) := by decide +kernel
theorem dX7_isItem_180 : decode cX7_isItem 180 = .ok (.dup, 1) := by decide +kernel
theorem dX7_isItem_181 : decode cX7_isItem 181 = .ok (.getfield 85, 3) := by decide +kernel
theorem dX7_isItem_184 : decode cX7_isItem 184 = .ok (.iconst 1, 1) := by decide +kernel
theorem dX7_isItem_185 : decode cX7_isItem 185 = .ok (.iadd, 1) := by decide +kernel
theorem dX7_isItem_186 : decode cX7_isItem 186 = .ok (.putfield 85, 3) := by decide +kernel
theorem dX7_isItem_189 : decode cX7_isItem 189 = .ok (.iload_n 3, 1) := by decide +kernel
theorem dX7_isItem_190 : decode cX7_isItem 190 = .ok (.ifCond .eq 15, 3) := by decide +kernel
theorem dX7_isItem_193 : decode cX7_isItem 193 = .ok (.aload_n 0, 1) := by decide +kernel
theorem dX7_isItem_194 : decode cX7_isItem 194 = .ok (.iload_n 1, 1) := by decide +kernel
theorem dX7_isItem_195 : decode cX7_isItem 195 = .ok (.invokevirtual 102, 3) := by decide +kernel
theorem dX7_isItem_198 : decode cX7_isItem 198 = .ok (.ifCond .eq 7, 3) := by decide +kernel
theorem dX7_isItem_201 : decode cX7_isItem 201 = .ok (.iconst 1, 1) := by decide +kernel
theorem dX7_isItem_202 : decode cX7_isItem 202 = .ok (.goto 4, 3) := by decide +kernel
theorem dX7_isItem_205 : decode cX7_isItem 205 = .ok (.iconst 0, 1) := by decide +kernel
theorem dX7_isItem_206 : decode cX7_isItem 206 = .ok (.ireturn, 1) := by decide +kernel
theorem dX7_isGood_0 : decode cX7_isGood 0 = .ok (.iload_n 1, 1) := by decide +kernel
theorem dX7_isGood_1 : decode cX7_isGood 1 = .ok (.bipush 98, 2) := by decide +kernel
theorem dX7_isGood_3 : decode cX7_isGood 3 = .ok (.if_icmp .ne 57, 3) := by decide +kernel
theorem dX7_isGood_6 : decode cX7_isGood 6 = .ok (.aload_n 0, 1) := by decide +kernel
theorem dX7_isGood_7 : decode cX7_isGood 7 = .ok (.getfield 13, 3) := by decide +kernel
theorem dX7_isGood_10 : decode cX7_isGood 10 = .ok (.iconst 5, 1) := by decide +kernel
theorem dX7_isGood_11 : decode cX7_isGood 11 = .ok (.aload_n 0, 1) := by decide +kernel
theorem dX7_isGood_12 : decode cX7_isGood 12 = .ok (.getfield 66, 3) := by decide +kernel
theorem dX7_isGood_15 : decode cX7_isGood 15 = .ok (.iconst 0, 1) := by decide +kernel
theorem dX7_isGood_16 : decode cX7_isGood 16 = .ok (.iaload, 1) := by decide +kernel
theorem dX7_isGood_17 : decode cX7_isGood 17 = .ok (.iastore, 1) := by decide +kernel
theorem dX7_isGood_18 : decode cX7_isGood 18 = .ok (.aload_n 0, 1) := by decide +kernel
theorem dX7_isGood_19 : decode cX7_isGood 19 = .ok (.getfield 13, 3) := by decide +kernel
theorem dX7_isGood_22 : decode cX7_isGood 22 = .ok (.bipush 6, 2) := by decide +kernel
theorem dX7_isGood_24 : decode cX7_isGood 24 = .ok (.aload_n 0, 1) := by decide +kernel
theorem dX7_isGood_25 : decode cX7_isGood 25 = .ok (.getfield 66, 3) := by decide +kernel
theorem dX7_isGood_28 : decode cX7_isGood 28 = .ok (.iconst 1, 1) := by decide +kernel
theorem dX7_isGood_29 : decode cX7_isGood 29 = .ok (.iaload, 1) := by decide +kernel
theorem dX7_isGood_30 : decode cX7_isGood 30 = .ok (.iastore, 1) := by decide +kernel
theorem dX7_isGood_31 : decode cX7_isGood 31 = .ok (.aload_n 0, 1) := by decide +kernel
theorem dX7_isGood_32 : decode cX7_isGood 32 = .ok (.iconst 0, 1) := by decide +kernel
theorem dX7_isGood_33 : decode cX7_isGood 33 = .ok (.iconst 1, 1) := by decide +kernel
theorem dX7_isGood_34 : decode cX7_isGood 34 = .ok (.sipush 999, 3) := by decide +kernel
theorem dX7_isGood_37 : decode cX7_isGood 37 = .ok (.invokevirtual 106, 3) := by decide +kernel
theorem dX7_isGood_40 : decode cX7_isGood 40 = .ok (.ifCond .eq 18, 3) := by decide +kernel
theorem dX7_isGood_43 : decode cX7_isGood 43 = .ok (.aload_n 0, 1) := by decide +kernel
theorem dX7_isGood_44 : decode cX7_isGood 44 = .ok (.iconst 1, 1) := by decide +kernel
theorem dX7_isGood_45 : decode cX7_isGood 45 = .ok (.iconst 1, 1) := by decide +kernel
theorem dX7_isGood_46 : decode cX7_isGood 46 = .ok (.bipush 99, 2) := by decide +kernel
theorem dX7_isGood_48 : decode cX7_isGood 48 = .ok (.invokevirtual 106, 3) := by decide +kernel
theorem dX7_isGood_51 : decode cX7_isGood 51 = .ok (.ifCond .eq 7, 3) := by decide +kernel
theorem dX7_isGood_54 : decode cX7_isGood 54 = .ok (.iconst 1, 1) := by decide +kernel
theorem dX7_isGood_55 : decode cX7_isGood 55 = .ok (.goto 4, 3) := by decide +kernel
theorem dX7_isGood_58 : decode cX7_isGood 58 = .ok (.iconst 0, 1) := by decide +kernel
theorem dX7_isGood_59 : decode cX7_isGood 59 = .ok (.ireturn, 1) := by decide +kernel
theorem dX7_isGood_60 : decode cX7_isGood 60 = .ok (.iload_n 1, 1) := by decide +kernel
theorem dX7_isGood_61 : decode cX7_isGood 61 = .ok (.bipush 102, 2) := by decide +kernel
theorem dX7_isGood_63 : decode cX7_isGood 63 = .ok (.if_icmp .ne 139, 3) := by decide +kernel
theorem dX7_isGood_66 : decode cX7_isGood 66 = .ok (.bipush 48, 2) := by decide +kernel
theorem dX7_isGood_68 : decode cX7_isGood 68 = .ok (.iconst 4, 1) := by decide +kernel
theorem dX7_isGood_69 : decode cX7_isGood 69 = .ok (.aload_n 0, 1) := by decide +kernel
theorem dX7_isGood_70 : decode cX7_isGood 70 = .ok (.getfield 17, 3) := by decide +kernel
theorem dX7_isGood_73 : decode cX7_isGood 73 = .ok (.iconst 1, 1) := by decide +kernel
theorem dX7_isGood_74 : decode cX7_isGood 74 = .ok (.iaload, 1) := by decide +kernel
theorem dX7_isGood_75 : decode cX7_isGood 75 = .ok (.imul, 1) := by decide +kernel
theorem dX7_isGood_76 : decode cX7_isGood 76 = .ok (.iadd, 1) := by decide +kernel
theorem dX7_isGood_77 : decode cX7_isGood 77 = .ok (.istore_n 2, 1) := by decide +kernel
theorem dX7_isGood_78 : decode cX7_isGood 78 = .ok (.aload_n 0, 1) := by decide +kernel
theorem dX7_isGood_79 : decode cX7_isGood 79 = .ok (.getfield 17, 3) := by decide +kernel
theorem dX7_isGood_82 : decode cX7_isGood 82 = .ok (.iconst 1, 1) := by decide +kernel
theorem dX7_isGood_83 : decode cX7_isGood 83 = .ok (.iaload, 1) := by decide +kernel
theorem dX7_isGood_84 : decode cX7_isGood 84 = .ok (.ifCond .ne 7, 3) := by decide +kernel
theorem dX7_isGood_87 : decode cX7_isGood 87 = .ok (.iconst 0, 1) := by decide +kernel
theorem dX7_isGood_88 : decode cX7_isGood 88 = .ok (.goto 13, 3) := by decide +kernel
theorem dX7_isGood_91 : decode cX7_isGood 91 = .ok (.aload_n 0, 1) := by decide +kernel
theorem dX7_isGood_92 : decode cX7_isGood 92 = .ok (.getfield 20, 3) := by decide +kernel
theorem dX7_isGood_95 : decode cX7_isGood 95 = .ok (.iload_n 2, 1) := by decide +kernel
theorem dX7_isGood_96 : decode cX7_isGood 96 = .ok (.iconst 4, 1) := by decide +kernel
theorem dX7_isGood_97 : decode cX7_isGood 97 = .ok (.isub, 1) := by decide +kernel
theorem dX7_isGood_98 : decode cX7_isGood 98 = .ok (.iconst 0, 1) := by decide +kernel
theorem dX7_isGood_99 : decode cX7_isGood 99 = .ok (.iadd, 1) := by decide +kernel
theorem dX7_isGood_100 : decode cX7_isGood 100 = .ok (.iaload, 1) := by decide +kernel
theorem dX7_isGood_101 : decode cX7_isGood 101 = .ok (.istore_n 3, 1) := by decide +kernel
theorem dX7_isGood_102 : decode cX7_isGood 102 = .ok (.aload_n 0, 1) := by decide +kernel
theorem dX7_isGood_103 : decode cX7_isGood 103 = .ok (.iconst 0, 1) := by decide +kernel
theorem dX7_isGood_104 : decode cX7_isGood 104 = .ok (.iload_n 3, 1) := by decide +kernel
theorem dX7_isGood_105 : decode cX7_isGood 105 = .ok (.bipush 99, 2) := by decide +kernel
theorem dX7_isGood_107 : decode cX7_isGood 107 = .ok (.invokevirtual 106, 3) := by decide +kernel
theorem dX7_isGood_110 : decode cX7_isGood 110 = .ok (.ifCond .eq 47, 3) := by decide +kernel
theorem dX7_isGood_113 : decode cX7_isGood 113 = .ok (.aload_n 0, 1) := by decide +kernel
theorem dX7_isGood_114 : decode cX7_isGood 114 = .ok (.iconst 1, 1) := by decide +kernel
theorem dX7_isGood_115 : decode cX7_isGood 115 = .ok (.iconst 1, 1) := by decide +kernel
theorem dX7_isGood_116 : decode cX7_isGood 116 = .ok (.bipush 20, 2) := by decide +kernel
theorem dX7_isGood_118 : decode cX7_isGood 118 = .ok (.invokevirtual 106, 3) := by decide +kernel
theorem dX7_isGood_121 : decode cX7_isGood 121 = .ok (.ifCond .eq 36, 3) := by decide +kernel
theorem dX7_isGood_124 : decode cX7_isGood 124 = .ok (.aload_n 0, 1) := by decide +kernel
theorem dX7_isGood_125 : decode cX7_isGood 125 = .ok (.iconst 2, 1) := by decide +kernel
theorem dX7_isGood_126 : decode cX7_isGood 126 = .ok (.iconst 1, 1) := by decide +kernel
theorem dX7_isGood_127 : decode cX7_isGood 127 = .ok (.bipush 9, 2) := by decide +kernel
theorem dX7_isGood_129 : decode cX7_isGood 129 = .ok (.invokevirtual 106, 3) := by decide +kernel
theorem dX7_isGood_132 : decode cX7_isGood 132 = .ok (.ifCond .eq 25, 3) := by decide +kernel
theorem dX7_isGood_135 : decode cX7_isGood 135 = .ok (.aload_n 0, 1) := by decide +kernel
theorem dX7_isGood_136 : decode cX7_isGood 136 = .ok (.iconst 3, 1) := by decide +kernel
theorem dX7_isGood_137 : decode cX7_isGood 137 = .ok (.iconst 0, 1) := by decide +kernel
theorem dX7_isGood_138 : decode cX7_isGood 138 = .ok (.bipush 9, 2) := by decide +kernel
theorem dX7_isGood_140 : decode cX7_isGood 140 = .ok (.invokevirtual 106, 3) := by decide +kernel
theorem dX7_isGood_143 : decode cX7_isGood 143 = .ok (.ifCond .eq 14, 3) := by decide +kernel
theorem dX7_isGood_146 : decode cX7_isGood 146 = .ok (.aload_n 0, 1) := by decide +kernel
theorem dX7_isGood_147 : decode cX7_isGood 147 = .ok (.getfield 17, 3) := by decide +kernel
theorem dX7_isGood_150 : decode cX7_isGood 150 = .ok (.iconst 1, 1) := by decide +kernel
theorem dX7_isGood_151 : decode cX7_isGood 151 = .ok (.iaload, 1) := by decide +kernel
theorem dX7_isGood_152 : decode cX7_isGood 152 = .ok (.bipush 12, 2) := by decide +kernel
theorem dX7_isGood_154 : decode cX7_isGood 154 = .ok (.if_icmp .ne 5, 3) := by decide +kernel
theorem dX7_isGood_157 : decode cX7_isGood 157 = .ok (.iconst 0, 1) := by decide +kernel
theorem dX7_isGood_158 : decode cX7_isGood 158 = .ok (.ireturn, 1) := by decide +kernel
theorem dX7_isGood_159 : decode cX7_isGood 159 = .ok (.iconst 0, 1) := by decide +kernel
theorem dX7_isGood_160 : decode cX7_isGood 160 = .ok (.istore 4, 2) := by decide +kernel
theorem dX7_isGood_162 : decode cX7_isGood 162 = .ok (.iload 4, 2) := by decide +kernel
theorem dX7_isGood_164 : decode cX7_isGood 164 = .ok (.iconst 4, 1) := by decide +kernel
theorem dX7_isGood_165 : decode cX7_isGood 165 = .ok (.if_icmp .ge 25, 3) := by decide +kernel
theorem dX7_isGood_168 : decode cX7_isGood 168 = .ok (.aload_n 0, 1) := by decide +kernel
theorem dX7_isGood_169 : decode cX7_isGood 169 = .ok (.getfield 20, 3) := by decide +kernel
theorem dX7_isGood_172 : decode cX7_isGood 172 = .ok (.iload_n 2, 1) := by decide +kernel
theorem dX7_isGood_173 : decode cX7_isGood 173 = .ok (.iload 4, 2) := by decide +kernel
theorem dX7_isGood_175 : decode cX7_isGood 175 = .ok (.iadd, 1) := by decide +kernel
theorem dX7_isGood_176 : decode cX7_isGood 176 = .ok (.aload_n 0, 1) := by decide +kernel
theorem dX7_isGood_177 : decode cX7_isGood 177 = .ok (.getfield 66, 3) := by decide +kernel
theorem dX7_isGood_180 : decode cX7_isGood 180 = .ok (.iload 4, 2) := by decide +kernel
theorem dX7_isGood_182 : decode cX7_isGood 182 = .ok (.iaload, 1) := by decide +kernel
theorem dX7_isGood_183 : decode cX7_isGood 183 = .ok (.iastore, 1) := by decide +kernel
theorem dX7_isGood_184 : decode cX7_isGood 184 = .ok (.iinc 4 1, 3) := by decide +kernel
theorem dX7_isGood_187 : decode cX7_isGood 187 = .ok (.goto (-25), 3) := by decide +kernel
theorem dX7_isGood_190 : decode cX7_isGood 190 = .ok (.aload_n 0, 1) := by decide +kernel
theorem dX7_isGood_191 : decode cX7_isGood 191 = .ok (.getfield 17, 3) := by decide +kernel
theorem dX7_isGood_194 : decode cX7_isGood 194 = .ok (.iconst 1, 1) := by decide +kernel
theorem dX7_isGood_195 : decode cX7_isGood 195 = .ok (.dup2, 1) := by decide +kernel
theorem dX7_isGood_196 : decode cX7_isGood 196 = .ok (.iaload, 1) := by decide +kernel
theorem dX7_isGood_197 : decode cX7_isGood 197 = .ok (.iconst 1, 1) := by decide +kernel
theorem dX7_isGood_198 : decode cX7_isGood 198 = .ok (.iadd, 1) := by decide +kernel
theorem dX7_isGood_199 : decode cX7_isGood 199 = .ok (.iastore, 1) := by decide +kernel
theorem dX7_isGood_200 : decode cX7_isGood 200 = .ok (.iconst 1, 1) := by decide +kernel
theorem dX7_isGood_201 : decode cX7_isGood 201 = .ok (.ireturn, 1) := by decide +kernel
theorem dX7_isGood_202 : decode cX7_isGood 202 = .ok (.iload_n 1, 1) := by decide +kernel
theorem dX7_isGood_203 : decode cX7_isGood 203 = .ok (.bipush 112, 2) := by decide +kernel
theorem dX7_isGood_205 : decode cX7_isGood 205 = .ok (.if_icmp .ne 45, 3) := by decide +kernel
theorem dX7_isGood_208 : decode cX7_isGood 208 = .ok (.aload_n 0, 1) := by decide +kernel
theorem dX7_isGood_209 : decode cX7_isGood 209 = .ok (.iconst 0, 1) := by decide +kernel
theorem dX7_isGood_210 : decode cX7_isGood 210 = .ok (.iconst 0, 1) := by decide +kernel
theorem dX7_isGood_211 : decode cX7_isGood 211 = .ok (.bipush 99, 2) := by decide +kernel
theorem dX7_isGood_213 : decode cX7_isGood 213 = .ok (.invokevirtual 106, 3) := by decide +kernel
theorem dX7_isGood_216 : decode cX7_isGood 216 = .ok (.ifCond .ne 5, 3) := by decide +kernel
theorem dX7_isGood_219 : decode cX7_isGood 219 = .ok (.iconst 0, 1) := by decide +kernel
theorem dX7_isGood_220 : decode cX7_isGood 220 = .ok (.ireturn, 1) := by decide +kernel
theorem dX7_isGood_221 : decode cX7_isGood 221 = .ok (.aload_n 0, 1) := by decide +kernel
theorem dX7_isGood_222 : decode cX7_isGood 222 = .ok (.getfield 23, 3) := by decide +kernel
theorem dX7_isGood_225 : decode cX7_isGood 225 = .ok (.bipush 100, 2) := by decide +kernel
theorem dX7_isGood_227 : decode cX7_isGood 227 = .ok (.aload_n 0, 1) := by decide +kernel
theorem dX7_isGood_228 : decode cX7_isGood 228 = .ok (.getfield 66, 3) := by decide +kernel
theorem dX7_isGood_231 : decode cX7_isGood 231 = .ok (.iconst 0, 1) := by decide +kernel
theorem dX7_isGood_232 : decode cX7_isGood 232 = .ok (.iaload, 1) := by decide +kernel
theorem dX7_isGood_233 : decode cX7_isGood 233 = .ok (.iadd, 1) := by decide +kernel
theorem dX7_isGood_234 : decode cX7_isGood 234 = .ok (.aload_n 0, 1) := by decide +kernel
theorem dX7_isGood_235 : decode cX7_isGood 235 = .ok (.getfield 66, 3) := by decide +kernel
theorem dX7_isGood_238 : decode cX7_isGood 238 = .ok (.iconst 1, 1) := by decide +kernel
theorem dX7_isGood_239 : decode cX7_isGood 239 = .ok (.iaload, 1) := by decide +kernel
theorem dX7_isGood_240 : decode cX7_isGood 240 = .ok (.iastore, 1) := by decide +kernel
theorem dX7_isGood_241 : decode cX7_isGood 241 = .ok (.aload_n 0, 1) := by decide +kernel
theorem dX7_isGood_242 : decode cX7_isGood 242 = .ok (.iconst 1, 1) := by decide +kernel
theorem dX7_isGood_243 : decode cX7_isGood 243 = .ok (.iconst 0, 1) := by decide +kernel
theorem dX7_isGood_244 : decode cX7_isGood 244 = .ok (.bipush 99, 2) := by decide +kernel
theorem dX7_isGood_246 : decode cX7_isGood 246 = .ok (.invokevirtual 106, 3) := by decide +kernel
theorem dX7_isGood_249 : decode cX7_isGood 249 = .ok (.ireturn, 1) := by decide +kernel
theorem dX7_isGood_250 : decode cX7_isGood 250 = .ok (.aload_n 0, 1) := by decide +kernel
theorem dX7_isGood_251 : decode cX7_isGood 251 = .ok (.getfield 13, 3) := by decide +kernel
theorem dX7_isGood_254 : decode cX7_isGood 254 = .ok (.iload_n 1, 1) := by decide +kernel
theorem dX7_isGood_255 : decode cX7_isGood 255 = .ok (.bipush 116, 2) := by decide +kernel
theorem dX7_isGood_257 : decode cX7_isGood 257 = .ok (.if_icmp .ne 8, 3) := by decide +kernel
theorem dX7_isGood_260 : decode cX7_isGood 260 = .ok (.bipush 7, 2) := by decide +kernel
theorem dX7_isGood_262 : decode cX7_isGood 262 = .ok (.goto 16, 3) := by decide +kernel
theorem dX7_isGood_265 : decode cX7_isGood 265 = .ok (.iload_n 1, 1) := by decide +kernel
theorem dX7_isGood_266 : decode cX7_isGood 266 = .ok (.bipush 115, 2) := by decide +kernel
theorem dX7_isGood_268 : decode cX7_isGood 268 = .ok (.if_icmp .ne 8, 3) := by decide +kernel
theorem dX7_isGood_271 : decode cX7_isGood 271 = .ok (.bipush 8, 2) := by decide +kernel
theorem dX7_isGood_273 : decode cX7_isGood 273 = .ok (.goto 5, 3) := by decide +kernel
theorem dX7_isGood_276 : decode cX7_isGood 276 = .ok (.bipush 9, 2) := by decide +kernel
theorem dX7_isGood_278 : decode cX7_isGood 278 = .ok (.aload_n 0, 1) := by decide +kernel
theorem dX7_isGood_279 : decode cX7_isGood 279 = .ok (.getfield 66, 3) := by decide +kernel
theorem dX7_isGood_282 : decode cX7_isGood 282 = .ok (.iconst 0, 1) := by decide +kernel
theorem dX7_isGood_283 : decode cX7_isGood 283 = .ok (.iaload, 1) := by decide +kernel
theorem dX7_isGood_284 : decode cX7_isGood 284 = .ok (.iastore, 1) := by decide +kernel
theorem dX7_isGood_285 : decode cX7_isGood 285 = .ok (.iload_n 1, 1) := by decide +kernel
theorem dX7_isGood_286 : decode cX7_isGood 286 = .ok (.bipush 116, 2) := by decide +kernel
theorem dX7_isGood_288 : decode cX7_isGood 288 = .ok (.if_icmp .ne 14, 3) := by decide +kernel
theorem dX7_isGood_291 : decode cX7_isGood 291 = .ok (.aload_n 0, 1) := by decide +kernel
theorem dX7_isGood_292 : decode cX7_isGood 292 = .ok (.iconst 0, 1) := by decide +kernel
theorem dX7_isGood_293 : decode cX7_isGood 293 = .ok (.iconst 1, 1) := by decide +kernel
theorem dX7_isGood_294 : decode cX7_isGood 294 = .ok (.bipush 50, 2) := by decide +kernel
theorem dX7_isGood_296 : decode cX7_isGood 296 = .ok (.invokevirtual 106, 3) := by decide +kernel
theorem dX7_isGood_299 : decode cX7_isGood 299 = .ok (.goto 27, 3) := by decide +kernel
theorem dX7_isGood_302 : decode cX7_isGood 302 = .ok (.iload_n 1, 1) := by decide +kernel
theorem dX7_isGood_303 : decode cX7_isGood 303 = .ok (.bipush 115, 2) := by decide +kernel
theorem dX7_isGood_305 : decode cX7_isGood 305 = .ok (.if_icmp .ne 13, 3) := by decide +kernel
theorem dX7_isGood_308 : decode cX7_isGood 308 = .ok (.aload_n 0, 1) := by decide +kernel
theorem dX7_isGood_309 : decode cX7_isGood 309 = .ok (.iconst 0, 1) := by decide +kernel
theorem dX7_isGood_310 : decode cX7_isGood 310 = .ok (.iconst 0, 1) := by decide +kernel
theorem dX7_isGood_311 : decode cX7_isGood 311 = .ok (.iconst 4, 1) := by decide +kernel
theorem dX7_isGood_312 : decode cX7_isGood 312 = .ok (.invokevirtual 106, 3) := by decide +kernel
theorem dX7_isGood_315 : decode cX7_isGood 315 = .ok (.goto 11, 3) := by decide +kernel
theorem dX7_isGood_318 : decode cX7_isGood 318 = .ok (.aload_n 0, 1) := by decide +kernel
theorem dX7_isGood_319 : decode cX7_isGood 319 = .ok (.iconst 0, 1) := by decide +kernel
theorem dX7_isGood_320 : decode cX7_isGood 320 = .ok (.iconst 0, 1) := by decide +kernel
theorem dX7_isGood_321 : decode cX7_isGood 321 = .ok (.bipush 9, 2) := by decide +kernel
theorem dX7_isGood_323 : decode cX7_isGood 323 = .ok (.invokevirtual 106, 3) := by decide +kernel
theorem dX7_isGood_326 : decode cX7_isGood 326 = .ok (.ireturn, 1) := by decide +kernel
theorem dX7_begins_0 : decode cX7_begins 0 = .ok (.aload_n 0, 1) := by decide +kernel
theorem dX7_begins_1 : decode cX7_begins 1 = .ok (.getfield 17, 3) := by decide +kernel
theorem dX7_begins_4 : decode cX7_begins 4 = .ok (.iconst 1, 1) := by decide +kernel
theorem dX7_begins_5 : decode cX7_begins 5 = .ok (.iconst 0, 1) := by decide +kernel
theorem dX7_begins_6 : decode cX7_begins 6 = .ok (.iastore, 1) := by decide +kernel
theorem dX7_begins_7 : decode cX7_begins 7 = .ok (.aload_n 0, 1) := by decide +kernel
theorem dX7_begins_8 : decode cX7_begins 8 = .ok (.getfield 13, 3) := by decide +kernel
theorem dX7_begins_11 : decode cX7_begins 11 = .ok (.iconst 5, 1) := by decide +kernel
theorem dX7_begins_12 : decode cX7_begins 12 = .ok (.sipush 400, 3) := by decide +kernel
theorem dX7_begins_15 : decode cX7_begins 15 = .ok (.iastore, 1) := by decide +kernel
theorem dX7_begins_16 : decode cX7_begins 16 = .ok (.aload_n 0, 1) := by decide +kernel
theorem dX7_begins_17 : decode cX7_begins 17 = .ok (.getfield 13, 3) := by decide +kernel
theorem dX7_begins_20 : decode cX7_begins 20 = .ok (.bipush 6, 2) := by decide +kernel
theorem dX7_begins_22 : decode cX7_begins 22 = .ok (.bipush 60, 2) := by decide +kernel
theorem dX7_begins_24 : decode cX7_begins 24 = .ok (.iastore, 1) := by decide +kernel
theorem dX7_begins_25 : decode cX7_begins 25 = .ok (.aload_n 0, 1) := by decide +kernel
theorem dX7_begins_26 : decode cX7_begins 26 = .ok (.getfield 13, 3) := by decide +kernel
theorem dX7_begins_29 : decode cX7_begins 29 = .ok (.bipush 7, 2) := by decide +kernel
theorem dX7_begins_31 : decode cX7_begins 31 = .ok (.iconst 5, 1) := by decide +kernel
theorem dX7_begins_32 : decode cX7_begins 32 = .ok (.iastore, 1) := by decide +kernel
theorem dX7_begins_33 : decode cX7_begins 33 = .ok (.aload_n 0, 1) := by decide +kernel
theorem dX7_begins_34 : decode cX7_begins 34 = .ok (.getfield 13, 3) := by decide +kernel
theorem dX7_begins_37 : decode cX7_begins 37 = .ok (.bipush 8, 2) := by decide +kernel
theorem dX7_begins_39 : decode cX7_begins 39 = .ok (.iconst 1, 1) := by decide +kernel
theorem dX7_begins_40 : decode cX7_begins 40 = .ok (.iastore, 1) := by decide +kernel
theorem dX7_begins_41 : decode cX7_begins 41 = .ok (.aload_n 0, 1) := by decide +kernel
theorem dX7_begins_42 : decode cX7_begins 42 = .ok (.getfield 13, 3) := by decide +kernel
theorem dX7_begins_45 : decode cX7_begins 45 = .ok (.bipush 9, 2) := by decide +kernel
theorem dX7_begins_47 : decode cX7_begins 47 = .ok (.iconst 0, 1) := by decide +kernel
theorem dX7_begins_48 : decode cX7_begins 48 = .ok (.iastore, 1) := by decide +kernel
theorem dX7_begins_49 : decode cX7_begins 49 = .ok (.iconst 0, 1) := by decide +kernel
theorem dX7_begins_50 : decode cX7_begins 50 = .ok (.istore_n 1, 1) := by decide +kernel
theorem dX7_begins_51 : decode cX7_begins 51 = .ok (.iload_n 1, 1) := by decide +kernel
theorem dX7_begins_52 : decode cX7_begins 52 = .ok (.bipush 100, 2) := by decide +kernel
theorem dX7_begins_54 : decode cX7_begins 54 = .ok (.if_icmp .ge 20, 3) := by decide +kernel
theorem dX7_begins_57 : decode cX7_begins 57 = .ok (.aload_n 0, 1) := by decide +kernel
theorem dX7_begins_58 : decode cX7_begins 58 = .ok (.getfield 23, 3) := by decide +kernel
theorem dX7_begins_61 : decode cX7_begins 61 = .ok (.bipush 100, 2) := by decide +kernel
theorem dX7_begins_63 : decode cX7_begins 63 = .ok (.iload_n 1, 1) := by decide +kernel
theorem dX7_begins_64 : decode cX7_begins 64 = .ok (.iadd, 1) := by decide +kernel
theorem dX7_begins_65 : decode cX7_begins 65 = .ok (.bipush 10, 2) := by decide +kernel
theorem dX7_begins_67 : decode cX7_begins 67 = .ok (.iastore, 1) := by decide +kernel
theorem dX7_begins_68 : decode cX7_begins 68 = .ok (.iinc 1 1, 3) := by decide +kernel
theorem dX7_begins_71 : decode cX7_begins 71 = .ok (.goto (-20), 3) := by decide +kernel
theorem dX7_begins_74 : decode cX7_begins 74 = .ok (.return_, 1) := by decide +kernel
theorem dX7_takes_0 : decode cX7_takes 0 = .ok (.aload_n 0, 1) := by decide +kernel
theorem dX7_takes_1 : decode cX7_takes 1 = .ok (.getfield 17, 3) := by decide +kernel
theorem dX7_takes_4 : decode cX7_takes 4 = .ok (.iconst 0, 1) := by decide +kernel
theorem dX7_takes_5 : decode cX7_takes 5 = .ok (.aload_n 0, 1) := by decide +kernel
theorem dX7_takes_6 : decode cX7_takes 6 = .ok (.getfield 17, 3) := by decide +kernel
theorem dX7_takes_9 : decode cX7_takes 9 = .ok (.iconst 1, 1) := by decide +kernel
theorem dX7_takes_10 : decode cX7_takes 10 = .ok (.iaload, 1) := by decide +kernel
theorem dX7_takes_11 : decode cX7_takes 11 = .ok (.iastore, 1) := by decide +kernel
theorem dX7_takes_12 : decode cX7_takes 12 = .ok (.iconst 0, 1) := by decide +kernel
theorem dX7_takes_13 : decode cX7_takes 13 = .ok (.istore_n 1, 1) := by decide +kernel
theorem dX7_takes_14 : decode cX7_takes 14 = .ok (.iload_n 1, 1) := by decide +kernel
theorem dX7_takes_15 : decode cX7_takes 15 = .ok (.bipush 100, 2) := by decide +kernel
theorem dX7_takes_17 : decode cX7_takes 17 = .ok (.if_icmp .ge 64, 3) := by decide +kernel
theorem dX7_takes_20 : decode cX7_takes 20 = .ok (.aload_n 0, 1) := by decide +kernel
theorem dX7_takes_21 : decode cX7_takes 21 = .ok (.getfield 23, 3) := by decide +kernel
theorem dX7_takes_24 : decode cX7_takes 24 = .ok (.iload_n 1, 1) := by decide +kernel
theorem dX7_takes_25 : decode cX7_takes 25 = .ok (.aload_n 0, 1) := by decide +kernel
theorem dX7_takes_26 : decode cX7_takes 26 = .ok (.getfield 23, 3) := by decide +kernel
theorem dX7_takes_29 : decode cX7_takes 29 = .ok (.bipush 100, 2) := by decide +kernel
theorem dX7_takes_31 : decode cX7_takes 31 = .ok (.iload_n 1, 1) := by decide +kernel
theorem dX7_takes_32 : decode cX7_takes 32 = .ok (.iadd, 1) := by decide +kernel
theorem dX7_takes_33 : decode cX7_takes 33 = .ok (.iaload, 1) := by decide +kernel
theorem dX7_takes_34 : decode cX7_takes 34 = .ok (.iastore, 1) := by decide +kernel
theorem dX7_takes_35 : decode cX7_takes 35 = .ok (.iload_n 1, 1) := by decide +kernel
theorem dX7_takes_36 : decode cX7_takes 36 = .ok (.bipush 48, 2) := by decide +kernel
theorem dX7_takes_38 : decode cX7_takes 38 = .ok (.if_icmp .ge 18, 3) := by decide +kernel
theorem dX7_takes_41 : decode cX7_takes 41 = .ok (.aload_n 0, 1) := by decide +kernel
theorem dX7_takes_42 : decode cX7_takes 42 = .ok (.getfield 20, 3) := by decide +kernel
theorem dX7_takes_45 : decode cX7_takes 45 = .ok (.iload_n 1, 1) := by decide +kernel
theorem dX7_takes_46 : decode cX7_takes 46 = .ok (.aload_n 0, 1) := by decide +kernel
theorem dX7_takes_47 : decode cX7_takes 47 = .ok (.getfield 20, 3) := by decide +kernel
theorem dX7_takes_50 : decode cX7_takes 50 = .ok (.bipush 48, 2) := by decide +kernel
theorem dX7_takes_52 : decode cX7_takes 52 = .ok (.iload_n 1, 1) := by decide +kernel
theorem dX7_takes_53 : decode cX7_takes 53 = .ok (.iadd, 1) := by decide +kernel
theorem dX7_takes_54 : decode cX7_takes 54 = .ok (.iaload, 1) := by decide +kernel
theorem dX7_takes_55 : decode cX7_takes 55 = .ok (.iastore, 1) := by decide +kernel
theorem dX7_takes_56 : decode cX7_takes 56 = .ok (.iload_n 1, 1) := by decide +kernel
theorem dX7_takes_57 : decode cX7_takes 57 = .ok (.iconst 5, 1) := by decide +kernel
theorem dX7_takes_58 : decode cX7_takes 58 = .ok (.if_icmp .ge 17, 3) := by decide +kernel
theorem dX7_takes_61 : decode cX7_takes 61 = .ok (.aload_n 0, 1) := by decide +kernel
theorem dX7_takes_62 : decode cX7_takes 62 = .ok (.getfield 13, 3) := by decide +kernel
theorem dX7_takes_65 : decode cX7_takes 65 = .ok (.iload_n 1, 1) := by decide +kernel
theorem dX7_takes_66 : decode cX7_takes 66 = .ok (.aload_n 0, 1) := by decide +kernel
theorem dX7_takes_67 : decode cX7_takes 67 = .ok (.getfield 13, 3) := by decide +kernel
theorem dX7_takes_70 : decode cX7_takes 70 = .ok (.iconst 5, 1) := by decide +kernel
theorem dX7_takes_71 : decode cX7_takes 71 = .ok (.iload_n 1, 1) := by decide +kernel
theorem dX7_takes_72 : decode cX7_takes 72 = .ok (.iadd, 1) := by decide +kernel
theorem dX7_takes_73 : decode cX7_takes 73 = .ok (.iaload, 1) := by decide +kernel
theorem dX7_takes_74 : decode cX7_takes 74 = .ok (.iastore, 1) := by decide +kernel
theorem dX7_takes_75 : decode cX7_takes 75 = .ok (.iinc 1 1, 3) := by decide +kernel
theorem dX7_takes_78 : decode cX7_takes 78 = .ok (.goto (-64), 3) := by decide +kernel
theorem dX7_takes_81 : decode cX7_takes 81 = .ok (.aload_n 0, 1) := by decide +kernel
theorem dX7_takes_82 : decode cX7_takes 82 = .ok (.getfield 26, 3) := by decide +kernel
theorem dX7_takes_85 : decode cX7_takes 85 = .ok (.iconst 0, 1) := by decide +kernel
theorem dX7_takes_86 : decode cX7_takes 86 = .ok (.iconst 0, 1) := by decide +kernel
theorem dX7_takes_87 : decode cX7_takes 87 = .ok (.iastore, 1) := by decide +kernel
theorem dX7_takes_88 : decode cX7_takes 88 = .ok (.aload_n 0, 1) := by decide +kernel
theorem dX7_takes_89 : decode cX7_takes 89 = .ok (.getfield 35, 3) := by decide +kernel
theorem dX7_takes_92 : decode cX7_takes 92 = .ok (.iconst 0, 1) := by decide +kernel
theorem dX7_takes_93 : decode cX7_takes 93 = .ok (.lconst 0, 1) := by decide +kernel
theorem dX7_takes_94 : decode cX7_takes 94 = .ok (.lastore, 1) := by decide +kernel
theorem dX7_takes_95 : decode cX7_takes 95 = .ok (.aload_n 0, 1) := by decide +kernel
theorem dX7_takes_96 : decode cX7_takes 96 = .ok (.getfield 39, 3) := by decide +kernel
theorem dX7_takes_99 : decode cX7_takes 99 = .ok (.iconst 0, 1) := by decide +kernel
theorem dX7_takes_100 : decode cX7_takes 100 = .ok (.iconst 0, 1) := by decide +kernel
theorem dX7_takes_101 : decode cX7_takes 101 = .ok (.iastore, 1) := by decide +kernel
theorem dX7_takes_102 : decode cX7_takes 102 = .ok (.aload_n 0, 1) := by decide +kernel
theorem dX7_takes_103 : decode cX7_takes 103 = .ok (.iconst 0, 1) := by decide +kernel
theorem dX7_takes_104 : decode cX7_takes 104 = .ok (.putfield 110, 3) := by decide +kernel
theorem dX7_takes_107 : decode cX7_takes 107 = .ok (.aload_n 0, 1) := by decide +kernel
theorem dX7_takes_108 : decode cX7_takes 108 = .ok (.iconst 0, 1) := by decide +kernel
theorem dX7_takes_109 : decode cX7_takes 109 = .ok (.putfield 113, 3) := by decide +kernel
theorem dX7_takes_112 : decode cX7_takes 112 = .ok (.return_, 1) := by decide +kernel
theorem dX7_fault_0 : decode cX7_fault 0 = .ok (.aload_n 0, 1) := by decide +kernel
theorem dX7_fault_1 : decode cX7_fault 1 = .ok (.iconst 0, 1) := by decide +kernel
theorem dX7_fault_2 : decode cX7_fault 2 = .ok (.putfield 85, 3) := by decide +kernel
theorem dX7_fault_5 : decode cX7_fault 5 = .ok (.aload_n 0, 1) := by decide +kernel
theorem dX7_fault_6 : decode cX7_fault 6 = .ok (.invokevirtual 69, 3) := by decide +kernel
theorem dX7_fault_9 : decode cX7_fault 9 = .ok (.aload_n 0, 1) := by decide +kernel
theorem dX7_fault_10 : decode cX7_fault 10 = .ok (.getfield 85, 3) := by decide +kernel
theorem dX7_fault_13 : decode cX7_fault 13 = .ok (.aload_n 0, 1) := by decide +kernel
theorem dX7_fault_14 : decode cX7_fault 14 = .ok (.getfield 81, 3) := by decide +kernel
theorem dX7_fault_17 : decode cX7_fault 17 = .ok (.if_icmp .ge 20, 3) := by decide +kernel
theorem dX7_fault_20 : decode cX7_fault 20 = .ok (.aload_n 0, 1) := by decide +kernel
theorem dX7_fault_21 : decode cX7_fault 21 = .ok (.getfield 85, 3) := by decide +kernel
theorem dX7_fault_24 : decode cX7_fault 24 = .ok (.istore_n 1, 1) := by decide +kernel
theorem dX7_fault_25 : decode cX7_fault 25 = .ok (.aload_n 0, 1) := by decide +kernel
theorem dX7_fault_26 : decode cX7_fault 26 = .ok (.invokevirtual 116, 3) := by decide +kernel
theorem dX7_fault_29 : decode cX7_fault 29 = .ok (.ifCond .ne 5, 3) := by decide +kernel
theorem dX7_fault_32 : decode cX7_fault 32 = .ok (.iload_n 1, 1) := by decide +kernel
theorem dX7_fault_33 : decode cX7_fault 33 = .ok (.ireturn, 1) := by decide +kernel
theorem dX7_fault_34 : decode cX7_fault 34 = .ok (.goto (-25), 3) := by decide +kernel
theorem dX7_fault_37 : decode cX7_fault 37 = .ok (.bipush (-4), 2) := by decide +kernel
theorem dX7_fault_39 : decode cX7_fault 39 = .ok (.ireturn, 1) := by decide +kernel
theorem dX7_lay_0 : decode cX7_lay 0 = .ok (.aload_n 0, 1) := by decide +kernel
theorem dX7_lay_1 : decode cX7_lay 1 = .ok (.invokevirtual 120, 3) := by decide +kernel
theorem dX7_lay_4 : decode cX7_lay 4 = .ok (.bipush (-4), 2) := by decide +kernel
theorem dX7_lay_6 : decode cX7_lay 6 = .ok (.if_icmp .ne 12, 3) := by decide +kernel
theorem dX7_lay_9 : decode cX7_lay 9 = .ok (.aload_n 0, 1) := by decide +kernel
theorem dX7_lay_10 : decode cX7_lay 10 = .ok (.getfield 17, 3) := by decide +kernel
theorem dX7_lay_13 : decode cX7_lay 13 = .ok (.iconst 1, 1) := by decide +kernel
theorem dX7_lay_14 : decode cX7_lay 14 = .ok (.iaload, 1) := by decide +kernel
theorem dX7_lay_15 : decode cX7_lay 15 = .ok (.ifCond .ne 6, 3) := by decide +kernel
theorem dX7_lay_18 : decode cX7_lay 18 = .ok (.bipush (-2), 2) := by decide +kernel
theorem dX7_lay_20 : decode cX7_lay 20 = .ok (.ireturn, 1) := by decide +kernel
theorem dX7_lay_21 : decode cX7_lay 21 = .ok (.aload_n 0, 1) := by decide +kernel
theorem dX7_lay_22 : decode cX7_lay 22 = .ok (.invokevirtual 72, 3) := by decide +kernel
theorem dX7_lay_25 : decode cX7_lay 25 = .ok (.aload_n 0, 1) := by decide +kernel
theorem dX7_lay_26 : decode cX7_lay 26 = .ok (.getfield 17, 3) := by decide +kernel
theorem dX7_lay_29 : decode cX7_lay 29 = .ok (.iconst 0, 1) := by decide +kernel
theorem dX7_lay_30 : decode cX7_lay 30 = .ok (.iaload, 1) := by decide +kernel
theorem dX7_lay_31 : decode cX7_lay 31 = .ok (.ireturn, 1) := by decide +kernel
theorem dX7_of_0 : decode cX7_of 0 = .ok (.aload_n 0, 1) := by decide +kernel
theorem dX7_of_1 : decode cX7_of 1 = .ok (.getfield 20, 3) := by decide +kernel
theorem dX7_of_4 : decode cX7_of 4 = .ok (.iconst 4, 1) := by decide +kernel
theorem dX7_of_5 : decode cX7_of 5 = .ok (.iload_n 1, 1) := by decide +kernel
theorem dX7_of_6 : decode cX7_of 6 = .ok (.imul, 1) := by decide +kernel
theorem dX7_of_7 : decode cX7_of 7 = .ok (.iload_n 2, 1) := by decide +kernel
theorem dX7_of_8 : decode cX7_of 8 = .ok (.iadd, 1) := by decide +kernel
theorem dX7_of_9 : decode cX7_of 9 = .ok (.iaload, 1) := by decide +kernel
theorem dX7_of_10 : decode cX7_of 10 = .ok (.ireturn, 1) := by decide +kernel
theorem dX7_costOf_0 : decode cX7_costOf 0 = .ok (.aload_n 0, 1) := by decide +kernel
theorem dX7_costOf_1 : decode cX7_costOf 1 = .ok (.getfield 23, 3) := by decide +kernel
theorem dX7_costOf_4 : decode cX7_costOf 4 = .ok (.aload_n 0, 1) := by decide +kernel
theorem dX7_costOf_5 : decode cX7_costOf 5 = .ok (.iload_n 1, 1) := by decide +kernel
theorem dX7_costOf_6 : decode cX7_costOf 6 = .ok (.iconst 0, 1) := by decide +kernel
theorem dX7_costOf_7 : decode cX7_costOf 7 = .ok (.invokevirtual 123, 3) := by decide +kernel
theorem dX7_costOf_10 : decode cX7_costOf 10 = .ok (.iaload, 1) := by decide +kernel
theorem dX7_costOf_11 : decode cX7_costOf 11 = .ok (.ireturn, 1) := by decide +kernel
theorem dX7_isLayer_0 : decode cX7_isLayer 0 = .ok (.iload_n 1, 1) := by decide +kernel
theorem dX7_isLayer_1 : decode cX7_isLayer 1 = .ok (.i2l, 1) := by decide +kernel
theorem dX7_isLayer_2 : decode cX7_isLayer 2 = .ok (.lconst 0, 1) := by decide +kernel
theorem dX7_isLayer_3 : decode cX7_isLayer 3 = .ok (.aload_n 0, 1) := by decide +kernel
theorem dX7_isLayer_4 : decode cX7_isLayer 4 = .ok (.getfield 26, 3) := by decide +kernel
theorem dX7_isLayer_7 : decode cX7_isLayer 7 = .ok (.iconst 0, 1) := by decide +kernel
theorem dX7_isLayer_8 : decode cX7_isLayer 8 = .ok (.iaload, 1) := by decide +kernel
theorem dX7_isLayer_9 : decode cX7_isLayer 9 = .ok (.iconst 1, 1) := by decide +kernel
theorem dX7_isLayer_10 : decode cX7_isLayer 10 = .ok (.isub, 1) := by decide +kernel
theorem dX7_isLayer_11 : decode cX7_isLayer 11 = .ok (.i2l, 1) := by decide +kernel
theorem dX7_isLayer_12 : decode cX7_isLayer 12 = .ok (.invokestatic 77, 3) := by decide +kernel
theorem dX7_isLayer_15 : decode cX7_isLayer 15 = .ok (.ireturn, 1) := by decide +kernel
theorem dX7_isYear_0 : decode cX7_isYear 0 = .ok (.iload_n 0, 1) := by decide +kernel
theorem dX7_isYear_1 : decode cX7_isYear 1 = .ok (.i2l, 1) := by decide +kernel
theorem dX7_isYear_2 : decode cX7_isYear 2 = .ok (.lconst 0, 1) := by decide +kernel
theorem dX7_isYear_3 : decode cX7_isYear 3 = .ok (.ldc2_w 127, 3) := by decide +kernel
theorem dX7_isYear_6 : decode cX7_isYear 6 = .ok (.invokestatic 77, 3) := by decide +kernel
theorem dX7_isYear_9 : decode cX7_isYear 9 = .ok (.ireturn, 1) := by decide +kernel
theorem dX7_falls_0 : decode cX7_falls 0 = .ok (.iload_n 1, 1) := by decide +kernel
theorem dX7_falls_1 : decode cX7_falls 1 = .ok (.i2l, 1) := by decide +kernel
theorem dX7_falls_2 : decode cX7_falls 2 = .ok (.lconst 0, 1) := by decide +kernel
theorem dX7_falls_3 : decode cX7_falls 3 = .ok (.aload_n 0, 1) := by decide +kernel
theorem dX7_falls_4 : decode cX7_falls 4 = .ok (.getfield 17, 3) := by decide +kernel
theorem dX7_falls_7 : decode cX7_falls 7 = .ok (.iconst 0, 1) := by decide +kernel
theorem dX7_falls_8 : decode cX7_falls 8 = .ok (.iaload, 1) := by decide +kernel
theorem dX7_falls_9 : decode cX7_falls 9 = .ok (.iconst 1, 1) := by decide +kernel
theorem dX7_falls_10 : decode cX7_falls 10 = .ok (.isub, 1) := by decide +kernel
theorem dX7_falls_11 : decode cX7_falls 11 = .ok (.i2l, 1) := by decide +kernel
theorem dX7_falls_12 : decode cX7_falls 12 = .ok (.invokestatic 77, 3) := by decide +kernel
theorem dX7_falls_15 : decode cX7_falls 15 = .ok (.ifCond .eq 15, 3) := by decide +kernel
theorem dX7_falls_18 : decode cX7_falls 18 = .ok (.iload_n 2, 1) := by decide +kernel
theorem dX7_falls_19 : decode cX7_falls 19 = .ok (.i2l, 1) := by decide +kernel
theorem dX7_falls_20 : decode cX7_falls 20 = .ok (.lconst 0, 1) := by decide +kernel
theorem dX7_falls_21 : decode cX7_falls 21 = .ok (.ldc2_w 129, 3) := by decide +kernel
theorem dX7_falls_24 : decode cX7_falls 24 = .ok (.invokestatic 77, 3) := by decide +kernel
theorem dX7_falls_27 : decode cX7_falls 27 = .ok (.ifCond .ne 7, 3) := by decide +kernel
theorem dX7_falls_30 : decode cX7_falls 30 = .ok (.iconst (-1), 1) := by decide +kernel
theorem dX7_falls_31 : decode cX7_falls 31 = .ok (.goto 22, 3) := by decide +kernel
theorem dX7_falls_34 : decode cX7_falls 34 = .ok (.iload_n 2, 1) := by decide +kernel
theorem dX7_falls_35 : decode cX7_falls 35 = .ok (.iconst 4, 1) := by decide +kernel
theorem dX7_falls_36 : decode cX7_falls 36 = .ok (.if_icmp .ge 12, 3) := by decide +kernel
theorem dX7_falls_39 : decode cX7_falls 39 = .ok (.aload_n 0, 1) := by decide +kernel
theorem dX7_falls_40 : decode cX7_falls 40 = .ok (.iload_n 1, 1) := by decide +kernel
theorem dX7_falls_41 : decode cX7_falls 41 = .ok (.iload_n 2, 1) := by decide +kernel
theorem dX7_falls_42 : decode cX7_falls 42 = .ok (.invokevirtual 123, 3) := by decide +kernel
theorem dX7_falls_45 : decode cX7_falls 45 = .ok (.goto 8, 3) := by decide +kernel
theorem dX7_falls_48 : decode cX7_falls 48 = .ok (.aload_n 0, 1) := by decide +kernel
theorem dX7_falls_49 : decode cX7_falls 49 = .ok (.iload_n 1, 1) := by decide +kernel
theorem dX7_falls_50 : decode cX7_falls 50 = .ok (.invokevirtual 131, 3) := by decide +kernel
theorem dX7_falls_53 : decode cX7_falls 53 = .ok (.ireturn, 1) := by decide +kernel
theorem dX7_high_0 : decode cX7_high 0 = .ok (.iconst 0, 1) := by decide +kernel
theorem dX7_high_1 : decode cX7_high 1 = .ok (.istore_n 1, 1) := by decide +kernel
theorem dX7_high_2 : decode cX7_high 2 = .ok (.iconst 0, 1) := by decide +kernel
theorem dX7_high_3 : decode cX7_high 3 = .ok (.istore_n 2, 1) := by decide +kernel
theorem dX7_high_4 : decode cX7_high 4 = .ok (.iload_n 2, 1) := by decide +kernel
theorem dX7_high_5 : decode cX7_high 5 = .ok (.aload_n 0, 1) := by decide +kernel
theorem dX7_high_6 : decode cX7_high 6 = .ok (.getfield 26, 3) := by decide +kernel
theorem dX7_high_9 : decode cX7_high 9 = .ok (.iconst 0, 1) := by decide +kernel
theorem dX7_high_10 : decode cX7_high 10 = .ok (.iaload, 1) := by decide +kernel
theorem dX7_high_11 : decode cX7_high 11 = .ok (.if_icmp .ge 18, 3) := by decide +kernel
theorem dX7_high_14 : decode cX7_high 14 = .ok (.iload_n 1, 1) := by decide +kernel
theorem dX7_high_15 : decode cX7_high 15 = .ok (.aload_n 0, 1) := by decide +kernel
theorem dX7_high_16 : decode cX7_high 16 = .ok (.getfield 29, 3) := by decide +kernel
theorem dX7_high_19 : decode cX7_high 19 = .ok (.iload_n 2, 1) := by decide +kernel
theorem dX7_high_20 : decode cX7_high 20 = .ok (.iaload, 1) := by decide +kernel
theorem dX7_high_21 : decode cX7_high 21 = .ok (.iadd, 1) := by decide +kernel
theorem dX7_high_22 : decode cX7_high 22 = .ok (.istore_n 1, 1) := by decide +kernel
theorem dX7_high_23 : decode cX7_high 23 = .ok (.iinc 2 1, 3) := by decide +kernel
theorem dX7_high_26 : decode cX7_high 26 = .ok (.goto (-22), 3) := by decide +kernel
theorem dX7_high_29 : decode cX7_high 29 = .ok (.iload_n 1, 1) := by decide +kernel
theorem dX7_high_30 : decode cX7_high 30 = .ok (.ireturn, 1) := by decide +kernel
theorem dX7_load_0 : decode cX7_load 0 = .ok (.iconst 0, 1) := by decide +kernel
theorem dX7_load_1 : decode cX7_load 1 = .ok (.istore_n 1, 1) := by decide +kernel
theorem dX7_load_2 : decode cX7_load 2 = .ok (.iconst 0, 1) := by decide +kernel
theorem dX7_load_3 : decode cX7_load 3 = .ok (.istore_n 2, 1) := by decide +kernel
theorem dX7_load_4 : decode cX7_load 4 = .ok (.iload_n 2, 1) := by decide +kernel
theorem dX7_load_5 : decode cX7_load 5 = .ok (.aload_n 0, 1) := by decide +kernel
theorem dX7_load_6 : decode cX7_load 6 = .ok (.getfield 26, 3) := by decide +kernel
theorem dX7_load_9 : decode cX7_load 9 = .ok (.iconst 0, 1) := by decide +kernel
theorem dX7_load_10 : decode cX7_load 10 = .ok (.iaload, 1) := by decide +kernel
theorem dX7_load_11 : decode cX7_load 11 = .ok (.if_icmp .ge 25, 3) := by decide +kernel
theorem dX7_load_14 : decode cX7_load 14 = .ok (.iload_n 1, 1) := by decide +kernel
theorem dX7_load_15 : decode cX7_load 15 = .ok (.aload_n 0, 1) := by decide +kernel
theorem dX7_load_16 : decode cX7_load 16 = .ok (.getfield 29, 3) := by decide +kernel
theorem dX7_load_19 : decode cX7_load 19 = .ok (.iload_n 2, 1) := by decide +kernel
theorem dX7_load_20 : decode cX7_load 20 = .ok (.iaload, 1) := by decide +kernel
theorem dX7_load_21 : decode cX7_load 21 = .ok (.aload_n 0, 1) := by decide +kernel
theorem dX7_load_22 : decode cX7_load 22 = .ok (.iload_n 2, 1) := by decide +kernel
theorem dX7_load_23 : decode cX7_load 23 = .ok (.iconst 2, 1) := by decide +kernel
theorem dX7_load_24 : decode cX7_load 24 = .ok (.invokevirtual 123, 3) := by decide +kernel
theorem dX7_load_27 : decode cX7_load 27 = .ok (.imul, 1) := by decide +kernel
theorem dX7_load_28 : decode cX7_load 28 = .ok (.iadd, 1) := by decide +kernel
theorem dX7_load_29 : decode cX7_load 29 = .ok (.istore_n 1, 1) := by decide +kernel
theorem dX7_load_30 : decode cX7_load 30 = .ok (.iinc 2 1, 3) := by decide +kernel
theorem dX7_load_33 : decode cX7_load 33 = .ok (.goto (-29), 3) := by decide +kernel
theorem dX7_load_36 : decode cX7_load 36 = .ok (.iload_n 1, 1) := by decide +kernel
theorem dX7_load_37 : decode cX7_load 37 = .ok (.ireturn, 1) := by decide +kernel
theorem dX7_fits_0 : decode cX7_fits 0 = .ok (.iload_n 1, 1) := by decide +kernel
theorem dX7_fits_1 : decode cX7_fits 1 = .ok (.bipush 10, 2) := by decide +kernel
theorem dX7_fits_3 : decode cX7_fits 3 = .ok (.aload_n 0, 1) := by decide +kernel
theorem dX7_fits_4 : decode cX7_fits 4 = .ok (.getfield 13, 3) := by decide +kernel
theorem dX7_fits_7 : decode cX7_fits 7 = .ok (.iconst 1, 1) := by decide +kernel
theorem dX7_fits_8 : decode cX7_fits 8 = .ok (.iaload, 1) := by decide +kernel
theorem dX7_fits_9 : decode cX7_fits 9 = .ok (.imul, 1) := by decide +kernel
theorem dX7_fits_10 : decode cX7_fits 10 = .ok (.if_icmp .gt 20, 3) := by decide +kernel
theorem dX7_fits_13 : decode cX7_fits 13 = .ok (.iload_n 2, 1) := by decide +kernel
theorem dX7_fits_14 : decode cX7_fits 14 = .ok (.bipush 10, 2) := by decide +kernel
theorem dX7_fits_16 : decode cX7_fits 16 = .ok (.aload_n 0, 1) := by decide +kernel
theorem dX7_fits_17 : decode cX7_fits 17 = .ok (.getfield 13, 3) := by decide +kernel
theorem dX7_fits_20 : decode cX7_fits 20 = .ok (.iconst 0, 1) := by decide +kernel
theorem dX7_fits_21 : decode cX7_fits 21 = .ok (.iaload, 1) := by decide +kernel
theorem dX7_fits_22 : decode cX7_fits 22 = .ok (.imul, 1) := by decide +kernel
theorem dX7_fits_23 : decode cX7_fits 23 = .ok (.if_icmp .gt 7, 3) := by decide +kernel
theorem dX7_fits_26 : decode cX7_fits 26 = .ok (.iconst 1, 1) := by decide +kernel
theorem dX7_fits_27 : decode cX7_fits 27 = .ok (.goto 4, 3) := by decide +kernel
theorem dX7_fits_30 : decode cX7_fits 30 = .ok (.iconst 0, 1) := by decide +kernel
theorem dX7_fits_31 : decode cX7_fits 31 = .ok (.ireturn, 1) := by decide +kernel
theorem dX7_fall_0 : decode cX7_fall 0 = .ok (.aload_n 0, 1) := by decide +kernel
theorem dX7_fall_1 : decode cX7_fall 1 = .ok (.getfield 26, 3) := by decide +kernel
theorem dX7_fall_4 : decode cX7_fall 4 = .ok (.iconst 0, 1) := by decide +kernel
theorem dX7_fall_5 : decode cX7_fall 5 = .ok (.iaload, 1) := by decide +kernel
theorem dX7_fall_6 : decode cX7_fall 6 = .ok (.istore_n 1, 1) := by decide +kernel
theorem dX7_fall_7 : decode cX7_fall 7 = .ok (.iload_n 1, 1) := by decide +kernel
theorem dX7_fall_8 : decode cX7_fall 8 = .ok (.aload_n 0, 1) := by decide +kernel
theorem dX7_fall_9 : decode cX7_fall 9 = .ok (.getfield 17, 3) := by decide +kernel
theorem dX7_fall_12 : decode cX7_fall 12 = .ok (.iconst 0, 1) := by decide +kernel
theorem dX7_fall_13 : decode cX7_fall 13 = .ok (.iaload, 1) := by decide +kernel
theorem dX7_fall_14 : decode cX7_fall 14 = .ok (.if_icmp .ne 6, 3) := by decide +kernel
theorem dX7_fall_17 : decode cX7_fall 17 = .ok (.bipush (-2), 2) := by decide +kernel
theorem dX7_fall_19 : decode cX7_fall 19 = .ok (.ireturn, 1) := by decide +kernel
theorem dX7_fall_20 : decode cX7_fall 20 = .ok (.bipush 10, 2) := by decide +kernel
theorem dX7_fall_22 : decode cX7_fall 22 = .ok (.aload_n 0, 1) := by decide +kernel
theorem dX7_fall_23 : decode cX7_fall 23 = .ok (.iload_n 1, 1) := by decide +kernel
theorem dX7_fall_24 : decode cX7_fall 24 = .ok (.iconst 1, 1) := by decide +kernel
theorem dX7_fall_25 : decode cX7_fall 25 = .ok (.invokevirtual 123, 3) := by decide +kernel
theorem dX7_fall_28 : decode cX7_fall 28 = .ok (.imul, 1) := by decide +kernel
theorem dX7_fall_29 : decode cX7_fall 29 = .ok (.istore_n 2, 1) := by decide +kernel
theorem dX7_fall_30 : decode cX7_fall 30 = .ok (.aload_n 0, 1) := by decide +kernel
theorem dX7_fall_31 : decode cX7_fall 31 = .ok (.aload_n 0, 1) := by decide +kernel
theorem dX7_fall_32 : decode cX7_fall 32 = .ok (.invokevirtual 134, 3) := by decide +kernel
theorem dX7_fall_35 : decode cX7_fall 35 = .ok (.iload_n 2, 1) := by decide +kernel
theorem dX7_fall_36 : decode cX7_fall 36 = .ok (.iadd, 1) := by decide +kernel
theorem dX7_fall_37 : decode cX7_fall 37 = .ok (.aload_n 0, 1) := by decide +kernel
theorem dX7_fall_38 : decode cX7_fall 38 = .ok (.invokevirtual 137, 3) := by decide +kernel
theorem dX7_fall_41 : decode cX7_fall 41 = .ok (.iload_n 2, 1) := by decide +kernel
theorem dX7_fall_42 : decode cX7_fall 42 = .ok (.aload_n 0, 1) := by decide +kernel
theorem dX7_fall_43 : decode cX7_fall 43 = .ok (.iload_n 1, 1) := by decide +kernel
theorem dX7_fall_44 : decode cX7_fall 44 = .ok (.iconst 2, 1) := by decide +kernel
theorem dX7_fall_45 : decode cX7_fall 45 = .ok (.invokevirtual 123, 3) := by decide +kernel
theorem dX7_fall_48 : decode cX7_fall 48 = .ok (.imul, 1) := by decide +kernel
theorem dX7_fall_49 : decode cX7_fall 49 = .ok (.iadd, 1) := by decide +kernel
theorem dX7_fall_50 : decode cX7_fall 50 = .ok (.invokevirtual 140, 3) := by decide +kernel
theorem dX7_fall_53 : decode cX7_fall 53 = .ok (.ifCond .ne 6, 3) := by decide +kernel
theorem dX7_fall_56 : decode cX7_fall 56 = .ok (.bipush (-3), 2) := by decide +kernel
theorem dX7_fall_58 : decode cX7_fall 58 = .ok (.ireturn, 1) := by decide +kernel
theorem dX7_fall_59 : decode cX7_fall 59 = .ok (.aload_n 0, 1) := by decide +kernel
theorem dX7_fall_60 : decode cX7_fall 60 = .ok (.getfield 29, 3) := by decide +kernel
theorem dX7_fall_63 : decode cX7_fall 63 = .ok (.iload_n 1, 1) := by decide +kernel
theorem dX7_fall_64 : decode cX7_fall 64 = .ok (.iload_n 2, 1) := by decide +kernel
theorem dX7_fall_65 : decode cX7_fall 65 = .ok (.iastore, 1) := by decide +kernel
theorem dX7_fall_66 : decode cX7_fall 66 = .ok (.aload_n 0, 1) := by decide +kernel
theorem dX7_fall_67 : decode cX7_fall 67 = .ok (.getfield 32, 3) := by decide +kernel
theorem dX7_fall_70 : decode cX7_fall 70 = .ok (.iload_n 1, 1) := by decide +kernel
theorem dX7_fall_71 : decode cX7_fall 71 = .ok (.aload_n 0, 1) := by decide +kernel
theorem dX7_fall_72 : decode cX7_fall 72 = .ok (.iload_n 1, 1) := by decide +kernel
theorem dX7_fall_73 : decode cX7_fall 73 = .ok (.iconst 3, 1) := by decide +kernel
theorem dX7_fall_74 : decode cX7_fall 74 = .ok (.invokevirtual 123, 3) := by decide +kernel
theorem dX7_fall_77 : decode cX7_fall 77 = .ok (.iastore, 1) := by decide +kernel
theorem dX7_fall_78 : decode cX7_fall 78 = .ok (.aload_n 0, 1) := by decide +kernel
theorem dX7_fall_79 : decode cX7_fall 79 = .ok (.getfield 26, 3) := by decide +kernel
theorem dX7_fall_82 : decode cX7_fall 82 = .ok (.iconst 0, 1) := by decide +kernel
theorem dX7_fall_83 : decode cX7_fall 83 = .ok (.dup2, 1) := by decide +kernel
theorem dX7_fall_84 : decode cX7_fall 84 = .ok (.iaload, 1) := by decide +kernel
theorem dX7_fall_85 : decode cX7_fall 85 = .ok (.iconst 1, 1) := by decide +kernel
theorem dX7_fall_86 : decode cX7_fall 86 = .ok (.iadd, 1) := by decide +kernel
theorem dX7_fall_87 : decode cX7_fall 87 = .ok (.iastore, 1) := by decide +kernel
theorem dX7_fall_88 : decode cX7_fall 88 = .ok (.aload_n 0, 1) := by decide +kernel
theorem dX7_fall_89 : decode cX7_fall 89 = .ok (.getfield 26, 3) := by decide +kernel
theorem dX7_fall_92 : decode cX7_fall 92 = .ok (.iconst 0, 1) := by decide +kernel
theorem dX7_fall_93 : decode cX7_fall 93 = .ok (.iaload, 1) := by decide +kernel
theorem dX7_fall_94 : decode cX7_fall 94 = .ok (.ireturn, 1) := by decide +kernel
theorem dX7_doorOf_0 : decode cX7_doorOf 0 = .ok (.iconst 3, 1) := by decide +kernel
theorem dX7_doorOf_1 : decode cX7_doorOf 1 = .ok (.iload_n 0, 1) := by decide +kernel
theorem dX7_doorOf_2 : decode cX7_doorOf 2 = .ok (.imul, 1) := by decide +kernel
theorem dX7_doorOf_3 : decode cX7_doorOf 3 = .ok (.iload_n 1, 1) := by decide +kernel
theorem dX7_doorOf_4 : decode cX7_doorOf 4 = .ok (.idiv, 1) := by decide +kernel
theorem dX7_doorOf_5 : decode cX7_doorOf 5 = .ok (.ireturn, 1) := by decide +kernel
theorem dX7_layer_0 : decode cX7_layer 0 = .ok (.aload_n 0, 1) := by decide +kernel
theorem dX7_layer_1 : decode cX7_layer 1 = .ok (.iload_n 1, 1) := by decide +kernel
theorem dX7_layer_2 : decode cX7_layer 2 = .ok (.invokevirtual 144, 3) := by decide +kernel
theorem dX7_layer_5 : decode cX7_layer 5 = .ok (.ifCond .eq 15, 3) := by decide +kernel
theorem dX7_layer_8 : decode cX7_layer 8 = .ok (.iload_n 2, 1) := by decide +kernel
theorem dX7_layer_9 : decode cX7_layer 9 = .ok (.i2l, 1) := by decide +kernel
theorem dX7_layer_10 : decode cX7_layer 10 = .ok (.lconst 0, 1) := by decide +kernel
theorem dX7_layer_11 : decode cX7_layer 11 = .ok (.ldc2_w 147, 3) := by decide +kernel
theorem dX7_layer_14 : decode cX7_layer 14 = .ok (.invokestatic 77, 3) := by decide +kernel
theorem dX7_layer_17 : decode cX7_layer 17 = .ok (.ifCond .ne 7, 3) := by decide +kernel
theorem dX7_layer_20 : decode cX7_layer 20 = .ok (.iconst (-1), 1) := by decide +kernel
theorem dX7_layer_21 : decode cX7_layer 21 = .ok (.goto 40, 3) := by decide +kernel
theorem dX7_layer_24 : decode cX7_layer 24 = .ok (.iload_n 2, 1) := by decide +kernel
theorem dX7_layer_25 : decode cX7_layer 25 = .ok (.ifCond .ne 12, 3) := by decide +kernel
theorem dX7_layer_28 : decode cX7_layer 28 = .ok (.aload_n 0, 1) := by decide +kernel
theorem dX7_layer_29 : decode cX7_layer 29 = .ok (.getfield 29, 3) := by decide +kernel
theorem dX7_layer_32 : decode cX7_layer 32 = .ok (.iload_n 1, 1) := by decide +kernel
theorem dX7_layer_33 : decode cX7_layer 33 = .ok (.iaload, 1) := by decide +kernel
theorem dX7_layer_34 : decode cX7_layer 34 = .ok (.goto 27, 3) := by decide +kernel
theorem dX7_layer_37 : decode cX7_layer 37 = .ok (.iload_n 2, 1) := by decide +kernel
theorem dX7_layer_38 : decode cX7_layer 38 = .ok (.iconst 1, 1) := by decide +kernel
theorem dX7_layer_39 : decode cX7_layer 39 = .ok (.if_icmp .ne 12, 3) := by decide +kernel
theorem dX7_layer_42 : decode cX7_layer 42 = .ok (.aload_n 0, 1) := by decide +kernel
theorem dX7_layer_43 : decode cX7_layer 43 = .ok (.getfield 32, 3) := by decide +kernel
theorem dX7_layer_46 : decode cX7_layer 46 = .ok (.iload_n 1, 1) := by decide +kernel
theorem dX7_layer_47 : decode cX7_layer 47 = .ok (.iaload, 1) := by decide +kernel
theorem dX7_layer_48 : decode cX7_layer 48 = .ok (.goto 13, 3) := by decide +kernel
theorem dX7_layer_51 : decode cX7_layer 51 = .ok (.iload_n 1, 1) := by decide +kernel
theorem dX7_layer_52 : decode cX7_layer 52 = .ok (.aload_n 0, 1) := by decide +kernel
theorem dX7_layer_53 : decode cX7_layer 53 = .ok (.getfield 26, 3) := by decide +kernel
theorem dX7_layer_56 : decode cX7_layer 56 = .ok (.iconst 0, 1) := by decide +kernel
theorem dX7_layer_57 : decode cX7_layer 57 = .ok (.iaload, 1) := by decide +kernel
theorem dX7_layer_58 : decode cX7_layer 58 = .ok (.invokestatic 149, 3) := by decide +kernel
theorem dX7_layer_61 : decode cX7_layer 61 = .ok (.ireturn, 1) := by decide +kernel
theorem dX7_firstOut_0 : decode cX7_firstOut 0 = .ok (.aload_n 0, 1) := by decide +kernel
theorem dX7_firstOut_1 : decode cX7_firstOut 1 = .ok (.invokevirtual 134, 3) := by decide +kernel
theorem dX7_firstOut_4 : decode cX7_firstOut 4 = .ok (.istore_n 1, 1) := by decide +kernel
theorem dX7_firstOut_5 : decode cX7_firstOut 5 = .ok (.aload_n 0, 1) := by decide +kernel
theorem dX7_firstOut_6 : decode cX7_firstOut 6 = .ok (.invokevirtual 137, 3) := by decide +kernel
theorem dX7_firstOut_9 : decode cX7_firstOut 9 = .ok (.istore_n 2, 1) := by decide +kernel
theorem dX7_firstOut_10 : decode cX7_firstOut 10 = .ok (.aload_n 0, 1) := by decide +kernel
theorem dX7_firstOut_11 : decode cX7_firstOut 11 = .ok (.getfield 26, 3) := by decide +kernel
theorem dX7_firstOut_14 : decode cX7_firstOut 14 = .ok (.iconst 0, 1) := by decide +kernel
theorem dX7_firstOut_15 : decode cX7_firstOut 15 = .ok (.iaload, 1) := by decide +kernel
theorem dX7_firstOut_16 : decode cX7_firstOut 16 = .ok (.istore_n 3, 1) := by decide +kernel
theorem dX7_firstOut_17 : decode cX7_firstOut 17 = .ok (.iload_n 3, 1) := by decide +kernel
theorem dX7_firstOut_18 : decode cX7_firstOut 18 = .ok (.aload_n 0, 1) := by decide +kernel
theorem dX7_firstOut_19 : decode cX7_firstOut 19 = .ok (.getfield 17, 3) := by decide +kernel
theorem dX7_firstOut_22 : decode cX7_firstOut 22 = .ok (.iconst 0, 1) := by decide +kernel
theorem dX7_firstOut_23 : decode cX7_firstOut 23 = .ok (.iaload, 1) := by decide +kernel
theorem dX7_firstOut_24 : decode cX7_firstOut 24 = .ok (.if_icmp .ge 51, 3) := by decide +kernel
theorem dX7_firstOut_27 : decode cX7_firstOut 27 = .ok (.iload_n 1, 1) := by decide +kernel
theorem dX7_firstOut_28 : decode cX7_firstOut 28 = .ok (.bipush 10, 2) := by decide +kernel
theorem dX7_firstOut_30 : decode cX7_firstOut 30 = .ok (.aload_n 0, 1) := by decide +kernel
theorem dX7_firstOut_31 : decode cX7_firstOut 31 = .ok (.iload_n 3, 1) := by decide +kernel
theorem dX7_firstOut_32 : decode cX7_firstOut 32 = .ok (.iconst 1, 1) := by decide +kernel
theorem dX7_firstOut_33 : decode cX7_firstOut 33 = .ok (.invokevirtual 123, 3) := by decide +kernel
theorem dX7_firstOut_36 : decode cX7_firstOut 36 = .ok (.imul, 1) := by decide +kernel
theorem dX7_firstOut_37 : decode cX7_firstOut 37 = .ok (.iadd, 1) := by decide +kernel
theorem dX7_firstOut_38 : decode cX7_firstOut 38 = .ok (.istore_n 1, 1) := by decide +kernel
theorem dX7_firstOut_39 : decode cX7_firstOut 39 = .ok (.iload_n 2, 1) := by decide +kernel
theorem dX7_firstOut_40 : decode cX7_firstOut 40 = .ok (.bipush 10, 2) := by decide +kernel
theorem dX7_firstOut_42 : decode cX7_firstOut 42 = .ok (.aload_n 0, 1) := by decide +kernel
theorem dX7_firstOut_43 : decode cX7_firstOut 43 = .ok (.iload_n 3, 1) := by decide +kernel
theorem dX7_firstOut_44 : decode cX7_firstOut 44 = .ok (.iconst 1, 1) := by decide +kernel
theorem dX7_firstOut_45 : decode cX7_firstOut 45 = .ok (.invokevirtual 123, 3) := by decide +kernel
theorem dX7_firstOut_48 : decode cX7_firstOut 48 = .ok (.imul, 1) := by decide +kernel
theorem dX7_firstOut_49 : decode cX7_firstOut 49 = .ok (.aload_n 0, 1) := by decide +kernel
theorem dX7_firstOut_50 : decode cX7_firstOut 50 = .ok (.iload_n 3, 1) := by decide +kernel
theorem dX7_firstOut_51 : decode cX7_firstOut 51 = .ok (.iconst 2, 1) := by decide +kernel
theorem dX7_firstOut_52 : decode cX7_firstOut 52 = .ok (.invokevirtual 123, 3) := by decide +kernel
theorem dX7_firstOut_55 : decode cX7_firstOut 55 = .ok (.imul, 1) := by decide +kernel
theorem dX7_firstOut_56 : decode cX7_firstOut 56 = .ok (.iadd, 1) := by decide +kernel
theorem dX7_firstOut_57 : decode cX7_firstOut 57 = .ok (.istore_n 2, 1) := by decide +kernel
theorem dX7_firstOut_58 : decode cX7_firstOut 58 = .ok (.aload_n 0, 1) := by decide +kernel
theorem dX7_firstOut_59 : decode cX7_firstOut 59 = .ok (.iload_n 1, 1) := by decide +kernel
theorem dX7_firstOut_60 : decode cX7_firstOut 60 = .ok (.iload_n 2, 1) := by decide +kernel
theorem dX7_firstOut_61 : decode cX7_firstOut 61 = .ok (.invokevirtual 140, 3) := by decide +kernel
theorem dX7_firstOut_64 : decode cX7_firstOut 64 = .ok (.ifCond .ne 5, 3) := by decide +kernel
theorem dX7_firstOut_67 : decode cX7_firstOut 67 = .ok (.iload_n 3, 1) := by decide +kernel
theorem dX7_firstOut_68 : decode cX7_firstOut 68 = .ok (.ireturn, 1) := by decide +kernel
theorem dX7_firstOut_69 : decode cX7_firstOut 69 = .ok (.iinc 3 1, 3) := by decide +kernel
theorem dX7_firstOut_72 : decode cX7_firstOut 72 = .ok (.goto (-55), 3) := by decide +kernel
theorem dX7_firstOut_75 : decode cX7_firstOut 75 = .ok (.bipush (-4), 2) := by decide +kernel
theorem dX7_firstOut_77 : decode cX7_firstOut 77 = .ok (.ireturn, 1) := by decide +kernel
theorem dX7_thaw_0 : decode cX7_thaw 0 = .ok (.iload_n 1, 1) := by decide +kernel
theorem dX7_thaw_1 : decode cX7_thaw 1 = .ok (.i2l, 1) := by decide +kernel
theorem dX7_thaw_2 : decode cX7_thaw 2 = .ok (.lconst 0, 1) := by decide +kernel
theorem dX7_thaw_3 : decode cX7_thaw 3 = .ok (.ldc2_w 147, 3) := by decide +kernel
theorem dX7_thaw_6 : decode cX7_thaw 6 = .ok (.invokestatic 77, 3) := by decide +kernel
theorem dX7_thaw_9 : decode cX7_thaw 9 = .ok (.ifCond .ne 5, 3) := by decide +kernel
theorem dX7_thaw_12 : decode cX7_thaw 12 = .ok (.iconst (-1), 1) := by decide +kernel
theorem dX7_thaw_13 : decode cX7_thaw 13 = .ok (.ireturn, 1) := by decide +kernel
theorem dX7_thaw_14 : decode cX7_thaw 14 = .ok (.iconst 0, 1) := by decide +kernel
theorem dX7_thaw_15 : decode cX7_thaw 15 = .ok (.istore_n 2, 1) := by decide +kernel
theorem dX7_thaw_16 : decode cX7_thaw 16 = .ok (.iconst 0, 1) := by decide +kernel
theorem dX7_thaw_17 : decode cX7_thaw 17 = .ok (.istore_n 3, 1) := by decide +kernel
theorem dX7_thaw_18 : decode cX7_thaw 18 = .ok (.iload_n 3, 1) := by decide +kernel
theorem dX7_thaw_19 : decode cX7_thaw 19 = .ok (.aload_n 0, 1) := by decide +kernel
theorem dX7_thaw_20 : decode cX7_thaw 20 = .ok (.getfield 26, 3) := by decide +kernel
theorem dX7_thaw_23 : decode cX7_thaw 23 = .ok (.iconst 0, 1) := by decide +kernel
theorem dX7_thaw_24 : decode cX7_thaw 24 = .ok (.iaload, 1) := by decide +kernel
theorem dX7_thaw_25 : decode cX7_thaw 25 = .ok (.if_icmp .ge 71, 3) := by decide +kernel
theorem dX7_thaw_28 : decode cX7_thaw 28 = .ok (.iload_n 3, 1) := by decide +kernel
theorem dX7_thaw_29 : decode cX7_thaw 29 = .ok (.aload_n 0, 1) := by decide +kernel
theorem dX7_thaw_30 : decode cX7_thaw 30 = .ok (.getfield 26, 3) := by decide +kernel
theorem dX7_thaw_33 : decode cX7_thaw 33 = .ok (.iconst 0, 1) := by decide +kernel
theorem dX7_thaw_34 : decode cX7_thaw 34 = .ok (.iaload, 1) := by decide +kernel
theorem dX7_thaw_35 : decode cX7_thaw 35 = .ok (.invokestatic 149, 3) := by decide +kernel
theorem dX7_thaw_38 : decode cX7_thaw 38 = .ok (.iload_n 1, 1) := by decide +kernel
theorem dX7_thaw_39 : decode cX7_thaw 39 = .ok (.if_icmp .ne 51, 3) := by decide +kernel
theorem dX7_thaw_42 : decode cX7_thaw 42 = .ok (.aload_n 0, 1) := by decide +kernel
theorem dX7_thaw_43 : decode cX7_thaw 43 = .ok (.getfield 29, 3) := by decide +kernel
theorem dX7_thaw_46 : decode cX7_thaw 46 = .ok (.iload_n 3, 1) := by decide +kernel
theorem dX7_thaw_47 : decode cX7_thaw 47 = .ok (.iaload, 1) := by decide +kernel
theorem dX7_thaw_48 : decode cX7_thaw 48 = .ok (.aload_n 0, 1) := by decide +kernel
theorem dX7_thaw_49 : decode cX7_thaw 49 = .ok (.getfield 13, 3) := by decide +kernel
theorem dX7_thaw_52 : decode cX7_thaw 52 = .ok (.iconst 2, 1) := by decide +kernel
theorem dX7_thaw_53 : decode cX7_thaw 53 = .ok (.iaload, 1) := by decide +kernel
theorem dX7_thaw_54 : decode cX7_thaw 54 = .ok (.if_icmp .ge 12, 3) := by decide +kernel
theorem dX7_thaw_57 : decode cX7_thaw 57 = .ok (.aload_n 0, 1) := by decide +kernel
theorem dX7_thaw_58 : decode cX7_thaw 58 = .ok (.getfield 29, 3) := by decide +kernel
theorem dX7_thaw_61 : decode cX7_thaw 61 = .ok (.iload_n 3, 1) := by decide +kernel
theorem dX7_thaw_62 : decode cX7_thaw 62 = .ok (.iaload, 1) := by decide +kernel
theorem dX7_thaw_63 : decode cX7_thaw 63 = .ok (.goto 9, 3) := by decide +kernel
theorem dX7_thaw_66 : decode cX7_thaw 66 = .ok (.aload_n 0, 1) := by decide +kernel
theorem dX7_thaw_67 : decode cX7_thaw 67 = .ok (.getfield 13, 3) := by decide +kernel
theorem dX7_thaw_70 : decode cX7_thaw 70 = .ok (.iconst 2, 1) := by decide +kernel
theorem dX7_thaw_71 : decode cX7_thaw 71 = .ok (.iaload, 1) := by decide +kernel
theorem dX7_thaw_72 : decode cX7_thaw 72 = .ok (.istore 4, 2) := by decide +kernel
theorem dX7_thaw_74 : decode cX7_thaw 74 = .ok (.aload_n 0, 1) := by decide +kernel
theorem dX7_thaw_75 : decode cX7_thaw 75 = .ok (.getfield 29, 3) := by decide +kernel
theorem dX7_thaw_78 : decode cX7_thaw 78 = .ok (.iload_n 3, 1) := by decide +kernel
theorem dX7_thaw_79 : decode cX7_thaw 79 = .ok (.dup2, 1) := by decide +kernel
theorem dX7_thaw_80 : decode cX7_thaw 80 = .ok (.iaload, 1) := by decide +kernel
theorem dX7_thaw_81 : decode cX7_thaw 81 = .ok (.iload 4, 2) := by decide +kernel
theorem dX7_thaw_83 : decode cX7_thaw 83 = .ok (.isub, 1) := by decide +kernel
theorem dX7_thaw_84 : decode cX7_thaw 84 = .ok (.iastore, 1) := by decide +kernel
theorem dX7_thaw_85 : decode cX7_thaw 85 = .ok (.iload_n 2, 1) := by decide +kernel
theorem dX7_thaw_86 : decode cX7_thaw 86 = .ok (.iload 4, 2) := by decide +kernel
theorem dX7_thaw_88 : decode cX7_thaw 88 = .ok (.iadd, 1) := by decide +kernel
theorem dX7_thaw_89 : decode cX7_thaw 89 = .ok (.istore_n 2, 1) := by decide +kernel
theorem dX7_thaw_90 : decode cX7_thaw 90 = .ok (.iinc 3 1, 3) := by decide +kernel
theorem dX7_thaw_93 : decode cX7_thaw 93 = .ok (.goto (-75), 3) := by decide +kernel
theorem dX7_thaw_96 : decode cX7_thaw 96 = .ok (.iload_n 2, 1) := by decide +kernel
theorem dX7_thaw_97 : decode cX7_thaw 97 = .ok (.ireturn, 1) := by decide +kernel
theorem dX7_lostBy_0 : decode cX7_lostBy 0 = .ok (.iconst 0, 1) := by decide +kernel
theorem dX7_lostBy_1 : decode cX7_lostBy 1 = .ok (.istore_n 2, 1) := by decide +kernel
theorem dX7_lostBy_2 : decode cX7_lostBy 2 = .ok (.iconst 0, 1) := by decide +kernel
theorem dX7_lostBy_3 : decode cX7_lostBy 3 = .ok (.istore_n 3, 1) := by decide +kernel
theorem dX7_lostBy_4 : decode cX7_lostBy 4 = .ok (.iload_n 3, 1) := by decide +kernel
theorem dX7_lostBy_5 : decode cX7_lostBy 5 = .ok (.aload_n 0, 1) := by decide +kernel
theorem dX7_lostBy_6 : decode cX7_lostBy 6 = .ok (.getfield 26, 3) := by decide +kernel
theorem dX7_lostBy_9 : decode cX7_lostBy 9 = .ok (.iconst 0, 1) := by decide +kernel
theorem dX7_lostBy_10 : decode cX7_lostBy 10 = .ok (.iaload, 1) := by decide +kernel
theorem dX7_lostBy_11 : decode cX7_lostBy 11 = .ok (.if_icmp .ge 114, 3) := by decide +kernel
theorem dX7_lostBy_14 : decode cX7_lostBy 14 = .ok (.aload_n 0, 1) := by decide +kernel
theorem dX7_lostBy_15 : decode cX7_lostBy 15 = .ok (.getfield 48, 3) := by decide +kernel
theorem dX7_lostBy_18 : decode cX7_lostBy 18 = .ok (.iload_n 3, 1) := by decide +kernel
theorem dX7_lostBy_19 : decode cX7_lostBy 19 = .ok (.aload_n 0, 1) := by decide +kernel
theorem dX7_lostBy_20 : decode cX7_lostBy 20 = .ok (.getfield 29, 3) := by decide +kernel
theorem dX7_lostBy_23 : decode cX7_lostBy 23 = .ok (.iload_n 3, 1) := by decide +kernel
theorem dX7_lostBy_24 : decode cX7_lostBy 24 = .ok (.iaload, 1) := by decide +kernel
theorem dX7_lostBy_25 : decode cX7_lostBy 25 = .ok (.iastore, 1) := by decide +kernel
theorem dX7_lostBy_26 : decode cX7_lostBy 26 = .ok (.iconst 0, 1) := by decide +kernel
theorem dX7_lostBy_27 : decode cX7_lostBy 27 = .ok (.istore 4, 2) := by decide +kernel
theorem dX7_lostBy_29 : decode cX7_lostBy 29 = .ok (.iload 4, 2) := by decide +kernel
theorem dX7_lostBy_31 : decode cX7_lostBy 31 = .ok (.iload_n 1, 1) := by decide +kernel
theorem dX7_lostBy_32 : decode cX7_lostBy 32 = .ok (.if_icmp .ge 87, 3) := by decide +kernel
theorem dX7_lostBy_35 : decode cX7_lostBy 35 = .ok (.aload_n 0, 1) := by decide +kernel
theorem dX7_lostBy_36 : decode cX7_lostBy 36 = .ok (.getfield 54, 3) := by decide +kernel
theorem dX7_lostBy_39 : decode cX7_lostBy 39 = .ok (.iload 4, 2) := by decide +kernel
theorem dX7_lostBy_41 : decode cX7_lostBy 41 = .ok (.iaload, 1) := by decide +kernel
theorem dX7_lostBy_42 : decode cX7_lostBy 42 = .ok (.iload_n 3, 1) := by decide +kernel
theorem dX7_lostBy_43 : decode cX7_lostBy 43 = .ok (.aload_n 0, 1) := by decide +kernel
theorem dX7_lostBy_44 : decode cX7_lostBy 44 = .ok (.getfield 26, 3) := by decide +kernel
theorem dX7_lostBy_47 : decode cX7_lostBy 47 = .ok (.iconst 0, 1) := by decide +kernel
theorem dX7_lostBy_48 : decode cX7_lostBy 48 = .ok (.iaload, 1) := by decide +kernel
theorem dX7_lostBy_49 : decode cX7_lostBy 49 = .ok (.invokestatic 149, 3) := by decide +kernel
theorem dX7_lostBy_52 : decode cX7_lostBy 52 = .ok (.if_icmp .eq 7, 3) := by decide +kernel
theorem dX7_lostBy_55 : decode cX7_lostBy 55 = .ok (.iconst 0, 1) := by decide +kernel
theorem dX7_lostBy_56 : decode cX7_lostBy 56 = .ok (.goto 33, 3) := by decide +kernel
theorem dX7_lostBy_59 : decode cX7_lostBy 59 = .ok (.aload_n 0, 1) := by decide +kernel
theorem dX7_lostBy_60 : decode cX7_lostBy 60 = .ok (.getfield 48, 3) := by decide +kernel
theorem dX7_lostBy_63 : decode cX7_lostBy 63 = .ok (.iload_n 3, 1) := by decide +kernel
theorem dX7_lostBy_64 : decode cX7_lostBy 64 = .ok (.iaload, 1) := by decide +kernel
theorem dX7_lostBy_65 : decode cX7_lostBy 65 = .ok (.aload_n 0, 1) := by decide +kernel
theorem dX7_lostBy_66 : decode cX7_lostBy 66 = .ok (.getfield 13, 3) := by decide +kernel
theorem dX7_lostBy_69 : decode cX7_lostBy 69 = .ok (.iconst 2, 1) := by decide +kernel
theorem dX7_lostBy_70 : decode cX7_lostBy 70 = .ok (.iaload, 1) := by decide +kernel
theorem dX7_lostBy_71 : decode cX7_lostBy 71 = .ok (.if_icmp .ge 12, 3) := by decide +kernel
theorem dX7_lostBy_74 : decode cX7_lostBy 74 = .ok (.aload_n 0, 1) := by decide +kernel
theorem dX7_lostBy_75 : decode cX7_lostBy 75 = .ok (.getfield 48, 3) := by decide +kernel
theorem dX7_lostBy_78 : decode cX7_lostBy 78 = .ok (.iload_n 3, 1) := by decide +kernel
theorem dX7_lostBy_79 : decode cX7_lostBy 79 = .ok (.iaload, 1) := by decide +kernel
theorem dX7_lostBy_80 : decode cX7_lostBy 80 = .ok (.goto 9, 3) := by decide +kernel
theorem dX7_lostBy_83 : decode cX7_lostBy 83 = .ok (.aload_n 0, 1) := by decide +kernel
theorem dX7_lostBy_84 : decode cX7_lostBy 84 = .ok (.getfield 13, 3) := by decide +kernel
theorem dX7_lostBy_87 : decode cX7_lostBy 87 = .ok (.iconst 2, 1) := by decide +kernel
theorem dX7_lostBy_88 : decode cX7_lostBy 88 = .ok (.iaload, 1) := by decide +kernel
theorem dX7_lostBy_89 : decode cX7_lostBy 89 = .ok (.istore 5, 2) := by decide +kernel
theorem dX7_lostBy_91 : decode cX7_lostBy 91 = .ok (.aload_n 0, 1) := by decide +kernel
theorem dX7_lostBy_92 : decode cX7_lostBy 92 = .ok (.getfield 48, 3) := by decide +kernel
theorem dX7_lostBy_95 : decode cX7_lostBy 95 = .ok (.iload_n 3, 1) := by decide +kernel
theorem dX7_lostBy_96 : decode cX7_lostBy 96 = .ok (.dup2, 1) := by decide +kernel
theorem dX7_lostBy_97 : decode cX7_lostBy 97 = .ok (.iaload, 1) := by decide +kernel
theorem dX7_lostBy_98 : decode cX7_lostBy 98 = .ok (.iload 5, 2) := by decide +kernel
theorem dX7_lostBy_100 : decode cX7_lostBy 100 = .ok (.isub, 1) := by decide +kernel
theorem dX7_lostBy_101 : decode cX7_lostBy 101 = .ok (.iastore, 1) := by decide +kernel
theorem dX7_lostBy_102 : decode cX7_lostBy 102 = .ok (.iload_n 2, 1) := by decide +kernel
theorem dX7_lostBy_103 : decode cX7_lostBy 103 = .ok (.iload 5, 2) := by decide +kernel
theorem dX7_lostBy_105 : decode cX7_lostBy 105 = .ok (.aload_n 0, 1) := by decide +kernel
theorem dX7_lostBy_106 : decode cX7_lostBy 106 = .ok (.iload_n 3, 1) := by decide +kernel
theorem dX7_lostBy_107 : decode cX7_lostBy 107 = .ok (.invokevirtual 131, 3) := by decide +kernel
theorem dX7_lostBy_110 : decode cX7_lostBy 110 = .ok (.imul, 1) := by decide +kernel
theorem dX7_lostBy_111 : decode cX7_lostBy 111 = .ok (.iadd, 1) := by decide +kernel
theorem dX7_lostBy_112 : decode cX7_lostBy 112 = .ok (.istore_n 2, 1) := by decide +kernel
theorem dX7_lostBy_113 : decode cX7_lostBy 113 = .ok (.iinc 4 1, 3) := by decide +kernel
theorem dX7_lostBy_116 : decode cX7_lostBy 116 = .ok (.goto (-87), 3) := by decide +kernel
theorem dX7_lostBy_119 : decode cX7_lostBy 119 = .ok (.iinc 3 1, 3) := by decide +kernel
theorem dX7_lostBy_122 : decode cX7_lostBy 122 = .ok (.goto (-118), 3) := by decide +kernel
theorem dX7_lostBy_125 : decode cX7_lostBy 125 = .ok (.iload_n 2, 1) := by decide +kernel
theorem dX7_lostBy_126 : decode cX7_lostBy 126 = .ok (.ireturn, 1) := by decide +kernel
theorem dX7_doors_0 : decode cX7_doors 0 = .ok (.iload_n 1, 1) := by decide +kernel
theorem dX7_doors_1 : decode cX7_doors 1 = .ok (.i2l, 1) := by decide +kernel
theorem dX7_doors_2 : decode cX7_doors 2 = .ok (.lconst 1, 1) := by decide +kernel
theorem dX7_doors_3 : decode cX7_doors 3 = .ok (.ldc2_w 152, 3) := by decide +kernel
theorem dX7_doors_6 : decode cX7_doors 6 = .ok (.invokestatic 77, 3) := by decide +kernel
theorem dX7_doors_9 : decode cX7_doors 9 = .ok (.ifCond .eq 18, 3) := by decide +kernel
theorem dX7_doors_12 : decode cX7_doors 12 = .ok (.iload_n 2, 1) := by decide +kernel
theorem dX7_doors_13 : decode cX7_doors 13 = .ok (.i2l, 1) := by decide +kernel
theorem dX7_doors_14 : decode cX7_doors 14 = .ok (.ldc2_w 154, 3) := by decide +kernel
theorem dX7_doors_17 : decode cX7_doors 17 = .ok (.iload_n 1, 1) := by decide +kernel
theorem dX7_doors_18 : decode cX7_doors 18 = .ok (.iconst 1, 1) := by decide +kernel
theorem dX7_doors_19 : decode cX7_doors 19 = .ok (.isub, 1) := by decide +kernel
theorem dX7_doors_20 : decode cX7_doors 20 = .ok (.i2l, 1) := by decide +kernel
theorem dX7_doors_21 : decode cX7_doors 21 = .ok (.invokestatic 77, 3) := by decide +kernel
theorem dX7_doors_24 : decode cX7_doors 24 = .ok (.ifCond .ne 5, 3) := by decide +kernel
theorem dX7_doors_27 : decode cX7_doors 27 = .ok (.iconst (-1), 1) := by decide +kernel
theorem dX7_doors_28 : decode cX7_doors 28 = .ok (.ireturn, 1) := by decide +kernel
theorem dX7_doors_29 : decode cX7_doors 29 = .ok (.iconst 1, 1) := by decide +kernel
theorem dX7_doors_30 : decode cX7_doors 30 = .ok (.istore_n 3, 1) := by decide +kernel
theorem dX7_doors_31 : decode cX7_doors 31 = .ok (.iconst 0, 1) := by decide +kernel
theorem dX7_doors_32 : decode cX7_doors 32 = .ok (.istore 4, 2) := by decide +kernel
theorem dX7_doors_34 : decode cX7_doors 34 = .ok (.iload 4, 2) := by decide +kernel
theorem dX7_doors_36 : decode cX7_doors 36 = .ok (.iload_n 1, 1) := by decide +kernel
theorem dX7_doors_37 : decode cX7_doors 37 = .ok (.if_icmp .ge 13, 3) := by decide +kernel
theorem dX7_doors_40 : decode cX7_doors 40 = .ok (.iload_n 3, 1) := by decide +kernel
theorem dX7_doors_41 : decode cX7_doors 41 = .ok (.iconst 3, 1) := by decide +kernel
theorem dX7_doors_42 : decode cX7_doors 42 = .ok (.imul, 1) := by decide +kernel
theorem dX7_doors_43 : decode cX7_doors 43 = .ok (.istore_n 3, 1) := by decide +kernel
theorem dX7_doors_44 : decode cX7_doors 44 = .ok (.iinc 4 1, 3) := by decide +kernel
theorem dX7_doors_47 : decode cX7_doors 47 = .ok (.goto (-13), 3) := by decide +kernel
theorem dX7_doors_50 : decode cX7_doors 50 = .ok (.iconst (-1), 1) := by decide +kernel
theorem dX7_doors_51 : decode cX7_doors 51 = .ok (.istore 4, 2) := by decide +kernel
theorem dX7_doors_53 : decode cX7_doors 53 = .ok (.iconst 0, 1) := by decide +kernel
theorem dX7_doors_54 : decode cX7_doors 54 = .ok (.istore 5, 2) := by decide +kernel
theorem dX7_doors_56 : decode cX7_doors 56 = .ok (.iload 5, 2) := by decide +kernel
theorem dX7_doors_58 : decode cX7_doors 58 = .ok (.iload_n 3, 1) := by decide +kernel
theorem dX7_doors_59 : decode cX7_doors 59 = .ok (.if_icmp .ge 98, 3) := by decide +kernel
theorem dX7_doors_62 : decode cX7_doors 62 = .ok (.iload 5, 2) := by decide +kernel
theorem dX7_doors_64 : decode cX7_doors 64 = .ok (.istore 6, 2) := by decide +kernel
theorem dX7_doors_66 : decode cX7_doors 66 = .ok (.iload_n 1, 1) := by decide +kernel
theorem dX7_doors_67 : decode cX7_doors 67 = .ok (.iconst 1, 1) := by decide +kernel
theorem dX7_doors_68 : decode cX7_doors 68 = .ok (.isub, 1) := by decide +kernel
theorem dX7_doors_69 : decode cX7_doors 69 = .ok (.istore 7, 2) := by decide +kernel
theorem dX7_doors_71 : decode cX7_doors 71 = .ok (.iload 7, 2) := by decide +kernel
theorem dX7_doors_73 : decode cX7_doors 73 = .ok (.ifCond .lt 26, 3) := by decide +kernel
theorem dX7_doors_76 : decode cX7_doors 76 = .ok (.aload_n 0, 1) := by decide +kernel
theorem dX7_doors_77 : decode cX7_doors 77 = .ok (.getfield 54, 3) := by decide +kernel
theorem dX7_doors_80 : decode cX7_doors 80 = .ok (.iload 7, 2) := by decide +kernel
theorem dX7_doors_82 : decode cX7_doors 82 = .ok (.iload 6, 2) := by decide +kernel
theorem dX7_doors_84 : decode cX7_doors 84 = .ok (.iconst 3, 1) := by decide +kernel
theorem dX7_doors_85 : decode cX7_doors 85 = .ok (.irem, 1) := by decide +kernel
theorem dX7_doors_86 : decode cX7_doors 86 = .ok (.iastore, 1) := by decide +kernel
theorem dX7_doors_87 : decode cX7_doors 87 = .ok (.iload 6, 2) := by decide +kernel
theorem dX7_doors_89 : decode cX7_doors 89 = .ok (.iconst 3, 1) := by decide +kernel
theorem dX7_doors_90 : decode cX7_doors 90 = .ok (.idiv, 1) := by decide +kernel
theorem dX7_doors_91 : decode cX7_doors 91 = .ok (.istore 6, 2) := by decide +kernel
theorem dX7_doors_93 : decode cX7_doors 93 = .ok (.iinc 7 (-1), 3) := by decide +kernel
theorem dX7_doors_96 : decode cX7_doors 96 = .ok (.goto (-25), 3) := by decide +kernel
theorem dX7_doors_99 : decode cX7_doors 99 = .ok (.aload_n 0, 1) := by decide +kernel
theorem dX7_doors_100 : decode cX7_doors 100 = .ok (.iload_n 1, 1) := by decide +kernel
theorem dX7_doors_101 : decode cX7_doors 101 = .ok (.invokevirtual 156, 3) := by decide +kernel
theorem dX7_doors_104 : decode cX7_doors 104 = .ok (.istore 7, 2) := by decide +kernel
theorem dX7_doors_106 : decode cX7_doors 106 = .ok (.iload 4, 2) := by decide +kernel
theorem dX7_doors_108 : decode cX7_doors 108 = .ok (.ifCond .lt 10, 3) := by decide +kernel
theorem dX7_doors_111 : decode cX7_doors 111 = .ok (.iload 7, 2) := by decide +kernel
theorem dX7_doors_113 : decode cX7_doors 113 = .ok (.iload 4, 2) := by decide +kernel
theorem dX7_doors_115 : decode cX7_doors 115 = .ok (.if_icmp .ge 36, 3) := by decide +kernel
theorem dX7_doors_118 : decode cX7_doors 118 = .ok (.iload 7, 2) := by decide +kernel
theorem dX7_doors_120 : decode cX7_doors 120 = .ok (.istore 4, 2) := by decide +kernel
theorem dX7_doors_122 : decode cX7_doors 122 = .ok (.iconst 0, 1) := by decide +kernel
theorem dX7_doors_123 : decode cX7_doors 123 = .ok (.istore 8, 2) := by decide +kernel
theorem dX7_doors_125 : decode cX7_doors 125 = .ok (.iload 8, 2) := by decide +kernel
theorem dX7_doors_127 : decode cX7_doors 127 = .ok (.iload_n 1, 1) := by decide +kernel
theorem dX7_doors_128 : decode cX7_doors 128 = .ok (.if_icmp .ge 23, 3) := by decide +kernel
theorem dX7_doors_131 : decode cX7_doors 131 = .ok (.aload_n 0, 1) := by decide +kernel
theorem dX7_doors_132 : decode cX7_doors 132 = .ok (.getfield 51, 3) := by decide +kernel
theorem dX7_doors_135 : decode cX7_doors 135 = .ok (.iload 8, 2) := by decide +kernel
theorem dX7_doors_137 : decode cX7_doors 137 = .ok (.aload_n 0, 1) := by decide +kernel
theorem dX7_doors_138 : decode cX7_doors 138 = .ok (.getfield 54, 3) := by decide +kernel
theorem dX7_doors_141 : decode cX7_doors 141 = .ok (.iload 8, 2) := by decide +kernel
theorem dX7_doors_143 : decode cX7_doors 143 = .ok (.iaload, 1) := by decide +kernel
theorem dX7_doors_144 : decode cX7_doors 144 = .ok (.iastore, 1) := by decide +kernel
theorem dX7_doors_145 : decode cX7_doors 145 = .ok (.iinc 8 1, 3) := by decide +kernel
theorem dX7_doors_148 : decode cX7_doors 148 = .ok (.goto (-23), 3) := by decide +kernel
theorem dX7_doors_151 : decode cX7_doors 151 = .ok (.iinc 5 1, 3) := by decide +kernel
theorem dX7_doors_154 : decode cX7_doors 154 = .ok (.goto (-98), 3) := by decide +kernel
theorem dX7_doors_157 : decode cX7_doors 157 = .ok (.iload_n 2, 1) := by decide +kernel
theorem dX7_doors_158 : decode cX7_doors 158 = .ok (.ifCond .ge 8, 3) := by decide +kernel
theorem dX7_doors_161 : decode cX7_doors 161 = .ok (.iload 4, 2) := by decide +kernel
theorem dX7_doors_163 : decode cX7_doors 163 = .ok (.goto 9, 3) := by decide +kernel
theorem dX7_doors_166 : decode cX7_doors 166 = .ok (.aload_n 0, 1) := by decide +kernel
theorem dX7_doors_167 : decode cX7_doors 167 = .ok (.getfield 51, 3) := by decide +kernel
theorem dX7_doors_170 : decode cX7_doors 170 = .ok (.iload_n 2, 1) := by decide +kernel
theorem dX7_doors_171 : decode cX7_doors 171 = .ok (.iaload, 1) := by decide +kernel
theorem dX7_doors_172 : decode cX7_doors 172 = .ok (.ireturn, 1) := by decide +kernel
theorem dX7_sell_0 : decode cX7_sell 0 = .ok (.aload_n 0, 1) := by decide +kernel
theorem dX7_sell_1 : decode cX7_sell 1 = .ok (.iload_n 1, 1) := by decide +kernel
theorem dX7_sell_2 : decode cX7_sell 2 = .ok (.invokevirtual 144, 3) := by decide +kernel
theorem dX7_sell_5 : decode cX7_sell 5 = .ok (.ifCond .eq 15, 3) := by decide +kernel
theorem dX7_sell_8 : decode cX7_sell 8 = .ok (.iload_n 2, 1) := by decide +kernel
theorem dX7_sell_9 : decode cX7_sell 9 = .ok (.i2l, 1) := by decide +kernel
theorem dX7_sell_10 : decode cX7_sell 10 = .ok (.lconst 1, 1) := by decide +kernel
theorem dX7_sell_11 : decode cX7_sell 11 = .ok (.ldc2_w 159, 3) := by decide +kernel
theorem dX7_sell_14 : decode cX7_sell 14 = .ok (.invokestatic 77, 3) := by decide +kernel
theorem dX7_sell_17 : decode cX7_sell 17 = .ok (.ifCond .ne 5, 3) := by decide +kernel
theorem dX7_sell_20 : decode cX7_sell 20 = .ok (.iconst (-1), 1) := by decide +kernel
theorem dX7_sell_21 : decode cX7_sell 21 = .ok (.ireturn, 1) := by decide +kernel
theorem dX7_sell_22 : decode cX7_sell 22 = .ok (.aload_n 0, 1) := by decide +kernel
theorem dX7_sell_23 : decode cX7_sell 23 = .ok (.getfield 29, 3) := by decide +kernel
theorem dX7_sell_26 : decode cX7_sell 26 = .ok (.iload_n 1, 1) := by decide +kernel
theorem dX7_sell_27 : decode cX7_sell 27 = .ok (.iaload, 1) := by decide +kernel
theorem dX7_sell_28 : decode cX7_sell 28 = .ok (.iload_n 2, 1) := by decide +kernel
theorem dX7_sell_29 : decode cX7_sell 29 = .ok (.if_icmp .ge 6, 3) := by decide +kernel
theorem dX7_sell_32 : decode cX7_sell 32 = .ok (.bipush (-2), 2) := by decide +kernel
theorem dX7_sell_34 : decode cX7_sell 34 = .ok (.ireturn, 1) := by decide +kernel
theorem dX7_sell_35 : decode cX7_sell 35 = .ok (.iload_n 2, 1) := by decide +kernel
theorem dX7_sell_36 : decode cX7_sell 36 = .ok (.aload_n 0, 1) := by decide +kernel
theorem dX7_sell_37 : decode cX7_sell 37 = .ok (.iload_n 1, 1) := by decide +kernel
theorem dX7_sell_38 : decode cX7_sell 38 = .ok (.invokevirtual 131, 3) := by decide +kernel
theorem dX7_sell_41 : decode cX7_sell 41 = .ok (.imul, 1) := by decide +kernel
theorem dX7_sell_42 : decode cX7_sell 42 = .ok (.bipush 10, 2) := by decide +kernel
theorem dX7_sell_44 : decode cX7_sell 44 = .ok (.idiv, 1) := by decide +kernel
theorem dX7_sell_45 : decode cX7_sell 45 = .ok (.istore_n 3, 1) := by decide +kernel
theorem dX7_sell_46 : decode cX7_sell 46 = .ok (.aload_n 0, 1) := by decide +kernel
theorem dX7_sell_47 : decode cX7_sell 47 = .ok (.getfield 29, 3) := by decide +kernel
theorem dX7_sell_50 : decode cX7_sell 50 = .ok (.iload_n 1, 1) := by decide +kernel
theorem dX7_sell_51 : decode cX7_sell 51 = .ok (.dup2, 1) := by decide +kernel
theorem dX7_sell_52 : decode cX7_sell 52 = .ok (.iaload, 1) := by decide +kernel
theorem dX7_sell_53 : decode cX7_sell 53 = .ok (.iload_n 2, 1) := by decide +kernel
theorem dX7_sell_54 : decode cX7_sell 54 = .ok (.isub, 1) := by decide +kernel
theorem dX7_sell_55 : decode cX7_sell 55 = .ok (.iastore, 1) := by decide +kernel
theorem dX7_sell_56 : decode cX7_sell 56 = .ok (.aload_n 0, 1) := by decide +kernel
theorem dX7_sell_57 : decode cX7_sell 57 = .ok (.getfield 35, 3) := by decide +kernel
theorem dX7_sell_60 : decode cX7_sell 60 = .ok (.iconst 0, 1) := by decide +kernel
theorem dX7_sell_61 : decode cX7_sell 61 = .ok (.dup2, 1) := by decide +kernel
theorem dX7_sell_62 : decode cX7_sell 62 = .ok (.laload, 1) := by decide +kernel
theorem dX7_sell_63 : decode cX7_sell 63 = .ok (.iload_n 3, 1) := by decide +kernel
theorem dX7_sell_64 : decode cX7_sell 64 = .ok (.i2l, 1) := by decide +kernel
theorem dX7_sell_65 : decode cX7_sell 65 = .ok (.ladd, 1) := by decide +kernel
theorem dX7_sell_66 : decode cX7_sell 66 = .ok (.lastore, 1) := by decide +kernel
theorem dX7_sell_67 : decode cX7_sell 67 = .ok (.aload_n 0, 1) := by decide +kernel
theorem dX7_sell_68 : decode cX7_sell 68 = .ok (.getfield 39, 3) := by decide +kernel
theorem dX7_sell_71 : decode cX7_sell 71 = .ok (.iconst 0, 1) := by decide +kernel
theorem dX7_sell_72 : decode cX7_sell 72 = .ok (.iaload, 1) := by decide +kernel
theorem dX7_sell_73 : decode cX7_sell 73 = .ok (.bipush 8, 2) := by decide +kernel
theorem dX7_sell_75 : decode cX7_sell 75 = .ok (.if_icmp .ne 45, 3) := by decide +kernel
theorem dX7_sell_78 : decode cX7_sell 78 = .ok (.iconst 0, 1) := by decide +kernel
theorem dX7_sell_79 : decode cX7_sell 79 = .ok (.istore 4, 2) := by decide +kernel
theorem dX7_sell_81 : decode cX7_sell 81 = .ok (.iload 4, 2) := by decide +kernel
theorem dX7_sell_83 : decode cX7_sell 83 = .ok (.bipush 21, 2) := by decide +kernel
theorem dX7_sell_85 : decode cX7_sell 85 = .ok (.if_icmp .ge 25, 3) := by decide +kernel
theorem dX7_sell_88 : decode cX7_sell 88 = .ok (.aload_n 0, 1) := by decide +kernel
theorem dX7_sell_89 : decode cX7_sell 89 = .ok (.getfield 42, 3) := by decide +kernel
theorem dX7_sell_92 : decode cX7_sell 92 = .ok (.iload 4, 2) := by decide +kernel
theorem dX7_sell_94 : decode cX7_sell 94 = .ok (.aload_n 0, 1) := by decide +kernel
theorem dX7_sell_95 : decode cX7_sell 95 = .ok (.getfield 42, 3) := by decide +kernel
theorem dX7_sell_98 : decode cX7_sell 98 = .ok (.iload 4, 2) := by decide +kernel
theorem dX7_sell_100 : decode cX7_sell 100 = .ok (.iconst 3, 1) := by decide +kernel
theorem dX7_sell_101 : decode cX7_sell 101 = .ok (.iadd, 1) := by decide +kernel
theorem dX7_sell_102 : decode cX7_sell 102 = .ok (.iaload, 1) := by decide +kernel
theorem dX7_sell_103 : decode cX7_sell 103 = .ok (.iastore, 1) := by decide +kernel
theorem dX7_sell_104 : decode cX7_sell 104 = .ok (.iinc 4 1, 3) := by decide +kernel
theorem dX7_sell_107 : decode cX7_sell 107 = .ok (.goto (-26), 3) := by decide +kernel
theorem dX7_sell_110 : decode cX7_sell 110 = .ok (.aload_n 0, 1) := by decide +kernel
theorem dX7_sell_111 : decode cX7_sell 111 = .ok (.getfield 39, 3) := by decide +kernel
theorem dX7_sell_114 : decode cX7_sell 114 = .ok (.iconst 0, 1) := by decide +kernel
theorem dX7_sell_115 : decode cX7_sell 115 = .ok (.dup2, 1) := by decide +kernel
theorem dX7_sell_116 : decode cX7_sell 116 = .ok (.iaload, 1) := by decide +kernel
theorem dX7_sell_117 : decode cX7_sell 117 = .ok (.iconst 1, 1) := by decide +kernel
theorem dX7_sell_118 : decode cX7_sell 118 = .ok (.isub, 1) := by decide +kernel
theorem dX7_sell_119 : decode cX7_sell 119 = .ok (.iastore, 1) := by decide +kernel
theorem dX7_sell_120 : decode cX7_sell 120 = .ok (.aload_n 0, 1) := by decide +kernel
theorem dX7_sell_121 : decode cX7_sell 121 = .ok (.getfield 42, 3) := by decide +kernel
theorem dX7_sell_124 : decode cX7_sell 124 = .ok (.iconst 3, 1) := by decide +kernel
theorem dX7_sell_125 : decode cX7_sell 125 = .ok (.aload_n 0, 1) := by decide +kernel
theorem dX7_sell_126 : decode cX7_sell 126 = .ok (.getfield 39, 3) := by decide +kernel
theorem dX7_sell_129 : decode cX7_sell 129 = .ok (.iconst 0, 1) := by decide +kernel
theorem dX7_sell_130 : decode cX7_sell 130 = .ok (.iaload, 1) := by decide +kernel
theorem dX7_sell_131 : decode cX7_sell 131 = .ok (.imul, 1) := by decide +kernel
theorem dX7_sell_132 : decode cX7_sell 132 = .ok (.iload_n 1, 1) := by decide +kernel
theorem dX7_sell_133 : decode cX7_sell 133 = .ok (.iastore, 1) := by decide +kernel
theorem dX7_sell_134 : decode cX7_sell 134 = .ok (.aload_n 0, 1) := by decide +kernel
theorem dX7_sell_135 : decode cX7_sell 135 = .ok (.getfield 42, 3) := by decide +kernel
theorem dX7_sell_138 : decode cX7_sell 138 = .ok (.iconst 3, 1) := by decide +kernel
theorem dX7_sell_139 : decode cX7_sell 139 = .ok (.aload_n 0, 1) := by decide +kernel
theorem dX7_sell_140 : decode cX7_sell 140 = .ok (.getfield 39, 3) := by decide +kernel
theorem dX7_sell_143 : decode cX7_sell 143 = .ok (.iconst 0, 1) := by decide +kernel
theorem dX7_sell_144 : decode cX7_sell 144 = .ok (.iaload, 1) := by decide +kernel
theorem dX7_sell_145 : decode cX7_sell 145 = .ok (.imul, 1) := by decide +kernel
theorem dX7_sell_146 : decode cX7_sell 146 = .ok (.iconst 1, 1) := by decide +kernel
theorem dX7_sell_147 : decode cX7_sell 147 = .ok (.iadd, 1) := by decide +kernel
theorem dX7_sell_148 : decode cX7_sell 148 = .ok (.iload_n 2, 1) := by decide +kernel
theorem dX7_sell_149 : decode cX7_sell 149 = .ok (.iastore, 1) := by decide +kernel
theorem dX7_sell_150 : decode cX7_sell 150 = .ok (.aload_n 0, 1) := by decide +kernel
theorem dX7_sell_151 : decode cX7_sell 151 = .ok (.getfield 42, 3) := by decide +kernel
theorem dX7_sell_154 : decode cX7_sell 154 = .ok (.iconst 3, 1) := by decide +kernel
theorem dX7_sell_155 : decode cX7_sell 155 = .ok (.aload_n 0, 1) := by decide +kernel
theorem dX7_sell_156 : decode cX7_sell 156 = .ok (.getfield 39, 3) := by decide +kernel
theorem dX7_sell_159 : decode cX7_sell 159 = .ok (.iconst 0, 1) := by decide +kernel
theorem dX7_sell_160 : decode cX7_sell 160 = .ok (.iaload, 1) := by decide +kernel
theorem dX7_sell_161 : decode cX7_sell 161 = .ok (.imul, 1) := by decide +kernel
theorem dX7_sell_162 : decode cX7_sell 162 = .ok (.iconst 2, 1) := by decide +kernel
theorem dX7_sell_163 : decode cX7_sell 163 = .ok (.iadd, 1) := by decide +kernel
theorem dX7_sell_164 : decode cX7_sell 164 = .ok (.iload_n 3, 1) := by decide +kernel
theorem dX7_sell_165 : decode cX7_sell 165 = .ok (.iastore, 1) := by decide +kernel
theorem dX7_sell_166 : decode cX7_sell 166 = .ok (.aload_n 0, 1) := by decide +kernel
theorem dX7_sell_167 : decode cX7_sell 167 = .ok (.getfield 39, 3) := by decide +kernel
theorem dX7_sell_170 : decode cX7_sell 170 = .ok (.iconst 0, 1) := by decide +kernel
theorem dX7_sell_171 : decode cX7_sell 171 = .ok (.dup2, 1) := by decide +kernel
theorem dX7_sell_172 : decode cX7_sell 172 = .ok (.iaload, 1) := by decide +kernel
theorem dX7_sell_173 : decode cX7_sell 173 = .ok (.iconst 1, 1) := by decide +kernel
theorem dX7_sell_174 : decode cX7_sell 174 = .ok (.iadd, 1) := by decide +kernel
theorem dX7_sell_175 : decode cX7_sell 175 = .ok (.iastore, 1) := by decide +kernel
theorem dX7_sell_176 : decode cX7_sell 176 = .ok (.iload_n 3, 1) := by decide +kernel
theorem dX7_sell_177 : decode cX7_sell 177 = .ok (.ireturn, 1) := by decide +kernel
theorem dX7_undo_0 : decode cX7_undo 0 = .ok (.aload_n 0, 1) := by decide +kernel
theorem dX7_undo_1 : decode cX7_undo 1 = .ok (.getfield 39, 3) := by decide +kernel
theorem dX7_undo_4 : decode cX7_undo 4 = .ok (.iconst 0, 1) := by decide +kernel
theorem dX7_undo_5 : decode cX7_undo 5 = .ok (.iaload, 1) := by decide +kernel
theorem dX7_undo_6 : decode cX7_undo 6 = .ok (.ifCond .ne 6, 3) := by decide +kernel
theorem dX7_undo_9 : decode cX7_undo 9 = .ok (.bipush (-2), 2) := by decide +kernel
theorem dX7_undo_11 : decode cX7_undo 11 = .ok (.ireturn, 1) := by decide +kernel
theorem dX7_undo_12 : decode cX7_undo 12 = .ok (.aload_n 0, 1) := by decide +kernel
theorem dX7_undo_13 : decode cX7_undo 13 = .ok (.getfield 39, 3) := by decide +kernel
theorem dX7_undo_16 : decode cX7_undo 16 = .ok (.iconst 0, 1) := by decide +kernel
theorem dX7_undo_17 : decode cX7_undo 17 = .ok (.dup2, 1) := by decide +kernel
theorem dX7_undo_18 : decode cX7_undo 18 = .ok (.iaload, 1) := by decide +kernel
theorem dX7_undo_19 : decode cX7_undo 19 = .ok (.iconst 1, 1) := by decide +kernel
theorem dX7_undo_20 : decode cX7_undo 20 = .ok (.isub, 1) := by decide +kernel
theorem dX7_undo_21 : decode cX7_undo 21 = .ok (.iastore, 1) := by decide +kernel
theorem dX7_undo_22 : decode cX7_undo 22 = .ok (.iconst 3, 1) := by decide +kernel
theorem dX7_undo_23 : decode cX7_undo 23 = .ok (.aload_n 0, 1) := by decide +kernel
theorem dX7_undo_24 : decode cX7_undo 24 = .ok (.getfield 39, 3) := by decide +kernel
theorem dX7_undo_27 : decode cX7_undo 27 = .ok (.iconst 0, 1) := by decide +kernel
theorem dX7_undo_28 : decode cX7_undo 28 = .ok (.iaload, 1) := by decide +kernel
theorem dX7_undo_29 : decode cX7_undo 29 = .ok (.imul, 1) := by decide +kernel
theorem dX7_undo_30 : decode cX7_undo 30 = .ok (.istore_n 1, 1) := by decide +kernel
theorem dX7_undo_31 : decode cX7_undo 31 = .ok (.aload_n 0, 1) := by decide +kernel
theorem dX7_undo_32 : decode cX7_undo 32 = .ok (.getfield 29, 3) := by decide +kernel
theorem dX7_undo_35 : decode cX7_undo 35 = .ok (.aload_n 0, 1) := by decide +kernel
theorem dX7_undo_36 : decode cX7_undo 36 = .ok (.getfield 42, 3) := by decide +kernel
theorem dX7_undo_39 : decode cX7_undo 39 = .ok (.iload_n 1, 1) := by decide +kernel
theorem dX7_undo_40 : decode cX7_undo 40 = .ok (.iaload, 1) := by decide +kernel
theorem dX7_undo_41 : decode cX7_undo 41 = .ok (.dup2, 1) := by decide +kernel
theorem dX7_undo_42 : decode cX7_undo 42 = .ok (.iaload, 1) := by decide +kernel
theorem dX7_undo_43 : decode cX7_undo 43 = .ok (.aload_n 0, 1) := by decide +kernel
theorem dX7_undo_44 : decode cX7_undo 44 = .ok (.getfield 42, 3) := by decide +kernel
theorem dX7_undo_47 : decode cX7_undo 47 = .ok (.iload_n 1, 1) := by decide +kernel
theorem dX7_undo_48 : decode cX7_undo 48 = .ok (.iconst 1, 1) := by decide +kernel
theorem dX7_undo_49 : decode cX7_undo 49 = .ok (.iadd, 1) := by decide +kernel
theorem dX7_undo_50 : decode cX7_undo 50 = .ok (.iaload, 1) := by decide +kernel
theorem dX7_undo_51 : decode cX7_undo 51 = .ok (.iadd, 1) := by decide +kernel
theorem dX7_undo_52 : decode cX7_undo 52 = .ok (.iastore, 1) := by decide +kernel
theorem dX7_undo_53 : decode cX7_undo 53 = .ok (.aload_n 0, 1) := by decide +kernel
theorem dX7_undo_54 : decode cX7_undo 54 = .ok (.getfield 35, 3) := by decide +kernel
theorem dX7_undo_57 : decode cX7_undo 57 = .ok (.iconst 0, 1) := by decide +kernel
theorem dX7_undo_58 : decode cX7_undo 58 = .ok (.dup2, 1) := by decide +kernel
theorem dX7_undo_59 : decode cX7_undo 59 = .ok (.laload, 1) := by decide +kernel
theorem dX7_undo_60 : decode cX7_undo 60 = .ok (.aload_n 0, 1) := by decide +kernel
theorem dX7_undo_61 : decode cX7_undo 61 = .ok (.getfield 42, 3) := by decide +kernel
theorem dX7_undo_64 : decode cX7_undo 64 = .ok (.iload_n 1, 1) := by decide +kernel
theorem dX7_undo_65 : decode cX7_undo 65 = .ok (.iconst 2, 1) := by decide +kernel
theorem dX7_undo_66 : decode cX7_undo 66 = .ok (.iadd, 1) := by decide +kernel
theorem dX7_undo_67 : decode cX7_undo 67 = .ok (.iaload, 1) := by decide +kernel
theorem dX7_undo_68 : decode cX7_undo 68 = .ok (.i2l, 1) := by decide +kernel
theorem dX7_undo_69 : decode cX7_undo 69 = .ok (.lsub, 1) := by decide +kernel
theorem dX7_undo_70 : decode cX7_undo 70 = .ok (.lastore, 1) := by decide +kernel
theorem dX7_undo_71 : decode cX7_undo 71 = .ok (.aload_n 0, 1) := by decide +kernel
theorem dX7_undo_72 : decode cX7_undo 72 = .ok (.getfield 42, 3) := by decide +kernel
theorem dX7_undo_75 : decode cX7_undo 75 = .ok (.iload_n 1, 1) := by decide +kernel
theorem dX7_undo_76 : decode cX7_undo 76 = .ok (.iconst 1, 1) := by decide +kernel
theorem dX7_undo_77 : decode cX7_undo 77 = .ok (.iadd, 1) := by decide +kernel
theorem dX7_undo_78 : decode cX7_undo 78 = .ok (.iaload, 1) := by decide +kernel
theorem dX7_undo_79 : decode cX7_undo 79 = .ok (.ireturn, 1) := by decide +kernel
theorem dX7_swap_0 : decode cX7_swap 0 = .ok (.aload_n 0, 1) := by decide +kernel
theorem dX7_swap_1 : decode cX7_swap 1 = .ok (.iload_n 1, 1) := by decide +kernel
theorem dX7_swap_2 : decode cX7_swap 2 = .ok (.invokevirtual 144, 3) := by decide +kernel
theorem dX7_swap_5 : decode cX7_swap 5 = .ok (.ifCond .eq 15, 3) := by decide +kernel
theorem dX7_swap_8 : decode cX7_swap 8 = .ok (.iload_n 2, 1) := by decide +kernel
theorem dX7_swap_9 : decode cX7_swap 9 = .ok (.i2l, 1) := by decide +kernel
theorem dX7_swap_10 : decode cX7_swap 10 = .ok (.lconst 0, 1) := by decide +kernel
theorem dX7_swap_11 : decode cX7_swap 11 = .ok (.ldc2_w 161, 3) := by decide +kernel
theorem dX7_swap_14 : decode cX7_swap 14 = .ok (.invokestatic 77, 3) := by decide +kernel
theorem dX7_swap_17 : decode cX7_swap 17 = .ok (.ifCond .ne 5, 3) := by decide +kernel
theorem dX7_swap_20 : decode cX7_swap 20 = .ok (.iconst (-1), 1) := by decide +kernel
theorem dX7_swap_21 : decode cX7_swap 21 = .ok (.ireturn, 1) := by decide +kernel
theorem dX7_swap_22 : decode cX7_swap 22 = .ok (.aload_n 0, 1) := by decide +kernel
theorem dX7_swap_23 : decode cX7_swap 23 = .ok (.getfield 32, 3) := by decide +kernel
theorem dX7_swap_26 : decode cX7_swap 26 = .ok (.iload_n 1, 1) := by decide +kernel
theorem dX7_swap_27 : decode cX7_swap 27 = .ok (.iaload, 1) := by decide +kernel
theorem dX7_swap_28 : decode cX7_swap 28 = .ok (.istore_n 3, 1) := by decide +kernel
theorem dX7_swap_29 : decode cX7_swap 29 = .ok (.aload_n 0, 1) := by decide +kernel
theorem dX7_swap_30 : decode cX7_swap 30 = .ok (.getfield 32, 3) := by decide +kernel
theorem dX7_swap_33 : decode cX7_swap 33 = .ok (.iload_n 1, 1) := by decide +kernel
theorem dX7_swap_34 : decode cX7_swap 34 = .ok (.iload_n 2, 1) := by decide +kernel
theorem dX7_swap_35 : decode cX7_swap 35 = .ok (.iastore, 1) := by decide +kernel
theorem dX7_swap_36 : decode cX7_swap 36 = .ok (.iload_n 3, 1) := by decide +kernel
theorem dX7_swap_37 : decode cX7_swap 37 = .ok (.ireturn, 1) := by decide +kernel
theorem dX7_years_0 : decode cX7_years 0 = .ok (.iconst 0, 1) := by decide +kernel
theorem dX7_years_1 : decode cX7_years 1 = .ok (.istore_n 2, 1) := by decide +kernel
theorem dX7_years_2 : decode cX7_years 2 = .ok (.iconst (-1), 1) := by decide +kernel
theorem dX7_years_3 : decode cX7_years 3 = .ok (.istore_n 3, 1) := by decide +kernel
theorem dX7_years_4 : decode cX7_years 4 = .ok (.iconst 0, 1) := by decide +kernel
theorem dX7_years_5 : decode cX7_years 5 = .ok (.istore 4, 2) := by decide +kernel
theorem dX7_years_7 : decode cX7_years 7 = .ok (.iload 4, 2) := by decide +kernel
theorem dX7_years_9 : decode cX7_years 9 = .ok (.aload_n 0, 1) := by decide +kernel
theorem dX7_years_10 : decode cX7_years 10 = .ok (.getfield 26, 3) := by decide +kernel
theorem dX7_years_13 : decode cX7_years 13 = .ok (.iconst 0, 1) := by decide +kernel
theorem dX7_years_14 : decode cX7_years 14 = .ok (.iaload, 1) := by decide +kernel
theorem dX7_years_15 : decode cX7_years 15 = .ok (.if_icmp .ge 55, 3) := by decide +kernel
theorem dX7_years_18 : decode cX7_years 18 = .ok (.iload_n 1, 1) := by decide +kernel
theorem dX7_years_19 : decode cX7_years 19 = .ok (.iload 4, 2) := by decide +kernel
theorem dX7_years_21 : decode cX7_years 21 = .ok (.ishr, 1) := by decide +kernel
theorem dX7_years_22 : decode cX7_years 22 = .ok (.iconst 1, 1) := by decide +kernel
theorem dX7_years_23 : decode cX7_years 23 = .ok (.iand, 1) := by decide +kernel
theorem dX7_years_24 : decode cX7_years 24 = .ok (.ifCond .ne 40, 3) := by decide +kernel
theorem dX7_years_27 : decode cX7_years 27 = .ok (.aload_n 0, 1) := by decide +kernel
theorem dX7_years_28 : decode cX7_years 28 = .ok (.getfield 29, 3) := by decide +kernel
theorem dX7_years_31 : decode cX7_years 31 = .ok (.iload 4, 2) := by decide +kernel
theorem dX7_years_33 : decode cX7_years 33 = .ok (.iaload, 1) := by decide +kernel
theorem dX7_years_34 : decode cX7_years 34 = .ok (.ifCond .le 30, 3) := by decide +kernel
theorem dX7_years_37 : decode cX7_years 37 = .ok (.iload_n 2, 1) := by decide +kernel
theorem dX7_years_38 : decode cX7_years 38 = .ok (.aload_n 0, 1) := by decide +kernel
theorem dX7_years_39 : decode cX7_years 39 = .ok (.iload 4, 2) := by decide +kernel
theorem dX7_years_41 : decode cX7_years 41 = .ok (.iconst 0, 1) := by decide +kernel
theorem dX7_years_42 : decode cX7_years 42 = .ok (.invokevirtual 123, 3) := by decide +kernel
theorem dX7_years_45 : decode cX7_years 45 = .ok (.iload_n 3, 1) := by decide +kernel
theorem dX7_years_46 : decode cX7_years 46 = .ok (.if_icmp .ne 7, 3) := by decide +kernel
theorem dX7_years_49 : decode cX7_years 49 = .ok (.iconst 0, 1) := by decide +kernel
theorem dX7_years_50 : decode cX7_years 50 = .ok (.goto 4, 3) := by decide +kernel
theorem dX7_years_53 : decode cX7_years 53 = .ok (.iconst 1, 1) := by decide +kernel
theorem dX7_years_54 : decode cX7_years 54 = .ok (.iadd, 1) := by decide +kernel
theorem dX7_years_55 : decode cX7_years 55 = .ok (.istore_n 2, 1) := by decide +kernel
theorem dX7_years_56 : decode cX7_years 56 = .ok (.aload_n 0, 1) := by decide +kernel
theorem dX7_years_57 : decode cX7_years 57 = .ok (.iload 4, 2) := by decide +kernel
theorem dX7_years_59 : decode cX7_years 59 = .ok (.iconst 0, 1) := by decide +kernel
theorem dX7_years_60 : decode cX7_years 60 = .ok (.invokevirtual 123, 3) := by decide +kernel
theorem dX7_years_63 : decode cX7_years 63 = .ok (.istore_n 3, 1) := by decide +kernel
theorem dX7_years_64 : decode cX7_years 64 = .ok (.iinc 4 1, 3) := by decide +kernel
theorem dX7_years_67 : decode cX7_years 67 = .ok (.goto (-60), 3) := by decide +kernel
theorem dX7_years_70 : decode cX7_years 70 = .ok (.iload_n 2, 1) := by decide +kernel
theorem dX7_years_71 : decode cX7_years 71 = .ok (.ireturn, 1) := by decide +kernel
theorem dX7_letGo_0 : decode cX7_letGo 0 = .ok (.iload_n 1, 1) := by decide +kernel
theorem dX7_letGo_1 : decode cX7_letGo 1 = .ok (.i2l, 1) := by decide +kernel
theorem dX7_letGo_2 : decode cX7_letGo 2 = .ok (.lconst 1, 1) := by decide +kernel
theorem dX7_letGo_3 : decode cX7_letGo 3 = .ok (.ldc2_w 163, 3) := by decide +kernel
theorem dX7_letGo_6 : decode cX7_letGo 6 = .ok (.invokestatic 77, 3) := by decide +kernel
theorem dX7_letGo_9 : decode cX7_letGo 9 = .ok (.ifCond .eq 27, 3) := by decide +kernel
theorem dX7_letGo_12 : decode cX7_letGo 12 = .ok (.iload_n 2, 1) := by decide +kernel
theorem dX7_letGo_13 : decode cX7_letGo 13 = .ok (.i2l, 1) := by decide +kernel
theorem dX7_letGo_14 : decode cX7_letGo 14 = .ok (.lconst 1, 1) := by decide +kernel
theorem dX7_letGo_15 : decode cX7_letGo 15 = .ok (.ldc2_w 127, 3) := by decide +kernel
theorem dX7_letGo_18 : decode cX7_letGo 18 = .ok (.invokestatic 77, 3) := by decide +kernel
theorem dX7_letGo_21 : decode cX7_letGo 21 = .ok (.ifCond .eq 15, 3) := by decide +kernel
theorem dX7_letGo_24 : decode cX7_letGo 24 = .ok (.iload_n 3, 1) := by decide +kernel
theorem dX7_letGo_25 : decode cX7_letGo 25 = .ok (.i2l, 1) := by decide +kernel
theorem dX7_letGo_26 : decode cX7_letGo 26 = .ok (.lconst 0, 1) := by decide +kernel
theorem dX7_letGo_27 : decode cX7_letGo 27 = .ok (.ldc2_w 147, 3) := by decide +kernel
theorem dX7_letGo_30 : decode cX7_letGo 30 = .ok (.invokestatic 77, 3) := by decide +kernel
theorem dX7_letGo_33 : decode cX7_letGo 33 = .ok (.ifCond .ne 5, 3) := by decide +kernel
theorem dX7_letGo_36 : decode cX7_letGo 36 = .ok (.iconst (-1), 1) := by decide +kernel
theorem dX7_letGo_37 : decode cX7_letGo 37 = .ok (.ireturn, 1) := by decide +kernel
theorem dX7_letGo_38 : decode cX7_letGo 38 = .ok (.iconst (-1), 1) := by decide +kernel
theorem dX7_letGo_39 : decode cX7_letGo 39 = .ok (.istore 4, 2) := by decide +kernel
theorem dX7_letGo_41 : decode cX7_letGo 41 = .ok (.iconst (-1), 1) := by decide +kernel
theorem dX7_letGo_42 : decode cX7_letGo 42 = .ok (.istore 5, 2) := by decide +kernel
theorem dX7_letGo_44 : decode cX7_letGo 44 = .ok (.iconst (-1), 1) := by decide +kernel
theorem dX7_letGo_45 : decode cX7_letGo 45 = .ok (.istore 6, 2) := by decide +kernel
theorem dX7_letGo_47 : decode cX7_letGo 47 = .ok (.iconst 0, 1) := by decide +kernel
theorem dX7_letGo_48 : decode cX7_letGo 48 = .ok (.istore 7, 2) := by decide +kernel
theorem dX7_letGo_50 : decode cX7_letGo 50 = .ok (.iload 7, 2) := by decide +kernel
theorem dX7_letGo_52 : decode cX7_letGo 52 = .ok (.iconst 1, 1) := by decide +kernel
theorem dX7_letGo_53 : decode cX7_letGo 53 = .ok (.aload_n 0, 1) := by decide +kernel
theorem dX7_letGo_54 : decode cX7_letGo 54 = .ok (.getfield 26, 3) := by decide +kernel
theorem dX7_letGo_57 : decode cX7_letGo 57 = .ok (.iconst 0, 1) := by decide +kernel
theorem dX7_letGo_58 : decode cX7_letGo 58 = .ok (.iaload, 1) := by decide +kernel
theorem dX7_letGo_59 : decode cX7_letGo 59 = .ok (.ishl, 1) := by decide +kernel
theorem dX7_letGo_60 : decode cX7_letGo 60 = .ok (.if_icmp .ge 140, 3) := by decide +kernel
theorem dX7_letGo_63 : decode cX7_letGo 63 = .ok (.iconst 0, 1) := by decide +kernel
theorem dX7_letGo_64 : decode cX7_letGo 64 = .ok (.istore 8, 2) := by decide +kernel
theorem dX7_letGo_66 : decode cX7_letGo 66 = .ok (.iconst 0, 1) := by decide +kernel
theorem dX7_letGo_67 : decode cX7_letGo 67 = .ok (.istore 9, 2) := by decide +kernel
theorem dX7_letGo_69 : decode cX7_letGo 69 = .ok (.iconst 0, 1) := by decide +kernel
theorem dX7_letGo_70 : decode cX7_letGo 70 = .ok (.istore 10, 2) := by decide +kernel
theorem dX7_letGo_72 : decode cX7_letGo 72 = .ok (.iload 10, 2) := by decide +kernel
theorem dX7_letGo_74 : decode cX7_letGo 74 = .ok (.aload_n 0, 1) := by decide +kernel
theorem dX7_letGo_75 : decode cX7_letGo 75 = .ok (.getfield 26, 3) := by decide +kernel
theorem dX7_letGo_78 : decode cX7_letGo 78 = .ok (.iconst 0, 1) := by decide +kernel
theorem dX7_letGo_79 : decode cX7_letGo 79 = .ok (.iaload, 1) := by decide +kernel
theorem dX7_letGo_80 : decode cX7_letGo 80 = .ok (.if_icmp .ge 55, 3) := by decide +kernel
theorem dX7_letGo_83 : decode cX7_letGo 83 = .ok (.iload 7, 2) := by decide +kernel
theorem dX7_letGo_85 : decode cX7_letGo 85 = .ok (.iload 10, 2) := by decide +kernel
theorem dX7_letGo_87 : decode cX7_letGo 87 = .ok (.ishr, 1) := by decide +kernel
theorem dX7_letGo_88 : decode cX7_letGo 88 = .ok (.iconst 1, 1) := by decide +kernel
theorem dX7_letGo_89 : decode cX7_letGo 89 = .ok (.iand, 1) := by decide +kernel
theorem dX7_letGo_90 : decode cX7_letGo 90 = .ok (.iconst 1, 1) := by decide +kernel
theorem dX7_letGo_91 : decode cX7_letGo 91 = .ok (.if_icmp .ne 7, 3) := by decide +kernel
theorem dX7_letGo_94 : decode cX7_letGo 94 = .ok (.iconst 0, 1) := by decide +kernel
theorem dX7_letGo_95 : decode cX7_letGo 95 = .ok (.goto 10, 3) := by decide +kernel
theorem dX7_letGo_98 : decode cX7_letGo 98 = .ok (.aload_n 0, 1) := by decide +kernel
theorem dX7_letGo_99 : decode cX7_letGo 99 = .ok (.getfield 29, 3) := by decide +kernel
theorem dX7_letGo_102 : decode cX7_letGo 102 = .ok (.iload 10, 2) := by decide +kernel
theorem dX7_letGo_104 : decode cX7_letGo 104 = .ok (.iaload, 1) := by decide +kernel
theorem dX7_letGo_105 : decode cX7_letGo 105 = .ok (.istore 11, 2) := by decide +kernel
theorem dX7_letGo_107 : decode cX7_letGo 107 = .ok (.iload 8, 2) := by decide +kernel
theorem dX7_letGo_109 : decode cX7_letGo 109 = .ok (.iload 11, 2) := by decide +kernel
theorem dX7_letGo_111 : decode cX7_letGo 111 = .ok (.iadd, 1) := by decide +kernel
theorem dX7_letGo_112 : decode cX7_letGo 112 = .ok (.istore 8, 2) := by decide +kernel
theorem dX7_letGo_114 : decode cX7_letGo 114 = .ok (.iload 9, 2) := by decide +kernel
theorem dX7_letGo_116 : decode cX7_letGo 116 = .ok (.iload 11, 2) := by decide +kernel
theorem dX7_letGo_118 : decode cX7_letGo 118 = .ok (.aload_n 0, 1) := by decide +kernel
theorem dX7_letGo_119 : decode cX7_letGo 119 = .ok (.iload 10, 2) := by decide +kernel
theorem dX7_letGo_121 : decode cX7_letGo 121 = .ok (.iconst 2, 1) := by decide +kernel
theorem dX7_letGo_122 : decode cX7_letGo 122 = .ok (.invokevirtual 123, 3) := by decide +kernel
theorem dX7_letGo_125 : decode cX7_letGo 125 = .ok (.imul, 1) := by decide +kernel
theorem dX7_letGo_126 : decode cX7_letGo 126 = .ok (.iadd, 1) := by decide +kernel
theorem dX7_letGo_127 : decode cX7_letGo 127 = .ok (.istore 9, 2) := by decide +kernel
theorem dX7_letGo_129 : decode cX7_letGo 129 = .ok (.iinc 10 1, 3) := by decide +kernel
theorem dX7_letGo_132 : decode cX7_letGo 132 = .ok (.goto (-60), 3) := by decide +kernel
theorem dX7_letGo_135 : decode cX7_letGo 135 = .ok (.iload 8, 2) := by decide +kernel
theorem dX7_letGo_137 : decode cX7_letGo 137 = .ok (.bipush 10, 2) := by decide +kernel
theorem dX7_letGo_139 : decode cX7_letGo 139 = .ok (.iload_n 2, 1) := by decide +kernel
theorem dX7_letGo_140 : decode cX7_letGo 140 = .ok (.imul, 1) := by decide +kernel
theorem dX7_letGo_141 : decode cX7_letGo 141 = .ok (.if_icmp .gt 53, 3) := by decide +kernel
theorem dX7_letGo_144 : decode cX7_letGo 144 = .ok (.iload 9, 2) := by decide +kernel
theorem dX7_letGo_146 : decode cX7_letGo 146 = .ok (.bipush 10, 2) := by decide +kernel
theorem dX7_letGo_148 : decode cX7_letGo 148 = .ok (.iload_n 1, 1) := by decide +kernel
theorem dX7_letGo_149 : decode cX7_letGo 149 = .ok (.imul, 1) := by decide +kernel
theorem dX7_letGo_150 : decode cX7_letGo 150 = .ok (.if_icmp .gt 44, 3) := by decide +kernel
theorem dX7_letGo_153 : decode cX7_letGo 153 = .ok (.aload_n 0, 1) := by decide +kernel
theorem dX7_letGo_154 : decode cX7_letGo 154 = .ok (.iload 7, 2) := by decide +kernel
theorem dX7_letGo_156 : decode cX7_letGo 156 = .ok (.invokevirtual 165, 3) := by decide +kernel
theorem dX7_letGo_159 : decode cX7_letGo 159 = .ok (.istore 10, 2) := by decide +kernel
theorem dX7_letGo_161 : decode cX7_letGo 161 = .ok (.iload 10, 2) := by decide +kernel
theorem dX7_letGo_163 : decode cX7_letGo 163 = .ok (.iload 5, 2) := by decide +kernel
theorem dX7_letGo_165 : decode cX7_letGo 165 = .ok (.if_icmp .gt 17, 3) := by decide +kernel
theorem dX7_letGo_168 : decode cX7_letGo 168 = .ok (.iload 10, 2) := by decide +kernel
theorem dX7_letGo_170 : decode cX7_letGo 170 = .ok (.iload 5, 2) := by decide +kernel
theorem dX7_letGo_172 : decode cX7_letGo 172 = .ok (.if_icmp .ne 22, 3) := by decide +kernel
theorem dX7_letGo_175 : decode cX7_letGo 175 = .ok (.iload 8, 2) := by decide +kernel
theorem dX7_letGo_177 : decode cX7_letGo 177 = .ok (.iload 6, 2) := by decide +kernel
theorem dX7_letGo_179 : decode cX7_letGo 179 = .ok (.if_icmp .le 15, 3) := by decide +kernel
theorem dX7_letGo_182 : decode cX7_letGo 182 = .ok (.iload 7, 2) := by decide +kernel
theorem dX7_letGo_184 : decode cX7_letGo 184 = .ok (.istore 4, 2) := by decide +kernel
theorem dX7_letGo_186 : decode cX7_letGo 186 = .ok (.iload 10, 2) := by decide +kernel
theorem dX7_letGo_188 : decode cX7_letGo 188 = .ok (.istore 5, 2) := by decide +kernel
theorem dX7_letGo_190 : decode cX7_letGo 190 = .ok (.iload 8, 2) := by decide +kernel
theorem dX7_letGo_192 : decode cX7_letGo 192 = .ok (.istore 6, 2) := by decide +kernel
theorem dX7_letGo_194 : decode cX7_letGo 194 = .ok (.iinc 7 1, 3) := by decide +kernel
theorem dX7_letGo_197 : decode cX7_letGo 197 = .ok (.goto (-147), 3) := by decide +kernel
theorem dX7_letGo_200 : decode cX7_letGo 200 = .ok (.iload_n 3, 1) := by decide +kernel
theorem dX7_letGo_201 : decode cX7_letGo 201 = .ok (.ifCond .ne 8, 3) := by decide +kernel
theorem dX7_letGo_204 : decode cX7_letGo 204 = .ok (.iload 4, 2) := by decide +kernel
theorem dX7_letGo_206 : decode cX7_letGo 206 = .ok (.goto 15, 3) := by decide +kernel
theorem dX7_letGo_209 : decode cX7_letGo 209 = .ok (.iload_n 3, 1) := by decide +kernel
theorem dX7_letGo_210 : decode cX7_letGo 210 = .ok (.iconst 1, 1) := by decide +kernel
theorem dX7_letGo_211 : decode cX7_letGo 211 = .ok (.if_icmp .ne 8, 3) := by decide +kernel
theorem dX7_letGo_214 : decode cX7_letGo 214 = .ok (.iload 5, 2) := by decide +kernel
theorem dX7_letGo_216 : decode cX7_letGo 216 = .ok (.goto 5, 3) := by decide +kernel
theorem dX7_letGo_219 : decode cX7_letGo 219 = .ok (.iload 6, 2) := by decide +kernel
theorem dX7_letGo_221 : decode cX7_letGo 221 = .ok (.ireturn, 1) := by decide +kernel
theorem dX7_weight_0 : decode cX7_weight 0 = .ok (.aload_n 0, 1) := by decide +kernel
theorem dX7_weight_1 : decode cX7_weight 1 = .ok (.getfield 29, 3) := by decide +kernel
theorem dX7_weight_4 : decode cX7_weight 4 = .ok (.iload_n 1, 1) := by decide +kernel
theorem dX7_weight_5 : decode cX7_weight 5 = .ok (.iaload, 1) := by decide +kernel
theorem dX7_weight_6 : decode cX7_weight 6 = .ok (.i2l, 1) := by decide +kernel
theorem dX7_weight_7 : decode cX7_weight 7 = .ok (.iload_n 2, 1) := by decide +kernel
theorem dX7_weight_8 : decode cX7_weight 8 = .ok (.aload_n 0, 1) := by decide +kernel
theorem dX7_weight_9 : decode cX7_weight 9 = .ok (.iload_n 1, 1) := by decide +kernel
theorem dX7_weight_10 : decode cX7_weight 10 = .ok (.iconst 3, 1) := by decide +kernel
theorem dX7_weight_11 : decode cX7_weight 11 = .ok (.invokevirtual 123, 3) := by decide +kernel
theorem dX7_weight_14 : decode cX7_weight 14 = .ok (.if_icmp .ne 15, 3) := by decide +kernel
theorem dX7_weight_17 : decode cX7_weight 17 = .ok (.bipush 10, 2) := by decide +kernel
theorem dX7_weight_19 : decode cX7_weight 19 = .ok (.aload_n 0, 1) := by decide +kernel
theorem dX7_weight_20 : decode cX7_weight 20 = .ok (.getfield 13, 3) := by decide +kernel
theorem dX7_weight_23 : decode cX7_weight 23 = .ok (.iconst 3, 1) := by decide +kernel
theorem dX7_weight_24 : decode cX7_weight 24 = .ok (.iaload, 1) := by decide +kernel
theorem dX7_weight_25 : decode cX7_weight 25 = .ok (.isub, 1) := by decide +kernel
theorem dX7_weight_26 : decode cX7_weight 26 = .ok (.goto 9, 3) := by decide +kernel
theorem dX7_weight_29 : decode cX7_weight 29 = .ok (.aload_n 0, 1) := by decide +kernel
theorem dX7_weight_30 : decode cX7_weight 30 = .ok (.getfield 13, 3) := by decide +kernel
theorem dX7_weight_33 : decode cX7_weight 33 = .ok (.iconst 3, 1) := by decide +kernel
theorem dX7_weight_34 : decode cX7_weight 34 = .ok (.iaload, 1) := by decide +kernel
theorem dX7_weight_35 : decode cX7_weight 35 = .ok (.i2l, 1) := by decide +kernel
theorem dX7_weight_36 : decode cX7_weight 36 = .ok (.lmul, 1) := by decide +kernel
theorem dX7_weight_37 : decode cX7_weight 37 = .ok (.iload_n 3, 1) := by decide +kernel
theorem dX7_weight_38 : decode cX7_weight 38 = .ok (.aload_n 0, 1) := by decide +kernel
theorem dX7_weight_39 : decode cX7_weight 39 = .ok (.iload_n 1, 1) := by decide +kernel
theorem dX7_weight_40 : decode cX7_weight 40 = .ok (.iconst 2, 1) := by decide +kernel
theorem dX7_weight_41 : decode cX7_weight 41 = .ok (.invokevirtual 123, 3) := by decide +kernel
theorem dX7_weight_44 : decode cX7_weight 44 = .ok (.if_icmp .ne 8, 3) := by decide +kernel
theorem dX7_weight_47 : decode cX7_weight 47 = .ok (.bipush 9, 2) := by decide +kernel
theorem dX7_weight_49 : decode cX7_weight 49 = .ok (.goto 4, 3) := by decide +kernel
theorem dX7_weight_52 : decode cX7_weight 52 = .ok (.iconst 1, 1) := by decide +kernel
theorem dX7_weight_53 : decode cX7_weight 53 = .ok (.i2l, 1) := by decide +kernel
theorem dX7_weight_54 : decode cX7_weight 54 = .ok (.lmul, 1) := by decide +kernel
theorem dX7_weight_55 : decode cX7_weight 55 = .ok (.lreturn, 1) := by decide +kernel
theorem dX7_weights_0 : decode cX7_weights 0 = .ok (.lconst 0, 1) := by decide +kernel
theorem dX7_weights_1 : decode cX7_weights 1 = .ok (.lstore 4, 2) := by decide +kernel
theorem dX7_weights_3 : decode cX7_weights 3 = .ok (.iconst 0, 1) := by decide +kernel
theorem dX7_weights_4 : decode cX7_weights 4 = .ok (.istore 6, 2) := by decide +kernel
theorem dX7_weights_6 : decode cX7_weights 6 = .ok (.iload 6, 2) := by decide +kernel
theorem dX7_weights_8 : decode cX7_weights 8 = .ok (.aload_n 0, 1) := by decide +kernel
theorem dX7_weights_9 : decode cX7_weights 9 = .ok (.getfield 26, 3) := by decide +kernel
theorem dX7_weights_12 : decode cX7_weights 12 = .ok (.iconst 0, 1) := by decide +kernel
theorem dX7_weights_13 : decode cX7_weights 13 = .ok (.iaload, 1) := by decide +kernel
theorem dX7_weights_14 : decode cX7_weights 14 = .ok (.if_icmp .ge 41, 3) := by decide +kernel
theorem dX7_weights_17 : decode cX7_weights 17 = .ok (.lload 4, 2) := by decide +kernel
theorem dX7_weights_19 : decode cX7_weights 19 = .ok (.iload_n 3, 1) := by decide +kernel
theorem dX7_weights_20 : decode cX7_weights 20 = .ok (.ifCond .lt 14, 3) := by decide +kernel
theorem dX7_weights_23 : decode cX7_weights 23 = .ok (.aload_n 0, 1) := by decide +kernel
theorem dX7_weights_24 : decode cX7_weights 24 = .ok (.iload 6, 2) := by decide +kernel
theorem dX7_weights_26 : decode cX7_weights 26 = .ok (.iconst 0, 1) := by decide +kernel
theorem dX7_weights_27 : decode cX7_weights 27 = .ok (.invokevirtual 123, 3) := by decide +kernel
theorem dX7_weights_30 : decode cX7_weights 30 = .ok (.iload_n 3, 1) := by decide +kernel
theorem dX7_weights_31 : decode cX7_weights 31 = .ok (.if_icmp .ne 14, 3) := by decide +kernel
theorem dX7_weights_34 : decode cX7_weights 34 = .ok (.aload_n 0, 1) := by decide +kernel
theorem dX7_weights_35 : decode cX7_weights 35 = .ok (.iload 6, 2) := by decide +kernel
theorem dX7_weights_37 : decode cX7_weights 37 = .ok (.iload_n 1, 1) := by decide +kernel
theorem dX7_weights_38 : decode cX7_weights 38 = .ok (.iload_n 2, 1) := by decide +kernel
theorem dX7_weights_39 : decode cX7_weights 39 = .ok (.invokevirtual 168, 3) := by decide +kernel
theorem dX7_weights_42 : decode cX7_weights 42 = .ok (.goto 4, 3) := by decide +kernel
theorem dX7_weights_45 : decode cX7_weights 45 = .ok (.lconst 0, 1) := by decide +kernel
theorem dX7_weights_46 : decode cX7_weights 46 = .ok (.ladd, 1) := by decide +kernel
theorem dX7_weights_47 : decode cX7_weights 47 = .ok (.lstore 4, 2) := by decide +kernel
theorem dX7_weights_49 : decode cX7_weights 49 = .ok (.iinc 6 1, 3) := by decide +kernel
theorem dX7_weights_52 : decode cX7_weights 52 = .ok (.goto (-46), 3) := by decide +kernel
theorem dX7_weights_55 : decode cX7_weights 55 = .ok (.lload 4, 2) := by decide +kernel
theorem dX7_weights_57 : decode cX7_weights 57 = .ok (.lreturn, 1) := by decide +kernel
theorem dX7_isPiece_0 : decode cX7_isPiece 0 = .ok (.iload_n 0, 1) := by decide +kernel
theorem dX7_isPiece_1 : decode cX7_isPiece 1 = .ok (.i2l, 1) := by decide +kernel
theorem dX7_isPiece_2 : decode cX7_isPiece 2 = .ok (.lconst 0, 1) := by decide +kernel
theorem dX7_isPiece_3 : decode cX7_isPiece 3 = .ok (.ldc2_w 161, 3) := by decide +kernel
theorem dX7_isPiece_6 : decode cX7_isPiece 6 = .ok (.invokestatic 77, 3) := by decide +kernel
theorem dX7_isPiece_9 : decode cX7_isPiece 9 = .ok (.ifCond .eq 19, 3) := by decide +kernel
theorem dX7_isPiece_12 : decode cX7_isPiece 12 = .ok (.iload_n 1, 1) := by decide +kernel
theorem dX7_isPiece_13 : decode cX7_isPiece 13 = .ok (.i2l, 1) := by decide +kernel
theorem dX7_isPiece_14 : decode cX7_isPiece 14 = .ok (.lconst 1, 1) := by decide +kernel
theorem dX7_isPiece_15 : decode cX7_isPiece 15 = .ok (.ldc2_w 161, 3) := by decide +kernel
theorem dX7_isPiece_18 : decode cX7_isPiece 18 = .ok (.invokestatic 77, 3) := by decide +kernel
theorem dX7_isPiece_21 : decode cX7_isPiece 21 = .ok (.ifCond .eq 7, 3) := by decide +kernel
theorem dX7_isPiece_24 : decode cX7_isPiece 24 = .ok (.iconst 1, 1) := by decide +kernel
theorem dX7_isPiece_25 : decode cX7_isPiece 25 = .ok (.goto 4, 3) := by decide +kernel
theorem dX7_isPiece_28 : decode cX7_isPiece 28 = .ok (.iconst 0, 1) := by decide +kernel
theorem dX7_isPiece_29 : decode cX7_isPiece 29 = .ok (.ireturn, 1) := by decide +kernel
theorem dX7_lowest_0 : decode cX7_lowest 0 = .ok (.lload_n 1, 1) := by decide +kernel
theorem dX7_lowest_1 : decode cX7_lowest 1 = .ok (.lstore 5, 2) := by decide +kernel
theorem dX7_lowest_3 : decode cX7_lowest 3 = .ok (.lload_n 3, 1) := by decide +kernel
theorem dX7_lowest_4 : decode cX7_lowest 4 = .ok (.lstore 7, 2) := by decide +kernel
theorem dX7_lowest_6 : decode cX7_lowest 6 = .ok (.lload 7, 2) := by decide +kernel
theorem dX7_lowest_8 : decode cX7_lowest 8 = .ok (.lconst 0, 1) := by decide +kernel
theorem dX7_lowest_9 : decode cX7_lowest 9 = .ok (.lcmp, 1) := by decide +kernel
theorem dX7_lowest_10 : decode cX7_lowest 10 = .ok (.ifCond .eq 21, 3) := by decide +kernel
theorem dX7_lowest_13 : decode cX7_lowest 13 = .ok (.lload 5, 2) := by decide +kernel
theorem dX7_lowest_15 : decode cX7_lowest 15 = .ok (.lload 7, 2) := by decide +kernel
theorem dX7_lowest_17 : decode cX7_lowest 17 = .ok (.lrem, 1) := by decide +kernel
theorem dX7_lowest_18 : decode cX7_lowest 18 = .ok (.lstore 9, 2) := by decide +kernel
theorem dX7_lowest_20 : decode cX7_lowest 20 = .ok (.lload 7, 2) := by decide +kernel
theorem dX7_lowest_22 : decode cX7_lowest 22 = .ok (.lstore 5, 2) := by decide +kernel
theorem dX7_lowest_24 : decode cX7_lowest 24 = .ok (.lload 9, 2) := by decide +kernel
theorem dX7_lowest_26 : decode cX7_lowest 26 = .ok (.lstore 7, 2) := by decide +kernel
theorem dX7_lowest_28 : decode cX7_lowest 28 = .ok (.goto (-22), 3) := by decide +kernel
theorem dX7_lowest_31 : decode cX7_lowest 31 = .ok (.aload_n 0, 1) := by decide +kernel
theorem dX7_lowest_32 : decode cX7_lowest 32 = .ok (.lload_n 1, 1) := by decide +kernel
theorem dX7_lowest_33 : decode cX7_lowest 33 = .ok (.lload 5, 2) := by decide +kernel
theorem dX7_lowest_35 : decode cX7_lowest 35 = .ok (.ldiv, 1) := by decide +kernel
theorem dX7_lowest_36 : decode cX7_lowest 36 = .ok (.putfield 172, 3) := by decide +kernel
theorem dX7_lowest_39 : decode cX7_lowest 39 = .ok (.aload_n 0, 1) := by decide +kernel
theorem dX7_lowest_40 : decode cX7_lowest 40 = .ok (.lload_n 3, 1) := by decide +kernel
theorem dX7_lowest_41 : decode cX7_lowest 41 = .ok (.lload 5, 2) := by decide +kernel
theorem dX7_lowest_43 : decode cX7_lowest 43 = .ok (.ldiv, 1) := by decide +kernel
theorem dX7_lowest_44 : decode cX7_lowest 44 = .ok (.putfield 176, 3) := by decide +kernel
theorem dX7_lowest_47 : decode cX7_lowest 47 = .ok (.return_, 1) := by decide +kernel
theorem dX7_odds_0 : decode cX7_odds 0 = .ok (.iload_n 1, 1) := by decide +kernel
theorem dX7_odds_1 : decode cX7_odds 1 = .ok (.iload_n 2, 1) := by decide +kernel
theorem dX7_odds_2 : decode cX7_odds 2 = .ok (.invokestatic 179, 3) := by decide +kernel
theorem dX7_odds_5 : decode cX7_odds 5 = .ok (.ifCond .eq 21, 3) := by decide +kernel
theorem dX7_odds_8 : decode cX7_odds 8 = .ok (.iload_n 3, 1) := by decide +kernel
theorem dX7_odds_9 : decode cX7_odds 9 = .ok (.invokestatic 182, 3) := by decide +kernel
theorem dX7_odds_12 : decode cX7_odds 12 = .ok (.ifCond .eq 14, 3) := by decide +kernel
theorem dX7_odds_15 : decode cX7_odds 15 = .ok (.iload 4, 2) := by decide +kernel
theorem dX7_odds_17 : decode cX7_odds 17 = .ok (.i2l, 1) := by decide +kernel
theorem dX7_odds_18 : decode cX7_odds 18 = .ok (.lconst 0, 1) := by decide +kernel
theorem dX7_odds_19 : decode cX7_odds 19 = .ok (.lconst 1, 1) := by decide +kernel
theorem dX7_odds_20 : decode cX7_odds 20 = .ok (.invokestatic 77, 3) := by decide +kernel
theorem dX7_odds_23 : decode cX7_odds 23 = .ok (.ifCond .ne 5, 3) := by decide +kernel
theorem dX7_odds_26 : decode cX7_odds 26 = .ok (.iconst (-1), 1) := by decide +kernel
theorem dX7_odds_27 : decode cX7_odds 27 = .ok (.ireturn, 1) := by decide +kernel
theorem dX7_odds_28 : decode cX7_odds 28 = .ok (.aload_n 0, 1) := by decide +kernel
theorem dX7_odds_29 : decode cX7_odds 29 = .ok (.iload_n 1, 1) := by decide +kernel
theorem dX7_odds_30 : decode cX7_odds 30 = .ok (.iload_n 2, 1) := by decide +kernel
theorem dX7_odds_31 : decode cX7_odds 31 = .ok (.iconst (-1), 1) := by decide +kernel
theorem dX7_odds_32 : decode cX7_odds 32 = .ok (.invokevirtual 185, 3) := by decide +kernel
theorem dX7_odds_35 : decode cX7_odds 35 = .ok (.lstore 5, 2) := by decide +kernel
theorem dX7_odds_37 : decode cX7_odds 37 = .ok (.lload 5, 2) := by decide +kernel
theorem dX7_odds_39 : decode cX7_odds 39 = .ok (.lconst 0, 1) := by decide +kernel
theorem dX7_odds_40 : decode cX7_odds 40 = .ok (.lcmp, 1) := by decide +kernel
theorem dX7_odds_41 : decode cX7_odds 41 = .ok (.ifCond .ne 6, 3) := by decide +kernel
theorem dX7_odds_44 : decode cX7_odds 44 = .ok (.bipush (-4), 2) := by decide +kernel
theorem dX7_odds_46 : decode cX7_odds 46 = .ok (.ireturn, 1) := by decide +kernel
theorem dX7_odds_47 : decode cX7_odds 47 = .ok (.aload_n 0, 1) := by decide +kernel
theorem dX7_odds_48 : decode cX7_odds 48 = .ok (.aload_n 0, 1) := by decide +kernel
theorem dX7_odds_49 : decode cX7_odds 49 = .ok (.iload_n 1, 1) := by decide +kernel
theorem dX7_odds_50 : decode cX7_odds 50 = .ok (.iload_n 2, 1) := by decide +kernel
theorem dX7_odds_51 : decode cX7_odds 51 = .ok (.iload_n 3, 1) := by decide +kernel
theorem dX7_odds_52 : decode cX7_odds 52 = .ok (.invokevirtual 185, 3) := by decide +kernel
theorem dX7_odds_55 : decode cX7_odds 55 = .ok (.lload 5, 2) := by decide +kernel
theorem dX7_odds_57 : decode cX7_odds 57 = .ok (.invokevirtual 188, 3) := by decide +kernel
theorem dX7_odds_60 : decode cX7_odds 60 = .ok (.iload 4, 2) := by decide +kernel
theorem dX7_odds_62 : decode cX7_odds 62 = .ok (.ifCond .ne 10, 3) := by decide +kernel
theorem dX7_odds_65 : decode cX7_odds 65 = .ok (.aload_n 0, 1) := by decide +kernel
theorem dX7_odds_66 : decode cX7_odds 66 = .ok (.getfield 172, 3) := by decide +kernel
theorem dX7_odds_69 : decode cX7_odds 69 = .ok (.goto 7, 3) := by decide +kernel
theorem dX7_odds_72 : decode cX7_odds 72 = .ok (.aload_n 0, 1) := by decide +kernel
theorem dX7_odds_73 : decode cX7_odds 73 = .ok (.getfield 176, 3) := by decide +kernel
theorem dX7_odds_76 : decode cX7_odds 76 = .ok (.l2i, 1) := by decide +kernel
theorem dX7_odds_77 : decode cX7_odds 77 = .ok (.ireturn, 1) := by decide +kernel
theorem dX7_likeliest_0 : decode cX7_likeliest 0 = .ok (.iload_n 1, 1) := by decide +kernel
theorem dX7_likeliest_1 : decode cX7_likeliest 1 = .ok (.iload_n 2, 1) := by decide +kernel
theorem dX7_likeliest_2 : decode cX7_likeliest 2 = .ok (.invokestatic 179, 3) := by decide +kernel
theorem dX7_likeliest_5 : decode cX7_likeliest 5 = .ok (.ifCond .ne 5, 3) := by decide +kernel
theorem dX7_likeliest_8 : decode cX7_likeliest 8 = .ok (.iconst (-1), 1) := by decide +kernel
theorem dX7_likeliest_9 : decode cX7_likeliest 9 = .ok (.ireturn, 1) := by decide +kernel
theorem dX7_likeliest_10 : decode cX7_likeliest 10 = .ok (.bipush (-4), 2) := by decide +kernel
theorem dX7_likeliest_12 : decode cX7_likeliest 12 = .ok (.istore_n 3, 1) := by decide +kernel
theorem dX7_likeliest_13 : decode cX7_likeliest 13 = .ok (.lconst 0, 1) := by decide +kernel
theorem dX7_likeliest_14 : decode cX7_likeliest 14 = .ok (.lstore 4, 2) := by decide +kernel
theorem dX7_likeliest_16 : decode cX7_likeliest 16 = .ok (.iconst 0, 1) := by decide +kernel
theorem dX7_likeliest_17 : decode cX7_likeliest 17 = .ok (.istore 6, 2) := by decide +kernel
theorem dX7_likeliest_19 : decode cX7_likeliest 19 = .ok (.iload 6, 2) := by decide +kernel
theorem dX7_likeliest_21 : decode cX7_likeliest 21 = .ok (.bipush 100, 2) := by decide +kernel
theorem dX7_likeliest_23 : decode cX7_likeliest 23 = .ok (.if_icmp .ge 51, 3) := by decide +kernel
theorem dX7_likeliest_26 : decode cX7_likeliest 26 = .ok (.aload_n 0, 1) := by decide +kernel
theorem dX7_likeliest_27 : decode cX7_likeliest 27 = .ok (.iload_n 1, 1) := by decide +kernel
theorem dX7_likeliest_28 : decode cX7_likeliest 28 = .ok (.iload_n 2, 1) := by decide +kernel
theorem dX7_likeliest_29 : decode cX7_likeliest 29 = .ok (.iload 6, 2) := by decide +kernel
theorem dX7_likeliest_31 : decode cX7_likeliest 31 = .ok (.invokevirtual 185, 3) := by decide +kernel
theorem dX7_likeliest_34 : decode cX7_likeliest 34 = .ok (.lstore 7, 2) := by decide +kernel
theorem dX7_likeliest_36 : decode cX7_likeliest 36 = .ok (.lload 7, 2) := by decide +kernel
theorem dX7_likeliest_38 : decode cX7_likeliest 38 = .ok (.lload 4, 2) := by decide +kernel
theorem dX7_likeliest_40 : decode cX7_likeliest 40 = .ok (.lcmp, 1) := by decide +kernel
theorem dX7_likeliest_41 : decode cX7_likeliest 41 = .ok (.ifCond .le 8, 3) := by decide +kernel
theorem dX7_likeliest_44 : decode cX7_likeliest 44 = .ok (.iload 6, 2) := by decide +kernel
theorem dX7_likeliest_46 : decode cX7_likeliest 46 = .ok (.goto 4, 3) := by decide +kernel
theorem dX7_likeliest_49 : decode cX7_likeliest 49 = .ok (.iload_n 3, 1) := by decide +kernel
theorem dX7_likeliest_50 : decode cX7_likeliest 50 = .ok (.istore_n 3, 1) := by decide +kernel
theorem dX7_likeliest_51 : decode cX7_likeliest 51 = .ok (.lload 7, 2) := by decide +kernel
theorem dX7_likeliest_53 : decode cX7_likeliest 53 = .ok (.lload 4, 2) := by decide +kernel
theorem dX7_likeliest_55 : decode cX7_likeliest 55 = .ok (.lcmp, 1) := by decide +kernel
theorem dX7_likeliest_56 : decode cX7_likeliest 56 = .ok (.ifCond .le 8, 3) := by decide +kernel
theorem dX7_likeliest_59 : decode cX7_likeliest 59 = .ok (.lload 7, 2) := by decide +kernel
theorem dX7_likeliest_61 : decode cX7_likeliest 61 = .ok (.goto 5, 3) := by decide +kernel
theorem dX7_likeliest_64 : decode cX7_likeliest 64 = .ok (.lload 4, 2) := by decide +kernel
theorem dX7_likeliest_66 : decode cX7_likeliest 66 = .ok (.lstore 4, 2) := by decide +kernel
theorem dX7_likeliest_68 : decode cX7_likeliest 68 = .ok (.iinc 6 1, 3) := by decide +kernel
theorem dX7_likeliest_71 : decode cX7_likeliest 71 = .ok (.goto (-52), 3) := by decide +kernel
theorem dX7_likeliest_74 : decode cX7_likeliest 74 = .ok (.iload_n 3, 1) := by decide +kernel
theorem dX7_likeliest_75 : decode cX7_likeliest 75 = .ok (.ireturn, 1) := by decide +kernel
theorem dX7_mark_0 : decode cX7_mark 0 = .ok (.iload_n 1, 1) := by decide +kernel
theorem dX7_mark_1 : decode cX7_mark 1 = .ok (.i2l, 1) := by decide +kernel
theorem dX7_mark_2 : decode cX7_mark 2 = .ok (.lconst 0, 1) := by decide +kernel
theorem dX7_mark_3 : decode cX7_mark 3 = .ok (.ldc2_w 161, 3) := by decide +kernel
theorem dX7_mark_6 : decode cX7_mark 6 = .ok (.invokestatic 77, 3) := by decide +kernel
theorem dX7_mark_9 : decode cX7_mark 9 = .ok (.ifCond .ne 5, 3) := by decide +kernel
theorem dX7_mark_12 : decode cX7_mark 12 = .ok (.iconst (-1), 1) := by decide +kernel
theorem dX7_mark_13 : decode cX7_mark 13 = .ok (.ireturn, 1) := by decide +kernel
theorem dX7_mark_14 : decode cX7_mark 14 = .ok (.aload_n 0, 1) := by decide +kernel
theorem dX7_mark_15 : decode cX7_mark 15 = .ok (.getfield 110, 3) := by decide +kernel
theorem dX7_mark_18 : decode cX7_mark 18 = .ok (.bipush 14, 2) := by decide +kernel
theorem dX7_mark_20 : decode cX7_mark 20 = .ok (.if_icmp .ne 6, 3) := by decide +kernel
theorem dX7_mark_23 : decode cX7_mark 23 = .ok (.bipush (-3), 2) := by decide +kernel
theorem dX7_mark_25 : decode cX7_mark 25 = .ok (.ireturn, 1) := by decide +kernel
theorem dX7_mark_26 : decode cX7_mark 26 = .ok (.aload_n 0, 1) := by decide +kernel
theorem dX7_mark_27 : decode cX7_mark 27 = .ok (.getfield 45, 3) := by decide +kernel
theorem dX7_mark_30 : decode cX7_mark 30 = .ok (.aload_n 0, 1) := by decide +kernel
theorem dX7_mark_31 : decode cX7_mark 31 = .ok (.getfield 110, 3) := by decide +kernel
theorem dX7_mark_34 : decode cX7_mark 34 = .ok (.iload_n 1, 1) := by decide +kernel
theorem dX7_mark_35 : decode cX7_mark 35 = .ok (.iastore, 1) := by decide +kernel
theorem dX7_mark_36 : decode cX7_mark 36 = .ok (.aload_n 0, 1) := by decide +kernel
theorem dX7_mark_37 : decode cX7_mark 37 = .ok (.dup, 1) := by decide +kernel
theorem dX7_mark_38 : decode cX7_mark 38 = .ok (.getfield 110, 3) := by decide +kernel
theorem dX7_mark_41 : decode cX7_mark 41 = .ok (.iconst 1, 1) := by decide +kernel
theorem dX7_mark_42 : decode cX7_mark 42 = .ok (.iadd, 1) := by decide +kernel
theorem dX7_mark_43 : decode cX7_mark 43 = .ok (.putfield 110, 3) := by decide +kernel
theorem dX7_mark_46 : decode cX7_mark 46 = .ok (.aload_n 0, 1) := by decide +kernel
theorem dX7_mark_47 : decode cX7_mark 47 = .ok (.getfield 110, 3) := by decide +kernel
theorem dX7_mark_50 : decode cX7_mark 50 = .ok (.ireturn, 1) := by decide +kernel
theorem dX7_noMarks_0 : decode cX7_noMarks 0 = .ok (.aload_n 0, 1) := by decide +kernel
theorem dX7_noMarks_1 : decode cX7_noMarks 1 = .ok (.getfield 110, 3) := by decide +kernel
theorem dX7_noMarks_4 : decode cX7_noMarks 4 = .ok (.istore_n 1, 1) := by decide +kernel
theorem dX7_noMarks_5 : decode cX7_noMarks 5 = .ok (.aload_n 0, 1) := by decide +kernel
theorem dX7_noMarks_6 : decode cX7_noMarks 6 = .ok (.iconst 0, 1) := by decide +kernel
theorem dX7_noMarks_7 : decode cX7_noMarks 7 = .ok (.putfield 110, 3) := by decide +kernel
theorem dX7_noMarks_10 : decode cX7_noMarks 10 = .ok (.iload_n 1, 1) := by decide +kernel
theorem dX7_noMarks_11 : decode cX7_noMarks 11 = .ok (.ireturn, 1) := by decide +kernel
theorem dX7_shows_0 : decode cX7_shows 0 = .ok (.iconst 0, 1) := by decide +kernel
theorem dX7_shows_1 : decode cX7_shows 1 = .ok (.istore_n 1, 1) := by decide +kernel
theorem dX7_shows_2 : decode cX7_shows 2 = .ok (.iconst 0, 1) := by decide +kernel
theorem dX7_shows_3 : decode cX7_shows 3 = .ok (.istore_n 2, 1) := by decide +kernel
theorem dX7_shows_4 : decode cX7_shows 4 = .ok (.iload_n 2, 1) := by decide +kernel
theorem dX7_shows_5 : decode cX7_shows 5 = .ok (.aload_n 0, 1) := by decide +kernel
theorem dX7_shows_6 : decode cX7_shows 6 = .ok (.getfield 26, 3) := by decide +kernel
theorem dX7_shows_9 : decode cX7_shows 9 = .ok (.iconst 0, 1) := by decide +kernel
theorem dX7_shows_10 : decode cX7_shows 10 = .ok (.iaload, 1) := by decide +kernel
theorem dX7_shows_11 : decode cX7_shows 11 = .ok (.if_icmp .ge 40, 3) := by decide +kernel
theorem dX7_shows_14 : decode cX7_shows 14 = .ok (.aload_n 0, 1) := by decide +kernel
theorem dX7_shows_15 : decode cX7_shows 15 = .ok (.getfield 29, 3) := by decide +kernel
theorem dX7_shows_18 : decode cX7_shows 18 = .ok (.iload_n 2, 1) := by decide +kernel
theorem dX7_shows_19 : decode cX7_shows 19 = .ok (.iaload, 1) := by decide +kernel
theorem dX7_shows_20 : decode cX7_shows 20 = .ok (.ifCond .le 25, 3) := by decide +kernel
theorem dX7_shows_23 : decode cX7_shows 23 = .ok (.aload_n 0, 1) := by decide +kernel
theorem dX7_shows_24 : decode cX7_shows 24 = .ok (.getfield 57, 3) := by decide +kernel
theorem dX7_shows_27 : decode cX7_shows 27 = .ok (.iload_n 1, 1) := by decide +kernel
theorem dX7_shows_28 : decode cX7_shows 28 = .ok (.aload_n 0, 1) := by decide +kernel
theorem dX7_shows_29 : decode cX7_shows 29 = .ok (.getfield 32, 3) := by decide +kernel
theorem dX7_shows_32 : decode cX7_shows 32 = .ok (.iload_n 2, 1) := by decide +kernel
theorem dX7_shows_33 : decode cX7_shows 33 = .ok (.iaload, 1) := by decide +kernel
theorem dX7_shows_34 : decode cX7_shows 34 = .ok (.iastore, 1) := by decide +kernel
theorem dX7_shows_35 : decode cX7_shows 35 = .ok (.aload_n 0, 1) := by decide +kernel
theorem dX7_shows_36 : decode cX7_shows 36 = .ok (.getfield 60, 3) := by decide +kernel
theorem dX7_shows_39 : decode cX7_shows 39 = .ok (.iload_n 1, 1) := by decide +kernel
theorem dX7_shows_40 : decode cX7_shows 40 = .ok (.iload_n 2, 1) := by decide +kernel
theorem dX7_shows_41 : decode cX7_shows 41 = .ok (.iastore, 1) := by decide +kernel
theorem dX7_shows_42 : decode cX7_shows 42 = .ok (.iinc 1 1, 3) := by decide +kernel
theorem dX7_shows_45 : decode cX7_shows 45 = .ok (.iinc 2 1, 3) := by decide +kernel
theorem dX7_shows_48 : decode cX7_shows 48 = .ok (.goto (-44), 3) := by decide +kernel
theorem dX7_shows_51 : decode cX7_shows 51 = .ok (.iload_n 1, 1) := by decide +kernel
theorem dX7_shows_52 : decode cX7_shows 52 = .ok (.ireturn, 1) := by decide +kernel
theorem dX7_far_0 : decode cX7_far 0 = .ok (.aload_n 0, 1) := by decide +kernel
theorem dX7_far_1 : decode cX7_far 1 = .ok (.invokevirtual 192, 3) := by decide +kernel
theorem dX7_far_4 : decode cX7_far 4 = .ok (.istore_n 1, 1) := by decide +kernel
theorem dX7_far_5 : decode cX7_far 5 = .ok (.iconst 0, 1) := by decide +kernel
theorem dX7_far_6 : decode cX7_far 6 = .ok (.istore_n 2, 1) := by decide +kernel
theorem dX7_far_7 : decode cX7_far 7 = .ok (.iload_n 2, 1) := by decide +kernel
theorem dX7_far_8 : decode cX7_far 8 = .ok (.aload_n 0, 1) := by decide +kernel
theorem dX7_far_9 : decode cX7_far 9 = .ok (.getfield 110, 3) := by decide +kernel
theorem dX7_far_12 : decode cX7_far 12 = .ok (.if_icmp .gt 185, 3) := by decide +kernel
theorem dX7_far_15 : decode cX7_far 15 = .ok (.iconst 0, 1) := by decide +kernel
theorem dX7_far_16 : decode cX7_far 16 = .ok (.istore_n 3, 1) := by decide +kernel
theorem dX7_far_17 : decode cX7_far 17 = .ok (.iload_n 3, 1) := by decide +kernel
theorem dX7_far_18 : decode cX7_far 18 = .ok (.iload_n 1, 1) := by decide +kernel
theorem dX7_far_19 : decode cX7_far 19 = .ok (.if_icmp .gt 172, 3) := by decide +kernel
theorem dX7_far_22 : decode cX7_far 22 = .ok (.iload_n 2, 1) := by decide +kernel
theorem dX7_far_23 : decode cX7_far 23 = .ok (.ifCond .ne 7, 3) := by decide +kernel
theorem dX7_far_26 : decode cX7_far 26 = .ok (.iload_n 3, 1) := by decide +kernel
theorem dX7_far_27 : decode cX7_far 27 = .ok (.goto 51, 3) := by decide +kernel
theorem dX7_far_30 : decode cX7_far 30 = .ok (.iload_n 3, 1) := by decide +kernel
theorem dX7_far_31 : decode cX7_far 31 = .ok (.ifCond .ne 7, 3) := by decide +kernel
theorem dX7_far_34 : decode cX7_far 34 = .ok (.iload_n 2, 1) := by decide +kernel
theorem dX7_far_35 : decode cX7_far 35 = .ok (.goto 43, 3) := by decide +kernel
theorem dX7_far_38 : decode cX7_far 38 = .ok (.aload_n 0, 1) := by decide +kernel
theorem dX7_far_39 : decode cX7_far 39 = .ok (.getfield 63, 3) := by decide +kernel
theorem dX7_far_42 : decode cX7_far 42 = .ok (.bipush 15, 2) := by decide +kernel
theorem dX7_far_44 : decode cX7_far 44 = .ok (.iload_n 2, 1) := by decide +kernel
theorem dX7_far_45 : decode cX7_far 45 = .ok (.iconst 1, 1) := by decide +kernel
theorem dX7_far_46 : decode cX7_far 46 = .ok (.isub, 1) := by decide +kernel
theorem dX7_far_47 : decode cX7_far 47 = .ok (.imul, 1) := by decide +kernel
theorem dX7_far_48 : decode cX7_far 48 = .ok (.iload_n 3, 1) := by decide +kernel
theorem dX7_far_49 : decode cX7_far 49 = .ok (.iadd, 1) := by decide +kernel
theorem dX7_far_50 : decode cX7_far 50 = .ok (.iconst 1, 1) := by decide +kernel
theorem dX7_far_51 : decode cX7_far 51 = .ok (.isub, 1) := by decide +kernel
theorem dX7_far_52 : decode cX7_far 52 = .ok (.iaload, 1) := by decide +kernel
theorem dX7_far_53 : decode cX7_far 53 = .ok (.aload_n 0, 1) := by decide +kernel
theorem dX7_far_54 : decode cX7_far 54 = .ok (.getfield 45, 3) := by decide +kernel
theorem dX7_far_57 : decode cX7_far 57 = .ok (.iload_n 2, 1) := by decide +kernel
theorem dX7_far_58 : decode cX7_far 58 = .ok (.iconst 1, 1) := by decide +kernel
theorem dX7_far_59 : decode cX7_far 59 = .ok (.isub, 1) := by decide +kernel
theorem dX7_far_60 : decode cX7_far 60 = .ok (.iaload, 1) := by decide +kernel
theorem dX7_far_61 : decode cX7_far 61 = .ok (.aload_n 0, 1) := by decide +kernel
theorem dX7_far_62 : decode cX7_far 62 = .ok (.getfield 57, 3) := by decide +kernel
theorem dX7_far_65 : decode cX7_far 65 = .ok (.iload_n 3, 1) := by decide +kernel
theorem dX7_far_66 : decode cX7_far 66 = .ok (.iconst 1, 1) := by decide +kernel
theorem dX7_far_67 : decode cX7_far 67 = .ok (.isub, 1) := by decide +kernel
theorem dX7_far_68 : decode cX7_far 68 = .ok (.iaload, 1) := by decide +kernel
theorem dX7_far_69 : decode cX7_far 69 = .ok (.if_icmp .ne 7, 3) := by decide +kernel
theorem dX7_far_72 : decode cX7_far 72 = .ok (.iconst 0, 1) := by decide +kernel
theorem dX7_far_73 : decode cX7_far 73 = .ok (.goto 4, 3) := by decide +kernel
theorem dX7_far_76 : decode cX7_far 76 = .ok (.iconst 1, 1) := by decide +kernel
theorem dX7_far_77 : decode cX7_far 77 = .ok (.iadd, 1) := by decide +kernel
theorem dX7_far_78 : decode cX7_far 78 = .ok (.istore 4, 2) := by decide +kernel
theorem dX7_far_80 : decode cX7_far 80 = .ok (.iload_n 2, 1) := by decide +kernel
theorem dX7_far_81 : decode cX7_far 81 = .ok (.ifCond .le 91, 3) := by decide +kernel
theorem dX7_far_84 : decode cX7_far 84 = .ok (.iload_n 3, 1) := by decide +kernel
theorem dX7_far_85 : decode cX7_far 85 = .ok (.ifCond .le 87, 3) := by decide +kernel
theorem dX7_far_88 : decode cX7_far 88 = .ok (.aload_n 0, 1) := by decide +kernel
theorem dX7_far_89 : decode cX7_far 89 = .ok (.getfield 63, 3) := by decide +kernel
theorem dX7_far_92 : decode cX7_far 92 = .ok (.bipush 15, 2) := by decide +kernel
theorem dX7_far_94 : decode cX7_far 94 = .ok (.iload_n 2, 1) := by decide +kernel
theorem dX7_far_95 : decode cX7_far 95 = .ok (.iconst 1, 1) := by decide +kernel
theorem dX7_far_96 : decode cX7_far 96 = .ok (.isub, 1) := by decide +kernel
theorem dX7_far_97 : decode cX7_far 97 = .ok (.imul, 1) := by decide +kernel
theorem dX7_far_98 : decode cX7_far 98 = .ok (.iload_n 3, 1) := by decide +kernel
theorem dX7_far_99 : decode cX7_far 99 = .ok (.iadd, 1) := by decide +kernel
theorem dX7_far_100 : decode cX7_far 100 = .ok (.iaload, 1) := by decide +kernel
theorem dX7_far_101 : decode cX7_far 101 = .ok (.iconst 1, 1) := by decide +kernel
theorem dX7_far_102 : decode cX7_far 102 = .ok (.iadd, 1) := by decide +kernel
theorem dX7_far_103 : decode cX7_far 103 = .ok (.iload 4, 2) := by decide +kernel
theorem dX7_far_105 : decode cX7_far 105 = .ok (.if_icmp .ge 21, 3) := by decide +kernel
theorem dX7_far_108 : decode cX7_far 108 = .ok (.aload_n 0, 1) := by decide +kernel
theorem dX7_far_109 : decode cX7_far 109 = .ok (.getfield 63, 3) := by decide +kernel
theorem dX7_far_112 : decode cX7_far 112 = .ok (.bipush 15, 2) := by decide +kernel
theorem dX7_far_114 : decode cX7_far 114 = .ok (.iload_n 2, 1) := by decide +kernel
theorem dX7_far_115 : decode cX7_far 115 = .ok (.iconst 1, 1) := by decide +kernel
theorem dX7_far_116 : decode cX7_far 116 = .ok (.isub, 1) := by decide +kernel
theorem dX7_far_117 : decode cX7_far 117 = .ok (.imul, 1) := by decide +kernel
theorem dX7_far_118 : decode cX7_far 118 = .ok (.iload_n 3, 1) := by decide +kernel
theorem dX7_far_119 : decode cX7_far 119 = .ok (.iadd, 1) := by decide +kernel
theorem dX7_far_120 : decode cX7_far 120 = .ok (.iaload, 1) := by decide +kernel
theorem dX7_far_121 : decode cX7_far 121 = .ok (.iconst 1, 1) := by decide +kernel
theorem dX7_far_122 : decode cX7_far 122 = .ok (.iadd, 1) := by decide +kernel
theorem dX7_far_123 : decode cX7_far 123 = .ok (.goto 5, 3) := by decide +kernel
theorem dX7_far_126 : decode cX7_far 126 = .ok (.iload 4, 2) := by decide +kernel
theorem dX7_far_128 : decode cX7_far 128 = .ok (.istore 4, 2) := by decide +kernel
theorem dX7_far_130 : decode cX7_far 130 = .ok (.aload_n 0, 1) := by decide +kernel
theorem dX7_far_131 : decode cX7_far 131 = .ok (.getfield 63, 3) := by decide +kernel
theorem dX7_far_134 : decode cX7_far 134 = .ok (.bipush 15, 2) := by decide +kernel
theorem dX7_far_136 : decode cX7_far 136 = .ok (.iload_n 2, 1) := by decide +kernel
theorem dX7_far_137 : decode cX7_far 137 = .ok (.imul, 1) := by decide +kernel
theorem dX7_far_138 : decode cX7_far 138 = .ok (.iload_n 3, 1) := by decide +kernel
theorem dX7_far_139 : decode cX7_far 139 = .ok (.iadd, 1) := by decide +kernel
theorem dX7_far_140 : decode cX7_far 140 = .ok (.iconst 1, 1) := by decide +kernel
theorem dX7_far_141 : decode cX7_far 141 = .ok (.isub, 1) := by decide +kernel
theorem dX7_far_142 : decode cX7_far 142 = .ok (.iaload, 1) := by decide +kernel
theorem dX7_far_143 : decode cX7_far 143 = .ok (.iconst 1, 1) := by decide +kernel
theorem dX7_far_144 : decode cX7_far 144 = .ok (.iadd, 1) := by decide +kernel
theorem dX7_far_145 : decode cX7_far 145 = .ok (.iload 4, 2) := by decide +kernel
theorem dX7_far_147 : decode cX7_far 147 = .ok (.if_icmp .ge 21, 3) := by decide +kernel
theorem dX7_far_150 : decode cX7_far 150 = .ok (.aload_n 0, 1) := by decide +kernel
theorem dX7_far_151 : decode cX7_far 151 = .ok (.getfield 63, 3) := by decide +kernel
theorem dX7_far_154 : decode cX7_far 154 = .ok (.bipush 15, 2) := by decide +kernel
theorem dX7_far_156 : decode cX7_far 156 = .ok (.iload_n 2, 1) := by decide +kernel
theorem dX7_far_157 : decode cX7_far 157 = .ok (.imul, 1) := by decide +kernel
theorem dX7_far_158 : decode cX7_far 158 = .ok (.iload_n 3, 1) := by decide +kernel
theorem dX7_far_159 : decode cX7_far 159 = .ok (.iadd, 1) := by decide +kernel
theorem dX7_far_160 : decode cX7_far 160 = .ok (.iconst 1, 1) := by decide +kernel
theorem dX7_far_161 : decode cX7_far 161 = .ok (.isub, 1) := by decide +kernel
theorem dX7_far_162 : decode cX7_far 162 = .ok (.iaload, 1) := by decide +kernel
theorem dX7_far_163 : decode cX7_far 163 = .ok (.iconst 1, 1) := by decide +kernel
theorem dX7_far_164 : decode cX7_far 164 = .ok (.iadd, 1) := by decide +kernel
theorem dX7_far_165 : decode cX7_far 165 = .ok (.goto 5, 3) := by decide +kernel
theorem dX7_far_168 : decode cX7_far 168 = .ok (.iload 4, 2) := by decide +kernel
theorem dX7_far_170 : decode cX7_far 170 = .ok (.istore 4, 2) := by decide +kernel
theorem dX7_far_172 : decode cX7_far 172 = .ok (.aload_n 0, 1) := by decide +kernel
theorem dX7_far_173 : decode cX7_far 173 = .ok (.getfield 63, 3) := by decide +kernel
theorem dX7_far_176 : decode cX7_far 176 = .ok (.bipush 15, 2) := by decide +kernel
theorem dX7_far_178 : decode cX7_far 178 = .ok (.iload_n 2, 1) := by decide +kernel
theorem dX7_far_179 : decode cX7_far 179 = .ok (.imul, 1) := by decide +kernel
theorem dX7_far_180 : decode cX7_far 180 = .ok (.iload_n 3, 1) := by decide +kernel
theorem dX7_far_181 : decode cX7_far 181 = .ok (.iadd, 1) := by decide +kernel
theorem dX7_far_182 : decode cX7_far 182 = .ok (.iload 4, 2) := by decide +kernel
theorem dX7_far_184 : decode cX7_far 184 = .ok (.iastore, 1) := by decide +kernel
theorem dX7_far_185 : decode cX7_far 185 = .ok (.iinc 3 1, 3) := by decide +kernel
theorem dX7_far_188 : decode cX7_far 188 = .ok (.goto (-171), 3) := by decide +kernel
theorem dX7_far_191 : decode cX7_far 191 = .ok (.iinc 2 1, 3) := by decide +kernel
theorem dX7_far_194 : decode cX7_far 194 = .ok (.goto (-187), 3) := by decide +kernel
theorem dX7_far_197 : decode cX7_far 197 = .ok (.aload_n 0, 1) := by decide +kernel
theorem dX7_far_198 : decode cX7_far 198 = .ok (.getfield 63, 3) := by decide +kernel
theorem dX7_far_201 : decode cX7_far 201 = .ok (.bipush 15, 2) := by decide +kernel
theorem dX7_far_203 : decode cX7_far 203 = .ok (.aload_n 0, 1) := by decide +kernel
theorem dX7_far_204 : decode cX7_far 204 = .ok (.getfield 110, 3) := by decide +kernel
theorem dX7_far_207 : decode cX7_far 207 = .ok (.imul, 1) := by decide +kernel
theorem dX7_far_208 : decode cX7_far 208 = .ok (.iload_n 1, 1) := by decide +kernel
theorem dX7_far_209 : decode cX7_far 209 = .ok (.iadd, 1) := by decide +kernel
theorem dX7_far_210 : decode cX7_far 210 = .ok (.iaload, 1) := by decide +kernel
theorem dX7_far_211 : decode cX7_far 211 = .ok (.ireturn, 1) := by decide +kernel
theorem dX7_odd_0 : decode cX7_odd 0 = .ok (.aload_n 0, 1) := by decide +kernel
theorem dX7_odd_1 : decode cX7_odd 1 = .ok (.invokevirtual 195, 3) := by decide +kernel
theorem dX7_odd_4 : decode cX7_odd 4 = .ok (.ifCond .ne 6, 3) := by decide +kernel
theorem dX7_odd_7 : decode cX7_odd 7 = .ok (.bipush (-4), 2) := by decide +kernel
theorem dX7_odd_9 : decode cX7_odd 9 = .ok (.ireturn, 1) := by decide +kernel
theorem dX7_odd_10 : decode cX7_odd 10 = .ok (.aload_n 0, 1) := by decide +kernel
theorem dX7_odd_11 : decode cX7_odd 11 = .ok (.invokevirtual 192, 3) := by decide +kernel
theorem dX7_odd_14 : decode cX7_odd 14 = .ok (.istore_n 1, 1) := by decide +kernel
theorem dX7_odd_15 : decode cX7_odd 15 = .ok (.iconst 0, 1) := by decide +kernel
theorem dX7_odd_16 : decode cX7_odd 16 = .ok (.istore_n 2, 1) := by decide +kernel
theorem dX7_odd_17 : decode cX7_odd 17 = .ok (.iload_n 2, 1) := by decide +kernel
theorem dX7_odd_18 : decode cX7_odd 18 = .ok (.aload_n 0, 1) := by decide +kernel
theorem dX7_odd_19 : decode cX7_odd 19 = .ok (.getfield 110, 3) := by decide +kernel
theorem dX7_odd_22 : decode cX7_odd 22 = .ok (.if_icmp .ge 29, 3) := by decide +kernel
theorem dX7_odd_25 : decode cX7_odd 25 = .ok (.iload_n 2, 1) := by decide +kernel
theorem dX7_odd_26 : decode cX7_odd 26 = .ok (.iload_n 1, 1) := by decide +kernel
theorem dX7_odd_27 : decode cX7_odd 27 = .ok (.if_icmp .ge 24, 3) := by decide +kernel
theorem dX7_odd_30 : decode cX7_odd 30 = .ok (.aload_n 0, 1) := by decide +kernel
theorem dX7_odd_31 : decode cX7_odd 31 = .ok (.getfield 45, 3) := by decide +kernel
theorem dX7_odd_34 : decode cX7_odd 34 = .ok (.iload_n 2, 1) := by decide +kernel
theorem dX7_odd_35 : decode cX7_odd 35 = .ok (.iaload, 1) := by decide +kernel
theorem dX7_odd_36 : decode cX7_odd 36 = .ok (.aload_n 0, 1) := by decide +kernel
theorem dX7_odd_37 : decode cX7_odd 37 = .ok (.getfield 57, 3) := by decide +kernel
theorem dX7_odd_40 : decode cX7_odd 40 = .ok (.iload_n 2, 1) := by decide +kernel
theorem dX7_odd_41 : decode cX7_odd 41 = .ok (.iaload, 1) := by decide +kernel
theorem dX7_odd_42 : decode cX7_odd 42 = .ok (.if_icmp .ne 9, 3) := by decide +kernel
theorem dX7_odd_45 : decode cX7_odd 45 = .ok (.iinc 2 1, 3) := by decide +kernel
theorem dX7_odd_48 : decode cX7_odd 48 = .ok (.goto (-31), 3) := by decide +kernel
theorem dX7_odd_51 : decode cX7_odd 51 = .ok (.iload_n 2, 1) := by decide +kernel
theorem dX7_odd_52 : decode cX7_odd 52 = .ok (.iload_n 1, 1) := by decide +kernel
theorem dX7_odd_53 : decode cX7_odd 53 = .ok (.if_icmp .ge 12, 3) := by decide +kernel
theorem dX7_odd_56 : decode cX7_odd 56 = .ok (.aload_n 0, 1) := by decide +kernel
theorem dX7_odd_57 : decode cX7_odd 57 = .ok (.getfield 60, 3) := by decide +kernel
theorem dX7_odd_60 : decode cX7_odd 60 = .ok (.iload_n 2, 1) := by decide +kernel
theorem dX7_odd_61 : decode cX7_odd 61 = .ok (.iaload, 1) := by decide +kernel
theorem dX7_odd_62 : decode cX7_odd 62 = .ok (.goto 9, 3) := by decide +kernel
theorem dX7_odd_65 : decode cX7_odd 65 = .ok (.aload_n 0, 1) := by decide +kernel
theorem dX7_odd_66 : decode cX7_odd 66 = .ok (.getfield 26, 3) := by decide +kernel
theorem dX7_odd_69 : decode cX7_odd 69 = .ok (.iconst 0, 1) := by decide +kernel
theorem dX7_odd_70 : decode cX7_odd 70 = .ok (.iaload, 1) := by decide +kernel
theorem dX7_odd_71 : decode cX7_odd 71 = .ok (.ireturn, 1) := by decide +kernel
theorem dX7_tenthsOf_0 : decode cX7_tenthsOf 0 = .ok (.iconst 0, 1) := by decide +kernel
theorem dX7_tenthsOf_1 : decode cX7_tenthsOf 1 = .ok (.istore_n 2, 1) := by decide +kernel
theorem dX7_tenthsOf_2 : decode cX7_tenthsOf 2 = .ok (.iconst 0, 1) := by decide +kernel
theorem dX7_tenthsOf_3 : decode cX7_tenthsOf 3 = .ok (.istore_n 3, 1) := by decide +kernel
theorem dX7_tenthsOf_4 : decode cX7_tenthsOf 4 = .ok (.iload_n 3, 1) := by decide +kernel
theorem dX7_tenthsOf_5 : decode cX7_tenthsOf 5 = .ok (.aload_n 0, 1) := by decide +kernel
theorem dX7_tenthsOf_6 : decode cX7_tenthsOf 6 = .ok (.getfield 26, 3) := by decide +kernel
theorem dX7_tenthsOf_9 : decode cX7_tenthsOf 9 = .ok (.iconst 0, 1) := by decide +kernel
theorem dX7_tenthsOf_10 : decode cX7_tenthsOf 10 = .ok (.iaload, 1) := by decide +kernel
theorem dX7_tenthsOf_11 : decode cX7_tenthsOf 11 = .ok (.if_icmp .ge 32, 3) := by decide +kernel
theorem dX7_tenthsOf_14 : decode cX7_tenthsOf 14 = .ok (.iload_n 2, 1) := by decide +kernel
theorem dX7_tenthsOf_15 : decode cX7_tenthsOf 15 = .ok (.aload_n 0, 1) := by decide +kernel
theorem dX7_tenthsOf_16 : decode cX7_tenthsOf 16 = .ok (.iload_n 3, 1) := by decide +kernel
theorem dX7_tenthsOf_17 : decode cX7_tenthsOf 17 = .ok (.iconst 0, 1) := by decide +kernel
theorem dX7_tenthsOf_18 : decode cX7_tenthsOf 18 = .ok (.invokevirtual 123, 3) := by decide +kernel
theorem dX7_tenthsOf_21 : decode cX7_tenthsOf 21 = .ok (.iload_n 1, 1) := by decide +kernel
theorem dX7_tenthsOf_22 : decode cX7_tenthsOf 22 = .ok (.if_icmp .ne 12, 3) := by decide +kernel
theorem dX7_tenthsOf_25 : decode cX7_tenthsOf 25 = .ok (.aload_n 0, 1) := by decide +kernel
theorem dX7_tenthsOf_26 : decode cX7_tenthsOf 26 = .ok (.getfield 29, 3) := by decide +kernel
theorem dX7_tenthsOf_29 : decode cX7_tenthsOf 29 = .ok (.iload_n 3, 1) := by decide +kernel
theorem dX7_tenthsOf_30 : decode cX7_tenthsOf 30 = .ok (.iaload, 1) := by decide +kernel
theorem dX7_tenthsOf_31 : decode cX7_tenthsOf 31 = .ok (.goto 4, 3) := by decide +kernel
theorem dX7_tenthsOf_34 : decode cX7_tenthsOf 34 = .ok (.iconst 0, 1) := by decide +kernel
theorem dX7_tenthsOf_35 : decode cX7_tenthsOf 35 = .ok (.iadd, 1) := by decide +kernel
theorem dX7_tenthsOf_36 : decode cX7_tenthsOf 36 = .ok (.istore_n 2, 1) := by decide +kernel
theorem dX7_tenthsOf_37 : decode cX7_tenthsOf 37 = .ok (.iinc 3 1, 3) := by decide +kernel
theorem dX7_tenthsOf_40 : decode cX7_tenthsOf 40 = .ok (.goto (-36), 3) := by decide +kernel
theorem dX7_tenthsOf_43 : decode cX7_tenthsOf 43 = .ok (.iload_n 2, 1) := by decide +kernel
theorem dX7_tenthsOf_44 : decode cX7_tenthsOf 44 = .ok (.ireturn, 1) := by decide +kernel
theorem dX7_wish_0 : decode cX7_wish 0 = .ok (.iload_n 1, 1) := by decide +kernel
theorem dX7_wish_1 : decode cX7_wish 1 = .ok (.invokestatic 182, 3) := by decide +kernel
theorem dX7_wish_4 : decode cX7_wish 4 = .ok (.ifCond .eq 11, 3) := by decide +kernel
theorem dX7_wish_7 : decode cX7_wish 7 = .ok (.aload_n 0, 1) := by decide +kernel
theorem dX7_wish_8 : decode cX7_wish 8 = .ok (.iload_n 1, 1) := by decide +kernel
theorem dX7_wish_9 : decode cX7_wish 9 = .ok (.invokevirtual 198, 3) := by decide +kernel
theorem dX7_wish_12 : decode cX7_wish 12 = .ok (.goto 4, 3) := by decide +kernel
theorem dX7_wish_15 : decode cX7_wish 15 = .ok (.iconst (-1), 1) := by decide +kernel
theorem dX7_wish_16 : decode cX7_wish 16 = .ok (.ireturn, 1) := by decide +kernel
theorem dX7_nearest_0 : decode cX7_nearest 0 = .ok (.iload_n 1, 1) := by decide +kernel
theorem dX7_nearest_1 : decode cX7_nearest 1 = .ok (.invokestatic 182, 3) := by decide +kernel
theorem dX7_nearest_4 : decode cX7_nearest 4 = .ok (.ifCond .eq 15, 3) := by decide +kernel
theorem dX7_nearest_7 : decode cX7_nearest 7 = .ok (.iload_n 2, 1) := by decide +kernel
theorem dX7_nearest_8 : decode cX7_nearest 8 = .ok (.i2l, 1) := by decide +kernel
theorem dX7_nearest_9 : decode cX7_nearest 9 = .ok (.lconst 1, 1) := by decide +kernel
theorem dX7_nearest_10 : decode cX7_nearest 10 = .ok (.ldc2_w 163, 3) := by decide +kernel
theorem dX7_nearest_13 : decode cX7_nearest 13 = .ok (.invokestatic 77, 3) := by decide +kernel
theorem dX7_nearest_16 : decode cX7_nearest 16 = .ok (.ifCond .ne 5, 3) := by decide +kernel
theorem dX7_nearest_19 : decode cX7_nearest 19 = .ok (.iconst (-1), 1) := by decide +kernel
theorem dX7_nearest_20 : decode cX7_nearest 20 = .ok (.ireturn, 1) := by decide +kernel
theorem dX7_nearest_21 : decode cX7_nearest 21 = .ok (.iconst 0, 1) := by decide +kernel
theorem dX7_nearest_22 : decode cX7_nearest 22 = .ok (.istore_n 3, 1) := by decide +kernel
theorem dX7_nearest_23 : decode cX7_nearest 23 = .ok (.iload_n 3, 1) := by decide +kernel
theorem dX7_nearest_24 : decode cX7_nearest 24 = .ok (.bipush 100, 2) := by decide +kernel
theorem dX7_nearest_26 : decode cX7_nearest 26 = .ok (.if_icmp .ge 53, 3) := by decide +kernel
theorem dX7_nearest_29 : decode cX7_nearest 29 = .ok (.iload_n 1, 1) := by decide +kernel
theorem dX7_nearest_30 : decode cX7_nearest 30 = .ok (.iload_n 3, 1) := by decide +kernel
theorem dX7_nearest_31 : decode cX7_nearest 31 = .ok (.isub, 1) := by decide +kernel
theorem dX7_nearest_32 : decode cX7_nearest 32 = .ok (.ifCond .lt 18, 3) := by decide +kernel
theorem dX7_nearest_35 : decode cX7_nearest 35 = .ok (.aload_n 0, 1) := by decide +kernel
theorem dX7_nearest_36 : decode cX7_nearest 36 = .ok (.iload_n 1, 1) := by decide +kernel
theorem dX7_nearest_37 : decode cX7_nearest 37 = .ok (.iload_n 3, 1) := by decide +kernel
theorem dX7_nearest_38 : decode cX7_nearest 38 = .ok (.isub, 1) := by decide +kernel
theorem dX7_nearest_39 : decode cX7_nearest 39 = .ok (.invokevirtual 198, 3) := by decide +kernel
theorem dX7_nearest_42 : decode cX7_nearest 42 = .ok (.iload_n 2, 1) := by decide +kernel
theorem dX7_nearest_43 : decode cX7_nearest 43 = .ok (.if_icmp .lt 7, 3) := by decide +kernel
theorem dX7_nearest_46 : decode cX7_nearest 46 = .ok (.iload_n 1, 1) := by decide +kernel
theorem dX7_nearest_47 : decode cX7_nearest 47 = .ok (.iload_n 3, 1) := by decide +kernel
theorem dX7_nearest_48 : decode cX7_nearest 48 = .ok (.isub, 1) := by decide +kernel
theorem dX7_nearest_49 : decode cX7_nearest 49 = .ok (.ireturn, 1) := by decide +kernel
theorem dX7_nearest_50 : decode cX7_nearest 50 = .ok (.iload_n 1, 1) := by decide +kernel
theorem dX7_nearest_51 : decode cX7_nearest 51 = .ok (.iload_n 3, 1) := by decide +kernel
theorem dX7_nearest_52 : decode cX7_nearest 52 = .ok (.iadd, 1) := by decide +kernel
theorem dX7_nearest_53 : decode cX7_nearest 53 = .ok (.bipush 100, 2) := by decide +kernel
theorem dX7_nearest_55 : decode cX7_nearest 55 = .ok (.if_icmp .ge 18, 3) := by decide +kernel
theorem dX7_nearest_58 : decode cX7_nearest 58 = .ok (.aload_n 0, 1) := by decide +kernel
theorem dX7_nearest_59 : decode cX7_nearest 59 = .ok (.iload_n 1, 1) := by decide +kernel
theorem dX7_nearest_60 : decode cX7_nearest 60 = .ok (.iload_n 3, 1) := by decide +kernel
theorem dX7_nearest_61 : decode cX7_nearest 61 = .ok (.iadd, 1) := by decide +kernel
theorem dX7_nearest_62 : decode cX7_nearest 62 = .ok (.invokevirtual 198, 3) := by decide +kernel
theorem dX7_nearest_65 : decode cX7_nearest 65 = .ok (.iload_n 2, 1) := by decide +kernel
theorem dX7_nearest_66 : decode cX7_nearest 66 = .ok (.if_icmp .lt 7, 3) := by decide +kernel
theorem dX7_nearest_69 : decode cX7_nearest 69 = .ok (.iload_n 1, 1) := by decide +kernel
theorem dX7_nearest_70 : decode cX7_nearest 70 = .ok (.iload_n 3, 1) := by decide +kernel
theorem dX7_nearest_71 : decode cX7_nearest 71 = .ok (.iadd, 1) := by decide +kernel
theorem dX7_nearest_72 : decode cX7_nearest 72 = .ok (.ireturn, 1) := by decide +kernel
theorem dX7_nearest_73 : decode cX7_nearest 73 = .ok (.iinc 3 1, 3) := by decide +kernel
theorem dX7_nearest_76 : decode cX7_nearest 76 = .ok (.goto (-53), 3) := by decide +kernel
theorem dX7_nearest_79 : decode cX7_nearest 79 = .ok (.bipush (-4), 2) := by decide +kernel
theorem dX7_nearest_81 : decode cX7_nearest 81 = .ok (.ireturn, 1) := by decide +kernel
theorem dX7_moved_0 : decode cX7_moved 0 = .ok (.iload_n 1, 1) := by decide +kernel
theorem dX7_moved_1 : decode cX7_moved 1 = .ok (.i2l, 1) := by decide +kernel
theorem dX7_moved_2 : decode cX7_moved 2 = .ok (.ldc2_w 201, 3) := by decide +kernel
theorem dX7_moved_5 : decode cX7_moved 5 = .ok (.ldc2_w 203, 3) := by decide +kernel
theorem dX7_moved_8 : decode cX7_moved 8 = .ok (.invokestatic 77, 3) := by decide +kernel
theorem dX7_moved_11 : decode cX7_moved 11 = .ok (.ifCond .ne 5, 3) := by decide +kernel
theorem dX7_moved_14 : decode cX7_moved 14 = .ok (.iconst (-1), 1) := by decide +kernel
theorem dX7_moved_15 : decode cX7_moved 15 = .ok (.ireturn, 1) := by decide +kernel
theorem dX7_moved_16 : decode cX7_moved 16 = .ok (.iconst 0, 1) := by decide +kernel
theorem dX7_moved_17 : decode cX7_moved 17 = .ok (.istore_n 2, 1) := by decide +kernel
theorem dX7_moved_18 : decode cX7_moved 18 = .ok (.iload_n 1, 1) := by decide +kernel
theorem dX7_moved_19 : decode cX7_moved 19 = .ok (.istore_n 3, 1) := by decide +kernel
theorem dX7_moved_20 : decode cX7_moved 20 = .ok (.iconst 0, 1) := by decide +kernel
theorem dX7_moved_21 : decode cX7_moved 21 = .ok (.istore 4, 2) := by decide +kernel
theorem dX7_moved_23 : decode cX7_moved 23 = .ok (.iload 4, 2) := by decide +kernel
theorem dX7_moved_25 : decode cX7_moved 25 = .ok (.aload_n 0, 1) := by decide +kernel
theorem dX7_moved_26 : decode cX7_moved 26 = .ok (.getfield 26, 3) := by decide +kernel
theorem dX7_moved_29 : decode cX7_moved 29 = .ok (.iconst 0, 1) := by decide +kernel
theorem dX7_moved_30 : decode cX7_moved 30 = .ok (.iaload, 1) := by decide +kernel
theorem dX7_moved_31 : decode cX7_moved 31 = .ok (.if_icmp .ge 74, 3) := by decide +kernel
theorem dX7_moved_34 : decode cX7_moved 34 = .ok (.aload_n 0, 1) := by decide +kernel
theorem dX7_moved_35 : decode cX7_moved 35 = .ok (.getfield 29, 3) := by decide +kernel
theorem dX7_moved_38 : decode cX7_moved 38 = .ok (.iload 4, 2) := by decide +kernel
theorem dX7_moved_40 : decode cX7_moved 40 = .ok (.iaload, 1) := by decide +kernel
theorem dX7_moved_41 : decode cX7_moved 41 = .ok (.aload_n 0, 1) := by decide +kernel
theorem dX7_moved_42 : decode cX7_moved 42 = .ok (.iload 4, 2) := by decide +kernel
theorem dX7_moved_44 : decode cX7_moved 44 = .ok (.iconst 2, 1) := by decide +kernel
theorem dX7_moved_45 : decode cX7_moved 45 = .ok (.invokevirtual 123, 3) := by decide +kernel
theorem dX7_moved_48 : decode cX7_moved 48 = .ok (.imul, 1) := by decide +kernel
theorem dX7_moved_49 : decode cX7_moved 49 = .ok (.istore 5, 2) := by decide +kernel
theorem dX7_moved_51 : decode cX7_moved 51 = .ok (.iload 5, 2) := by decide +kernel
theorem dX7_moved_53 : decode cX7_moved 53 = .ok (.iload_n 1, 1) := by decide +kernel
theorem dX7_moved_54 : decode cX7_moved 54 = .ok (.if_icmp .le 6, 3) := by decide +kernel
theorem dX7_moved_57 : decode cX7_moved 57 = .ok (.bipush (-4), 2) := by decide +kernel
theorem dX7_moved_59 : decode cX7_moved 59 = .ok (.ireturn, 1) := by decide +kernel
theorem dX7_moved_60 : decode cX7_moved 60 = .ok (.iload_n 2, 1) := by decide +kernel
theorem dX7_moved_61 : decode cX7_moved 61 = .ok (.iload_n 3, 1) := by decide +kernel
theorem dX7_moved_62 : decode cX7_moved 62 = .ok (.iload 5, 2) := by decide +kernel
theorem dX7_moved_64 : decode cX7_moved 64 = .ok (.iadd, 1) := by decide +kernel
theorem dX7_moved_65 : decode cX7_moved 65 = .ok (.iload_n 1, 1) := by decide +kernel
theorem dX7_moved_66 : decode cX7_moved 66 = .ok (.if_icmp .le 12, 3) := by decide +kernel
theorem dX7_moved_69 : decode cX7_moved 69 = .ok (.iload 5, 2) := by decide +kernel
theorem dX7_moved_71 : decode cX7_moved 71 = .ok (.ifCond .le 7, 3) := by decide +kernel
theorem dX7_moved_74 : decode cX7_moved 74 = .ok (.iconst 1, 1) := by decide +kernel
theorem dX7_moved_75 : decode cX7_moved 75 = .ok (.goto 4, 3) := by decide +kernel
theorem dX7_moved_78 : decode cX7_moved 78 = .ok (.iconst 0, 1) := by decide +kernel
theorem dX7_moved_79 : decode cX7_moved 79 = .ok (.iadd, 1) := by decide +kernel
theorem dX7_moved_80 : decode cX7_moved 80 = .ok (.istore_n 2, 1) := by decide +kernel
theorem dX7_moved_81 : decode cX7_moved 81 = .ok (.iload_n 3, 1) := by decide +kernel
theorem dX7_moved_82 : decode cX7_moved 82 = .ok (.iload 5, 2) := by decide +kernel
theorem dX7_moved_84 : decode cX7_moved 84 = .ok (.iadd, 1) := by decide +kernel
theorem dX7_moved_85 : decode cX7_moved 85 = .ok (.iload_n 1, 1) := by decide +kernel
theorem dX7_moved_86 : decode cX7_moved 86 = .ok (.if_icmp .le 8, 3) := by decide +kernel
theorem dX7_moved_89 : decode cX7_moved 89 = .ok (.iload 5, 2) := by decide +kernel
theorem dX7_moved_91 : decode cX7_moved 91 = .ok (.goto 7, 3) := by decide +kernel
theorem dX7_moved_94 : decode cX7_moved 94 = .ok (.iload_n 3, 1) := by decide +kernel
theorem dX7_moved_95 : decode cX7_moved 95 = .ok (.iload 5, 2) := by decide +kernel
theorem dX7_moved_97 : decode cX7_moved 97 = .ok (.iadd, 1) := by decide +kernel
theorem dX7_moved_98 : decode cX7_moved 98 = .ok (.istore_n 3, 1) := by decide +kernel
theorem dX7_moved_99 : decode cX7_moved 99 = .ok (.iinc 4 1, 3) := by decide +kernel
theorem dX7_moved_102 : decode cX7_moved 102 = .ok (.goto (-79), 3) := by decide +kernel
theorem dX7_moved_105 : decode cX7_moved 105 = .ok (.iload_n 2, 1) := by decide +kernel
theorem dX7_moved_106 : decode cX7_moved 106 = .ok (.ifCond .ne 7, 3) := by decide +kernel
theorem dX7_moved_109 : decode cX7_moved 109 = .ok (.iconst 0, 1) := by decide +kernel
theorem dX7_moved_110 : decode cX7_moved 110 = .ok (.goto 8, 3) := by decide +kernel
theorem dX7_moved_113 : decode cX7_moved 113 = .ok (.iconst 2, 1) := by decide +kernel
theorem dX7_moved_114 : decode cX7_moved 114 = .ok (.iload_n 2, 1) := by decide +kernel
theorem dX7_moved_115 : decode cX7_moved 115 = .ok (.imul, 1) := by decide +kernel
theorem dX7_moved_116 : decode cX7_moved 116 = .ok (.iconst 1, 1) := by decide +kernel
theorem dX7_moved_117 : decode cX7_moved 117 = .ok (.isub, 1) := by decide +kernel
theorem dX7_moved_118 : decode cX7_moved 118 = .ok (.ireturn, 1) := by decide +kernel
theorem dX7_rent_0 : decode cX7_rent 0 = .ok (.iload_n 1, 1) := by decide +kernel
theorem dX7_rent_1 : decode cX7_rent 1 = .ok (.i2l, 1) := by decide +kernel
theorem dX7_rent_2 : decode cX7_rent 2 = .ok (.lconst 1, 1) := by decide +kernel
theorem dX7_rent_3 : decode cX7_rent 3 = .ok (.ldc2_w 205, 3) := by decide +kernel
theorem dX7_rent_6 : decode cX7_rent 6 = .ok (.invokestatic 77, 3) := by decide +kernel
theorem dX7_rent_9 : decode cX7_rent 9 = .ok (.ifCond .ne 7, 3) := by decide +kernel
theorem dX7_rent_12 : decode cX7_rent 12 = .ok (.ldc2_w 154, 3) := by decide +kernel
theorem dX7_rent_15 : decode cX7_rent 15 = .ok (.lreturn, 1) := by decide +kernel
theorem dX7_rent_16 : decode cX7_rent 16 = .ok (.lconst 0, 1) := by decide +kernel
theorem dX7_rent_17 : decode cX7_rent 17 = .ok (.lstore_n 2, 1) := by decide +kernel
theorem dX7_rent_18 : decode cX7_rent 18 = .ok (.iconst 0, 1) := by decide +kernel
theorem dX7_rent_19 : decode cX7_rent 19 = .ok (.istore 4, 2) := by decide +kernel
theorem dX7_rent_21 : decode cX7_rent 21 = .ok (.iload 4, 2) := by decide +kernel
theorem dX7_rent_23 : decode cX7_rent 23 = .ok (.aload_n 0, 1) := by decide +kernel
theorem dX7_rent_24 : decode cX7_rent 24 = .ok (.getfield 26, 3) := by decide +kernel
theorem dX7_rent_27 : decode cX7_rent 27 = .ok (.iconst 0, 1) := by decide +kernel
theorem dX7_rent_28 : decode cX7_rent 28 = .ok (.iaload, 1) := by decide +kernel
theorem dX7_rent_29 : decode cX7_rent 29 = .ok (.if_icmp .ge 28, 3) := by decide +kernel
theorem dX7_rent_32 : decode cX7_rent 32 = .ok (.lload_n 2, 1) := by decide +kernel
theorem dX7_rent_33 : decode cX7_rent 33 = .ok (.aload_n 0, 1) := by decide +kernel
theorem dX7_rent_34 : decode cX7_rent 34 = .ok (.getfield 29, 3) := by decide +kernel
theorem dX7_rent_37 : decode cX7_rent 37 = .ok (.iload 4, 2) := by decide +kernel
theorem dX7_rent_39 : decode cX7_rent 39 = .ok (.iaload, 1) := by decide +kernel
theorem dX7_rent_40 : decode cX7_rent 40 = .ok (.i2l, 1) := by decide +kernel
theorem dX7_rent_41 : decode cX7_rent 41 = .ok (.aload_n 0, 1) := by decide +kernel
theorem dX7_rent_42 : decode cX7_rent 42 = .ok (.iload 4, 2) := by decide +kernel
theorem dX7_rent_44 : decode cX7_rent 44 = .ok (.invokevirtual 131, 3) := by decide +kernel
theorem dX7_rent_47 : decode cX7_rent 47 = .ok (.i2l, 1) := by decide +kernel
theorem dX7_rent_48 : decode cX7_rent 48 = .ok (.lmul, 1) := by decide +kernel
theorem dX7_rent_49 : decode cX7_rent 49 = .ok (.ladd, 1) := by decide +kernel
theorem dX7_rent_50 : decode cX7_rent 50 = .ok (.lstore_n 2, 1) := by decide +kernel
theorem dX7_rent_51 : decode cX7_rent 51 = .ok (.iinc 4 1, 3) := by decide +kernel
theorem dX7_rent_54 : decode cX7_rent 54 = .ok (.goto (-33), 3) := by decide +kernel
theorem dX7_rent_57 : decode cX7_rent 57 = .ok (.iload_n 1, 1) := by decide +kernel
theorem dX7_rent_58 : decode cX7_rent 58 = .ok (.i2l, 1) := by decide +kernel
theorem dX7_rent_59 : decode cX7_rent 59 = .ok (.lload_n 2, 1) := by decide +kernel
theorem dX7_rent_60 : decode cX7_rent 60 = .ok (.lmul, 1) := by decide +kernel
theorem dX7_rent_61 : decode cX7_rent 61 = .ok (.ldc2_w 207, 3) := by decide +kernel
theorem dX7_rent_64 : decode cX7_rent 64 = .ok (.ldiv, 1) := by decide +kernel
theorem dX7_rent_65 : decode cX7_rent 65 = .ok (.lreturn, 1) := by decide +kernel
theorem dX7_comes_0 : decode cX7_comes 0 = .ok (.iconst 0, 1) := by decide +kernel
theorem dX7_comes_1 : decode cX7_comes 1 = .ok (.istore_n 2, 1) := by decide +kernel
theorem dX7_comes_2 : decode cX7_comes 2 = .ok (.iconst 0, 1) := by decide +kernel
theorem dX7_comes_3 : decode cX7_comes 3 = .ok (.istore_n 3, 1) := by decide +kernel
theorem dX7_comes_4 : decode cX7_comes 4 = .ok (.iconst 0, 1) := by decide +kernel
theorem dX7_comes_5 : decode cX7_comes 5 = .ok (.istore 4, 2) := by decide +kernel
theorem dX7_comes_7 : decode cX7_comes 7 = .ok (.iload 4, 2) := by decide +kernel
theorem dX7_comes_9 : decode cX7_comes 9 = .ok (.aload_n 0, 1) := by decide +kernel
theorem dX7_comes_10 : decode cX7_comes 10 = .ok (.getfield 17, 3) := by decide +kernel
theorem dX7_comes_13 : decode cX7_comes 13 = .ok (.iconst 0, 1) := by decide +kernel
theorem dX7_comes_14 : decode cX7_comes 14 = .ok (.iaload, 1) := by decide +kernel
theorem dX7_comes_15 : decode cX7_comes 15 = .ok (.if_icmp .ge 93, 3) := by decide +kernel
theorem dX7_comes_18 : decode cX7_comes 18 = .ok (.ldc2_w 209, 3) := by decide +kernel
theorem dX7_comes_21 : decode cX7_comes 21 = .ok (.iload_n 1, 1) := by decide +kernel
theorem dX7_comes_22 : decode cX7_comes 22 = .ok (.i2l, 1) := by decide +kernel
theorem dX7_comes_23 : decode cX7_comes 23 = .ok (.lmul, 1) := by decide +kernel
theorem dX7_comes_24 : decode cX7_comes 24 = .ok (.ldc2_w 211, 3) := by decide +kernel
theorem dX7_comes_27 : decode cX7_comes 27 = .ok (.iload 4, 2) := by decide +kernel
theorem dX7_comes_29 : decode cX7_comes 29 = .ok (.i2l, 1) := by decide +kernel
theorem dX7_comes_30 : decode cX7_comes 30 = .ok (.lmul, 1) := by decide +kernel
theorem dX7_comes_31 : decode cX7_comes 31 = .ok (.ladd, 1) := by decide +kernel
theorem dX7_comes_32 : decode cX7_comes 32 = .ok (.lconst 1, 1) := by decide +kernel
theorem dX7_comes_33 : decode cX7_comes 33 = .ok (.ladd, 1) := by decide +kernel
theorem dX7_comes_34 : decode cX7_comes 34 = .ok (.lstore 5, 2) := by decide +kernel
theorem dX7_comes_36 : decode cX7_comes 36 = .ok (.aload_n 0, 1) := by decide +kernel
theorem dX7_comes_37 : decode cX7_comes 37 = .ok (.iload 4, 2) := by decide +kernel
theorem dX7_comes_39 : decode cX7_comes 39 = .ok (.iconst 1, 1) := by decide +kernel
theorem dX7_comes_40 : decode cX7_comes 40 = .ok (.invokevirtual 123, 3) := by decide +kernel
theorem dX7_comes_43 : decode cX7_comes 43 = .ok (.lload 5, 2) := by decide +kernel
theorem dX7_comes_45 : decode cX7_comes 45 = .ok (.lload 5, 2) := by decide +kernel
theorem dX7_comes_47 : decode cX7_comes 47 = .ok (.lmul, 1) := by decide +kernel
theorem dX7_comes_48 : decode cX7_comes 48 = .ok (.ldc2_w 213, 3) := by decide +kernel
theorem dX7_comes_51 : decode cX7_comes 51 = .ok (.lrem, 1) := by decide +kernel
theorem dX7_comes_52 : decode cX7_comes 52 = .ok (.aload_n 0, 1) := by decide +kernel
theorem dX7_comes_53 : decode cX7_comes 53 = .ok (.getfield 13, 3) := by decide +kernel
theorem dX7_comes_56 : decode cX7_comes 56 = .ok (.iconst 4, 1) := by decide +kernel
theorem dX7_comes_57 : decode cX7_comes 57 = .ok (.iaload, 1) := by decide +kernel
theorem dX7_comes_58 : decode cX7_comes 58 = .ok (.iconst 1, 1) := by decide +kernel
theorem dX7_comes_59 : decode cX7_comes 59 = .ok (.iadd, 1) := by decide +kernel
theorem dX7_comes_60 : decode cX7_comes 60 = .ok (.i2l, 1) := by decide +kernel
theorem dX7_comes_61 : decode cX7_comes 61 = .ok (.lrem, 1) := by decide +kernel
theorem dX7_comes_62 : decode cX7_comes 62 = .ok (.l2i, 1) := by decide +kernel
theorem dX7_comes_63 : decode cX7_comes 63 = .ok (.iadd, 1) := by decide +kernel
theorem dX7_comes_64 : decode cX7_comes 64 = .ok (.istore 7, 2) := by decide +kernel
theorem dX7_comes_66 : decode cX7_comes 66 = .ok (.iload_n 2, 1) := by decide +kernel
theorem dX7_comes_67 : decode cX7_comes 67 = .ok (.bipush 10, 2) := by decide +kernel
theorem dX7_comes_69 : decode cX7_comes 69 = .ok (.iload 7, 2) := by decide +kernel
theorem dX7_comes_71 : decode cX7_comes 71 = .ok (.imul, 1) := by decide +kernel
theorem dX7_comes_72 : decode cX7_comes 72 = .ok (.iadd, 1) := by decide +kernel
theorem dX7_comes_73 : decode cX7_comes 73 = .ok (.istore_n 2, 1) := by decide +kernel
theorem dX7_comes_74 : decode cX7_comes 74 = .ok (.iload_n 3, 1) := by decide +kernel
theorem dX7_comes_75 : decode cX7_comes 75 = .ok (.bipush 10, 2) := by decide +kernel
theorem dX7_comes_77 : decode cX7_comes 77 = .ok (.iload 7, 2) := by decide +kernel
theorem dX7_comes_79 : decode cX7_comes 79 = .ok (.imul, 1) := by decide +kernel
theorem dX7_comes_80 : decode cX7_comes 80 = .ok (.aload_n 0, 1) := by decide +kernel
theorem dX7_comes_81 : decode cX7_comes 81 = .ok (.iload 4, 2) := by decide +kernel
theorem dX7_comes_83 : decode cX7_comes 83 = .ok (.iconst 2, 1) := by decide +kernel
theorem dX7_comes_84 : decode cX7_comes 84 = .ok (.invokevirtual 123, 3) := by decide +kernel
theorem dX7_comes_87 : decode cX7_comes 87 = .ok (.imul, 1) := by decide +kernel
theorem dX7_comes_88 : decode cX7_comes 88 = .ok (.iadd, 1) := by decide +kernel
theorem dX7_comes_89 : decode cX7_comes 89 = .ok (.istore_n 3, 1) := by decide +kernel
theorem dX7_comes_90 : decode cX7_comes 90 = .ok (.aload_n 0, 1) := by decide +kernel
theorem dX7_comes_91 : decode cX7_comes 91 = .ok (.iload_n 2, 1) := by decide +kernel
theorem dX7_comes_92 : decode cX7_comes 92 = .ok (.iload_n 3, 1) := by decide +kernel
theorem dX7_comes_93 : decode cX7_comes 93 = .ok (.invokevirtual 140, 3) := by decide +kernel
theorem dX7_comes_96 : decode cX7_comes 96 = .ok (.ifCond .ne 6, 3) := by decide +kernel
theorem dX7_comes_99 : decode cX7_comes 99 = .ok (.iload 4, 2) := by decide +kernel
theorem dX7_comes_101 : decode cX7_comes 101 = .ok (.ireturn, 1) := by decide +kernel
theorem dX7_comes_102 : decode cX7_comes 102 = .ok (.iinc 4 1, 3) := by decide +kernel
theorem dX7_comes_105 : decode cX7_comes 105 = .ok (.goto (-98), 3) := by decide +kernel
theorem dX7_comes_108 : decode cX7_comes 108 = .ok (.aload_n 0, 1) := by decide +kernel
theorem dX7_comes_109 : decode cX7_comes 109 = .ok (.getfield 17, 3) := by decide +kernel
theorem dX7_comes_112 : decode cX7_comes 112 = .ok (.iconst 0, 1) := by decide +kernel
theorem dX7_comes_113 : decode cX7_comes 113 = .ok (.iaload, 1) := by decide +kernel
theorem dX7_comes_114 : decode cX7_comes 114 = .ok (.ireturn, 1) := by decide +kernel
theorem dX7_isSeed_0 : decode cX7_isSeed 0 = .ok (.iload_n 0, 1) := by decide +kernel
theorem dX7_isSeed_1 : decode cX7_isSeed 1 = .ok (.i2l, 1) := by decide +kernel
theorem dX7_isSeed_2 : decode cX7_isSeed 2 = .ok (.lconst 0, 1) := by decide +kernel
theorem dX7_isSeed_3 : decode cX7_isSeed 3 = .ok (.ldc2_w 215, 3) := by decide +kernel
theorem dX7_isSeed_6 : decode cX7_isSeed 6 = .ok (.invokestatic 77, 3) := by decide +kernel
theorem dX7_isSeed_9 : decode cX7_isSeed 9 = .ok (.ireturn, 1) := by decide +kernel
theorem dX7_winter_0 : decode cX7_winter 0 = .ok (.iload_n 1, 1) := by decide +kernel
theorem dX7_winter_1 : decode cX7_winter 1 = .ok (.invokestatic 217, 3) := by decide +kernel
theorem dX7_winter_4 : decode cX7_winter 4 = .ok (.ifCond .eq 11, 3) := by decide +kernel
theorem dX7_winter_7 : decode cX7_winter 7 = .ok (.aload_n 0, 1) := by decide +kernel
theorem dX7_winter_8 : decode cX7_winter 8 = .ok (.iload_n 1, 1) := by decide +kernel
theorem dX7_winter_9 : decode cX7_winter 9 = .ok (.invokevirtual 220, 3) := by decide +kernel
theorem dX7_winter_12 : decode cX7_winter 12 = .ok (.goto 4, 3) := by decide +kernel
theorem dX7_winter_15 : decode cX7_winter 15 = .ok (.iconst (-1), 1) := by decide +kernel
theorem dX7_winter_16 : decode cX7_winter 16 = .ok (.ireturn, 1) := by decide +kernel
theorem dX7_ten_0 : decode cX7_ten 0 = .ok (.iload_n 1, 1) := by decide +kernel
theorem dX7_ten_1 : decode cX7_ten 1 = .ok (.invokestatic 217, 3) := by decide +kernel
theorem dX7_ten_4 : decode cX7_ten 4 = .ok (.ifCond .ne 5, 3) := by decide +kernel
theorem dX7_ten_7 : decode cX7_ten 7 = .ok (.iconst (-1), 1) := by decide +kernel
theorem dX7_ten_8 : decode cX7_ten 8 = .ok (.ireturn, 1) := by decide +kernel
theorem dX7_ten_9 : decode cX7_ten 9 = .ok (.iconst 0, 1) := by decide +kernel
theorem dX7_ten_10 : decode cX7_ten 10 = .ok (.istore_n 2, 1) := by decide +kernel
theorem dX7_ten_11 : decode cX7_ten 11 = .ok (.iconst 0, 1) := by decide +kernel
theorem dX7_ten_12 : decode cX7_ten 12 = .ok (.istore_n 3, 1) := by decide +kernel
theorem dX7_ten_13 : decode cX7_ten 13 = .ok (.iload_n 3, 1) := by decide +kernel
theorem dX7_ten_14 : decode cX7_ten 14 = .ok (.bipush 10, 2) := by decide +kernel
theorem dX7_ten_16 : decode cX7_ten 16 = .ok (.if_icmp .ge 37, 3) := by decide +kernel
theorem dX7_ten_19 : decode cX7_ten 19 = .ok (.iload_n 2, 1) := by decide +kernel
theorem dX7_ten_20 : decode cX7_ten 20 = .ok (.aload_n 0, 1) := by decide +kernel
theorem dX7_ten_21 : decode cX7_ten 21 = .ok (.iload_n 1, 1) := by decide +kernel
theorem dX7_ten_22 : decode cX7_ten 22 = .ok (.iload_n 3, 1) := by decide +kernel
theorem dX7_ten_23 : decode cX7_ten 23 = .ok (.iadd, 1) := by decide +kernel
theorem dX7_ten_24 : decode cX7_ten 24 = .ok (.sipush 10000, 3) := by decide +kernel
theorem dX7_ten_27 : decode cX7_ten 27 = .ok (.irem, 1) := by decide +kernel
theorem dX7_ten_28 : decode cX7_ten 28 = .ok (.invokevirtual 220, 3) := by decide +kernel
theorem dX7_ten_31 : decode cX7_ten 31 = .ok (.aload_n 0, 1) := by decide +kernel
theorem dX7_ten_32 : decode cX7_ten 32 = .ok (.getfield 17, 3) := by decide +kernel
theorem dX7_ten_35 : decode cX7_ten 35 = .ok (.iconst 0, 1) := by decide +kernel
theorem dX7_ten_36 : decode cX7_ten 36 = .ok (.iaload, 1) := by decide +kernel
theorem dX7_ten_37 : decode cX7_ten 37 = .ok (.if_icmp .ne 7, 3) := by decide +kernel
theorem dX7_ten_40 : decode cX7_ten 40 = .ok (.iconst 1, 1) := by decide +kernel
theorem dX7_ten_41 : decode cX7_ten 41 = .ok (.goto 4, 3) := by decide +kernel
theorem dX7_ten_44 : decode cX7_ten 44 = .ok (.iconst 0, 1) := by decide +kernel
theorem dX7_ten_45 : decode cX7_ten 45 = .ok (.iadd, 1) := by decide +kernel
theorem dX7_ten_46 : decode cX7_ten 46 = .ok (.istore_n 2, 1) := by decide +kernel
theorem dX7_ten_47 : decode cX7_ten 47 = .ok (.iinc 3 1, 3) := by decide +kernel
theorem dX7_ten_50 : decode cX7_ten 50 = .ok (.goto (-37), 3) := by decide +kernel
theorem dX7_ten_53 : decode cX7_ten 53 = .ok (.iload_n 2, 1) := by decide +kernel
theorem dX7_ten_54 : decode cX7_ten 54 = .ok (.ireturn, 1) := by decide +kernel
theorem dX7_copies_0 : decode cX7_copies 0 = .ok (.aload_n 0, 1) := by decide +kernel
theorem dX7_copies_1 : decode cX7_copies 1 = .ok (.getfield 26, 3) := by decide +kernel
theorem dX7_copies_4 : decode cX7_copies 4 = .ok (.iload_n 2, 1) := by decide +kernel
theorem dX7_copies_5 : decode cX7_copies 5 = .ok (.aload_n 0, 1) := by decide +kernel
theorem dX7_copies_6 : decode cX7_copies 6 = .ok (.getfield 26, 3) := by decide +kernel
theorem dX7_copies_9 : decode cX7_copies 9 = .ok (.iload_n 1, 1) := by decide +kernel
theorem dX7_copies_10 : decode cX7_copies 10 = .ok (.iaload, 1) := by decide +kernel
theorem dX7_copies_11 : decode cX7_copies 11 = .ok (.iastore, 1) := by decide +kernel
theorem dX7_copies_12 : decode cX7_copies 12 = .ok (.aload_n 0, 1) := by decide +kernel
theorem dX7_copies_13 : decode cX7_copies 13 = .ok (.getfield 35, 3) := by decide +kernel
theorem dX7_copies_16 : decode cX7_copies 16 = .ok (.iload_n 2, 1) := by decide +kernel
theorem dX7_copies_17 : decode cX7_copies 17 = .ok (.aload_n 0, 1) := by decide +kernel
theorem dX7_copies_18 : decode cX7_copies 18 = .ok (.getfield 35, 3) := by decide +kernel
theorem dX7_copies_21 : decode cX7_copies 21 = .ok (.iload_n 1, 1) := by decide +kernel
theorem dX7_copies_22 : decode cX7_copies 22 = .ok (.laload, 1) := by decide +kernel
theorem dX7_copies_23 : decode cX7_copies 23 = .ok (.lastore, 1) := by decide +kernel
theorem dX7_copies_24 : decode cX7_copies 24 = .ok (.aload_n 0, 1) := by decide +kernel
theorem dX7_copies_25 : decode cX7_copies 25 = .ok (.getfield 39, 3) := by decide +kernel
theorem dX7_copies_28 : decode cX7_copies 28 = .ok (.iload_n 2, 1) := by decide +kernel
theorem dX7_copies_29 : decode cX7_copies 29 = .ok (.aload_n 0, 1) := by decide +kernel
theorem dX7_copies_30 : decode cX7_copies 30 = .ok (.getfield 39, 3) := by decide +kernel
theorem dX7_copies_33 : decode cX7_copies 33 = .ok (.iload_n 1, 1) := by decide +kernel
theorem dX7_copies_34 : decode cX7_copies 34 = .ok (.iaload, 1) := by decide +kernel
theorem dX7_copies_35 : decode cX7_copies 35 = .ok (.iastore, 1) := by decide +kernel
theorem dX7_copies_36 : decode cX7_copies 36 = .ok (.iconst 0, 1) := by decide +kernel
theorem dX7_copies_37 : decode cX7_copies 37 = .ok (.istore_n 3, 1) := by decide +kernel
theorem dX7_copies_38 : decode cX7_copies 38 = .ok (.iload_n 3, 1) := by decide +kernel
theorem dX7_copies_39 : decode cX7_copies 39 = .ok (.bipush 24, 2) := by decide +kernel
theorem dX7_copies_41 : decode cX7_copies 41 = .ok (.if_icmp .ge 81, 3) := by decide +kernel
theorem dX7_copies_44 : decode cX7_copies 44 = .ok (.aload_n 0, 1) := by decide +kernel
theorem dX7_copies_45 : decode cX7_copies 45 = .ok (.getfield 42, 3) := by decide +kernel
theorem dX7_copies_48 : decode cX7_copies 48 = .ok (.bipush 24, 2) := by decide +kernel
theorem dX7_copies_50 : decode cX7_copies 50 = .ok (.iload_n 2, 1) := by decide +kernel
theorem dX7_copies_51 : decode cX7_copies 51 = .ok (.imul, 1) := by decide +kernel
theorem dX7_copies_52 : decode cX7_copies 52 = .ok (.iload_n 3, 1) := by decide +kernel
theorem dX7_copies_53 : decode cX7_copies 53 = .ok (.iadd, 1) := by decide +kernel
theorem dX7_copies_54 : decode cX7_copies 54 = .ok (.aload_n 0, 1) := by decide +kernel
theorem dX7_copies_55 : decode cX7_copies 55 = .ok (.getfield 42, 3) := by decide +kernel
theorem dX7_copies_58 : decode cX7_copies 58 = .ok (.bipush 24, 2) := by decide +kernel
theorem dX7_copies_60 : decode cX7_copies 60 = .ok (.iload_n 1, 1) := by decide +kernel
theorem dX7_copies_61 : decode cX7_copies 61 = .ok (.imul, 1) := by decide +kernel
theorem dX7_copies_62 : decode cX7_copies 62 = .ok (.iload_n 3, 1) := by decide +kernel
theorem dX7_copies_63 : decode cX7_copies 63 = .ok (.iadd, 1) := by decide +kernel
theorem dX7_copies_64 : decode cX7_copies 64 = .ok (.iaload, 1) := by decide +kernel
theorem dX7_copies_65 : decode cX7_copies 65 = .ok (.iastore, 1) := by decide +kernel
theorem dX7_copies_66 : decode cX7_copies 66 = .ok (.iload_n 3, 1) := by decide +kernel
theorem dX7_copies_67 : decode cX7_copies 67 = .ok (.bipush 12, 2) := by decide +kernel
theorem dX7_copies_69 : decode cX7_copies 69 = .ok (.if_icmp .ge 47, 3) := by decide +kernel
theorem dX7_copies_72 : decode cX7_copies 72 = .ok (.aload_n 0, 1) := by decide +kernel
theorem dX7_copies_73 : decode cX7_copies 73 = .ok (.getfield 29, 3) := by decide +kernel
theorem dX7_copies_76 : decode cX7_copies 76 = .ok (.bipush 12, 2) := by decide +kernel
theorem dX7_copies_78 : decode cX7_copies 78 = .ok (.iload_n 2, 1) := by decide +kernel
theorem dX7_copies_79 : decode cX7_copies 79 = .ok (.imul, 1) := by decide +kernel
theorem dX7_copies_80 : decode cX7_copies 80 = .ok (.iload_n 3, 1) := by decide +kernel
theorem dX7_copies_81 : decode cX7_copies 81 = .ok (.iadd, 1) := by decide +kernel
theorem dX7_copies_82 : decode cX7_copies 82 = .ok (.aload_n 0, 1) := by decide +kernel
theorem dX7_copies_83 : decode cX7_copies 83 = .ok (.getfield 29, 3) := by decide +kernel
theorem dX7_copies_86 : decode cX7_copies 86 = .ok (.bipush 12, 2) := by decide +kernel
theorem dX7_copies_88 : decode cX7_copies 88 = .ok (.iload_n 1, 1) := by decide +kernel
theorem dX7_copies_89 : decode cX7_copies 89 = .ok (.imul, 1) := by decide +kernel
theorem dX7_copies_90 : decode cX7_copies 90 = .ok (.iload_n 3, 1) := by decide +kernel
theorem dX7_copies_91 : decode cX7_copies 91 = .ok (.iadd, 1) := by decide +kernel
theorem dX7_copies_92 : decode cX7_copies 92 = .ok (.iaload, 1) := by decide +kernel
theorem dX7_copies_93 : decode cX7_copies 93 = .ok (.iastore, 1) := by decide +kernel
theorem dX7_copies_94 : decode cX7_copies 94 = .ok (.aload_n 0, 1) := by decide +kernel
theorem dX7_copies_95 : decode cX7_copies 95 = .ok (.getfield 32, 3) := by decide +kernel
theorem dX7_copies_98 : decode cX7_copies 98 = .ok (.bipush 12, 2) := by decide +kernel
theorem dX7_copies_100 : decode cX7_copies 100 = .ok (.iload_n 2, 1) := by decide +kernel
theorem dX7_copies_101 : decode cX7_copies 101 = .ok (.imul, 1) := by decide +kernel
theorem dX7_copies_102 : decode cX7_copies 102 = .ok (.iload_n 3, 1) := by decide +kernel
theorem dX7_copies_103 : decode cX7_copies 103 = .ok (.iadd, 1) := by decide +kernel
theorem dX7_copies_104 : decode cX7_copies 104 = .ok (.aload_n 0, 1) := by decide +kernel
theorem dX7_copies_105 : decode cX7_copies 105 = .ok (.getfield 32, 3) := by decide +kernel
theorem dX7_copies_108 : decode cX7_copies 108 = .ok (.bipush 12, 2) := by decide +kernel
theorem dX7_copies_110 : decode cX7_copies 110 = .ok (.iload_n 1, 1) := by decide +kernel
theorem dX7_copies_111 : decode cX7_copies 111 = .ok (.imul, 1) := by decide +kernel
theorem dX7_copies_112 : decode cX7_copies 112 = .ok (.iload_n 3, 1) := by decide +kernel
theorem dX7_copies_113 : decode cX7_copies 113 = .ok (.iadd, 1) := by decide +kernel
theorem dX7_copies_114 : decode cX7_copies 114 = .ok (.iaload, 1) := by decide +kernel
theorem dX7_copies_115 : decode cX7_copies 115 = .ok (.iastore, 1) := by decide +kernel
theorem dX7_copies_116 : decode cX7_copies 116 = .ok (.iinc 3 1, 3) := by decide +kernel
theorem dX7_copies_119 : decode cX7_copies 119 = .ok (.goto (-81), 3) := by decide +kernel
theorem dX7_copies_122 : decode cX7_copies 122 = .ok (.return_, 1) := by decide +kernel
theorem dX7_keep_0 : decode cX7_keep 0 = .ok (.aload_n 0, 1) := by decide +kernel
theorem dX7_keep_1 : decode cX7_keep 1 = .ok (.getfield 113, 3) := by decide +kernel
theorem dX7_keep_4 : decode cX7_keep 4 = .ok (.iconst 2, 1) := by decide +kernel
theorem dX7_keep_5 : decode cX7_keep 5 = .ok (.if_icmp .ne 6, 3) := by decide +kernel
theorem dX7_keep_8 : decode cX7_keep 8 = .ok (.bipush (-3), 2) := by decide +kernel
theorem dX7_keep_10 : decode cX7_keep 10 = .ok (.ireturn, 1) := by decide +kernel
theorem dX7_keep_11 : decode cX7_keep 11 = .ok (.aload_n 0, 1) := by decide +kernel
theorem dX7_keep_12 : decode cX7_keep 12 = .ok (.dup, 1) := by decide +kernel
theorem dX7_keep_13 : decode cX7_keep 13 = .ok (.getfield 113, 3) := by decide +kernel
theorem dX7_keep_16 : decode cX7_keep 16 = .ok (.iconst 1, 1) := by decide +kernel
theorem dX7_keep_17 : decode cX7_keep 17 = .ok (.iadd, 1) := by decide +kernel
theorem dX7_keep_18 : decode cX7_keep 18 = .ok (.putfield 113, 3) := by decide +kernel
theorem dX7_keep_21 : decode cX7_keep 21 = .ok (.aload_n 0, 1) := by decide +kernel
theorem dX7_keep_22 : decode cX7_keep 22 = .ok (.iconst 0, 1) := by decide +kernel
theorem dX7_keep_23 : decode cX7_keep 23 = .ok (.aload_n 0, 1) := by decide +kernel
theorem dX7_keep_24 : decode cX7_keep 24 = .ok (.getfield 113, 3) := by decide +kernel
theorem dX7_keep_27 : decode cX7_keep 27 = .ok (.invokevirtual 223, 3) := by decide +kernel
theorem dX7_keep_30 : decode cX7_keep 30 = .ok (.aload_n 0, 1) := by decide +kernel
theorem dX7_keep_31 : decode cX7_keep 31 = .ok (.getfield 113, 3) := by decide +kernel
theorem dX7_keep_34 : decode cX7_keep 34 = .ok (.ireturn, 1) := by decide +kernel
theorem dX7_back_0 : decode cX7_back 0 = .ok (.aload_n 0, 1) := by decide +kernel
theorem dX7_back_1 : decode cX7_back 1 = .ok (.getfield 113, 3) := by decide +kernel
theorem dX7_back_4 : decode cX7_back 4 = .ok (.ifCond .ne 6, 3) := by decide +kernel
theorem dX7_back_7 : decode cX7_back 7 = .ok (.bipush (-2), 2) := by decide +kernel
theorem dX7_back_9 : decode cX7_back 9 = .ok (.ireturn, 1) := by decide +kernel
theorem dX7_back_10 : decode cX7_back 10 = .ok (.aload_n 0, 1) := by decide +kernel
theorem dX7_back_11 : decode cX7_back 11 = .ok (.aload_n 0, 1) := by decide +kernel
theorem dX7_back_12 : decode cX7_back 12 = .ok (.getfield 113, 3) := by decide +kernel
theorem dX7_back_15 : decode cX7_back 15 = .ok (.iconst 0, 1) := by decide +kernel
theorem dX7_back_16 : decode cX7_back 16 = .ok (.invokevirtual 223, 3) := by decide +kernel
theorem dX7_back_19 : decode cX7_back 19 = .ok (.aload_n 0, 1) := by decide +kernel
theorem dX7_back_20 : decode cX7_back 20 = .ok (.dup, 1) := by decide +kernel
theorem dX7_back_21 : decode cX7_back 21 = .ok (.getfield 113, 3) := by decide +kernel
theorem dX7_back_24 : decode cX7_back 24 = .ok (.iconst 1, 1) := by decide +kernel
theorem dX7_back_25 : decode cX7_back 25 = .ok (.isub, 1) := by decide +kernel
theorem dX7_back_26 : decode cX7_back 26 = .ok (.putfield 113, 3) := by decide +kernel
theorem dX7_back_29 : decode cX7_back 29 = .ok (.aload_n 0, 1) := by decide +kernel
theorem dX7_back_30 : decode cX7_back 30 = .ok (.getfield 113, 3) := by decide +kernel
theorem dX7_back_33 : decode cX7_back 33 = .ok (.ireturn, 1) := by decide +kernel
theorem dX7_count_0 : decode cX7_count 0 = .ok (.iload_n 1, 1) := by decide +kernel
theorem dX7_count_1 : decode cX7_count 1 = .ok (.tableswitch 105 0 8 #[51, 58, 65, 70, 75, 83, 90, 95, 100], 51) := by decide +kernel
theorem dX7_count_52 : decode cX7_count 52 = .ok (.aload_n 0, 1) := by decide +kernel
theorem dX7_count_53 : decode cX7_count 53 = .ok (.getfield 17, 3) := by decide +kernel
theorem dX7_count_56 : decode cX7_count 56 = .ok (.iconst 0, 1) := by decide +kernel
theorem dX7_count_57 : decode cX7_count 57 = .ok (.iaload, 1) := by decide +kernel
theorem dX7_count_58 : decode cX7_count 58 = .ok (.ireturn, 1) := by decide +kernel
theorem dX7_count_59 : decode cX7_count 59 = .ok (.aload_n 0, 1) := by decide +kernel
theorem dX7_count_60 : decode cX7_count 60 = .ok (.getfield 26, 3) := by decide +kernel
theorem dX7_count_63 : decode cX7_count 63 = .ok (.iconst 0, 1) := by decide +kernel
theorem dX7_count_64 : decode cX7_count 64 = .ok (.iaload, 1) := by decide +kernel
theorem dX7_count_65 : decode cX7_count 65 = .ok (.ireturn, 1) := by decide +kernel
theorem dX7_count_66 : decode cX7_count 66 = .ok (.aload_n 0, 1) := by decide +kernel
theorem dX7_count_67 : decode cX7_count 67 = .ok (.invokevirtual 134, 3) := by decide +kernel
theorem dX7_count_70 : decode cX7_count 70 = .ok (.ireturn, 1) := by decide +kernel
theorem dX7_count_71 : decode cX7_count 71 = .ok (.aload_n 0, 1) := by decide +kernel
theorem dX7_count_72 : decode cX7_count 72 = .ok (.invokevirtual 137, 3) := by decide +kernel
theorem dX7_count_75 : decode cX7_count 75 = .ok (.ireturn, 1) := by decide +kernel
theorem dX7_count_76 : decode cX7_count 76 = .ok (.aload_n 0, 1) := by decide +kernel
theorem dX7_count_77 : decode cX7_count 77 = .ok (.getfield 35, 3) := by decide +kernel
theorem dX7_count_80 : decode cX7_count 80 = .ok (.iconst 0, 1) := by decide +kernel
theorem dX7_count_81 : decode cX7_count 81 = .ok (.laload, 1) := by decide +kernel
theorem dX7_count_82 : decode cX7_count 82 = .ok (.l2i, 1) := by decide +kernel
theorem dX7_count_83 : decode cX7_count 83 = .ok (.ireturn, 1) := by decide +kernel
theorem dX7_count_84 : decode cX7_count 84 = .ok (.aload_n 0, 1) := by decide +kernel
theorem dX7_count_85 : decode cX7_count 85 = .ok (.getfield 39, 3) := by decide +kernel
theorem dX7_count_88 : decode cX7_count 88 = .ok (.iconst 0, 1) := by decide +kernel
theorem dX7_count_89 : decode cX7_count 89 = .ok (.iaload, 1) := by decide +kernel
theorem dX7_count_90 : decode cX7_count 90 = .ok (.ireturn, 1) := by decide +kernel
theorem dX7_count_91 : decode cX7_count 91 = .ok (.aload_n 0, 1) := by decide +kernel
theorem dX7_count_92 : decode cX7_count 92 = .ok (.getfield 110, 3) := by decide +kernel
theorem dX7_count_95 : decode cX7_count 95 = .ok (.ireturn, 1) := by decide +kernel
theorem dX7_count_96 : decode cX7_count 96 = .ok (.aload_n 0, 1) := by decide +kernel
theorem dX7_count_97 : decode cX7_count 97 = .ok (.getfield 113, 3) := by decide +kernel
theorem dX7_count_100 : decode cX7_count 100 = .ok (.ireturn, 1) := by decide +kernel
theorem dX7_count_101 : decode cX7_count 101 = .ok (.aload_n 0, 1) := by decide +kernel
theorem dX7_count_102 : decode cX7_count 102 = .ok (.getfield 81, 3) := by decide +kernel
theorem dX7_count_105 : decode cX7_count 105 = .ok (.ireturn, 1) := by decide +kernel
theorem dX7_count_106 : decode cX7_count 106 = .ok (.iconst (-1), 1) := by decide +kernel
theorem dX7_count_107 : decode cX7_count 107 = .ok (.ireturn, 1) := by decide +kernel
theorem dJ9_abs_0f7a4_0 : decode cJ9_abs_0f7a4 0 = .ok (.iload_n 0, 1) := by decide +kernel
theorem dJ9_abs_0f7a4_1 : decode cJ9_abs_0f7a4 1 = .ok (.ifCond .ge 8, 3) := by decide +kernel
theorem dJ9_abs_0f7a4_4 : decode cJ9_abs_0f7a4 4 = .ok (.iload_n 0, 1) := by decide +kernel
theorem dJ9_abs_0f7a4_5 : decode cJ9_abs_0f7a4 5 = .ok (.ineg, 1) := by decide +kernel
theorem dJ9_abs_0f7a4_6 : decode cJ9_abs_0f7a4 6 = .ok (.goto 4, 3) := by decide +kernel
theorem dJ9_abs_0f7a4_9 : decode cJ9_abs_0f7a4 9 = .ok (.iload_n 0, 1) := by decide +kernel
theorem dJ9_abs_0f7a4_10 : decode cJ9_abs_0f7a4 10 = .ok (.ireturn, 1) := by decide +kernel
theorem dJ9_max_7cf53_0 : decode cJ9_max_7cf53 0 = .ok (.iload_n 0, 1) := by decide +kernel
theorem dJ9_max_7cf53_1 : decode cJ9_max_7cf53 1 = .ok (.iload_n 1, 1) := by decide +kernel
theorem dJ9_max_7cf53_2 : decode cJ9_max_7cf53 2 = .ok (.if_icmp .lt 7, 3) := by decide +kernel
theorem dJ9_max_7cf53_5 : decode cJ9_max_7cf53 5 = .ok (.iload_n 0, 1) := by decide +kernel
theorem dJ9_max_7cf53_6 : decode cJ9_max_7cf53 6 = .ok (.goto 4, 3) := by decide +kernel
theorem dJ9_max_7cf53_9 : decode cJ9_max_7cf53 9 = .ok (.iload_n 1, 1) := by decide +kernel
theorem dJ9_max_7cf53_10 : decode cJ9_max_7cf53 10 = .ok (.ireturn, 1) := by decide +kernel
theorem dJ9_min_7cf53_0 : decode cJ9_min_7cf53 0 = .ok (.iload_n 0, 1) := by decide +kernel
theorem dJ9_min_7cf53_1 : decode cJ9_min_7cf53 1 = .ok (.iload_n 1, 1) := by decide +kernel
theorem dJ9_min_7cf53_2 : decode cJ9_min_7cf53 2 = .ok (.if_icmp .gt 7, 3) := by decide +kernel
theorem dJ9_min_7cf53_5 : decode cJ9_min_7cf53 5 = .ok (.iload_n 0, 1) := by decide +kernel
theorem dJ9_min_7cf53_6 : decode cJ9_min_7cf53 6 = .ok (.goto 4, 3) := by decide +kernel
theorem dJ9_min_7cf53_9 : decode cJ9_min_7cf53 9 = .ok (.iload_n 1, 1) := by decide +kernel
theorem dJ9_min_7cf53_10 : decode cJ9_min_7cf53 10 = .ok (.ireturn, 1) := by decide +kernel
theorem dJ7_fill_53178_0 : decode cJ7_fill_53178 0 = .ok (.iconst 0, 1) := by decide +kernel
theorem dJ7_fill_53178_1 : decode cJ7_fill_53178 1 = .ok (.istore_n 2, 1) := by decide +kernel
theorem dJ7_fill_53178_2 : decode cJ7_fill_53178 2 = .ok (.aload_n 0, 1) := by decide +kernel
theorem dJ7_fill_53178_3 : decode cJ7_fill_53178 3 = .ok (.arraylength, 1) := by decide +kernel
theorem dJ7_fill_53178_4 : decode cJ7_fill_53178 4 = .ok (.istore_n 3, 1) := by decide +kernel
theorem dJ7_fill_53178_5 : decode cJ7_fill_53178 5 = .ok (.iload_n 2, 1) := by decide +kernel
theorem dJ7_fill_53178_6 : decode cJ7_fill_53178 6 = .ok (.iload_n 3, 1) := by decide +kernel
theorem dJ7_fill_53178_7 : decode cJ7_fill_53178 7 = .ok (.if_icmp .ge 13, 3) := by decide +kernel
theorem dJ7_fill_53178_10 : decode cJ7_fill_53178 10 = .ok (.aload_n 0, 1) := by decide +kernel
theorem dJ7_fill_53178_11 : decode cJ7_fill_53178 11 = .ok (.iload_n 2, 1) := by decide +kernel
theorem dJ7_fill_53178_12 : decode cJ7_fill_53178 12 = .ok (.iload_n 1, 1) := by decide +kernel
theorem dJ7_fill_53178_13 : decode cJ7_fill_53178 13 = .ok (.iastore, 1) := by decide +kernel
theorem dJ7_fill_53178_14 : decode cJ7_fill_53178 14 = .ok (.iinc 2 1, 3) := by decide +kernel
theorem dJ7_fill_53178_17 : decode cJ7_fill_53178 17 = .ok (.goto (-12), 3) := by decide +kernel
theorem dJ7_fill_53178_20 : decode cJ7_fill_53178 20 = .ok (.return_, 1) := by decide +kernel
theorem dL_law_0 : decode cL_law 0 = .ok (.new 7, 3) := by decide +kernel
theorem dL_law_3 : decode cL_law 3 = .ok (.dup, 1) := by decide +kernel
theorem dL_law_4 : decode cL_law 4 = .ok (.invokespecial 9, 3) := by decide +kernel
theorem dL_law_7 : decode cL_law 7 = .ok (.astore_n 1, 1) := by decide +kernel
theorem dL_law_8 : decode cL_law 8 = .ok (.new 10, 3) := by decide +kernel
theorem dL_law_11 : decode cL_law 11 = .ok (.dup, 1) := by decide +kernel
theorem dL_law_12 : decode cL_law 12 = .ok (.invokespecial 12, 3) := by decide +kernel
theorem dL_law_15 : decode cL_law 15 = .ok (.astore_n 2, 1) := by decide +kernel
theorem dL_law_16 : decode cL_law 16 = .ok (.iconst 0, 1) := by decide +kernel
theorem dL_law_17 : decode cL_law 17 = .ok (.istore_n 3, 1) := by decide +kernel
theorem dL_law_18 : decode cL_law 18 = .ok (.iload_n 3, 1) := by decide +kernel
theorem dL_law_19 : decode cL_law 19 = .ok (.aload_n 0, 1) := by decide +kernel
theorem dL_law_20 : decode cL_law 20 = .ok (.arraylength, 1) := by decide +kernel
theorem dL_law_21 : decode cL_law 21 = .ok (.iconst 5, 1) := by decide +kernel
theorem dL_law_22 : decode cL_law 22 = .ok (.isub, 1) := by decide +kernel
theorem dL_law_23 : decode cL_law 23 = .ok (.if_icmp .gt 865, 3) := by decide +kernel
theorem dL_law_26 : decode cL_law 26 = .ok (.aload_n 0, 1) := by decide +kernel
theorem dL_law_27 : decode cL_law 27 = .ok (.iload_n 3, 1) := by decide +kernel
theorem dL_law_28 : decode cL_law 28 = .ok (.iaload, 1) := by decide +kernel
theorem dL_law_29 : decode cL_law 29 = .ok (.bipush 31, 2) := by decide +kernel
theorem dL_law_31 : decode cL_law 31 = .ok (.iand, 1) := by decide +kernel
theorem dL_law_32 : decode cL_law 32 = .ok (.tableswitch 850 0 28 #[132, 195, 208, 221, 234, 267, 280, 313, 326, 349, 382, 415, 428, 461, 504, 557, 590, 613, 626, 639, 652, 675, 708, 731, 755, 778, 801, 814, 827], 132) := by decide +kernel
theorem dL_law_164 : decode cL_law 164 = .ok (.aload_n 1, 1) := by decide +kernel
theorem dL_law_165 : decode cL_law 165 = .ok (.aload_n 0, 1) := by decide +kernel
theorem dL_law_166 : decode cL_law 166 = .ok (.iload_n 3, 1) := by decide +kernel
theorem dL_law_167 : decode cL_law 167 = .ok (.iconst 1, 1) := by decide +kernel
theorem dL_law_168 : decode cL_law 168 = .ok (.iadd, 1) := by decide +kernel
theorem dL_law_169 : decode cL_law 169 = .ok (.iaload, 1) := by decide +kernel
theorem dL_law_170 : decode cL_law 170 = .ok (.aload_n 0, 1) := by decide +kernel
theorem dL_law_171 : decode cL_law 171 = .ok (.iload_n 3, 1) := by decide +kernel
theorem dL_law_172 : decode cL_law 172 = .ok (.iconst 2, 1) := by decide +kernel
theorem dL_law_173 : decode cL_law 173 = .ok (.iadd, 1) := by decide +kernel
theorem dL_law_174 : decode cL_law 174 = .ok (.iaload, 1) := by decide +kernel
theorem dL_law_175 : decode cL_law 175 = .ok (.i2l, 1) := by decide +kernel
theorem dL_law_176 : decode cL_law 176 = .ok (.bipush 32, 2) := by decide +kernel
theorem dL_law_178 : decode cL_law 178 = .ok (.lshl, 1) := by decide +kernel
theorem dL_law_179 : decode cL_law 179 = .ok (.aload_n 0, 1) := by decide +kernel
theorem dL_law_180 : decode cL_law 180 = .ok (.iload_n 3, 1) := by decide +kernel
theorem dL_law_181 : decode cL_law 181 = .ok (.iconst 3, 1) := by decide +kernel
theorem dL_law_182 : decode cL_law 182 = .ok (.iadd, 1) := by decide +kernel
theorem dL_law_183 : decode cL_law 183 = .ok (.iaload, 1) := by decide +kernel
theorem dL_law_184 : decode cL_law 184 = .ok (.i2l, 1) := by decide +kernel
theorem dL_law_185 : decode cL_law 185 = .ok (.ldc2_w 13, 3) := by decide +kernel
theorem dL_law_188 : decode cL_law 188 = .ok (.land, 1) := by decide +kernel
theorem dL_law_189 : decode cL_law 189 = .ok (.lor, 1) := by decide +kernel
theorem dL_law_190 : decode cL_law 190 = .ok (.invokevirtual 15, 3) := by decide +kernel
theorem dL_law_193 : decode cL_law 193 = .ok (.aload_n 2, 1) := by decide +kernel
theorem dL_law_194 : decode cL_law 194 = .ok (.aload_n 0, 1) := by decide +kernel
theorem dL_law_195 : decode cL_law 195 = .ok (.iload_n 3, 1) := by decide +kernel
theorem dL_law_196 : decode cL_law 196 = .ok (.iconst 1, 1) := by decide +kernel
theorem dL_law_197 : decode cL_law 197 = .ok (.iadd, 1) := by decide +kernel
theorem dL_law_198 : decode cL_law 198 = .ok (.iaload, 1) := by decide +kernel
theorem dL_law_199 : decode cL_law 199 = .ok (.aload_n 0, 1) := by decide +kernel
theorem dL_law_200 : decode cL_law 200 = .ok (.iload_n 3, 1) := by decide +kernel
theorem dL_law_201 : decode cL_law 201 = .ok (.iconst 2, 1) := by decide +kernel
theorem dL_law_202 : decode cL_law 202 = .ok (.iadd, 1) := by decide +kernel
theorem dL_law_203 : decode cL_law 203 = .ok (.iaload, 1) := by decide +kernel
theorem dL_law_204 : decode cL_law 204 = .ok (.i2l, 1) := by decide +kernel
theorem dL_law_205 : decode cL_law 205 = .ok (.bipush 32, 2) := by decide +kernel
theorem dL_law_207 : decode cL_law 207 = .ok (.lshl, 1) := by decide +kernel
theorem dL_law_208 : decode cL_law 208 = .ok (.aload_n 0, 1) := by decide +kernel
theorem dL_law_209 : decode cL_law 209 = .ok (.iload_n 3, 1) := by decide +kernel
theorem dL_law_210 : decode cL_law 210 = .ok (.iconst 3, 1) := by decide +kernel
theorem dL_law_211 : decode cL_law 211 = .ok (.iadd, 1) := by decide +kernel
theorem dL_law_212 : decode cL_law 212 = .ok (.iaload, 1) := by decide +kernel
theorem dL_law_213 : decode cL_law 213 = .ok (.i2l, 1) := by decide +kernel
theorem dL_law_214 : decode cL_law 214 = .ok (.ldc2_w 13, 3) := by decide +kernel
theorem dL_law_217 : decode cL_law 217 = .ok (.land, 1) := by decide +kernel
theorem dL_law_218 : decode cL_law 218 = .ok (.lor, 1) := by decide +kernel
theorem dL_law_219 : decode cL_law 219 = .ok (.invokevirtual 19, 3) := by decide +kernel
theorem dL_law_222 : decode cL_law 222 = .ok (.if_icmp .eq 660, 3) := by decide +kernel
theorem dL_law_225 : decode cL_law 225 = .ok (.iconst 0, 1) := by decide +kernel
theorem dL_law_226 : decode cL_law 226 = .ok (.ireturn, 1) := by decide +kernel
theorem dL_law_227 : decode cL_law 227 = .ok (.aload_n 1, 1) := by decide +kernel
theorem dL_law_228 : decode cL_law 228 = .ok (.invokevirtual 20, 3) := by decide +kernel
theorem dL_law_231 : decode cL_law 231 = .ok (.aload_n 2, 1) := by decide +kernel
theorem dL_law_232 : decode cL_law 232 = .ok (.invokevirtual 24, 3) := by decide +kernel
theorem dL_law_235 : decode cL_law 235 = .ok (.if_icmp .eq 647, 3) := by decide +kernel
theorem dL_law_238 : decode cL_law 238 = .ok (.iconst 0, 1) := by decide +kernel
theorem dL_law_239 : decode cL_law 239 = .ok (.ireturn, 1) := by decide +kernel
theorem dL_law_240 : decode cL_law 240 = .ok (.aload_n 1, 1) := by decide +kernel
theorem dL_law_241 : decode cL_law 241 = .ok (.invokevirtual 25, 3) := by decide +kernel
theorem dL_law_244 : decode cL_law 244 = .ok (.aload_n 2, 1) := by decide +kernel
theorem dL_law_245 : decode cL_law 245 = .ok (.invokevirtual 28, 3) := by decide +kernel
theorem dL_law_248 : decode cL_law 248 = .ok (.if_icmp .eq 634, 3) := by decide +kernel
theorem dL_law_251 : decode cL_law 251 = .ok (.iconst 0, 1) := by decide +kernel
theorem dL_law_252 : decode cL_law 252 = .ok (.ireturn, 1) := by decide +kernel
theorem dL_law_253 : decode cL_law 253 = .ok (.aload_n 1, 1) := by decide +kernel
theorem dL_law_254 : decode cL_law 254 = .ok (.invokevirtual 29, 3) := by decide +kernel
theorem dL_law_257 : decode cL_law 257 = .ok (.aload_n 2, 1) := by decide +kernel
theorem dL_law_258 : decode cL_law 258 = .ok (.invokevirtual 32, 3) := by decide +kernel
theorem dL_law_261 : decode cL_law 261 = .ok (.if_icmp .eq 621, 3) := by decide +kernel
theorem dL_law_264 : decode cL_law 264 = .ok (.iconst 0, 1) := by decide +kernel
theorem dL_law_265 : decode cL_law 265 = .ok (.ireturn, 1) := by decide +kernel
theorem dL_law_266 : decode cL_law 266 = .ok (.aload_n 1, 1) := by decide +kernel
theorem dL_law_267 : decode cL_law 267 = .ok (.aload_n 0, 1) := by decide +kernel
theorem dL_law_268 : decode cL_law 268 = .ok (.iload_n 3, 1) := by decide +kernel
theorem dL_law_269 : decode cL_law 269 = .ok (.iconst 1, 1) := by decide +kernel
theorem dL_law_270 : decode cL_law 270 = .ok (.iadd, 1) := by decide +kernel
theorem dL_law_271 : decode cL_law 271 = .ok (.iaload, 1) := by decide +kernel
theorem dL_law_272 : decode cL_law 272 = .ok (.aload_n 0, 1) := by decide +kernel
theorem dL_law_273 : decode cL_law 273 = .ok (.iload_n 3, 1) := by decide +kernel
theorem dL_law_274 : decode cL_law 274 = .ok (.iconst 2, 1) := by decide +kernel
theorem dL_law_275 : decode cL_law 275 = .ok (.iadd, 1) := by decide +kernel
theorem dL_law_276 : decode cL_law 276 = .ok (.iaload, 1) := by decide +kernel
theorem dL_law_277 : decode cL_law 277 = .ok (.invokevirtual 33, 3) := by decide +kernel
theorem dL_law_280 : decode cL_law 280 = .ok (.aload_n 2, 1) := by decide +kernel
theorem dL_law_281 : decode cL_law 281 = .ok (.aload_n 0, 1) := by decide +kernel
theorem dL_law_282 : decode cL_law 282 = .ok (.iload_n 3, 1) := by decide +kernel
theorem dL_law_283 : decode cL_law 283 = .ok (.iconst 1, 1) := by decide +kernel
theorem dL_law_284 : decode cL_law 284 = .ok (.iadd, 1) := by decide +kernel
theorem dL_law_285 : decode cL_law 285 = .ok (.iaload, 1) := by decide +kernel
theorem dL_law_286 : decode cL_law 286 = .ok (.aload_n 0, 1) := by decide +kernel
theorem dL_law_287 : decode cL_law 287 = .ok (.iload_n 3, 1) := by decide +kernel
theorem dL_law_288 : decode cL_law 288 = .ok (.iconst 2, 1) := by decide +kernel
theorem dL_law_289 : decode cL_law 289 = .ok (.iadd, 1) := by decide +kernel
theorem dL_law_290 : decode cL_law 290 = .ok (.iaload, 1) := by decide +kernel
theorem dL_law_291 : decode cL_law 291 = .ok (.invokevirtual 37, 3) := by decide +kernel
theorem dL_law_294 : decode cL_law 294 = .ok (.if_icmp .eq 588, 3) := by decide +kernel
theorem dL_law_297 : decode cL_law 297 = .ok (.iconst 0, 1) := by decide +kernel
theorem dL_law_298 : decode cL_law 298 = .ok (.ireturn, 1) := by decide +kernel
theorem dL_law_299 : decode cL_law 299 = .ok (.aload_n 1, 1) := by decide +kernel
theorem dL_law_300 : decode cL_law 300 = .ok (.invokevirtual 38, 3) := by decide +kernel
theorem dL_law_303 : decode cL_law 303 = .ok (.aload_n 2, 1) := by decide +kernel
theorem dL_law_304 : decode cL_law 304 = .ok (.invokevirtual 41, 3) := by decide +kernel
theorem dL_law_307 : decode cL_law 307 = .ok (.if_icmp .eq 575, 3) := by decide +kernel
theorem dL_law_310 : decode cL_law 310 = .ok (.iconst 0, 1) := by decide +kernel
theorem dL_law_311 : decode cL_law 311 = .ok (.ireturn, 1) := by decide +kernel
theorem dL_law_312 : decode cL_law 312 = .ok (.aload_n 1, 1) := by decide +kernel
theorem dL_law_313 : decode cL_law 313 = .ok (.aload_n 0, 1) := by decide +kernel
theorem dL_law_314 : decode cL_law 314 = .ok (.iload_n 3, 1) := by decide +kernel
theorem dL_law_315 : decode cL_law 315 = .ok (.iconst 1, 1) := by decide +kernel
theorem dL_law_316 : decode cL_law 316 = .ok (.iadd, 1) := by decide +kernel
theorem dL_law_317 : decode cL_law 317 = .ok (.iaload, 1) := by decide +kernel
theorem dL_law_318 : decode cL_law 318 = .ok (.aload_n 0, 1) := by decide +kernel
theorem dL_law_319 : decode cL_law 319 = .ok (.iload_n 3, 1) := by decide +kernel
theorem dL_law_320 : decode cL_law 320 = .ok (.iconst 2, 1) := by decide +kernel
theorem dL_law_321 : decode cL_law 321 = .ok (.iadd, 1) := by decide +kernel
theorem dL_law_322 : decode cL_law 322 = .ok (.iaload, 1) := by decide +kernel
theorem dL_law_323 : decode cL_law 323 = .ok (.invokevirtual 42, 3) := by decide +kernel
theorem dL_law_326 : decode cL_law 326 = .ok (.aload_n 2, 1) := by decide +kernel
theorem dL_law_327 : decode cL_law 327 = .ok (.aload_n 0, 1) := by decide +kernel
theorem dL_law_328 : decode cL_law 328 = .ok (.iload_n 3, 1) := by decide +kernel
theorem dL_law_329 : decode cL_law 329 = .ok (.iconst 1, 1) := by decide +kernel
theorem dL_law_330 : decode cL_law 330 = .ok (.iadd, 1) := by decide +kernel
theorem dL_law_331 : decode cL_law 331 = .ok (.iaload, 1) := by decide +kernel
theorem dL_law_332 : decode cL_law 332 = .ok (.aload_n 0, 1) := by decide +kernel
theorem dL_law_333 : decode cL_law 333 = .ok (.iload_n 3, 1) := by decide +kernel
theorem dL_law_334 : decode cL_law 334 = .ok (.iconst 2, 1) := by decide +kernel
theorem dL_law_335 : decode cL_law 335 = .ok (.iadd, 1) := by decide +kernel
theorem dL_law_336 : decode cL_law 336 = .ok (.iaload, 1) := by decide +kernel
theorem dL_law_337 : decode cL_law 337 = .ok (.invokevirtual 45, 3) := by decide +kernel
theorem dL_law_340 : decode cL_law 340 = .ok (.if_icmp .eq 542, 3) := by decide +kernel
theorem dL_law_343 : decode cL_law 343 = .ok (.iconst 0, 1) := by decide +kernel
theorem dL_law_344 : decode cL_law 344 = .ok (.ireturn, 1) := by decide +kernel
theorem dL_law_345 : decode cL_law 345 = .ok (.aload_n 1, 1) := by decide +kernel
theorem dL_law_346 : decode cL_law 346 = .ok (.invokevirtual 46, 3) := by decide +kernel
theorem dL_law_349 : decode cL_law 349 = .ok (.aload_n 2, 1) := by decide +kernel
theorem dL_law_350 : decode cL_law 350 = .ok (.invokevirtual 49, 3) := by decide +kernel
theorem dL_law_353 : decode cL_law 353 = .ok (.if_icmp .eq 529, 3) := by decide +kernel
theorem dL_law_356 : decode cL_law 356 = .ok (.iconst 0, 1) := by decide +kernel
theorem dL_law_357 : decode cL_law 357 = .ok (.ireturn, 1) := by decide +kernel
theorem dL_law_358 : decode cL_law 358 = .ok (.aload_n 1, 1) := by decide +kernel
theorem dL_law_359 : decode cL_law 359 = .ok (.aload_n 0, 1) := by decide +kernel
theorem dL_law_360 : decode cL_law 360 = .ok (.iload_n 3, 1) := by decide +kernel
theorem dL_law_361 : decode cL_law 361 = .ok (.iconst 1, 1) := by decide +kernel
theorem dL_law_362 : decode cL_law 362 = .ok (.iadd, 1) := by decide +kernel
theorem dL_law_363 : decode cL_law 363 = .ok (.iaload, 1) := by decide +kernel
theorem dL_law_364 : decode cL_law 364 = .ok (.invokevirtual 50, 3) := by decide +kernel
theorem dL_law_367 : decode cL_law 367 = .ok (.aload_n 2, 1) := by decide +kernel
theorem dL_law_368 : decode cL_law 368 = .ok (.aload_n 0, 1) := by decide +kernel
theorem dL_law_369 : decode cL_law 369 = .ok (.iload_n 3, 1) := by decide +kernel
theorem dL_law_370 : decode cL_law 370 = .ok (.iconst 1, 1) := by decide +kernel
theorem dL_law_371 : decode cL_law 371 = .ok (.iadd, 1) := by decide +kernel
theorem dL_law_372 : decode cL_law 372 = .ok (.iaload, 1) := by decide +kernel
theorem dL_law_373 : decode cL_law 373 = .ok (.invokevirtual 54, 3) := by decide +kernel
theorem dL_law_376 : decode cL_law 376 = .ok (.if_icmp .eq 506, 3) := by decide +kernel
theorem dL_law_379 : decode cL_law 379 = .ok (.iconst 0, 1) := by decide +kernel
theorem dL_law_380 : decode cL_law 380 = .ok (.ireturn, 1) := by decide +kernel
theorem dL_law_381 : decode cL_law 381 = .ok (.aload_n 1, 1) := by decide +kernel
theorem dL_law_382 : decode cL_law 382 = .ok (.aload_n 0, 1) := by decide +kernel
theorem dL_law_383 : decode cL_law 383 = .ok (.iload_n 3, 1) := by decide +kernel
theorem dL_law_384 : decode cL_law 384 = .ok (.iconst 1, 1) := by decide +kernel
theorem dL_law_385 : decode cL_law 385 = .ok (.iadd, 1) := by decide +kernel
theorem dL_law_386 : decode cL_law 386 = .ok (.iaload, 1) := by decide +kernel
theorem dL_law_387 : decode cL_law 387 = .ok (.aload_n 0, 1) := by decide +kernel
theorem dL_law_388 : decode cL_law 388 = .ok (.iload_n 3, 1) := by decide +kernel
theorem dL_law_389 : decode cL_law 389 = .ok (.iconst 2, 1) := by decide +kernel
theorem dL_law_390 : decode cL_law 390 = .ok (.iadd, 1) := by decide +kernel
theorem dL_law_391 : decode cL_law 391 = .ok (.iaload, 1) := by decide +kernel
theorem dL_law_392 : decode cL_law 392 = .ok (.invokevirtual 55, 3) := by decide +kernel
theorem dL_law_395 : decode cL_law 395 = .ok (.aload_n 2, 1) := by decide +kernel
theorem dL_law_396 : decode cL_law 396 = .ok (.aload_n 0, 1) := by decide +kernel
theorem dL_law_397 : decode cL_law 397 = .ok (.iload_n 3, 1) := by decide +kernel
theorem dL_law_398 : decode cL_law 398 = .ok (.iconst 1, 1) := by decide +kernel
theorem dL_law_399 : decode cL_law 399 = .ok (.iadd, 1) := by decide +kernel
theorem dL_law_400 : decode cL_law 400 = .ok (.iaload, 1) := by decide +kernel
theorem dL_law_401 : decode cL_law 401 = .ok (.aload_n 0, 1) := by decide +kernel
theorem dL_law_402 : decode cL_law 402 = .ok (.iload_n 3, 1) := by decide +kernel
theorem dL_law_403 : decode cL_law 403 = .ok (.iconst 2, 1) := by decide +kernel
theorem dL_law_404 : decode cL_law 404 = .ok (.iadd, 1) := by decide +kernel
theorem dL_law_405 : decode cL_law 405 = .ok (.iaload, 1) := by decide +kernel
theorem dL_law_406 : decode cL_law 406 = .ok (.invokevirtual 58, 3) := by decide +kernel
theorem dL_law_409 : decode cL_law 409 = .ok (.if_icmp .eq 473, 3) := by decide +kernel
theorem dL_law_412 : decode cL_law 412 = .ok (.iconst 0, 1) := by decide +kernel
theorem dL_law_413 : decode cL_law 413 = .ok (.ireturn, 1) := by decide +kernel
theorem dL_law_414 : decode cL_law 414 = .ok (.aload_n 1, 1) := by decide +kernel
theorem dL_law_415 : decode cL_law 415 = .ok (.aload_n 0, 1) := by decide +kernel
theorem dL_law_416 : decode cL_law 416 = .ok (.iload_n 3, 1) := by decide +kernel
theorem dL_law_417 : decode cL_law 417 = .ok (.iconst 1, 1) := by decide +kernel
theorem dL_law_418 : decode cL_law 418 = .ok (.iadd, 1) := by decide +kernel
theorem dL_law_419 : decode cL_law 419 = .ok (.iaload, 1) := by decide +kernel
theorem dL_law_420 : decode cL_law 420 = .ok (.aload_n 0, 1) := by decide +kernel
theorem dL_law_421 : decode cL_law 421 = .ok (.iload_n 3, 1) := by decide +kernel
theorem dL_law_422 : decode cL_law 422 = .ok (.iconst 2, 1) := by decide +kernel
theorem dL_law_423 : decode cL_law 423 = .ok (.iadd, 1) := by decide +kernel
theorem dL_law_424 : decode cL_law 424 = .ok (.iaload, 1) := by decide +kernel
theorem dL_law_425 : decode cL_law 425 = .ok (.invokevirtual 59, 3) := by decide +kernel
theorem dL_law_428 : decode cL_law 428 = .ok (.aload_n 2, 1) := by decide +kernel
theorem dL_law_429 : decode cL_law 429 = .ok (.aload_n 0, 1) := by decide +kernel
theorem dL_law_430 : decode cL_law 430 = .ok (.iload_n 3, 1) := by decide +kernel
theorem dL_law_431 : decode cL_law 431 = .ok (.iconst 1, 1) := by decide +kernel
theorem dL_law_432 : decode cL_law 432 = .ok (.iadd, 1) := by decide +kernel
theorem dL_law_433 : decode cL_law 433 = .ok (.iaload, 1) := by decide +kernel
theorem dL_law_434 : decode cL_law 434 = .ok (.aload_n 0, 1) := by decide +kernel
theorem dL_law_435 : decode cL_law 435 = .ok (.iload_n 3, 1) := by decide +kernel
theorem dL_law_436 : decode cL_law 436 = .ok (.iconst 2, 1) := by decide +kernel
theorem dL_law_437 : decode cL_law 437 = .ok (.iadd, 1) := by decide +kernel
theorem dL_law_438 : decode cL_law 438 = .ok (.iaload, 1) := by decide +kernel
theorem dL_law_439 : decode cL_law 439 = .ok (.invokevirtual 62, 3) := by decide +kernel
theorem dL_law_442 : decode cL_law 442 = .ok (.if_icmp .eq 440, 3) := by decide +kernel
theorem dL_law_445 : decode cL_law 445 = .ok (.iconst 0, 1) := by decide +kernel
theorem dL_law_446 : decode cL_law 446 = .ok (.ireturn, 1) := by decide +kernel
theorem dL_law_447 : decode cL_law 447 = .ok (.aload_n 1, 1) := by decide +kernel
theorem dL_law_448 : decode cL_law 448 = .ok (.invokevirtual 63, 3) := by decide +kernel
theorem dL_law_451 : decode cL_law 451 = .ok (.aload_n 2, 1) := by decide +kernel
theorem dL_law_452 : decode cL_law 452 = .ok (.invokevirtual 66, 3) := by decide +kernel
theorem dL_law_455 : decode cL_law 455 = .ok (.if_icmp .eq 427, 3) := by decide +kernel
theorem dL_law_458 : decode cL_law 458 = .ok (.iconst 0, 1) := by decide +kernel
theorem dL_law_459 : decode cL_law 459 = .ok (.ireturn, 1) := by decide +kernel
theorem dL_law_460 : decode cL_law 460 = .ok (.aload_n 1, 1) := by decide +kernel
theorem dL_law_461 : decode cL_law 461 = .ok (.aload_n 0, 1) := by decide +kernel
theorem dL_law_462 : decode cL_law 462 = .ok (.iload_n 3, 1) := by decide +kernel
theorem dL_law_463 : decode cL_law 463 = .ok (.iconst 1, 1) := by decide +kernel
theorem dL_law_464 : decode cL_law 464 = .ok (.iadd, 1) := by decide +kernel
theorem dL_law_465 : decode cL_law 465 = .ok (.iaload, 1) := by decide +kernel
theorem dL_law_466 : decode cL_law 466 = .ok (.aload_n 0, 1) := by decide +kernel
theorem dL_law_467 : decode cL_law 467 = .ok (.iload_n 3, 1) := by decide +kernel
theorem dL_law_468 : decode cL_law 468 = .ok (.iconst 2, 1) := by decide +kernel
theorem dL_law_469 : decode cL_law 469 = .ok (.iadd, 1) := by decide +kernel
theorem dL_law_470 : decode cL_law 470 = .ok (.iaload, 1) := by decide +kernel
theorem dL_law_471 : decode cL_law 471 = .ok (.invokevirtual 67, 3) := by decide +kernel
theorem dL_law_474 : decode cL_law 474 = .ok (.aload_n 2, 1) := by decide +kernel
theorem dL_law_475 : decode cL_law 475 = .ok (.aload_n 0, 1) := by decide +kernel
theorem dL_law_476 : decode cL_law 476 = .ok (.iload_n 3, 1) := by decide +kernel
theorem dL_law_477 : decode cL_law 477 = .ok (.iconst 1, 1) := by decide +kernel
theorem dL_law_478 : decode cL_law 478 = .ok (.iadd, 1) := by decide +kernel
theorem dL_law_479 : decode cL_law 479 = .ok (.iaload, 1) := by decide +kernel
theorem dL_law_480 : decode cL_law 480 = .ok (.aload_n 0, 1) := by decide +kernel
theorem dL_law_481 : decode cL_law 481 = .ok (.iload_n 3, 1) := by decide +kernel
theorem dL_law_482 : decode cL_law 482 = .ok (.iconst 2, 1) := by decide +kernel
theorem dL_law_483 : decode cL_law 483 = .ok (.iadd, 1) := by decide +kernel
theorem dL_law_484 : decode cL_law 484 = .ok (.iaload, 1) := by decide +kernel
theorem dL_law_485 : decode cL_law 485 = .ok (.invokevirtual 70, 3) := by decide +kernel
theorem dL_law_488 : decode cL_law 488 = .ok (.if_icmp .eq 394, 3) := by decide +kernel
theorem dL_law_491 : decode cL_law 491 = .ok (.iconst 0, 1) := by decide +kernel
theorem dL_law_492 : decode cL_law 492 = .ok (.ireturn, 1) := by decide +kernel
theorem dL_law_493 : decode cL_law 493 = .ok (.aload_n 1, 1) := by decide +kernel
theorem dL_law_494 : decode cL_law 494 = .ok (.aload_n 0, 1) := by decide +kernel
theorem dL_law_495 : decode cL_law 495 = .ok (.iload_n 3, 1) := by decide +kernel
theorem dL_law_496 : decode cL_law 496 = .ok (.iconst 1, 1) := by decide +kernel
theorem dL_law_497 : decode cL_law 497 = .ok (.iadd, 1) := by decide +kernel
theorem dL_law_498 : decode cL_law 498 = .ok (.iaload, 1) := by decide +kernel
theorem dL_law_499 : decode cL_law 499 = .ok (.aload_n 0, 1) := by decide +kernel
theorem dL_law_500 : decode cL_law 500 = .ok (.iload_n 3, 1) := by decide +kernel
theorem dL_law_501 : decode cL_law 501 = .ok (.iconst 2, 1) := by decide +kernel
theorem dL_law_502 : decode cL_law 502 = .ok (.iadd, 1) := by decide +kernel
theorem dL_law_503 : decode cL_law 503 = .ok (.iaload, 1) := by decide +kernel
theorem dL_law_504 : decode cL_law 504 = .ok (.aload_n 0, 1) := by decide +kernel
theorem dL_law_505 : decode cL_law 505 = .ok (.iload_n 3, 1) := by decide +kernel
theorem dL_law_506 : decode cL_law 506 = .ok (.iconst 3, 1) := by decide +kernel
theorem dL_law_507 : decode cL_law 507 = .ok (.iadd, 1) := by decide +kernel
theorem dL_law_508 : decode cL_law 508 = .ok (.iaload, 1) := by decide +kernel
theorem dL_law_509 : decode cL_law 509 = .ok (.invokevirtual 71, 3) := by decide +kernel
theorem dL_law_512 : decode cL_law 512 = .ok (.aload_n 2, 1) := by decide +kernel
theorem dL_law_513 : decode cL_law 513 = .ok (.aload_n 0, 1) := by decide +kernel
theorem dL_law_514 : decode cL_law 514 = .ok (.iload_n 3, 1) := by decide +kernel
theorem dL_law_515 : decode cL_law 515 = .ok (.iconst 1, 1) := by decide +kernel
theorem dL_law_516 : decode cL_law 516 = .ok (.iadd, 1) := by decide +kernel
theorem dL_law_517 : decode cL_law 517 = .ok (.iaload, 1) := by decide +kernel
theorem dL_law_518 : decode cL_law 518 = .ok (.aload_n 0, 1) := by decide +kernel
theorem dL_law_519 : decode cL_law 519 = .ok (.iload_n 3, 1) := by decide +kernel
theorem dL_law_520 : decode cL_law 520 = .ok (.iconst 2, 1) := by decide +kernel
theorem dL_law_521 : decode cL_law 521 = .ok (.iadd, 1) := by decide +kernel
theorem dL_law_522 : decode cL_law 522 = .ok (.iaload, 1) := by decide +kernel
theorem dL_law_523 : decode cL_law 523 = .ok (.aload_n 0, 1) := by decide +kernel
theorem dL_law_524 : decode cL_law 524 = .ok (.iload_n 3, 1) := by decide +kernel
theorem dL_law_525 : decode cL_law 525 = .ok (.iconst 3, 1) := by decide +kernel
theorem dL_law_526 : decode cL_law 526 = .ok (.iadd, 1) := by decide +kernel
theorem dL_law_527 : decode cL_law 527 = .ok (.iaload, 1) := by decide +kernel
theorem dL_law_528 : decode cL_law 528 = .ok (.invokevirtual 75, 3) := by decide +kernel
theorem dL_law_531 : decode cL_law 531 = .ok (.if_icmp .eq 351, 3) := by decide +kernel
theorem dL_law_534 : decode cL_law 534 = .ok (.iconst 0, 1) := by decide +kernel
theorem dL_law_535 : decode cL_law 535 = .ok (.ireturn, 1) := by decide +kernel
theorem dL_law_536 : decode cL_law 536 = .ok (.aload_n 1, 1) := by decide +kernel
theorem dL_law_537 : decode cL_law 537 = .ok (.aload_n 0, 1) := by decide +kernel
theorem dL_law_538 : decode cL_law 538 = .ok (.iload_n 3, 1) := by decide +kernel
theorem dL_law_539 : decode cL_law 539 = .ok (.iconst 1, 1) := by decide +kernel
theorem dL_law_540 : decode cL_law 540 = .ok (.iadd, 1) := by decide +kernel
theorem dL_law_541 : decode cL_law 541 = .ok (.iaload, 1) := by decide +kernel
theorem dL_law_542 : decode cL_law 542 = .ok (.aload_n 0, 1) := by decide +kernel
theorem dL_law_543 : decode cL_law 543 = .ok (.iload_n 3, 1) := by decide +kernel
theorem dL_law_544 : decode cL_law 544 = .ok (.iconst 2, 1) := by decide +kernel
theorem dL_law_545 : decode cL_law 545 = .ok (.iadd, 1) := by decide +kernel
theorem dL_law_546 : decode cL_law 546 = .ok (.iaload, 1) := by decide +kernel
theorem dL_law_547 : decode cL_law 547 = .ok (.aload_n 0, 1) := by decide +kernel
theorem dL_law_548 : decode cL_law 548 = .ok (.iload_n 3, 1) := by decide +kernel
theorem dL_law_549 : decode cL_law 549 = .ok (.iconst 3, 1) := by decide +kernel
theorem dL_law_550 : decode cL_law 550 = .ok (.iadd, 1) := by decide +kernel
theorem dL_law_551 : decode cL_law 551 = .ok (.iaload, 1) := by decide +kernel
theorem dL_law_552 : decode cL_law 552 = .ok (.aload_n 0, 1) := by decide +kernel
theorem dL_law_553 : decode cL_law 553 = .ok (.iload_n 3, 1) := by decide +kernel
theorem dL_law_554 : decode cL_law 554 = .ok (.iconst 4, 1) := by decide +kernel
theorem dL_law_555 : decode cL_law 555 = .ok (.iadd, 1) := by decide +kernel
theorem dL_law_556 : decode cL_law 556 = .ok (.iaload, 1) := by decide +kernel
theorem dL_law_557 : decode cL_law 557 = .ok (.invokevirtual 76, 3) := by decide +kernel
theorem dL_law_560 : decode cL_law 560 = .ok (.aload_n 2, 1) := by decide +kernel
theorem dL_law_561 : decode cL_law 561 = .ok (.aload_n 0, 1) := by decide +kernel
theorem dL_law_562 : decode cL_law 562 = .ok (.iload_n 3, 1) := by decide +kernel
theorem dL_law_563 : decode cL_law 563 = .ok (.iconst 1, 1) := by decide +kernel
theorem dL_law_564 : decode cL_law 564 = .ok (.iadd, 1) := by decide +kernel
theorem dL_law_565 : decode cL_law 565 = .ok (.iaload, 1) := by decide +kernel
theorem dL_law_566 : decode cL_law 566 = .ok (.aload_n 0, 1) := by decide +kernel
theorem dL_law_567 : decode cL_law 567 = .ok (.iload_n 3, 1) := by decide +kernel
theorem dL_law_568 : decode cL_law 568 = .ok (.iconst 2, 1) := by decide +kernel
theorem dL_law_569 : decode cL_law 569 = .ok (.iadd, 1) := by decide +kernel
theorem dL_law_570 : decode cL_law 570 = .ok (.iaload, 1) := by decide +kernel
theorem dL_law_571 : decode cL_law 571 = .ok (.aload_n 0, 1) := by decide +kernel
theorem dL_law_572 : decode cL_law 572 = .ok (.iload_n 3, 1) := by decide +kernel
theorem dL_law_573 : decode cL_law 573 = .ok (.iconst 3, 1) := by decide +kernel
theorem dL_law_574 : decode cL_law 574 = .ok (.iadd, 1) := by decide +kernel
theorem dL_law_575 : decode cL_law 575 = .ok (.iaload, 1) := by decide +kernel
theorem dL_law_576 : decode cL_law 576 = .ok (.aload_n 0, 1) := by decide +kernel
theorem dL_law_577 : decode cL_law 577 = .ok (.iload_n 3, 1) := by decide +kernel
theorem dL_law_578 : decode cL_law 578 = .ok (.iconst 4, 1) := by decide +kernel
theorem dL_law_579 : decode cL_law 579 = .ok (.iadd, 1) := by decide +kernel
theorem dL_law_580 : decode cL_law 580 = .ok (.iaload, 1) := by decide +kernel
theorem dL_law_581 : decode cL_law 581 = .ok (.invokevirtual 80, 3) := by decide +kernel
theorem dL_law_584 : decode cL_law 584 = .ok (.if_icmp .eq 298, 3) := by decide +kernel
theorem dL_law_587 : decode cL_law 587 = .ok (.iconst 0, 1) := by decide +kernel
theorem dL_law_588 : decode cL_law 588 = .ok (.ireturn, 1) := by decide +kernel
theorem dL_law_589 : decode cL_law 589 = .ok (.aload_n 1, 1) := by decide +kernel
theorem dL_law_590 : decode cL_law 590 = .ok (.aload_n 0, 1) := by decide +kernel
theorem dL_law_591 : decode cL_law 591 = .ok (.iload_n 3, 1) := by decide +kernel
theorem dL_law_592 : decode cL_law 592 = .ok (.iconst 1, 1) := by decide +kernel
theorem dL_law_593 : decode cL_law 593 = .ok (.iadd, 1) := by decide +kernel
theorem dL_law_594 : decode cL_law 594 = .ok (.iaload, 1) := by decide +kernel
theorem dL_law_595 : decode cL_law 595 = .ok (.aload_n 0, 1) := by decide +kernel
theorem dL_law_596 : decode cL_law 596 = .ok (.iload_n 3, 1) := by decide +kernel
theorem dL_law_597 : decode cL_law 597 = .ok (.iconst 2, 1) := by decide +kernel
theorem dL_law_598 : decode cL_law 598 = .ok (.iadd, 1) := by decide +kernel
theorem dL_law_599 : decode cL_law 599 = .ok (.iaload, 1) := by decide +kernel
theorem dL_law_600 : decode cL_law 600 = .ok (.invokevirtual 81, 3) := by decide +kernel
theorem dL_law_603 : decode cL_law 603 = .ok (.aload_n 2, 1) := by decide +kernel
theorem dL_law_604 : decode cL_law 604 = .ok (.aload_n 0, 1) := by decide +kernel
theorem dL_law_605 : decode cL_law 605 = .ok (.iload_n 3, 1) := by decide +kernel
theorem dL_law_606 : decode cL_law 606 = .ok (.iconst 1, 1) := by decide +kernel
theorem dL_law_607 : decode cL_law 607 = .ok (.iadd, 1) := by decide +kernel
theorem dL_law_608 : decode cL_law 608 = .ok (.iaload, 1) := by decide +kernel
theorem dL_law_609 : decode cL_law 609 = .ok (.aload_n 0, 1) := by decide +kernel
theorem dL_law_610 : decode cL_law 610 = .ok (.iload_n 3, 1) := by decide +kernel
theorem dL_law_611 : decode cL_law 611 = .ok (.iconst 2, 1) := by decide +kernel
theorem dL_law_612 : decode cL_law 612 = .ok (.iadd, 1) := by decide +kernel
theorem dL_law_613 : decode cL_law 613 = .ok (.iaload, 1) := by decide +kernel
theorem dL_law_614 : decode cL_law 614 = .ok (.invokevirtual 84, 3) := by decide +kernel
theorem dL_law_617 : decode cL_law 617 = .ok (.if_icmp .eq 265, 3) := by decide +kernel
theorem dL_law_620 : decode cL_law 620 = .ok (.iconst 0, 1) := by decide +kernel
theorem dL_law_621 : decode cL_law 621 = .ok (.ireturn, 1) := by decide +kernel
theorem dL_law_622 : decode cL_law 622 = .ok (.aload_n 1, 1) := by decide +kernel
theorem dL_law_623 : decode cL_law 623 = .ok (.aload_n 0, 1) := by decide +kernel
theorem dL_law_624 : decode cL_law 624 = .ok (.iload_n 3, 1) := by decide +kernel
theorem dL_law_625 : decode cL_law 625 = .ok (.iconst 1, 1) := by decide +kernel
theorem dL_law_626 : decode cL_law 626 = .ok (.iadd, 1) := by decide +kernel
theorem dL_law_627 : decode cL_law 627 = .ok (.iaload, 1) := by decide +kernel
theorem dL_law_628 : decode cL_law 628 = .ok (.invokevirtual 85, 3) := by decide +kernel
theorem dL_law_631 : decode cL_law 631 = .ok (.aload_n 2, 1) := by decide +kernel
theorem dL_law_632 : decode cL_law 632 = .ok (.aload_n 0, 1) := by decide +kernel
theorem dL_law_633 : decode cL_law 633 = .ok (.iload_n 3, 1) := by decide +kernel
theorem dL_law_634 : decode cL_law 634 = .ok (.iconst 1, 1) := by decide +kernel
theorem dL_law_635 : decode cL_law 635 = .ok (.iadd, 1) := by decide +kernel
theorem dL_law_636 : decode cL_law 636 = .ok (.iaload, 1) := by decide +kernel
theorem dL_law_637 : decode cL_law 637 = .ok (.invokevirtual 88, 3) := by decide +kernel
theorem dL_law_640 : decode cL_law 640 = .ok (.if_icmp .eq 242, 3) := by decide +kernel
theorem dL_law_643 : decode cL_law 643 = .ok (.iconst 0, 1) := by decide +kernel
theorem dL_law_644 : decode cL_law 644 = .ok (.ireturn, 1) := by decide +kernel
theorem dL_law_645 : decode cL_law 645 = .ok (.aload_n 1, 1) := by decide +kernel
theorem dL_law_646 : decode cL_law 646 = .ok (.invokevirtual 89, 3) := by decide +kernel
theorem dL_law_649 : decode cL_law 649 = .ok (.aload_n 2, 1) := by decide +kernel
theorem dL_law_650 : decode cL_law 650 = .ok (.invokevirtual 92, 3) := by decide +kernel
theorem dL_law_653 : decode cL_law 653 = .ok (.if_icmp .eq 229, 3) := by decide +kernel
theorem dL_law_656 : decode cL_law 656 = .ok (.iconst 0, 1) := by decide +kernel
theorem dL_law_657 : decode cL_law 657 = .ok (.ireturn, 1) := by decide +kernel
theorem dL_law_658 : decode cL_law 658 = .ok (.aload_n 1, 1) := by decide +kernel
theorem dL_law_659 : decode cL_law 659 = .ok (.invokevirtual 93, 3) := by decide +kernel
theorem dL_law_662 : decode cL_law 662 = .ok (.aload_n 2, 1) := by decide +kernel
theorem dL_law_663 : decode cL_law 663 = .ok (.invokevirtual 96, 3) := by decide +kernel
theorem dL_law_666 : decode cL_law 666 = .ok (.if_icmp .eq 216, 3) := by decide +kernel
theorem dL_law_669 : decode cL_law 669 = .ok (.iconst 0, 1) := by decide +kernel
theorem dL_law_670 : decode cL_law 670 = .ok (.ireturn, 1) := by decide +kernel
theorem dL_law_671 : decode cL_law 671 = .ok (.aload_n 1, 1) := by decide +kernel
theorem dL_law_672 : decode cL_law 672 = .ok (.invokevirtual 97, 3) := by decide +kernel
theorem dL_law_675 : decode cL_law 675 = .ok (.aload_n 2, 1) := by decide +kernel
theorem dL_law_676 : decode cL_law 676 = .ok (.invokevirtual 100, 3) := by decide +kernel
theorem dL_law_679 : decode cL_law 679 = .ok (.if_icmp .eq 203, 3) := by decide +kernel
theorem dL_law_682 : decode cL_law 682 = .ok (.iconst 0, 1) := by decide +kernel
theorem dL_law_683 : decode cL_law 683 = .ok (.ireturn, 1) := by decide +kernel
theorem dL_law_684 : decode cL_law 684 = .ok (.aload_n 1, 1) := by decide +kernel
theorem dL_law_685 : decode cL_law 685 = .ok (.aload_n 0, 1) := by decide +kernel
theorem dL_law_686 : decode cL_law 686 = .ok (.iload_n 3, 1) := by decide +kernel
theorem dL_law_687 : decode cL_law 687 = .ok (.iconst 1, 1) := by decide +kernel
theorem dL_law_688 : decode cL_law 688 = .ok (.iadd, 1) := by decide +kernel
theorem dL_law_689 : decode cL_law 689 = .ok (.iaload, 1) := by decide +kernel
theorem dL_law_690 : decode cL_law 690 = .ok (.invokevirtual 101, 3) := by decide +kernel
theorem dL_law_693 : decode cL_law 693 = .ok (.aload_n 2, 1) := by decide +kernel
theorem dL_law_694 : decode cL_law 694 = .ok (.aload_n 0, 1) := by decide +kernel
theorem dL_law_695 : decode cL_law 695 = .ok (.iload_n 3, 1) := by decide +kernel
theorem dL_law_696 : decode cL_law 696 = .ok (.iconst 1, 1) := by decide +kernel
theorem dL_law_697 : decode cL_law 697 = .ok (.iadd, 1) := by decide +kernel
theorem dL_law_698 : decode cL_law 698 = .ok (.iaload, 1) := by decide +kernel
theorem dL_law_699 : decode cL_law 699 = .ok (.invokevirtual 104, 3) := by decide +kernel
theorem dL_law_702 : decode cL_law 702 = .ok (.if_icmp .eq 180, 3) := by decide +kernel
theorem dL_law_705 : decode cL_law 705 = .ok (.iconst 0, 1) := by decide +kernel
theorem dL_law_706 : decode cL_law 706 = .ok (.ireturn, 1) := by decide +kernel
theorem dL_law_707 : decode cL_law 707 = .ok (.aload_n 1, 1) := by decide +kernel
theorem dL_law_708 : decode cL_law 708 = .ok (.aload_n 0, 1) := by decide +kernel
theorem dL_law_709 : decode cL_law 709 = .ok (.iload_n 3, 1) := by decide +kernel
theorem dL_law_710 : decode cL_law 710 = .ok (.iconst 1, 1) := by decide +kernel
theorem dL_law_711 : decode cL_law 711 = .ok (.iadd, 1) := by decide +kernel
theorem dL_law_712 : decode cL_law 712 = .ok (.iaload, 1) := by decide +kernel
theorem dL_law_713 : decode cL_law 713 = .ok (.aload_n 0, 1) := by decide +kernel
theorem dL_law_714 : decode cL_law 714 = .ok (.iload_n 3, 1) := by decide +kernel
theorem dL_law_715 : decode cL_law 715 = .ok (.iconst 2, 1) := by decide +kernel
theorem dL_law_716 : decode cL_law 716 = .ok (.iadd, 1) := by decide +kernel
theorem dL_law_717 : decode cL_law 717 = .ok (.iaload, 1) := by decide +kernel
theorem dL_law_718 : decode cL_law 718 = .ok (.invokevirtual 105, 3) := by decide +kernel
theorem dL_law_721 : decode cL_law 721 = .ok (.aload_n 2, 1) := by decide +kernel
theorem dL_law_722 : decode cL_law 722 = .ok (.aload_n 0, 1) := by decide +kernel
theorem dL_law_723 : decode cL_law 723 = .ok (.iload_n 3, 1) := by decide +kernel
theorem dL_law_724 : decode cL_law 724 = .ok (.iconst 1, 1) := by decide +kernel
theorem dL_law_725 : decode cL_law 725 = .ok (.iadd, 1) := by decide +kernel
theorem dL_law_726 : decode cL_law 726 = .ok (.iaload, 1) := by decide +kernel
theorem dL_law_727 : decode cL_law 727 = .ok (.aload_n 0, 1) := by decide +kernel
theorem dL_law_728 : decode cL_law 728 = .ok (.iload_n 3, 1) := by decide +kernel
theorem dL_law_729 : decode cL_law 729 = .ok (.iconst 2, 1) := by decide +kernel
theorem dL_law_730 : decode cL_law 730 = .ok (.iadd, 1) := by decide +kernel
theorem dL_law_731 : decode cL_law 731 = .ok (.iaload, 1) := by decide +kernel
theorem dL_law_732 : decode cL_law 732 = .ok (.invokevirtual 108, 3) := by decide +kernel
theorem dL_law_735 : decode cL_law 735 = .ok (.if_icmp .eq 147, 3) := by decide +kernel
theorem dL_law_738 : decode cL_law 738 = .ok (.iconst 0, 1) := by decide +kernel
theorem dL_law_739 : decode cL_law 739 = .ok (.ireturn, 1) := by decide +kernel
theorem dL_law_740 : decode cL_law 740 = .ok (.aload_n 1, 1) := by decide +kernel
theorem dL_law_741 : decode cL_law 741 = .ok (.aload_n 0, 1) := by decide +kernel
theorem dL_law_742 : decode cL_law 742 = .ok (.iload_n 3, 1) := by decide +kernel
theorem dL_law_743 : decode cL_law 743 = .ok (.iconst 1, 1) := by decide +kernel
theorem dL_law_744 : decode cL_law 744 = .ok (.iadd, 1) := by decide +kernel
theorem dL_law_745 : decode cL_law 745 = .ok (.iaload, 1) := by decide +kernel
theorem dL_law_746 : decode cL_law 746 = .ok (.invokevirtual 109, 3) := by decide +kernel
theorem dL_law_749 : decode cL_law 749 = .ok (.aload_n 2, 1) := by decide +kernel
theorem dL_law_750 : decode cL_law 750 = .ok (.aload_n 0, 1) := by decide +kernel
theorem dL_law_751 : decode cL_law 751 = .ok (.iload_n 3, 1) := by decide +kernel
theorem dL_law_752 : decode cL_law 752 = .ok (.iconst 1, 1) := by decide +kernel
theorem dL_law_753 : decode cL_law 753 = .ok (.iadd, 1) := by decide +kernel
theorem dL_law_754 : decode cL_law 754 = .ok (.iaload, 1) := by decide +kernel
theorem dL_law_755 : decode cL_law 755 = .ok (.invokevirtual 112, 3) := by decide +kernel
theorem dL_law_758 : decode cL_law 758 = .ok (.if_icmp .eq 124, 3) := by decide +kernel
theorem dL_law_761 : decode cL_law 761 = .ok (.iconst 0, 1) := by decide +kernel
theorem dL_law_762 : decode cL_law 762 = .ok (.ireturn, 1) := by decide +kernel
theorem dL_law_763 : decode cL_law 763 = .ok (.aload_n 1, 1) := by decide +kernel
theorem dL_law_764 : decode cL_law 764 = .ok (.aload_n 0, 1) := by decide +kernel
theorem dL_law_765 : decode cL_law 765 = .ok (.iload_n 3, 1) := by decide +kernel
theorem dL_law_766 : decode cL_law 766 = .ok (.iconst 1, 1) := by decide +kernel
theorem dL_law_767 : decode cL_law 767 = .ok (.iadd, 1) := by decide +kernel
theorem dL_law_768 : decode cL_law 768 = .ok (.iaload, 1) := by decide +kernel
theorem dL_law_769 : decode cL_law 769 = .ok (.invokevirtual 113, 3) := by decide +kernel
theorem dL_law_772 : decode cL_law 772 = .ok (.aload_n 2, 1) := by decide +kernel
theorem dL_law_773 : decode cL_law 773 = .ok (.aload_n 0, 1) := by decide +kernel
theorem dL_law_774 : decode cL_law 774 = .ok (.iload_n 3, 1) := by decide +kernel
theorem dL_law_775 : decode cL_law 775 = .ok (.iconst 1, 1) := by decide +kernel
theorem dL_law_776 : decode cL_law 776 = .ok (.iadd, 1) := by decide +kernel
theorem dL_law_777 : decode cL_law 777 = .ok (.iaload, 1) := by decide +kernel
theorem dL_law_778 : decode cL_law 778 = .ok (.invokevirtual 117, 3) := by decide +kernel
theorem dL_law_781 : decode cL_law 781 = .ok (.lcmp, 1) := by decide +kernel
theorem dL_law_782 : decode cL_law 782 = .ok (.ifCond .eq 100, 3) := by decide +kernel
theorem dL_law_785 : decode cL_law 785 = .ok (.iconst 0, 1) := by decide +kernel
theorem dL_law_786 : decode cL_law 786 = .ok (.ireturn, 1) := by decide +kernel
theorem dL_law_787 : decode cL_law 787 = .ok (.aload_n 1, 1) := by decide +kernel
theorem dL_law_788 : decode cL_law 788 = .ok (.aload_n 0, 1) := by decide +kernel
theorem dL_law_789 : decode cL_law 789 = .ok (.iload_n 3, 1) := by decide +kernel
theorem dL_law_790 : decode cL_law 790 = .ok (.iconst 1, 1) := by decide +kernel
theorem dL_law_791 : decode cL_law 791 = .ok (.iadd, 1) := by decide +kernel
theorem dL_law_792 : decode cL_law 792 = .ok (.iaload, 1) := by decide +kernel
theorem dL_law_793 : decode cL_law 793 = .ok (.invokevirtual 118, 3) := by decide +kernel
theorem dL_law_796 : decode cL_law 796 = .ok (.aload_n 2, 1) := by decide +kernel
theorem dL_law_797 : decode cL_law 797 = .ok (.aload_n 0, 1) := by decide +kernel
theorem dL_law_798 : decode cL_law 798 = .ok (.iload_n 3, 1) := by decide +kernel
theorem dL_law_799 : decode cL_law 799 = .ok (.iconst 1, 1) := by decide +kernel
theorem dL_law_800 : decode cL_law 800 = .ok (.iadd, 1) := by decide +kernel
theorem dL_law_801 : decode cL_law 801 = .ok (.iaload, 1) := by decide +kernel
theorem dL_law_802 : decode cL_law 802 = .ok (.invokevirtual 121, 3) := by decide +kernel
theorem dL_law_805 : decode cL_law 805 = .ok (.if_icmp .eq 77, 3) := by decide +kernel
theorem dL_law_808 : decode cL_law 808 = .ok (.iconst 0, 1) := by decide +kernel
theorem dL_law_809 : decode cL_law 809 = .ok (.ireturn, 1) := by decide +kernel
theorem dL_law_810 : decode cL_law 810 = .ok (.aload_n 1, 1) := by decide +kernel
theorem dL_law_811 : decode cL_law 811 = .ok (.aload_n 0, 1) := by decide +kernel
theorem dL_law_812 : decode cL_law 812 = .ok (.iload_n 3, 1) := by decide +kernel
theorem dL_law_813 : decode cL_law 813 = .ok (.iconst 1, 1) := by decide +kernel
theorem dL_law_814 : decode cL_law 814 = .ok (.iadd, 1) := by decide +kernel
theorem dL_law_815 : decode cL_law 815 = .ok (.iaload, 1) := by decide +kernel
theorem dL_law_816 : decode cL_law 816 = .ok (.invokevirtual 122, 3) := by decide +kernel
theorem dL_law_819 : decode cL_law 819 = .ok (.aload_n 2, 1) := by decide +kernel
theorem dL_law_820 : decode cL_law 820 = .ok (.aload_n 0, 1) := by decide +kernel
theorem dL_law_821 : decode cL_law 821 = .ok (.iload_n 3, 1) := by decide +kernel
theorem dL_law_822 : decode cL_law 822 = .ok (.iconst 1, 1) := by decide +kernel
theorem dL_law_823 : decode cL_law 823 = .ok (.iadd, 1) := by decide +kernel
theorem dL_law_824 : decode cL_law 824 = .ok (.iaload, 1) := by decide +kernel
theorem dL_law_825 : decode cL_law 825 = .ok (.invokevirtual 125, 3) := by decide +kernel
theorem dL_law_828 : decode cL_law 828 = .ok (.if_icmp .eq 54, 3) := by decide +kernel
theorem dL_law_831 : decode cL_law 831 = .ok (.iconst 0, 1) := by decide +kernel
theorem dL_law_832 : decode cL_law 832 = .ok (.ireturn, 1) := by decide +kernel
theorem dL_law_833 : decode cL_law 833 = .ok (.aload_n 1, 1) := by decide +kernel
theorem dL_law_834 : decode cL_law 834 = .ok (.invokevirtual 126, 3) := by decide +kernel
theorem dL_law_837 : decode cL_law 837 = .ok (.aload_n 2, 1) := by decide +kernel
theorem dL_law_838 : decode cL_law 838 = .ok (.invokevirtual 129, 3) := by decide +kernel
theorem dL_law_841 : decode cL_law 841 = .ok (.if_icmp .eq 41, 3) := by decide +kernel
theorem dL_law_844 : decode cL_law 844 = .ok (.iconst 0, 1) := by decide +kernel
theorem dL_law_845 : decode cL_law 845 = .ok (.ireturn, 1) := by decide +kernel
theorem dL_law_846 : decode cL_law 846 = .ok (.aload_n 1, 1) := by decide +kernel
theorem dL_law_847 : decode cL_law 847 = .ok (.invokevirtual 130, 3) := by decide +kernel
theorem dL_law_850 : decode cL_law 850 = .ok (.aload_n 2, 1) := by decide +kernel
theorem dL_law_851 : decode cL_law 851 = .ok (.invokevirtual 133, 3) := by decide +kernel
theorem dL_law_854 : decode cL_law 854 = .ok (.if_icmp .eq 28, 3) := by decide +kernel
theorem dL_law_857 : decode cL_law 857 = .ok (.iconst 0, 1) := by decide +kernel
theorem dL_law_858 : decode cL_law 858 = .ok (.ireturn, 1) := by decide +kernel
theorem dL_law_859 : decode cL_law 859 = .ok (.aload_n 1, 1) := by decide +kernel
theorem dL_law_860 : decode cL_law 860 = .ok (.aload_n 0, 1) := by decide +kernel
theorem dL_law_861 : decode cL_law 861 = .ok (.iload_n 3, 1) := by decide +kernel
theorem dL_law_862 : decode cL_law 862 = .ok (.iconst 1, 1) := by decide +kernel
theorem dL_law_863 : decode cL_law 863 = .ok (.iadd, 1) := by decide +kernel
theorem dL_law_864 : decode cL_law 864 = .ok (.iaload, 1) := by decide +kernel
theorem dL_law_865 : decode cL_law 865 = .ok (.invokevirtual 134, 3) := by decide +kernel
theorem dL_law_868 : decode cL_law 868 = .ok (.aload_n 2, 1) := by decide +kernel
theorem dL_law_869 : decode cL_law 869 = .ok (.aload_n 0, 1) := by decide +kernel
theorem dL_law_870 : decode cL_law 870 = .ok (.iload_n 3, 1) := by decide +kernel
theorem dL_law_871 : decode cL_law 871 = .ok (.iconst 1, 1) := by decide +kernel
theorem dL_law_872 : decode cL_law 872 = .ok (.iadd, 1) := by decide +kernel
theorem dL_law_873 : decode cL_law 873 = .ok (.iaload, 1) := by decide +kernel
theorem dL_law_874 : decode cL_law 874 = .ok (.invokevirtual 137, 3) := by decide +kernel
theorem dL_law_877 : decode cL_law 877 = .ok (.if_icmp .eq 5, 3) := by decide +kernel
theorem dL_law_880 : decode cL_law 880 = .ok (.iconst 0, 1) := by decide +kernel
theorem dL_law_881 : decode cL_law 881 = .ok (.ireturn, 1) := by decide +kernel
theorem dL_law_882 : decode cL_law 882 = .ok (.iinc 3 5, 3) := by decide +kernel
theorem dL_law_885 : decode cL_law 885 = .ok (.goto (-867), 3) := by decide +kernel
theorem dL_law_888 : decode cL_law 888 = .ok (.iconst 1, 1) := by decide +kernel
theorem dL_law_889 : decode cL_law 889 = .ok (.ireturn, 1) := by decide +kernel
end
section
/-! rows over counters and truth values; contracts by what they answer -/
theorem wr_hit {α : Type} {I : Nat → Nat → α} {p k : Nat} {v : α} : wr I p k v p k = v := wr_same I p k v
theorem wr_p {α : Type} {I : Nat → Nat → α} {p k : Nat} {v : α} {q j : Nat} (h : q ≠ p) : wr I p k v q j = I q j := by rw [wr_ne h]
theorem wr_k {α : Type} {I : Nat → Nat → α} {p k : Nat} {v : α} {q j : Nat} (h : j ≠ k) : wr I p k v q j = I q j := wr_nk h
theorem nI_s1 (n : Nat) : nI (n + 1) - nI 1 = nI n := nI_pred n
theorem loopN {P : Nat → Prop} {n : Nat} (h : ∀ i, i ≤ n → (i < n → P (i + 1)) → P i) : ∀ i, i ≤ n → P i := by
  have key : ∀ k i, i + k = n → P i := by
    intro k
    induction k with
    | zero => exact fun i hi => h i (by omega) (fun z => absurd z (by omega))
    | succ k ih => exact fun i hi => h i (by omega) (fun _ => ih (i + 1) (by omega))
  exact fun i hi => key (n - i) i (by omega)
def subL (a b : LO) : Prop := match a, b with
  | [], _ => True
  | none :: a, [] => subL a []
  | none :: a, _ :: b => subL a b
  | some _ :: _, [] => False
  | some v :: a, o :: b => o = some v ∧ subL a b
theorem subL_at : ∀ (a b : LO), subL a b → ∀ (i : Nat) (v : Value), a[i]? = some (some v) → b[i]? = some (some v)
  | [], b, _, i, v, hi => by simp at hi
  | none :: a, [], h, 0, v, hi => by simp at hi
  | none :: a, [], h, i + 1, v, hi => by
    have := subL_at a [] (by simpa [subL] using h) i v (by simpa using hi)
    simp at this
  | none :: a, _ :: b, h, 0, v, hi => by simp at hi
  | none :: a, _ :: b, h, i + 1, v, hi => by
    have := subL_at a b (by simpa [subL] using h) i v (by simpa using hi)
    simpa using this
  | some w :: a, [], h, i, v, hi => by simp [subL] at h
  | some w :: a, o :: b, h, 0, v, hi => by
    simp only [subL] at h
    rw [h.1]
    simpa using hi
  | some w :: a, o :: b, h, i + 1, v, hi => by
    simp only [subL] at h
    have := subL_at a b h.2 i v (by simpa using hi)
    simpa using this
def Off (lo hi : Nat) (I I' : HI) : Prop := ∀ a, (a < lo ∨ hi ≤ a) → I' a = I a
theorem Off.rf {lo hi : Nat} {I : HI} : Off lo hi I I := fun _ _ => rfl
theorem Off.wr {lo hi p k : Nat} {I I' : HI} {v : Int32} (h : Off lo hi I I') (h1 : lo ≤ p) (h2 : p < hi) : Off lo hi I (wr I' p k v) := fun a ha => by
  rw [wr_ne (by omega)]
  exact h a ha
theorem Off.trans {lo hi : Nat} {I I' I'' : HI} (h : Off lo hi I I') (h2 : Off lo hi I' I'') : Off lo hi I I'' := fun a ha => (h2 a ha).trans (h a ha)
theorem Off.wide {lo hi lo' hi' : Nat} {I I' : HI} (h : Off lo hi I I') (h1 : lo' ≤ lo) (h2 : hi ≤ hi') : Off lo' hi' I I' := fun a ha => h a (by omega)
def bI (b : Bool) : Int32 := match b with
  | true => 1
  | false => 0
theorem bI_01 (b : Bool) : bI b = 0 ∨ bI b = 1 := by cases b <;> simp [bI]
theorem bI_t : bI true = nI 1 := rfl
theorem bI_f : bI false = nI 0 := rfl
theorem bI_ne {b : Bool} : (¬ bI b = 0) ↔ b = true := by cases b <;> simp [bI]
theorem bI_eq {b : Bool} : bI b = 0 ↔ b = false := by cases b <;> simp [bI]
section NROWS
variable {m : MD} {T : Tg} {cells slots : Nat} {sh : List Kd} {pc : Nat} {L : LO} {st : List Value} {I : HI} {J : HJ} {R : HR}
theorem q_icmp_eq_n {a b : Nat} {off : Int} {q q2 : Nat} (ha : a < 2 ^ 31) (hb : b < 2 ^ 31) (hd : decode m.2.1 pc = .ok (.if_icmp .eq off, 3)) (ht : (pc : Int) + off = (q : Int)) (hq : pc + 3 = q2) (kt : a = b → Wm m T cells slots sh q L st I J R) (kf : a ≠ b → Wm m T cells slots sh q2 L st I J R) : Wm m T cells slots sh pc L (.int (nI b) :: .int (nI a) :: st) I J R := q_icmp_eq hd ht hq (fun z => kt ((nI_eq ha hb).mp z)) (fun z => kf (fun w => z ((nI_eq ha hb).mpr w)))
theorem q_icmp_ne_n {a b : Nat} {off : Int} {q q2 : Nat} (ha : a < 2 ^ 31) (hb : b < 2 ^ 31) (hd : decode m.2.1 pc = .ok (.if_icmp .ne off, 3)) (ht : (pc : Int) + off = (q : Int)) (hq : pc + 3 = q2) (kt : a ≠ b → Wm m T cells slots sh q L st I J R) (kf : a = b → Wm m T cells slots sh q2 L st I J R) : Wm m T cells slots sh pc L (.int (nI b) :: .int (nI a) :: st) I J R := q_icmp_ne hd ht hq (fun z => kt (fun w => z ((nI_eq ha hb).mpr w))) (fun z => kf ((nI_eq ha hb).mp z))
theorem q_icmp_lt_n {a b : Nat} {off : Int} {q q2 : Nat} (ha : a < 2 ^ 31) (hb : b < 2 ^ 31) (hd : decode m.2.1 pc = .ok (.if_icmp .lt off, 3)) (ht : (pc : Int) + off = (q : Int)) (hq : pc + 3 = q2) (kt : a < b → Wm m T cells slots sh q L st I J R) (kf : b ≤ a → Wm m T cells slots sh q2 L st I J R) : Wm m T cells slots sh pc L (.int (nI b) :: .int (nI a) :: st) I J R := q_icmp_lt hd ht hq (fun z => kt ((nI_ltI ha hb).mp z)) (fun z => kf (Nat.not_lt.mp (fun w => z ((nI_ltI ha hb).mpr w))))
theorem q_icmp_ge_n {a b : Nat} {off : Int} {q q2 : Nat} (ha : a < 2 ^ 31) (hb : b < 2 ^ 31) (hd : decode m.2.1 pc = .ok (.if_icmp .ge off, 3)) (ht : (pc : Int) + off = (q : Int)) (hq : pc + 3 = q2) (kt : b ≤ a → Wm m T cells slots sh q L st I J R) (kf : a < b → Wm m T cells slots sh q2 L st I J R) : Wm m T cells slots sh pc L (.int (nI b) :: .int (nI a) :: st) I J R := q_icmp_ge hd ht hq (fun z => kt ((nI_leI hb ha).mp z)) (fun z => kf (Nat.not_le.mp (fun w => z ((nI_leI hb ha).mpr w))))
theorem q_icmp_gt_n {a b : Nat} {off : Int} {q q2 : Nat} (ha : a < 2 ^ 31) (hb : b < 2 ^ 31) (hd : decode m.2.1 pc = .ok (.if_icmp .gt off, 3)) (ht : (pc : Int) + off = (q : Int)) (hq : pc + 3 = q2) (kt : b < a → Wm m T cells slots sh q L st I J R) (kf : a ≤ b → Wm m T cells slots sh q2 L st I J R) : Wm m T cells slots sh pc L (.int (nI b) :: .int (nI a) :: st) I J R := q_icmp_gt hd ht hq (fun z => kt ((nI_ltI hb ha).mp z)) (fun z => kf (Nat.not_lt.mp (fun w => z ((nI_ltI hb ha).mpr w))))
theorem q_icmp_le_n {a b : Nat} {off : Int} {q q2 : Nat} (ha : a < 2 ^ 31) (hb : b < 2 ^ 31) (hd : decode m.2.1 pc = .ok (.if_icmp .le off, 3)) (ht : (pc : Int) + off = (q : Int)) (hq : pc + 3 = q2) (kt : a ≤ b → Wm m T cells slots sh q L st I J R) (kf : b < a → Wm m T cells slots sh q2 L st I J R) : Wm m T cells slots sh pc L (.int (nI b) :: .int (nI a) :: st) I J R := q_icmp_le hd ht hq (fun z => kt ((nI_leI ha hb).mp z)) (fun z => kf (Nat.not_le.mp (fun w => z ((nI_leI ha hb).mpr w))))
theorem q_if_eq_n {a : Nat} {off : Int} {q q2 : Nat} (ha : a < 2 ^ 31) (hd : decode m.2.1 pc = .ok (.ifCond .eq off, 3)) (ht : (pc : Int) + off = (q : Int)) (hq : pc + 3 = q2) (kt : a = 0 → Wm m T cells slots sh q L st I J R) (kf : a ≠ 0 → Wm m T cells slots sh q2 L st I J R) : Wm m T cells slots sh pc L (.int (nI a) :: st) I J R := q_if_eq hd ht hq (fun z => kt ((nI_eq ha (by decide)).mp (z.trans nI_0.symm))) (fun z => kf (fun w => z (by rw [w]; exact nI_0)))
theorem q_if_ne_n {a : Nat} {off : Int} {q q2 : Nat} (ha : a < 2 ^ 31) (hd : decode m.2.1 pc = .ok (.ifCond .ne off, 3)) (ht : (pc : Int) + off = (q : Int)) (hq : pc + 3 = q2) (kt : a ≠ 0 → Wm m T cells slots sh q L st I J R) (kf : a = 0 → Wm m T cells slots sh q2 L st I J R) : Wm m T cells slots sh pc L (.int (nI a) :: st) I J R := q_if_ne hd ht hq (fun z => kt (fun w => z (by rw [w]; exact nI_0))) (fun z => kf ((nI_eq ha (by decide)).mp (z.trans nI_0.symm)))
theorem q_if_gt_n {a : Nat} {off : Int} {q q2 : Nat} (ha : a < 2 ^ 31) (hd : decode m.2.1 pc = .ok (.ifCond .gt off, 3)) (ht : (pc : Int) + off = (q : Int)) (hq : pc + 3 = q2) (kt : 0 < a → Wm m T cells slots sh q L st I J R) (kf : a = 0 → Wm m T cells slots sh q2 L st I J R) : Wm m T cells slots sh pc L (.int (nI a) :: st) I J R := q_if_gt hd ht hq (fun z => kt ((nI_ltI (a := 0) (by decide) ha).mp z)) (fun z => kf (Nat.le_zero.mp (Nat.not_lt.mp (fun w => z ((nI_ltI (a := 0) (by decide) ha).mpr w)))))
theorem q_if_le_n {a : Nat} {off : Int} {q q2 : Nat} (ha : a < 2 ^ 31) (hd : decode m.2.1 pc = .ok (.ifCond .le off, 3)) (ht : (pc : Int) + off = (q : Int)) (hq : pc + 3 = q2) (kt : a = 0 → Wm m T cells slots sh q L st I J R) (kf : 0 < a → Wm m T cells slots sh q2 L st I J R) : Wm m T cells slots sh pc L (.int (nI a) :: st) I J R := q_if_le hd ht hq (fun z => kt (Nat.le_zero.mp ((nI_leI (b := 0) ha (by decide)).mp z))) (fun z => kf (Nat.not_le.mp (fun w => z ((nI_leI (b := 0) ha (by decide)).mpr w))))
theorem q_if_eq_b {b : Bool} {off : Int} {q q2 : Nat} (hd : decode m.2.1 pc = .ok (.ifCond .eq off, 3)) (ht : (pc : Int) + off = (q : Int)) (hq : pc + 3 = q2) (kt : b = false → Wm m T cells slots sh q L st I J R) (kf : b = true → Wm m T cells slots sh q2 L st I J R) : Wm m T cells slots sh pc L (.int (bI b) :: st) I J R := q_if_eq hd ht hq (fun z => kt (bI_eq.mp z)) (fun z => kf (bI_ne.mp z))
theorem q_if_ne_b {b : Bool} {off : Int} {q q2 : Nat} (hd : decode m.2.1 pc = .ok (.ifCond .ne off, 3)) (ht : (pc : Int) + off = (q : Int)) (hq : pc + 3 = q2) (kt : b = true → Wm m T cells slots sh q L st I J R) (kf : b = false → Wm m T cells slots sh q2 L st I J R) : Wm m T cells slots sh pc L (.int (bI b) :: st) I J R := q_if_ne hd ht hq (fun z => kt (bI_ne.mp z)) (fun z => kf (bI_eq.mp z))
theorem q_iinc1 {i a : Nat} {q : Nat} (hd : decode m.2.1 pc = .ok (.iinc i 1, 3)) (hq : pc + 3 = q) (hL : L[i]? = some (some (.int (nI a)))) (hn : i < m.2.2.1) (K : Wm m T cells slots sh q (st1 L i (.int (nI (a + 1)))) st I J R) : Wm m T cells slots sh pc L st I J R := q_iinc hd hq hL (nI_1 a) hn K
/-- contracts: an int, a long, nothing, a reference answered; p: nothing written -/
def MI (m : MD) (d : Nat) (args : List Value) (sh : List Kd) (I : HI) (J : HJ) (R : HR) (Po : Int32 → HI → HJ → Prop) : Prop := Mt m d 0 0 false args sh I J R (fun sh' v I' J' R' => sh' = sh ∧ R' = R ∧ ∃ x : Int32, v = some (.int x) ∧ Po x I' J')
def MG (m : MD) (d : Nat) (args : List Value) (sh : List Kd) (I : HI) (J : HJ) (R : HR) (Po : Int64 → HI → HJ → Prop) : Prop := Mt m d 0 0 false args sh I J R (fun sh' v I' J' R' => sh' = sh ∧ R' = R ∧ ∃ x : Int64, v = some (.long x) ∧ Po x I' J')
def MV (m : MD) (d : Nat) (args : List Value) (sh : List Kd) (I : HI) (J : HJ) (R : HR) (Po : HI → HJ → Prop) : Prop := Mt m d 0 0 false args sh I J R (fun sh' v I' J' R' => sh' = sh ∧ R' = R ∧ v = none ∧ Po I' J')
def MRf (m : MD) (d : Nat) (args : List Value) (sh : List Kd) (I : HI) (J : HJ) (R : HR) (Po : Nat → HI → HJ → Prop) : Prop := Mt m d 0 0 false args sh I J R (fun sh' v I' J' R' => sh' = sh ∧ R' = R ∧ ∃ x : Nat, v = some (.ref x) ∧ Po x I' J')
def MIp (m : MD) (d : Nat) (args : List Value) (sh : List Kd) (I : HI) (J : HJ) (R : HR) (x : Int32) : Prop := MI m d args sh I J R (fun y I' J' => y = x ∧ I' = I ∧ J' = J)
def MGp (m : MD) (d : Nat) (args : List Value) (sh : List Kd) (I : HI) (J : HJ) (R : HR) (x : Int64) : Prop := MG m d args sh I J R (fun y I' J' => y = x ∧ I' = I ∧ J' = J)
def MRfp (m : MD) (d : Nat) (args : List Value) (sh : List Kd) (I : HI) (J : HJ) (R : HR) (x : Nat) : Prop := MRf m d args sh I J R (fun y I' J' => y = x ∧ I' = I ∧ J' = J)
theorem q_after2 {Po : PO} {st0 rest : List Value} {q : Nat} (hq : pc + 3 = q) (hr : MRun m T cells slots sh pc st0 rest I J R 0 0 false Po)
    (K : ∀ (sh' : List Kd) (v : Option Value) (I' : HI) (J' : HJ) (R' : HR), Po sh' v I' J' R' → Wm m T cells slots sh' q L (v.toList ++ rest) I' J' R') : Wm m T cells slots sh pc L st0 I J R := by
  subst hq
  intro p l e s mid args below meth c D A ad0 cA0 ad cA H locs ls S
  obtain ⟨C, hA, hT, hK, hP, hD, hS, hl⟩ := S
  obtain ⟨a, hrun⟩ := hr p l e s mid args below meth c D A ad cA H locs ls C hK hP hD hl.1
  have hF := enc_free hD hS hA
  refine W_call hrun hS (fun q _ h => hF q h) hF (fun v sh' I' J' R' ad' cA' t H1 locs1 ht hvm hg hp hk hpp hdd hS1 => ?_)
  obtain ⟨rfl, rfl⟩ := hg
  have := K sh' v I' J' R' hp p l e s mid args below meth c D A ad0 cA0 ad' cA' H1 locs1 ls ⟨C, hA, hT, KK.moved hvm.symm hk, hpp, hdd.weaken (fun _ q _ h => hF q.1 h), hS1, hl⟩
  rw [List.map_append] at this
  cases v <;> exact this
theorem q_callVI {y : MD} {idx ci n dd pl : Nat} {As rest st0 : List Value} {Po : Int32 → HI → HJ → Prop} {q : Nat} (hM : MI y dd (.ref pl :: As) sh I J R Po) (hd : decode m.2.1 pc = .ok (.invokevirtual idx, 3)) (hq : pc + 3 = q) (hl : ML m.1.cls idx y) (hm : MF y 0 ci n) (hs : sh[pl]? = some (.inl ci)) (hst : st0 = As.reverse ++ .ref pl :: rest) (hn : As.length = n) (hr : (rest.map fun v => v.category).sum ≤ 8) (hR : dd + 1 ≤ T.1.frames ∧ 31 * (dd + 1) ≤ T.1.locals) (hc : cells + 0 ≤ T.1.cells ∧ slots + 0 ≤ T.1.slots)
    (K : ∀ (x : Int32) (I' : HI) (J' : HJ), Po x I' J' → Wm m T cells slots sh q L (.int x :: rest) I' J' R) : Wm m T cells slots sh pc L st0 I J R := by
  subst hst
  refine q_after2 hq (run_V hd hl hm hs hn hr hR ⟨hc.1, hc.2⟩ hM) (fun sh' v I' J' R' hp => ?_)
  obtain ⟨rfl, rfl, x, rfl, hp⟩ := hp
  exact K x _ _ hp
theorem q_callVIp {y : MD} {idx ci n dd pl : Nat} {As rest st0 : List Value} {x : Int32} {q : Nat} (hM : MIp y dd (.ref pl :: As) sh I J R x) (hd : decode m.2.1 pc = .ok (.invokevirtual idx, 3)) (hq : pc + 3 = q) (hl : ML m.1.cls idx y) (hm : MF y 0 ci n) (hs : sh[pl]? = some (.inl ci)) (hst : st0 = As.reverse ++ .ref pl :: rest) (hn : As.length = n) (hr : (rest.map fun v => v.category).sum ≤ 8) (hR : dd + 1 ≤ T.1.frames ∧ 31 * (dd + 1) ≤ T.1.locals) (hc : cells + 0 ≤ T.1.cells ∧ slots + 0 ≤ T.1.slots)
    (K : Wm m T cells slots sh q L (.int x :: rest) I J R) : Wm m T cells slots sh pc L st0 I J R := by
  refine q_callVI hM hd hq hl hm hs hst hn hr hR hc (fun y I' J' hp => ?_)
  obtain ⟨rfl, rfl, rfl⟩ := hp
  exact K
theorem q_callSI {y : MD} {idx ci n dd : Nat} {As rest st0 : List Value} {Po : Int32 → HI → HJ → Prop} {q : Nat} (hM : MI y dd As sh I J R Po) (hd : decode m.2.1 pc = .ok (.invokestatic idx, 3)) (hq : pc + 3 = q) (hl : ML m.1.cls idx y) (hm : MF y 1 ci n) (hst : st0 = As.reverse ++ rest) (hn : As.length = n) (hr : (rest.map fun v => v.category).sum ≤ 8) (hR : dd + 1 ≤ T.1.frames ∧ 31 * (dd + 1) ≤ T.1.locals) (hc : cells + 0 ≤ T.1.cells ∧ slots + 0 ≤ T.1.slots)
    (K : ∀ (x : Int32) (I' : HI) (J' : HJ), Po x I' J' → Wm m T cells slots sh q L (.int x :: rest) I' J' R) : Wm m T cells slots sh pc L st0 I J R := by
  subst hst
  refine q_after2 hq (run_S hd hl hm hn hr hR ⟨hc.1, hc.2⟩ hM) (fun sh' v I' J' R' hp => ?_)
  obtain ⟨rfl, rfl, x, rfl, hp⟩ := hp
  exact K x _ _ hp
theorem q_callSIp {y : MD} {idx ci n dd : Nat} {As rest st0 : List Value} {x : Int32} {q : Nat} (hM : MIp y dd As sh I J R x) (hd : decode m.2.1 pc = .ok (.invokestatic idx, 3)) (hq : pc + 3 = q) (hl : ML m.1.cls idx y) (hm : MF y 1 ci n) (hst : st0 = As.reverse ++ rest) (hn : As.length = n) (hr : (rest.map fun v => v.category).sum ≤ 8) (hR : dd + 1 ≤ T.1.frames ∧ 31 * (dd + 1) ≤ T.1.locals) (hc : cells + 0 ≤ T.1.cells ∧ slots + 0 ≤ T.1.slots)
    (K : Wm m T cells slots sh q L (.int x :: rest) I J R) : Wm m T cells slots sh pc L st0 I J R := by
  refine q_callSI hM hd hq hl hm hst hn hr hR hc (fun y I' J' hp => ?_)
  obtain ⟨rfl, rfl, rfl⟩ := hp
  exact K
theorem q_callVG {y : MD} {idx ci n dd pl : Nat} {As rest st0 : List Value} {Po : Int64 → HI → HJ → Prop} {q : Nat} (hM : MG y dd (.ref pl :: As) sh I J R Po) (hd : decode m.2.1 pc = .ok (.invokevirtual idx, 3)) (hq : pc + 3 = q) (hl : ML m.1.cls idx y) (hm : MF y 0 ci n) (hs : sh[pl]? = some (.inl ci)) (hst : st0 = As.reverse ++ .ref pl :: rest) (hn : As.length = n) (hr : (rest.map fun v => v.category).sum ≤ 8) (hR : dd + 1 ≤ T.1.frames ∧ 31 * (dd + 1) ≤ T.1.locals) (hc : cells + 0 ≤ T.1.cells ∧ slots + 0 ≤ T.1.slots)
    (K : ∀ (x : Int64) (I' : HI) (J' : HJ), Po x I' J' → Wm m T cells slots sh q L (.long x :: rest) I' J' R) : Wm m T cells slots sh pc L st0 I J R := by
  subst hst
  refine q_after2 hq (run_V hd hl hm hs hn hr hR ⟨hc.1, hc.2⟩ hM) (fun sh' v I' J' R' hp => ?_)
  obtain ⟨rfl, rfl, x, rfl, hp⟩ := hp
  exact K x _ _ hp
theorem q_callVGp {y : MD} {idx ci n dd pl : Nat} {As rest st0 : List Value} {x : Int64} {q : Nat} (hM : MGp y dd (.ref pl :: As) sh I J R x) (hd : decode m.2.1 pc = .ok (.invokevirtual idx, 3)) (hq : pc + 3 = q) (hl : ML m.1.cls idx y) (hm : MF y 0 ci n) (hs : sh[pl]? = some (.inl ci)) (hst : st0 = As.reverse ++ .ref pl :: rest) (hn : As.length = n) (hr : (rest.map fun v => v.category).sum ≤ 8) (hR : dd + 1 ≤ T.1.frames ∧ 31 * (dd + 1) ≤ T.1.locals) (hc : cells + 0 ≤ T.1.cells ∧ slots + 0 ≤ T.1.slots)
    (K : Wm m T cells slots sh q L (.long x :: rest) I J R) : Wm m T cells slots sh pc L st0 I J R := by
  refine q_callVG hM hd hq hl hm hs hst hn hr hR hc (fun y I' J' hp => ?_)
  obtain ⟨rfl, rfl, rfl⟩ := hp
  exact K
theorem q_callSG {y : MD} {idx ci n dd : Nat} {As rest st0 : List Value} {Po : Int64 → HI → HJ → Prop} {q : Nat} (hM : MG y dd As sh I J R Po) (hd : decode m.2.1 pc = .ok (.invokestatic idx, 3)) (hq : pc + 3 = q) (hl : ML m.1.cls idx y) (hm : MF y 1 ci n) (hst : st0 = As.reverse ++ rest) (hn : As.length = n) (hr : (rest.map fun v => v.category).sum ≤ 8) (hR : dd + 1 ≤ T.1.frames ∧ 31 * (dd + 1) ≤ T.1.locals) (hc : cells + 0 ≤ T.1.cells ∧ slots + 0 ≤ T.1.slots)
    (K : ∀ (x : Int64) (I' : HI) (J' : HJ), Po x I' J' → Wm m T cells slots sh q L (.long x :: rest) I' J' R) : Wm m T cells slots sh pc L st0 I J R := by
  subst hst
  refine q_after2 hq (run_S hd hl hm hn hr hR ⟨hc.1, hc.2⟩ hM) (fun sh' v I' J' R' hp => ?_)
  obtain ⟨rfl, rfl, x, rfl, hp⟩ := hp
  exact K x _ _ hp
theorem q_callSGp {y : MD} {idx ci n dd : Nat} {As rest st0 : List Value} {x : Int64} {q : Nat} (hM : MGp y dd As sh I J R x) (hd : decode m.2.1 pc = .ok (.invokestatic idx, 3)) (hq : pc + 3 = q) (hl : ML m.1.cls idx y) (hm : MF y 1 ci n) (hst : st0 = As.reverse ++ rest) (hn : As.length = n) (hr : (rest.map fun v => v.category).sum ≤ 8) (hR : dd + 1 ≤ T.1.frames ∧ 31 * (dd + 1) ≤ T.1.locals) (hc : cells + 0 ≤ T.1.cells ∧ slots + 0 ≤ T.1.slots)
    (K : Wm m T cells slots sh q L (.long x :: rest) I J R) : Wm m T cells slots sh pc L st0 I J R := by
  refine q_callSG hM hd hq hl hm hst hn hr hR hc (fun y I' J' hp => ?_)
  obtain ⟨rfl, rfl, rfl⟩ := hp
  exact K
theorem q_callVV {y : MD} {idx ci n dd pl : Nat} {As rest st0 : List Value} {Po : HI → HJ → Prop} {q : Nat} (hM : MV y dd (.ref pl :: As) sh I J R Po) (hd : decode m.2.1 pc = .ok (.invokevirtual idx, 3)) (hq : pc + 3 = q) (hl : ML m.1.cls idx y) (hm : MF y 0 ci n) (hs : sh[pl]? = some (.inl ci)) (hst : st0 = As.reverse ++ .ref pl :: rest) (hn : As.length = n) (hr : (rest.map fun v => v.category).sum ≤ 8) (hR : dd + 1 ≤ T.1.frames ∧ 31 * (dd + 1) ≤ T.1.locals) (hc : cells + 0 ≤ T.1.cells ∧ slots + 0 ≤ T.1.slots)
    (K : ∀ (I' : HI) (J' : HJ), Po I' J' → Wm m T cells slots sh q L rest I' J' R) : Wm m T cells slots sh pc L st0 I J R := by
  subst hst
  refine q_after2 hq (run_V hd hl hm hs hn hr hR ⟨hc.1, hc.2⟩ hM) (fun sh' v I' J' R' hp => ?_)
  obtain ⟨rfl, rfl, rfl, hp⟩ := hp
  exact K _ _ hp
theorem q_callSV {y : MD} {idx ci n dd : Nat} {As rest st0 : List Value} {Po : HI → HJ → Prop} {q : Nat} (hM : MV y dd As sh I J R Po) (hd : decode m.2.1 pc = .ok (.invokestatic idx, 3)) (hq : pc + 3 = q) (hl : ML m.1.cls idx y) (hm : MF y 1 ci n) (hst : st0 = As.reverse ++ rest) (hn : As.length = n) (hr : (rest.map fun v => v.category).sum ≤ 8) (hR : dd + 1 ≤ T.1.frames ∧ 31 * (dd + 1) ≤ T.1.locals) (hc : cells + 0 ≤ T.1.cells ∧ slots + 0 ≤ T.1.slots)
    (K : ∀ (I' : HI) (J' : HJ), Po I' J' → Wm m T cells slots sh q L rest I' J' R) : Wm m T cells slots sh pc L st0 I J R := by
  subst hst
  refine q_after2 hq (run_S hd hl hm hn hr hR ⟨hc.1, hc.2⟩ hM) (fun sh' v I' J' R' hp => ?_)
  obtain ⟨rfl, rfl, rfl, hp⟩ := hp
  exact K _ _ hp
theorem q_callVR {y : MD} {idx ci n dd pl : Nat} {As rest st0 : List Value} {Po : Nat → HI → HJ → Prop} {q : Nat} (hM : MRf y dd (.ref pl :: As) sh I J R Po) (hd : decode m.2.1 pc = .ok (.invokevirtual idx, 3)) (hq : pc + 3 = q) (hl : ML m.1.cls idx y) (hm : MF y 0 ci n) (hs : sh[pl]? = some (.inl ci)) (hst : st0 = As.reverse ++ .ref pl :: rest) (hn : As.length = n) (hr : (rest.map fun v => v.category).sum ≤ 8) (hR : dd + 1 ≤ T.1.frames ∧ 31 * (dd + 1) ≤ T.1.locals) (hc : cells + 0 ≤ T.1.cells ∧ slots + 0 ≤ T.1.slots)
    (K : ∀ (x : Nat) (I' : HI) (J' : HJ), Po x I' J' → Wm m T cells slots sh q L (.ref x :: rest) I' J' R) : Wm m T cells slots sh pc L st0 I J R := by
  subst hst
  refine q_after2 hq (run_V hd hl hm hs hn hr hR ⟨hc.1, hc.2⟩ hM) (fun sh' v I' J' R' hp => ?_)
  obtain ⟨rfl, rfl, x, rfl, hp⟩ := hp
  exact K x _ _ hp
theorem q_callVRp {y : MD} {idx ci n dd pl : Nat} {As rest st0 : List Value} {x : Nat} {q : Nat} (hM : MRfp y dd (.ref pl :: As) sh I J R x) (hd : decode m.2.1 pc = .ok (.invokevirtual idx, 3)) (hq : pc + 3 = q) (hl : ML m.1.cls idx y) (hm : MF y 0 ci n) (hs : sh[pl]? = some (.inl ci)) (hst : st0 = As.reverse ++ .ref pl :: rest) (hn : As.length = n) (hr : (rest.map fun v => v.category).sum ≤ 8) (hR : dd + 1 ≤ T.1.frames ∧ 31 * (dd + 1) ≤ T.1.locals) (hc : cells + 0 ≤ T.1.cells ∧ slots + 0 ≤ T.1.slots)
    (K : Wm m T cells slots sh q L (.ref x :: rest) I J R) : Wm m T cells slots sh pc L st0 I J R := by
  refine q_callVR hM hd hq hl hm hs hst hn hr hR hc (fun y I' J' hp => ?_)
  obtain ⟨rfl, rfl, rfl⟩ := hp
  exact K
theorem q_callSR {y : MD} {idx ci n dd : Nat} {As rest st0 : List Value} {Po : Nat → HI → HJ → Prop} {q : Nat} (hM : MRf y dd As sh I J R Po) (hd : decode m.2.1 pc = .ok (.invokestatic idx, 3)) (hq : pc + 3 = q) (hl : ML m.1.cls idx y) (hm : MF y 1 ci n) (hst : st0 = As.reverse ++ rest) (hn : As.length = n) (hr : (rest.map fun v => v.category).sum ≤ 8) (hR : dd + 1 ≤ T.1.frames ∧ 31 * (dd + 1) ≤ T.1.locals) (hc : cells + 0 ≤ T.1.cells ∧ slots + 0 ≤ T.1.slots)
    (K : ∀ (x : Nat) (I' : HI) (J' : HJ), Po x I' J' → Wm m T cells slots sh q L (.ref x :: rest) I' J' R) : Wm m T cells slots sh pc L st0 I J R := by
  subst hst
  refine q_after2 hq (run_S hd hl hm hn hr hR ⟨hc.1, hc.2⟩ hM) (fun sh' v I' J' R' hp => ?_)
  obtain ⟨rfl, rfl, x, rfl, hp⟩ := hp
  exact K x _ _ hp
theorem q_callSRp {y : MD} {idx ci n dd : Nat} {As rest st0 : List Value} {x : Nat} {q : Nat} (hM : MRfp y dd As sh I J R x) (hd : decode m.2.1 pc = .ok (.invokestatic idx, 3)) (hq : pc + 3 = q) (hl : ML m.1.cls idx y) (hm : MF y 1 ci n) (hst : st0 = As.reverse ++ rest) (hn : As.length = n) (hr : (rest.map fun v => v.category).sum ≤ 8) (hR : dd + 1 ≤ T.1.frames ∧ 31 * (dd + 1) ≤ T.1.locals) (hc : cells + 0 ≤ T.1.cells ∧ slots + 0 ≤ T.1.slots)
    (K : Wm m T cells slots sh q L (.ref x :: rest) I J R) : Wm m T cells slots sh pc L st0 I J R := by
  refine q_callSR hM hd hq hl hm hst hn hr hR hc (fun y I' J' hp => ?_)
  obtain ⟨rfl, rfl, rfl⟩ := hp
  exact K
theorem q_forget {L' : LO} (h : subL L' L) (K : Wm m T cells slots sh pc L' st I J R) : Wm m T cells slots sh pc L st I J R := by
  intro p l e s mid args below meth c D A ad0 cA0 ad cA H locs ls S
  obtain ⟨C, hA, hT, hK, hP, hD, hS, hl⟩ := S
  exact K p l e s mid args below meth c D A ad0 cA0 ad cA H locs ls ⟨C, hA, hT, hK, hP, hD, hS, hl.1, hl.2.1, fun i v hi => hl.2.2 i v (subL_at L' L h i v hi)⟩
variable {d mc ms n0 : Nat} {al : Bool} {Po : PO}
theorem TM_math {dd : Nat} (h1 : cells ≤ mc) (h2 : slots ≤ ms) : 1 ≤ (TM (dd + 1) mc ms al n0 Po).1.frames ∧ 21 ≤ (TM (dd + 1) mc ms al n0 Po).1.locals ∧ cells ≤ (TM (dd + 1) mc ms al n0 Po).1.cells ∧ slots ≤ (TM (dd + 1) mc ms al n0 Po).1.slots :=
  ⟨Nat.le_add_left 1 dd, by show 21 ≤ 31 * (dd + 1); omega, h1, h2⟩
theorem TM_cs : 0 + 0 ≤ (TM d 0 0 al n0 Po).1.cells ∧ 0 + 0 ≤ (TM d 0 0 al n0 Po).1.slots := ⟨Nat.le_refl _, Nat.le_refl _⟩
end NROWS
/-- the shape of the whole world: the class's cells from 0, the reference's from 44 -/
def shA : List Kd := [.inl 6, .inl 3, .inr (.byte, 400), .inr (.int, 4),
  .inl 5, .inr (.int, 12), .inr (.int, 12), .inr (.int, 12), .inr (.int, 12), .inr (.int, 100),
  .inl 5, .inr (.int, 12), .inr (.int, 12), .inr (.int, 12), .inr (.int, 12), .inr (.int, 100),
  .inl 0, .inr (.int, 12), .inr (.int, 12), .inr (.int, 8), .inr (.int, 8), .inr (.int, 8),
  .inl 0, .inr (.int, 12), .inr (.int, 12), .inr (.int, 8), .inr (.int, 8), .inr (.int, 8),
  .inl 0, .inr (.int, 12), .inr (.int, 12), .inr (.int, 8), .inr (.int, 8), .inr (.int, 8),
  .inl 2, .inr (.int, 14), .inr (.int, 15),
  .inl 4, .inr (.array .int, 3), .inr (.int, 7), .inr (.int, 7), .inr (.int, 7),
  .inl 1, .inr (.int, 100),
  .inl 7, .inr (.byte, 400), .inr (.int, 10), .inr (.int, 2), .inr (.int, 96), .inr (.int, 200), .inr (.int, 3), .inr (.int, 36), .inr (.int, 36), .inr (.long, 3), .inr (.int, 3), .inr (.int, 72), .inr (.int, 14), .inr (.int, 12), .inr (.int, 6), .inr (.int, 6), .inr (.int, 12), .inr (.int, 12), .inr (.int, 225), .inr (.int, 4)]
/-- where the references lie -/
def RA : HR := fun p k => (([[some 1, some 4, some 10, some 16, some 22, some 28, none, some 34, some 37, some 42], [some 2, none, some 3], [], [],
  [none, none, none, none, none, none, some 5, some 6, some 7, some 8, some 9], [], [], [], [], [], [none, none, none, none, none, none, some 11, some 12, some 13, some 14, some 15], [], [], [], [], [],
  [none, some 17, some 18, none, none, some 19, some 20, some 21], [], [], [], [], [], [none, some 23, some 24, none, none, some 25, some 26, some 27], [], [], [], [], [], [none, some 29, some 30, none, none, some 31, some 32, some 33], [], [], [], [], [],
  [some 35, none, some 36], [], [], [some 38], [some 39, some 40, some 41], [], [], [], [some 43], [],
  [none, some 45, none, some 46, some 47, some 48, some 49, some 50, some 51, some 52, some 53, some 54, some 55, none, none, some 56, some 57, some 58, some 59, some 60, some 61, some 62, none, none, some 63]] : List (List (Option Nat))).getD p []).getD k none
theorem shA_len : shA.length = 64 := rfl
end
section
/-! the class's barn -/
def sI (f : Nat → Int32) (n : Nat) : Int32 := match n with
  | 0 => 0
  | n + 1 => sI f n + f n
def mnI (x y : Int32) : Int32 := if y < x then y else x
def inr (n a b : Int32) : Bool := decide (a ≤ n) && decide (n ≤ b)
theorem S_inside {d : Nat} {sh : List Kd} {I : HI} {J : HJ} {R : HR} {n a b : Int32} : MIp mX6_inside d [.int n, .int a, .int b] sh I J R (bI (inr n a b)) := by
  refine Mt.of (L := [some (.int n), some (.int a), some (.int b)]) (by decide +kernel) (Nat.le_of_ble_eq_true rfl) rfl ?_
  refine q_iload_n dX6_inside_0 (rfl : 0 + 1 = 1) rfl ?_
  refine q_iload_n dX6_inside_1 (rfl : 1 + 1 = 2) rfl ?_
  refine q_icmp_lt (q := 14) dX6_inside_2 (by decide) (rfl : 2 + 3 = 5) (fun h => ?_) (fun h => ?_)
  ·
    refine q_iconst (v := nI 0) dX6_inside_14 (rfl : 14 + 1 = 15) (by decide) ?_
    refine q_zret rfl dX6_inside_15 (by first | exact bI_01 _ | exact Or.inl rfl | exact Or.inr rfl) ⟨rfl, rfl, _, rfl, ?_⟩
    have e : inr n a b = false := by unfold inr; simp [Int32.not_le.mpr h]
    rw [e]
    exact ⟨rfl, rfl, rfl⟩
  ·
    refine q_iload_n dX6_inside_5 (rfl : 5 + 1 = 6) rfl ?_
    refine q_iload_n dX6_inside_6 (rfl : 6 + 1 = 7) rfl ?_
    refine q_icmp_gt (q := 14) dX6_inside_7 (by decide) (rfl : 7 + 3 = 10) (fun h2 => ?_) (fun h2 => ?_)
    ·
      refine q_iconst (v := nI 0) dX6_inside_14 (rfl : 14 + 1 = 15) (by decide) ?_
      refine q_zret rfl dX6_inside_15 (by first | exact bI_01 _ | exact Or.inl rfl | exact Or.inr rfl) ⟨rfl, rfl, _, rfl, ?_⟩
      have e : inr n a b = false := by unfold inr; simp [Int32.not_le.mpr h2]
      rw [e]
      exact ⟨rfl, rfl, rfl⟩
    ·
      refine q_iconst (v := nI 1) dX6_inside_10 (rfl : 10 + 1 = 11) (by decide) ?_
      refine q_goto (q := 15) dX6_inside_11 (by decide) ?_
      refine q_zret rfl dX6_inside_15 (by first | exact bI_01 _ | exact Or.inl rfl | exact Or.inr rfl) ⟨rfl, rfl, _, rfl, ?_⟩
      have e : inr n a b = true := by unfold inr; simp [Int32.not_lt.mp h, Int32.not_lt.mp h2]
      rw [e]
      exact ⟨rfl, rfl, rfl⟩
theorem S_has {d : Nat} {I : HI} {J : HJ} {i : Int32} {n : Nat} (hn : I 16 0 = nI n) : MIp mX0_has (d + 1) [.ref 16, .int i] shA I J RA (bI (inr i (nI 0) (nI n - nI 1))) := by
  refine Mt.of (L := [some (.ref 16), some (.int i)]) (by decide +kernel) (Nat.le_of_ble_eq_true rfl) rfl ?_
  refine q_iload_n dX0_has_0 (rfl : 0 + 1 = 1) rfl ?_
  refine q_iconst (v := nI 0) dX0_has_1 (rfl : 1 + 1 = 2) (by decide) ?_
  refine q_aload_n dX0_has_2 (rfl : 2 + 1 = 3) rfl ?_
  refine q_getI dX0_has_3 (rfl : 3 + 3 = 6) fX0_9 (by first | rfl | assumption) ?_
  refine q_iconst (v := nI 1) dX0_has_6 (rfl : 6 + 1 = 7) (by decide) ?_
  refine q_isub dX0_has_7 (rfl : 7 + 1 = 8) ?_
  rw [hn]
  refine q_callSIp S_inside dX0_has_8 (rfl : 8 + 3 = 11) lX0_37 vX6_inside rfl rfl (Nat.le_of_ble_eq_true rfl) TM_room TM_cs ?_
  refine q_zret rfl dX0_has_11 (by first | exact bI_01 _ | exact Or.inl rfl | exact Or.inr rfl) ⟨rfl, rfl, _, rfl, ?_⟩
  exact ⟨rfl, rfl, rfl⟩
theorem L_high {T : Tg} {I : HI} {J : HJ} {n : Nat} (hn : I 16 0 = nI n) (h12 : n ≤ 12) (K : Wm mX0_high T 0 0 shA 27 [some (.ref 16), some (.int (sI (I 17) n)), some (.int (nI n))] [] I J RA) :
    ∀ (i : Nat), i ≤ n → Wm mX0_high T 0 0 shA 4 [some (.ref 16), some (.int (sI (I 17) i)), some (.int (nI i))] [] I J RA := by
  refine loopN (fun i hi ih => ?_)
  refine q_iload_n dX0_high_4 (rfl : 4 + 1 = 5) rfl ?_
  refine q_aload_n dX0_high_5 (rfl : 5 + 1 = 6) rfl ?_
  refine q_getI dX0_high_6 (rfl : 6 + 3 = 9) fX0_9 (by first | rfl | assumption) ?_
  rw [hn]
  refine q_icmp_ge_n (q := 27) (by omega) (by omega) dX0_high_9 (by decide) (rfl : 9 + 3 = 12) (fun hc => ?_) (fun hc => ?_)
  · obtain rfl : i = n := by omega
    exact K
  · refine q_iload_n dX0_high_12 (rfl : 12 + 1 = 13) rfl ?_
    refine q_aload_n dX0_high_13 (rfl : 13 + 1 = 14) rfl ?_
    refine q_getR dX0_high_14 (rfl : 14 + 3 = 17) fX0_15 (by first | rfl | assumption) (by first | rfl | assumption) ?_
    refine q_iload_n dX0_high_17 (rfl : 17 + 1 = 18) rfl ?_
    refine q_iald dX0_high_18 (rfl : 18 + 1 = 19) (by first | rfl | assumption) (by first | assumption | omega) (by decide) ?_
    refine q_iadd dX0_high_19 (rfl : 19 + 1 = 20) ?_
    refine q_istore_n dX0_high_20 (rfl : 20 + 1 = 21) (by decide) ?_
    first | refine q_iinc1 dX0_high_21 (rfl : 21 + 3 = 24) rfl (by decide) ?_ | refine q_iinc dX0_high_21 (rfl : 21 + 3 = 24) rfl rfl (by decide) ?_
    refine q_goto (q := 4) dX0_high_24 (by decide) ?_
    exact ih hc
theorem S_high {d : Nat} {I : HI} {J : HJ} {n : Nat} (hn : I 16 0 = nI n) (h12 : n ≤ 12) : MIp mX0_high d [.ref 16] shA I J RA (sI (I 17) n) := by
  refine Mt.of (L := [some (.ref 16), none, none]) (by decide +kernel) (Nat.le_of_ble_eq_true rfl) rfl ?_
  refine q_iconst (v := nI 0) dX0_high_0 (rfl : 0 + 1 = 1) (by decide) ?_
  refine q_istore_n dX0_high_1 (rfl : 1 + 1 = 2) (by decide) ?_
  refine q_iconst (v := nI 0) dX0_high_2 (rfl : 2 + 1 = 3) (by decide) ?_
  refine q_istore_n dX0_high_3 (rfl : 3 + 1 = 4) (by decide) ?_
  refine L_high hn h12 ?_ 0 (by omega)
  refine q_iload_n dX0_high_27 (rfl : 27 + 1 = 28) rfl ?_
  refine q_iret rfl dX0_high_28 ⟨rfl, rfl, _, rfl, ?_⟩
  exact ⟨rfl, rfl, rfl⟩
theorem L_load {T : Tg} {I : HI} {J : HJ} {n : Nat} (hn : I 16 0 = nI n) (h12 : n ≤ 12) (K : Wm mX0_load T 0 0 shA 34 [some (.ref 16), some (.ref 4), some (.int (sI (fun j => I 17 j * I 7 j) n)), some (.int (nI n))] [] I J RA) :
    ∀ (i : Nat), i ≤ n → Wm mX0_load T 0 0 shA 4 [some (.ref 16), some (.ref 4), some (.int (sI (fun j => I 17 j * I 7 j) i)), some (.int (nI i))] [] I J RA := by
  refine loopN (fun i hi ih => ?_)
  refine q_iload_n dX0_load_4 (rfl : 4 + 1 = 5) rfl ?_
  refine q_aload_n dX0_load_5 (rfl : 5 + 1 = 6) rfl ?_
  refine q_getI dX0_load_6 (rfl : 6 + 3 = 9) fX0_9 (by first | rfl | assumption) ?_
  rw [hn]
  refine q_icmp_ge_n (q := 34) (by omega) (by omega) dX0_load_9 (by decide) (rfl : 9 + 3 = 12) (fun hc => ?_) (fun hc => ?_)
  · obtain rfl : i = n := by omega
    exact K
  · refine q_iload_n dX0_load_12 (rfl : 12 + 1 = 13) rfl ?_
    refine q_aload_n dX0_load_13 (rfl : 13 + 1 = 14) rfl ?_
    refine q_getR dX0_load_14 (rfl : 14 + 3 = 17) fX0_15 (by first | rfl | assumption) (by first | rfl | assumption) ?_
    refine q_iload_n dX0_load_17 (rfl : 17 + 1 = 18) rfl ?_
    refine q_iald dX0_load_18 (rfl : 18 + 1 = 19) (by first | rfl | assumption) (by first | assumption | omega) (by decide) ?_
    refine q_aload_n dX0_load_19 (rfl : 19 + 1 = 20) rfl ?_
    refine q_getR dX0_load_20 (rfl : 20 + 3 = 23) fX0_41 (by first | rfl | assumption) (by first | rfl | assumption) ?_
    refine q_iload_n dX0_load_23 (rfl : 23 + 1 = 24) rfl ?_
    refine q_iald dX0_load_24 (rfl : 24 + 1 = 25) (by first | rfl | assumption) (by first | assumption | omega) (by decide) ?_
    refine q_imul dX0_load_25 (rfl : 25 + 1 = 26) ?_
    refine q_iadd dX0_load_26 (rfl : 26 + 1 = 27) ?_
    refine q_istore_n dX0_load_27 (rfl : 27 + 1 = 28) (by decide) ?_
    first | refine q_iinc1 dX0_load_28 (rfl : 28 + 3 = 31) rfl (by decide) ?_ | refine q_iinc dX0_load_28 (rfl : 28 + 3 = 31) rfl rfl (by decide) ?_
    refine q_goto (q := 4) dX0_load_31 (by decide) ?_
    exact ih hc
theorem S_load {d : Nat} {I : HI} {J : HJ} {n : Nat} (hn : I 16 0 = nI n) (h12 : n ≤ 12) : MIp mX0_load d [.ref 16, .ref 4] shA I J RA (sI (fun j => I 17 j * I 7 j) n) := by
  refine Mt.of (L := [some (.ref 16), some (.ref 4), none, none]) (by decide +kernel) (Nat.le_of_ble_eq_true rfl) rfl ?_
  refine q_iconst (v := nI 0) dX0_load_0 (rfl : 0 + 1 = 1) (by decide) ?_
  refine q_istore_n dX0_load_1 (rfl : 1 + 1 = 2) (by decide) ?_
  refine q_iconst (v := nI 0) dX0_load_2 (rfl : 2 + 1 = 3) (by decide) ?_
  refine q_istore_n dX0_load_3 (rfl : 3 + 1 = 4) (by decide) ?_
  refine L_load hn h12 ?_ 0 (by omega)
  refine q_iload_n dX0_load_34 (rfl : 34 + 1 = 35) rfl ?_
  refine q_iret rfl dX0_load_35 ⟨rfl, rfl, _, rfl, ?_⟩
  exact ⟨rfl, rfl, rfl⟩
theorem S_doorOf {d : Nat} {I : HI} {J : HJ} {n i : Nat} (hn : I 16 0 = nI n) (h12 : n ≤ 12) (hi : i < n) : MIp mX0_doorOf (d + 1) [.ref 16, .int (nI i)] shA I J RA (nI (3 * i / n)) := by
  refine Mt.of (L := [some (.ref 16), some (.int (nI i))]) (by decide +kernel) (Nat.le_of_ble_eq_true rfl) rfl ?_
  refine q_iconst (v := nI 3) dX0_doorOf_0 (rfl : 0 + 1 = 1) (by decide) ?_
  refine q_iload_n dX0_doorOf_1 (rfl : 1 + 1 = 2) rfl ?_
  refine q_imul dX0_doorOf_2 (rfl : 2 + 1 = 3) ?_
  try simp (decide := true) only [wr_hit, wr_p, wr_k, nI_add, pk_mul, nI_1, nI_s1, hn]
  refine q_iconst (v := nI 1) dX0_doorOf_3 (rfl : 3 + 1 = 4) (by decide) ?_
  refine q_aload_n dX0_doorOf_4 (rfl : 4 + 1 = 5) rfl ?_
  refine q_getI dX0_doorOf_5 (rfl : 5 + 3 = 8) fX0_9 (by first | rfl | assumption) ?_
  try simp (decide := true) only [wr_hit, wr_p, wr_k, nI_add, pk_mul, nI_1, nI_s1, hn]
  refine q_max dX0_doorOf_8 (rfl : 8 + 3 = 11) lX0_46 w_max (Nat.le_of_ble_eq_true rfl) (TM_math (Nat.le_refl _) (Nat.le_refl _)) ?_
  have e1 : (if nI 1 < nI n then nI n else nI 1) = nI n := by
    by_cases h : n = 1
    · subst h; rfl
    · rw [if_pos ((nI_ltI (by decide) (by omega)).mpr (by omega))]
  have e2 : ¬ nI n = 0 := nI_ne0 (by omega) (by omega)
  rw [e1]
  refine q_idiv dX0_doorOf_11 (rfl : 11 + 1 = 12) (by first | assumption | decide) ?_
  refine q_iret rfl dX0_doorOf_12 ⟨rfl, rfl, _, rfl, ?_⟩
  exact ⟨pk_div (by omega) (by omega) (by omega), rfl, rfl⟩
/-- what a thaw by a door takes of layer i -/
def lessI (t : Nat → Int32) (n : Nat) (door most : Int32) (i : Nat) : Int32 := if nI (3 * i / n) = door then mnI (t i) most else 0
def meltH (I : HI) (n : Nat) (door most : Int32) (i : Nat) : HI := fun a b => if a = 17 ∧ b < i then I 17 b - lessI (I 17) n door most b else I a b
theorem meltH_0 (I : HI) (n : Nat) (door most : Int32) : meltH I n door most 0 = I := by
  funext a b
  simp [meltH]
theorem meltH_s (I : HI) (n : Nat) (door most : Int32) (i : Nat) (h : nI (3 * i / n) = door) : wr (meltH I n door most i) 17 i (I 17 i - mnI (I 17 i) most) = meltH I n door most (i + 1) := by
  funext a b
  unfold wr meltH
  by_cases ha : a = 17
  · subst ha
    by_cases hb : b = i
    · subst hb
      simp [lessI, h]
    · simp only [if_true, hb, if_false, true_and]
      by_cases h1 : b < i
      · rw [if_pos h1, if_pos (by omega)]
      · rw [if_neg h1, if_neg (by omega)]
  · simp [ha]
theorem meltH_n (I : HI) (n : Nat) (door most : Int32) (i : Nat) (h : ¬ nI (3 * i / n) = door) : meltH I n door most i = meltH I n door most (i + 1) := by
  funext a b
  unfold meltH
  by_cases ha : a = 17 ∧ b = i
  · obtain ⟨rfl, rfl⟩ := ha
    simp [lessI, h]
  · by_cases h1 : a = 17 ∧ b < i
    · rw [if_pos h1, if_pos ⟨h1.1, by omega⟩]
    · rw [if_neg h1, if_neg (by omega)]
theorem meltH_at (I : HI) (n : Nat) (door most : Int32) (i : Nat) : meltH I n door most i 17 i = I 17 i := by simp [meltH]
theorem meltH_16 (I : HI) (n : Nat) (door most : Int32) (i k : Nat) : meltH I n door most i 16 k = I 16 k := by simp [meltH]
theorem L_melt {d n0 : Nat} {Po : PO} {I : HI} {J : HJ} {n : Nat} {door most : Int32} (hn : I 16 0 = nI n) (h12 : n ≤ 12) (K : Wm mX0_melt (TM (d + 2) 0 0 false n0 Po) 0 0 shA 60 [some (.ref 16), some (.int door), some (.int most), some (.int (sI (lessI (I 17) n door most) n)), some (.int (nI n)), none] [] (meltH I n door most n) J RA) :
    ∀ (i : Nat), i ≤ n → Wm mX0_melt (TM (d + 2) 0 0 false n0 Po) 0 0 shA 5 [some (.ref 16), some (.int door), some (.int most), some (.int (sI (lessI (I 17) n door most) i)), some (.int (nI i)), none] [] (meltH I n door most i) J RA := by
  refine loopN (fun i hi ih => ?_)
  have hn' : meltH I n door most i 16 0 = nI n := by rw [meltH_16]; exact hn
  refine q_iload dX0_melt_5 (rfl : 5 + 2 = 7) rfl ?_
  refine q_aload_n dX0_melt_7 (rfl : 7 + 1 = 8) rfl ?_
  refine q_getI dX0_melt_8 (rfl : 8 + 3 = 11) fX0_9 (by first | rfl | assumption) ?_
  rw [hn']
  refine q_icmp_ge_n (q := 60) (by omega) (by omega) dX0_melt_11 (by decide) (rfl : 11 + 3 = 14) (fun hc => ?_) (fun hc => ?_)
  · obtain rfl : i = n := by omega
    exact K
  · refine q_aload_n dX0_melt_14 (rfl : 14 + 1 = 15) rfl ?_
    refine q_iload dX0_melt_15 (rfl : 15 + 2 = 17) rfl ?_
    refine q_callVIp (S_doorOf (d := d) hn' h12 hc) dX0_melt_17 (rfl : 17 + 3 = 20) lX0_52 vX0_doorOf (by first | rfl | assumption) rfl rfl (Nat.le_of_ble_eq_true rfl) TM_room TM_cs ?_
    refine q_iload_n dX0_melt_20 (rfl : 20 + 1 = 21) rfl ?_
    refine q_icmp_ne (q := 54) dX0_melt_21 (by decide) (rfl : 21 + 3 = 24) (fun e => ?_) (fun e => ?_)
    ·
      first | refine q_iinc1 dX0_melt_54 (rfl : 54 + 3 = 57) rfl (by decide) ?_ | refine q_iinc dX0_melt_54 (rfl : 54 + 3 = 57) rfl rfl (by decide) ?_
      refine q_goto (q := 5) dX0_melt_57 (by decide) ?_
      rw [meltH_n I n door most i e]
      have e3 : sI (lessI (I 17) n door most) (i + 1) = sI (lessI (I 17) n door most) i := by simp [sI, lessI, e]
      rw [← e3]
      exact ih hc
    ·
      refine q_aload_n dX0_melt_24 (rfl : 24 + 1 = 25) rfl ?_
      refine q_getR dX0_melt_25 (rfl : 25 + 3 = 28) fX0_15 (by first | rfl | assumption) (by first | rfl | assumption) ?_
      refine q_iload dX0_melt_28 (rfl : 28 + 2 = 30) rfl ?_
      refine q_iald dX0_melt_30 (rfl : 30 + 1 = 31) (by first | rfl | assumption) (by first | assumption | omega) (by decide) ?_
      try simp (decide := true) only [wr_hit, wr_p, wr_k, nI_add, pk_mul, nI_1, nI_s1, meltH_at, meltH_16]
      refine q_iload_n dX0_melt_31 (rfl : 31 + 1 = 32) rfl ?_
      refine q_min dX0_melt_32 (rfl : 32 + 3 = 35) lX0_56 w_min (Nat.le_of_ble_eq_true rfl) (TM_math (Nat.le_refl _) (Nat.le_refl _)) ?_
      refine q_istore dX0_melt_35 (rfl : 35 + 2 = 37) (by decide) ?_
      refine q_aload_n dX0_melt_37 (rfl : 37 + 1 = 38) rfl ?_
      refine q_getR dX0_melt_38 (rfl : 38 + 3 = 41) fX0_15 (by first | rfl | assumption) (by first | rfl | assumption) ?_
      refine q_iload dX0_melt_41 (rfl : 41 + 2 = 43) rfl ?_
      refine q_dup2 dX0_melt_43 (rfl : 43 + 1 = 44) rfl rfl ?_
      refine q_iald dX0_melt_44 (rfl : 44 + 1 = 45) (by first | rfl | assumption) (by first | assumption | omega) (by decide) ?_
      try simp (decide := true) only [wr_hit, wr_p, wr_k, nI_add, pk_mul, nI_1, nI_s1, meltH_at, meltH_16]
      refine q_iload dX0_melt_45 (rfl : 45 + 2 = 47) rfl ?_
      refine q_isub dX0_melt_47 (rfl : 47 + 1 = 48) ?_
      try simp (decide := true) only [wr_hit, wr_p, wr_k, nI_add, pk_mul, nI_1, nI_s1, meltH_at, meltH_16]
      refine q_iast dX0_melt_48 (rfl : 48 + 1 = 49) (by first | rfl | assumption) (by first | assumption | omega) (by decide) ?_
      refine q_iload_n dX0_melt_49 (rfl : 49 + 1 = 50) rfl ?_
      refine q_iload dX0_melt_50 (rfl : 50 + 2 = 52) rfl ?_
      refine q_iadd dX0_melt_52 (rfl : 52 + 1 = 53) ?_
      try simp (decide := true) only [wr_hit, wr_p, wr_k, nI_add, pk_mul, nI_1, nI_s1, meltH_at, meltH_16]
      refine q_istore_n dX0_melt_53 (rfl : 53 + 1 = 54) (by decide) ?_
      first | refine q_iinc1 dX0_melt_54 (rfl : 54 + 3 = 57) rfl (by decide) ?_ | refine q_iinc dX0_melt_54 (rfl : 54 + 3 = 57) rfl rfl (by decide) ?_
      refine q_goto (q := 5) dX0_melt_57 (by decide) ?_
      have e4 : (if most < I 17 i then most else I 17 i) = mnI (I 17 i) most := rfl
      rw [e4, meltH_s I n door most i e]
      have e3 : sI (lessI (I 17) n door most) (i + 1) = sI (lessI (I 17) n door most) i + mnI (I 17 i) most := by simp [sI, lessI, e]
      rw [← e3]
      refine q_forget (L' := [some (.ref 16), some (.int door), some (.int most), some (.int (sI (lessI (I 17) n door most) (i + 1))), some (.int (nI (i + 1))), none]) (by repeat (first | exact trivial | refine And.intro rfl ?_)) ?_
      exact ih hc
theorem S_melt {d : Nat} {I : HI} {J : HJ} {n : Nat} {door most : Int32} (hn : I 16 0 = nI n) (h12 : n ≤ 12) : MI mX0_melt (d + 2) [.ref 16, .int door, .int most] shA I J RA (fun x I' J' => x = sI (lessI (I 17) n door most) n ∧ I' = meltH I n door most n ∧ J' = J) := by
  refine Mt.of (L := [some (.ref 16), some (.int door), some (.int most), none, none, none]) (by decide +kernel) (Nat.le_of_ble_eq_true rfl) rfl ?_
  refine q_iconst (v := nI 0) dX0_melt_0 (rfl : 0 + 1 = 1) (by decide) ?_
  refine q_istore_n dX0_melt_1 (rfl : 1 + 1 = 2) (by decide) ?_
  refine q_iconst (v := nI 0) dX0_melt_2 (rfl : 2 + 1 = 3) (by decide) ?_
  refine q_istore dX0_melt_3 (rfl : 3 + 2 = 5) (by decide) ?_
  have := L_melt (d := d) (n0 := shA.length) (J := J) (door := door) (most := most) (Po := fun sh' v I' J' R' => sh' = shA ∧ R' = RA ∧ ∃ x : Int32, v = some (.int x) ∧ (x = sI (lessI (I 17) n door most) n ∧ I' = meltH I n door most n ∧ J' = J)) hn h12 ?_ 0 (by omega)
  · rw [meltH_0] at this
    exact this
  refine q_iload_n dX0_melt_60 (rfl : 60 + 1 = 61) rfl ?_
  refine q_iret rfl dX0_melt_61 ⟨rfl, rfl, _, rfl, ?_⟩
  exact ⟨rfl, rfl, rfl⟩
end
section
/-! the class's barn: writes -/
theorem S_clear {d : Nat} {I : HI} {J : HJ} : MV mX0_clear d [.ref 16] shA I J RA (fun I' J' => I' = wr (wr (wr I 16 0 (nI 0)) 16 3 (nI 0)) 16 4 (nI 0) ∧ J' = J) := by
  refine Mt.of (L := [some (.ref 16)]) (by decide +kernel) (Nat.le_of_ble_eq_true rfl) rfl ?_
  refine q_aload_n dX0_clear_0 (rfl : 0 + 1 = 1) rfl ?_
  refine q_iconst (v := nI 0) dX0_clear_1 (rfl : 1 + 1 = 2) (by decide) ?_
  refine q_putI dX0_clear_2 (rfl : 2 + 3 = 5) pX0_9 (by first | rfl | assumption) ?_
  refine q_aload_n dX0_clear_5 (rfl : 5 + 1 = 6) rfl ?_
  refine q_iconst (v := nI 0) dX0_clear_6 (rfl : 6 + 1 = 7) (by decide) ?_
  refine q_putI dX0_clear_7 (rfl : 7 + 3 = 10) pX0_22 (by first | rfl | assumption) ?_
  refine q_aload_n dX0_clear_10 (rfl : 10 + 1 = 11) rfl ?_
  refine q_iconst (v := nI 0) dX0_clear_11 (rfl : 11 + 1 = 12) (by decide) ?_
  refine q_putI dX0_clear_12 (rfl : 12 + 3 = 15) pX0_25 (by first | rfl | assumption) ?_
  refine q_vret rfl dX0_clear_15 ⟨rfl, rfl, rfl, ?_⟩
  exact ⟨rfl, rfl⟩
theorem S_comeIn {d : Nat} {I : HI} {J : HJ} {n : Nat} {t u : Int32} (hn : I 16 0 = nI n) (h12 : n < 12) : MV mX0_comeIn d [.ref 16, .int t, .int u] shA I J RA (fun I' J' => I' = wr (wr (wr I 17 n t) 18 n u) 16 0 (nI (n + 1)) ∧ J' = J) := by
  refine Mt.of (L := [some (.ref 16), some (.int t), some (.int u)]) (by decide +kernel) (Nat.le_of_ble_eq_true rfl) rfl ?_
  refine q_aload_n dX0_comeIn_0 (rfl : 0 + 1 = 1) rfl ?_
  refine q_getI dX0_comeIn_1 (rfl : 1 + 3 = 4) fX0_9 (by first | rfl | assumption) ?_
  try simp (decide := true) only [wr_hit, wr_p, wr_k, nI_add, pk_mul, nI_1, nI_s1, hn]
  refine q_bipush (v := nI 12) dX0_comeIn_4 (rfl : 4 + 2 = 6) (by decide) ?_
  refine q_icmp_ge_n (q := 39) (by omega) (by omega) dX0_comeIn_6 (by decide) (rfl : 6 + 3 = 9) (fun h => ?_) (fun h => ?_)
  · omega
  · refine q_aload_n dX0_comeIn_9 (rfl : 9 + 1 = 10) rfl ?_
    refine q_getR dX0_comeIn_10 (rfl : 10 + 3 = 13) fX0_15 (by first | rfl | assumption) (by first | rfl | assumption) ?_
    refine q_aload_n dX0_comeIn_13 (rfl : 13 + 1 = 14) rfl ?_
    refine q_getI dX0_comeIn_14 (rfl : 14 + 3 = 17) fX0_9 (by first | rfl | assumption) ?_
    try simp (decide := true) only [wr_hit, wr_p, wr_k, nI_add, pk_mul, nI_1, nI_s1, hn]
    refine q_iload_n dX0_comeIn_17 (rfl : 17 + 1 = 18) rfl ?_
    refine q_iast dX0_comeIn_18 (rfl : 18 + 1 = 19) (by first | rfl | assumption) (by first | assumption | omega) (by decide) ?_
    refine q_aload_n dX0_comeIn_19 (rfl : 19 + 1 = 20) rfl ?_
    refine q_getR dX0_comeIn_20 (rfl : 20 + 3 = 23) fX0_19 (by first | rfl | assumption) (by first | rfl | assumption) ?_
    refine q_aload_n dX0_comeIn_23 (rfl : 23 + 1 = 24) rfl ?_
    refine q_getI dX0_comeIn_24 (rfl : 24 + 3 = 27) fX0_9 (by first | rfl | assumption) ?_
    try simp (decide := true) only [wr_hit, wr_p, wr_k, nI_add, pk_mul, nI_1, nI_s1, hn]
    refine q_iload_n dX0_comeIn_27 (rfl : 27 + 1 = 28) rfl ?_
    refine q_iast dX0_comeIn_28 (rfl : 28 + 1 = 29) (by first | rfl | assumption) (by first | assumption | omega) (by decide) ?_
    refine q_aload_n dX0_comeIn_29 (rfl : 29 + 1 = 30) rfl ?_
    refine q_dup dX0_comeIn_30 (rfl : 30 + 1 = 31) rfl ?_
    refine q_getI dX0_comeIn_31 (rfl : 31 + 3 = 34) fX0_9 (by first | rfl | assumption) ?_
    try simp (decide := true) only [wr_hit, wr_p, wr_k, nI_add, pk_mul, nI_1, nI_s1, hn]
    refine q_iconst (v := nI 1) dX0_comeIn_34 (rfl : 34 + 1 = 35) (by decide) ?_
    refine q_iadd dX0_comeIn_35 (rfl : 35 + 1 = 36) ?_
    try simp (decide := true) only [wr_hit, wr_p, wr_k, nI_add, pk_mul, nI_1, nI_s1, hn]
    refine q_putI dX0_comeIn_36 (rfl : 36 + 3 = 39) pX0_9 (by first | rfl | assumption) ?_
    refine q_vret rfl dX0_comeIn_39 ⟨rfl, rfl, rfl, ?_⟩
    exact ⟨rfl, rfl⟩
def shH (I : HI) (i : Nat) : HI := fun a b => if (a = 19 ∨ a = 20 ∨ a = 21) ∧ b < i then I a (b + 1) else I a b
theorem shH_0 (I : HI) : shH I 0 = I := by
  funext a b
  simp [shH]
theorem shH_o {I : HI} {i a b : Nat} (h : ¬ (a = 19 ∨ a = 20 ∨ a = 21)) : shH I i a b = I a b := by simp [shH, h]
theorem shH_b {I : HI} {i a b : Nat} (h : i ≤ b) : shH I i a b = I a b := by
  unfold shH
  rw [if_neg (by omega)]
theorem shH_s (I : HI) (i : Nat) : wr (wr (wr (shH I i) 19 i (I 19 (i + 1))) 20 i (I 20 (i + 1))) 21 i (I 21 (i + 1)) = shH I (i + 1) := by
  funext a b
  unfold wr shH
  by_cases h1 : a = 21
  · subst h1
    by_cases hb : b = i
    · subst hb; simp
    · by_cases hl : b < i
      · simp [hb, hl, show b < i + 1 by omega]
      · simp [hb, hl, show ¬ b < i + 1 by omega]
  · by_cases h2 : a = 20
    · subst h2
      by_cases hb : b = i
      · subst hb; simp
      · by_cases hl : b < i
        · simp [hb, hl, show b < i + 1 by omega]
        · simp [hb, hl, show ¬ b < i + 1 by omega]
    · by_cases h3 : a = 19
      · subst h3
        by_cases hb : b = i
        · subst hb; simp
        · by_cases hl : b < i
          · simp [hb, hl, show b < i + 1 by omega]
          · simp [hb, hl, show ¬ b < i + 1 by omega]
      · simp [h1, h2, h3]
theorem shH_x {I : HI} {i a : Nat} : shH I i a (i + 1) = I a (i + 1) := shH_b (by omega)
theorem L_forgetOldestSale {T : Tg} {I : HI} {J : HJ} (K : Wm mX0_forgetOldestSale T 0 0 shA 56 [some (.ref 16), some (.int (nI 8))] [] (shH I 7) J RA) :
    ∀ (i : Nat), i ≤ 7 → Wm mX0_forgetOldestSale T 0 0 shA 2 [some (.ref 16), some (.int (nI (i + 1)))] [] (shH I i) J RA := by
  refine loopN (fun i hi ih => ?_)
  refine q_iload_n dX0_forgetOldestSale_2 (rfl : 2 + 1 = 3) rfl ?_
  refine q_bipush (v := nI 8) dX0_forgetOldestSale_3 (rfl : 3 + 2 = 5) (by decide) ?_
  refine q_icmp_ge_n (q := 56) (by omega) (by omega) dX0_forgetOldestSale_5 (by decide) (rfl : 5 + 3 = 8) (fun h => ?_) (fun h => ?_)
  · obtain rfl : i = 7 := by omega
    exact K
  ·
    refine q_aload_n dX0_forgetOldestSale_8 (rfl : 8 + 1 = 9) rfl ?_
    refine q_getR dX0_forgetOldestSale_9 (rfl : 9 + 3 = 12) fX0_28 (by first | rfl | assumption) (by first | rfl | assumption) ?_
    refine q_iload_n dX0_forgetOldestSale_12 (rfl : 12 + 1 = 13) rfl ?_
    refine q_iconst (v := nI 1) dX0_forgetOldestSale_13 (rfl : 13 + 1 = 14) (by decide) ?_
    refine q_isub dX0_forgetOldestSale_14 (rfl : 14 + 1 = 15) ?_
    try simp (decide := true) only [wr_hit, wr_p, wr_k, nI_add, pk_mul, nI_1, nI_s1, shH_x]
    refine q_aload_n dX0_forgetOldestSale_15 (rfl : 15 + 1 = 16) rfl ?_
    refine q_getR dX0_forgetOldestSale_16 (rfl : 16 + 3 = 19) fX0_28 (by first | rfl | assumption) (by first | rfl | assumption) ?_
    refine q_iload_n dX0_forgetOldestSale_19 (rfl : 19 + 1 = 20) rfl ?_
    refine q_iald dX0_forgetOldestSale_20 (rfl : 20 + 1 = 21) (by first | rfl | assumption) (by first | assumption | omega) (by decide) ?_
    try simp (decide := true) only [wr_hit, wr_p, wr_k, nI_add, pk_mul, nI_1, nI_s1, shH_x]
    refine q_iast dX0_forgetOldestSale_21 (rfl : 21 + 1 = 22) (by first | rfl | assumption) (by first | assumption | omega) (by decide) ?_
    refine q_aload_n dX0_forgetOldestSale_22 (rfl : 22 + 1 = 23) rfl ?_
    refine q_getR dX0_forgetOldestSale_23 (rfl : 23 + 3 = 26) fX0_31 (by first | rfl | assumption) (by first | rfl | assumption) ?_
    refine q_iload_n dX0_forgetOldestSale_26 (rfl : 26 + 1 = 27) rfl ?_
    refine q_iconst (v := nI 1) dX0_forgetOldestSale_27 (rfl : 27 + 1 = 28) (by decide) ?_
    refine q_isub dX0_forgetOldestSale_28 (rfl : 28 + 1 = 29) ?_
    try simp (decide := true) only [wr_hit, wr_p, wr_k, nI_add, pk_mul, nI_1, nI_s1, shH_x]
    refine q_aload_n dX0_forgetOldestSale_29 (rfl : 29 + 1 = 30) rfl ?_
    refine q_getR dX0_forgetOldestSale_30 (rfl : 30 + 3 = 33) fX0_31 (by first | rfl | assumption) (by first | rfl | assumption) ?_
    refine q_iload_n dX0_forgetOldestSale_33 (rfl : 33 + 1 = 34) rfl ?_
    refine q_iald dX0_forgetOldestSale_34 (rfl : 34 + 1 = 35) (by first | rfl | assumption) (by first | assumption | omega) (by decide) ?_
    try simp (decide := true) only [wr_hit, wr_p, wr_k, nI_add, pk_mul, nI_1, nI_s1, shH_x]
    refine q_iast dX0_forgetOldestSale_35 (rfl : 35 + 1 = 36) (by first | rfl | assumption) (by first | assumption | omega) (by decide) ?_
    refine q_aload_n dX0_forgetOldestSale_36 (rfl : 36 + 1 = 37) rfl ?_
    refine q_getR dX0_forgetOldestSale_37 (rfl : 37 + 3 = 40) fX0_34 (by first | rfl | assumption) (by first | rfl | assumption) ?_
    refine q_iload_n dX0_forgetOldestSale_40 (rfl : 40 + 1 = 41) rfl ?_
    refine q_iconst (v := nI 1) dX0_forgetOldestSale_41 (rfl : 41 + 1 = 42) (by decide) ?_
    refine q_isub dX0_forgetOldestSale_42 (rfl : 42 + 1 = 43) ?_
    try simp (decide := true) only [wr_hit, wr_p, wr_k, nI_add, pk_mul, nI_1, nI_s1, shH_x]
    refine q_aload_n dX0_forgetOldestSale_43 (rfl : 43 + 1 = 44) rfl ?_
    refine q_getR dX0_forgetOldestSale_44 (rfl : 44 + 3 = 47) fX0_34 (by first | rfl | assumption) (by first | rfl | assumption) ?_
    refine q_iload_n dX0_forgetOldestSale_47 (rfl : 47 + 1 = 48) rfl ?_
    refine q_iald dX0_forgetOldestSale_48 (rfl : 48 + 1 = 49) (by first | rfl | assumption) (by first | assumption | omega) (by decide) ?_
    try simp (decide := true) only [wr_hit, wr_p, wr_k, nI_add, pk_mul, nI_1, nI_s1, shH_x]
    refine q_iast dX0_forgetOldestSale_49 (rfl : 49 + 1 = 50) (by first | rfl | assumption) (by first | assumption | omega) (by decide) ?_
    first | refine q_iinc1 dX0_forgetOldestSale_50 (rfl : 50 + 3 = 53) rfl (by decide) ?_ | refine q_iinc dX0_forgetOldestSale_50 (rfl : 50 + 3 = 53) rfl rfl (by decide) ?_
    refine q_goto (q := 2) dX0_forgetOldestSale_53 (by decide) ?_
    rw [shH_s]
    exact ih (by omega)
def forgetH (I : HI) : HI := wr (shH I 7) 16 4 (nI 7)
theorem S_forgetOldestSale {d : Nat} {I : HI} {J : HJ} : MV mX0_forgetOldestSale d [.ref 16] shA I J RA (fun I' J' => I' = forgetH I ∧ J' = J) := by
  refine Mt.of (L := [some (.ref 16), none]) (by decide +kernel) (Nat.le_of_ble_eq_true rfl) rfl ?_
  refine q_iconst (v := nI 1) dX0_forgetOldestSale_0 (rfl : 0 + 1 = 1) (by decide) ?_
  refine q_istore_n dX0_forgetOldestSale_1 (rfl : 1 + 1 = 2) (by decide) ?_
  have e := shH_0 I
  rw [← e]
  refine L_forgetOldestSale ?_ 0 (by omega)
  refine q_aload_n dX0_forgetOldestSale_56 (rfl : 56 + 1 = 57) rfl ?_
  refine q_bipush (v := nI 7) dX0_forgetOldestSale_57 (rfl : 57 + 2 = 59) (by decide) ?_
  refine q_putI dX0_forgetOldestSale_59 (rfl : 59 + 3 = 62) pX0_25 (by first | rfl | assumption) ?_
  refine q_vret rfl dX0_forgetOldestSale_62 ⟨rfl, rfl, rfl, ?_⟩
  rw [e]
  exact ⟨rfl, rfl⟩
def saleH (I : HI) (ns i : Nat) (q paid : Int32) : HI := wr (wr (wr (wr (wr (wr I 17 i (I 17 i - q)) 16 3 (I 16 3 + paid)) 19 ns (nI i)) 20 ns q) 21 ns paid) 16 4 (nI (ns + 1))
theorem L_addSale {T : Tg} {I : HI} {J : HJ} {ns i : Nat} {q paid : Int32} (hs : I 16 4 = nI ns) (h8 : ns < 8) (hi : i < 12) (K : Wm mX0_addSale T 0 0 shA 73 [some (.ref 16), some (.int (nI i)), some (.int q), some (.int paid)] [] (saleH I ns i q paid) J RA) :
    Wm mX0_addSale T 0 0 shA 13 [some (.ref 16), some (.int (nI i)), some (.int q), some (.int paid)] [] I J RA := by
  refine q_aload_n dX0_addSale_13 (rfl : 13 + 1 = 14) rfl ?_
  refine q_getR dX0_addSale_14 (rfl : 14 + 3 = 17) fX0_15 (by first | rfl | assumption) (by first | rfl | assumption) ?_
  refine q_iload_n dX0_addSale_17 (rfl : 17 + 1 = 18) rfl ?_
  refine q_dup2 dX0_addSale_18 (rfl : 18 + 1 = 19) rfl rfl ?_
  refine q_iald dX0_addSale_19 (rfl : 19 + 1 = 20) (by first | rfl | assumption) (by first | assumption | omega) (by decide) ?_
  try simp (decide := true) only [wr_hit, wr_p, wr_k, nI_add, pk_mul, nI_1, nI_s1, hs]
  refine q_iload_n dX0_addSale_20 (rfl : 20 + 1 = 21) rfl ?_
  refine q_isub dX0_addSale_21 (rfl : 21 + 1 = 22) ?_
  try simp (decide := true) only [wr_hit, wr_p, wr_k, nI_add, pk_mul, nI_1, nI_s1, hs]
  refine q_iast dX0_addSale_22 (rfl : 22 + 1 = 23) (by first | rfl | assumption) (by first | assumption | omega) (by decide) ?_
  refine q_aload_n dX0_addSale_23 (rfl : 23 + 1 = 24) rfl ?_
  refine q_dup dX0_addSale_24 (rfl : 24 + 1 = 25) rfl ?_
  refine q_getI dX0_addSale_25 (rfl : 25 + 3 = 28) fX0_22 (by first | rfl | assumption) ?_
  try simp (decide := true) only [wr_hit, wr_p, wr_k, nI_add, pk_mul, nI_1, nI_s1, hs]
  refine q_iload_n dX0_addSale_28 (rfl : 28 + 1 = 29) rfl ?_
  refine q_iadd dX0_addSale_29 (rfl : 29 + 1 = 30) ?_
  try simp (decide := true) only [wr_hit, wr_p, wr_k, nI_add, pk_mul, nI_1, nI_s1, hs]
  refine q_putI dX0_addSale_30 (rfl : 30 + 3 = 33) pX0_22 (by first | rfl | assumption) ?_
  refine q_aload_n dX0_addSale_33 (rfl : 33 + 1 = 34) rfl ?_
  refine q_getR dX0_addSale_34 (rfl : 34 + 3 = 37) fX0_28 (by first | rfl | assumption) (by first | rfl | assumption) ?_
  refine q_aload_n dX0_addSale_37 (rfl : 37 + 1 = 38) rfl ?_
  refine q_getI dX0_addSale_38 (rfl : 38 + 3 = 41) fX0_25 (by first | rfl | assumption) ?_
  try simp (decide := true) only [wr_hit, wr_p, wr_k, nI_add, pk_mul, nI_1, nI_s1, hs]
  refine q_iload_n dX0_addSale_41 (rfl : 41 + 1 = 42) rfl ?_
  refine q_iast dX0_addSale_42 (rfl : 42 + 1 = 43) (by first | rfl | assumption) (by first | assumption | omega) (by decide) ?_
  refine q_aload_n dX0_addSale_43 (rfl : 43 + 1 = 44) rfl ?_
  refine q_getR dX0_addSale_44 (rfl : 44 + 3 = 47) fX0_31 (by first | rfl | assumption) (by first | rfl | assumption) ?_
  refine q_aload_n dX0_addSale_47 (rfl : 47 + 1 = 48) rfl ?_
  refine q_getI dX0_addSale_48 (rfl : 48 + 3 = 51) fX0_25 (by first | rfl | assumption) ?_
  try simp (decide := true) only [wr_hit, wr_p, wr_k, nI_add, pk_mul, nI_1, nI_s1, hs]
  refine q_iload_n dX0_addSale_51 (rfl : 51 + 1 = 52) rfl ?_
  refine q_iast dX0_addSale_52 (rfl : 52 + 1 = 53) (by first | rfl | assumption) (by first | assumption | omega) (by decide) ?_
  refine q_aload_n dX0_addSale_53 (rfl : 53 + 1 = 54) rfl ?_
  refine q_getR dX0_addSale_54 (rfl : 54 + 3 = 57) fX0_34 (by first | rfl | assumption) (by first | rfl | assumption) ?_
  refine q_aload_n dX0_addSale_57 (rfl : 57 + 1 = 58) rfl ?_
  refine q_getI dX0_addSale_58 (rfl : 58 + 3 = 61) fX0_25 (by first | rfl | assumption) ?_
  try simp (decide := true) only [wr_hit, wr_p, wr_k, nI_add, pk_mul, nI_1, nI_s1, hs]
  refine q_iload_n dX0_addSale_61 (rfl : 61 + 1 = 62) rfl ?_
  refine q_iast dX0_addSale_62 (rfl : 62 + 1 = 63) (by first | rfl | assumption) (by first | assumption | omega) (by decide) ?_
  refine q_aload_n dX0_addSale_63 (rfl : 63 + 1 = 64) rfl ?_
  refine q_dup dX0_addSale_64 (rfl : 64 + 1 = 65) rfl ?_
  refine q_getI dX0_addSale_65 (rfl : 65 + 3 = 68) fX0_25 (by first | rfl | assumption) ?_
  try simp (decide := true) only [wr_hit, wr_p, wr_k, nI_add, pk_mul, nI_1, nI_s1, hs]
  refine q_iconst (v := nI 1) dX0_addSale_68 (rfl : 68 + 1 = 69) (by decide) ?_
  refine q_iadd dX0_addSale_69 (rfl : 69 + 1 = 70) ?_
  try simp (decide := true) only [wr_hit, wr_p, wr_k, nI_add, pk_mul, nI_1, nI_s1, hs]
  refine q_putI dX0_addSale_70 (rfl : 70 + 3 = 73) pX0_25 (by first | rfl | assumption) ?_
  exact K
theorem S_addSale {d : Nat} {I : HI} {J : HJ} {ns i : Nat} {q paid : Int32} (hs : I 16 4 = nI ns) (h8 : ns ≤ 8) (hi : i < 12) : MV mX0_addSale (d + 1) [.ref 16, .int (nI i), .int q, .int paid] shA I J RA (fun I' J' => I' = (if ns < 8 then saleH I ns i q paid else saleH (forgetH I) 7 i q paid) ∧ J' = J) := by
  refine Mt.of (L := [some (.ref 16), some (.int (nI i)), some (.int q), some (.int paid)]) (by decide +kernel) (Nat.le_of_ble_eq_true rfl) rfl ?_
  refine q_aload_n dX0_addSale_0 (rfl : 0 + 1 = 1) rfl ?_
  refine q_getI dX0_addSale_1 (rfl : 1 + 3 = 4) fX0_25 (by first | rfl | assumption) ?_
  try simp (decide := true) only [wr_hit, wr_p, wr_k, nI_add, pk_mul, nI_1, nI_s1, hs]
  refine q_bipush (v := nI 8) dX0_addSale_4 (rfl : 4 + 2 = 6) (by decide) ?_
  refine q_icmp_lt_n (q := 13) (by omega) (by omega) dX0_addSale_6 (by decide) (rfl : 6 + 3 = 9) (fun h => ?_) (fun h => ?_)
  ·
    refine L_addSale hs h hi ?_
    refine q_vret rfl dX0_addSale_73 ⟨rfl, rfl, rfl, ?_⟩
    rw [if_pos h]
    exact ⟨rfl, rfl⟩
  ·
    refine q_aload_n dX0_addSale_9 (rfl : 9 + 1 = 10) rfl ?_
    refine q_callVV S_forgetOldestSale dX0_addSale_10 (rfl : 10 + 3 = 13) lX0_59 vX0_forgetOldestSale (by first | rfl | assumption) rfl rfl (Nat.le_of_ble_eq_true rfl) TM_room TM_cs ?_
    intro I1 J1 hp
    obtain ⟨rfl, rfl⟩ := hp
    refine L_addSale (ns := 7) (by simp [forgetH, wr]) (by omega) hi ?_
    refine q_vret rfl dX0_addSale_73 ⟨rfl, rfl, rfl, ?_⟩
    rw [if_neg (by omega)]
    exact ⟨rfl, rfl⟩
def undoH (I : HI) (k j : Nat) : HI := wr (wr (wr I 16 4 (nI k)) 17 j (I 17 j + I 20 k)) 16 3 (I 16 3 - I 21 k)
theorem S_takeSaleBack0 {d : Nat} {I : HI} {J : HJ} (hs : I 16 4 = nI 0) : MIp mX0_takeSaleBack d [.ref 16] shA I J RA (-2) := by
  refine Mt.of (L := [some (.ref 16)]) (by decide +kernel) (Nat.le_of_ble_eq_true rfl) rfl ?_
  refine q_aload_n dX0_takeSaleBack_0 (rfl : 0 + 1 = 1) rfl ?_
  refine q_getI dX0_takeSaleBack_1 (rfl : 1 + 3 = 4) fX0_25 (by first | rfl | assumption) ?_
  try simp (decide := true) only [wr_hit, wr_p, wr_k, nI_add, pk_mul, nI_1, nI_s1, hs]
  refine q_if_ne_n (q := 10) (by omega) dX0_takeSaleBack_4 (by decide) (rfl : 4 + 3 = 7) (fun h => ?_) (fun h => ?_)
  · omega
  ·
    refine q_bipush (v := -2) dX0_takeSaleBack_7 (rfl : 7 + 2 = 9) (by decide) ?_
    refine q_iret rfl dX0_takeSaleBack_9 ⟨rfl, rfl, _, rfl, ?_⟩
    exact ⟨rfl, rfl, rfl⟩
theorem S_takeSaleBack {d : Nat} {I : HI} {J : HJ} {k j : Nat} (hs : I 16 4 = nI (k + 1)) (h8 : k < 8) (hj : I 19 k = nI j) (h12 : j < 12) : MI mX0_takeSaleBack d [.ref 16] shA I J RA (fun x I' J' => x = I 20 k ∧ I' = undoH I k j ∧ J' = J) := by
  refine Mt.of (L := [some (.ref 16)]) (by decide +kernel) (Nat.le_of_ble_eq_true rfl) rfl ?_
  refine q_aload_n dX0_takeSaleBack_0 (rfl : 0 + 1 = 1) rfl ?_
  refine q_getI dX0_takeSaleBack_1 (rfl : 1 + 3 = 4) fX0_25 (by first | rfl | assumption) ?_
  try simp (decide := true) only [wr_hit, wr_p, wr_k, nI_add, pk_mul, nI_1, nI_s1, hs, hj]
  refine q_if_ne_n (q := 10) (by omega) dX0_takeSaleBack_4 (by decide) (rfl : 4 + 3 = 7) (fun h => ?_) (fun h => ?_)
  ·
    refine q_aload_n dX0_takeSaleBack_10 (rfl : 10 + 1 = 11) rfl ?_
    refine q_dup dX0_takeSaleBack_11 (rfl : 11 + 1 = 12) rfl ?_
    refine q_getI dX0_takeSaleBack_12 (rfl : 12 + 3 = 15) fX0_25 (by first | rfl | assumption) ?_
    try simp (decide := true) only [wr_hit, wr_p, wr_k, nI_add, pk_mul, nI_1, nI_s1, hs, hj]
    refine q_iconst (v := nI 1) dX0_takeSaleBack_15 (rfl : 15 + 1 = 16) (by decide) ?_
    refine q_isub dX0_takeSaleBack_16 (rfl : 16 + 1 = 17) ?_
    try simp (decide := true) only [wr_hit, wr_p, wr_k, nI_add, pk_mul, nI_1, nI_s1, hs, hj]
    refine q_putI dX0_takeSaleBack_17 (rfl : 17 + 3 = 20) pX0_25 (by first | rfl | assumption) ?_
    refine q_aload_n dX0_takeSaleBack_20 (rfl : 20 + 1 = 21) rfl ?_
    refine q_getR dX0_takeSaleBack_21 (rfl : 21 + 3 = 24) fX0_15 (by first | rfl | assumption) (by first | rfl | assumption) ?_
    refine q_aload_n dX0_takeSaleBack_24 (rfl : 24 + 1 = 25) rfl ?_
    refine q_getR dX0_takeSaleBack_25 (rfl : 25 + 3 = 28) fX0_28 (by first | rfl | assumption) (by first | rfl | assumption) ?_
    refine q_aload_n dX0_takeSaleBack_28 (rfl : 28 + 1 = 29) rfl ?_
    refine q_getI dX0_takeSaleBack_29 (rfl : 29 + 3 = 32) fX0_25 (by first | rfl | assumption) ?_
    try simp (decide := true) only [wr_hit, wr_p, wr_k, nI_add, pk_mul, nI_1, nI_s1, hs, hj]
    refine q_iald dX0_takeSaleBack_32 (rfl : 32 + 1 = 33) (by first | rfl | assumption) (by first | assumption | omega) (by decide) ?_
    try simp (decide := true) only [wr_hit, wr_p, wr_k, nI_add, pk_mul, nI_1, nI_s1, hs, hj]
    refine q_dup2 dX0_takeSaleBack_33 (rfl : 33 + 1 = 34) rfl rfl ?_
    refine q_iald dX0_takeSaleBack_34 (rfl : 34 + 1 = 35) (by first | rfl | assumption) (by first | assumption | omega) (by decide) ?_
    try simp (decide := true) only [wr_hit, wr_p, wr_k, nI_add, pk_mul, nI_1, nI_s1, hs, hj]
    refine q_aload_n dX0_takeSaleBack_35 (rfl : 35 + 1 = 36) rfl ?_
    refine q_getR dX0_takeSaleBack_36 (rfl : 36 + 3 = 39) fX0_31 (by first | rfl | assumption) (by first | rfl | assumption) ?_
    refine q_aload_n dX0_takeSaleBack_39 (rfl : 39 + 1 = 40) rfl ?_
    refine q_getI dX0_takeSaleBack_40 (rfl : 40 + 3 = 43) fX0_25 (by first | rfl | assumption) ?_
    try simp (decide := true) only [wr_hit, wr_p, wr_k, nI_add, pk_mul, nI_1, nI_s1, hs, hj]
    refine q_iald dX0_takeSaleBack_43 (rfl : 43 + 1 = 44) (by first | rfl | assumption) (by first | assumption | omega) (by decide) ?_
    try simp (decide := true) only [wr_hit, wr_p, wr_k, nI_add, pk_mul, nI_1, nI_s1, hs, hj]
    refine q_iadd dX0_takeSaleBack_44 (rfl : 44 + 1 = 45) ?_
    try simp (decide := true) only [wr_hit, wr_p, wr_k, nI_add, pk_mul, nI_1, nI_s1, hs, hj]
    refine q_iast dX0_takeSaleBack_45 (rfl : 45 + 1 = 46) (by first | rfl | assumption) (by first | assumption | omega) (by decide) ?_
    refine q_aload_n dX0_takeSaleBack_46 (rfl : 46 + 1 = 47) rfl ?_
    refine q_dup dX0_takeSaleBack_47 (rfl : 47 + 1 = 48) rfl ?_
    refine q_getI dX0_takeSaleBack_48 (rfl : 48 + 3 = 51) fX0_22 (by first | rfl | assumption) ?_
    try simp (decide := true) only [wr_hit, wr_p, wr_k, nI_add, pk_mul, nI_1, nI_s1, hs, hj]
    refine q_aload_n dX0_takeSaleBack_51 (rfl : 51 + 1 = 52) rfl ?_
    refine q_getR dX0_takeSaleBack_52 (rfl : 52 + 3 = 55) fX0_34 (by first | rfl | assumption) (by first | rfl | assumption) ?_
    refine q_aload_n dX0_takeSaleBack_55 (rfl : 55 + 1 = 56) rfl ?_
    refine q_getI dX0_takeSaleBack_56 (rfl : 56 + 3 = 59) fX0_25 (by first | rfl | assumption) ?_
    try simp (decide := true) only [wr_hit, wr_p, wr_k, nI_add, pk_mul, nI_1, nI_s1, hs, hj]
    refine q_iald dX0_takeSaleBack_59 (rfl : 59 + 1 = 60) (by first | rfl | assumption) (by first | assumption | omega) (by decide) ?_
    try simp (decide := true) only [wr_hit, wr_p, wr_k, nI_add, pk_mul, nI_1, nI_s1, hs, hj]
    refine q_isub dX0_takeSaleBack_60 (rfl : 60 + 1 = 61) ?_
    try simp (decide := true) only [wr_hit, wr_p, wr_k, nI_add, pk_mul, nI_1, nI_s1, hs, hj]
    refine q_putI dX0_takeSaleBack_61 (rfl : 61 + 3 = 64) pX0_22 (by first | rfl | assumption) ?_
    refine q_aload_n dX0_takeSaleBack_64 (rfl : 64 + 1 = 65) rfl ?_
    refine q_getR dX0_takeSaleBack_65 (rfl : 65 + 3 = 68) fX0_31 (by first | rfl | assumption) (by first | rfl | assumption) ?_
    refine q_aload_n dX0_takeSaleBack_68 (rfl : 68 + 1 = 69) rfl ?_
    refine q_getI dX0_takeSaleBack_69 (rfl : 69 + 3 = 72) fX0_25 (by first | rfl | assumption) ?_
    try simp (decide := true) only [wr_hit, wr_p, wr_k, nI_add, pk_mul, nI_1, nI_s1, hs, hj]
    refine q_iald dX0_takeSaleBack_72 (rfl : 72 + 1 = 73) (by first | rfl | assumption) (by first | assumption | omega) (by decide) ?_
    try simp (decide := true) only [wr_hit, wr_p, wr_k, nI_add, pk_mul, nI_1, nI_s1, hs, hj]
    refine q_iret rfl dX0_takeSaleBack_73 ⟨rfl, rfl, _, rfl, ?_⟩
    exact ⟨rfl, rfl, rfl⟩
  ·
    omega
end
section
/-! what a TEXT tells: the class's Told at a place t, its rows behind it -/
def ToldAt (sh : List Kd) (R : HR) (t : Nat) : Prop := sh[t]? = some (.inl 5) ∧ sh[t + 1]? = some (.inr (.int, 12)) ∧ sh[t + 2]? = some (.inr (.int, 12)) ∧ sh[t + 3]? = some (.inr (.int, 12)) ∧ sh[t + 4]? = some (.inr (.int, 12)) ∧ sh[t + 5]? = some (.inr (.int, 100)) ∧ R t 6 = some (t + 1) ∧ R t 7 = some (t + 2) ∧ R t 8 = some (t + 3) ∧ R t 9 = some (t + 4) ∧ R t 10 = some (t + 5)
def fillH (I : HI) (p n : Nat) (v : Int32) : HI := fun a b => if a = p ∧ b < n then v else I a b
theorem fillH_s (I : HI) (p i : Nat) (v : Int32) : wr (fillH I p i v) p i v = fillH I p (i + 1) v := by
  funext a b
  unfold wr fillH
  by_cases h1 : a = p
  · subst h1
    by_cases hb : b = i
    · subst hb; simp
    · by_cases hl : b < i
      · simp [hb, hl, show b < i + 1 by omega]
      · simp [hb, hl, show ¬ b < i + 1 by omega]
  · simp [h1]
theorem L_fill {T : Tg} {sh : List Kd} {R : HR} {I : HI} {J : HJ} {p n : Nat} {v : Int32} (hs : sh[p]? = some (.inr (.int, n))) (hn : n < 2 ^ 31) (K : Wm mJ7_fill T 0 0 sh 20 [some (.ref p), some (.int v), some (.int (nI n)), some (.int (nI n))] [] (fillH I p n v) J R) :
    ∀ (i : Nat), i ≤ n → Wm mJ7_fill T 0 0 sh 5 [some (.ref p), some (.int v), some (.int (nI i)), some (.int (nI n))] [] (fillH I p i v) J R := by
  refine loopN (fun i hi ih => ?_)
  refine q_iload_n dJ7_fill_53178_5 (rfl : 5 + 1 = 6) rfl ?_
  refine q_iload_n dJ7_fill_53178_6 (rfl : 6 + 1 = 7) rfl ?_
  refine q_icmp_ge_n (q := 20) (by omega) (by omega) dJ7_fill_53178_7 (by decide) (rfl : 7 + 3 = 10) (fun h => ?_) (fun h => ?_)
  · obtain rfl : i = n := by omega
    exact K
  ·
    refine q_aload_n dJ7_fill_53178_10 (rfl : 10 + 1 = 11) rfl ?_
    refine q_iload_n dJ7_fill_53178_11 (rfl : 11 + 1 = 12) rfl ?_
    refine q_iload_n dJ7_fill_53178_12 (rfl : 12 + 1 = 13) rfl ?_
    refine q_iast dJ7_fill_53178_13 (rfl : 13 + 1 = 14) hs h hn ?_
    first | refine q_iinc1 dJ7_fill_53178_14 (rfl : 14 + 3 = 17) rfl (by decide) ?_ | refine q_iinc dJ7_fill_53178_14 (rfl : 14 + 3 = 17) rfl rfl (by decide) ?_
    refine q_goto (q := 5) dJ7_fill_53178_17 (by decide) ?_
    rw [fillH_s]
    exact ih h
theorem S_fill {d : Nat} {sh : List Kd} {R : HR} {I : HI} {J : HJ} {p n : Nat} {v : Int32} (hs : sh[p]? = some (.inr (.int, n))) (hn : n < 2 ^ 31) : MV mJ7_fill d [.ref p, .int v] sh I J R (fun I' J' => I' = fillH I p n v ∧ J' = J) := by
  refine Mt.of (L := [some (.ref p), some (.int v), none, none]) (by decide +kernel) (Nat.le_of_ble_eq_true rfl) rfl ?_
  refine q_iconst (v := nI 0) dJ7_fill_53178_0 (rfl : 0 + 1 = 1) (by decide) ?_
  refine q_istore_n dJ7_fill_53178_1 (rfl : 1 + 1 = 2) (by decide) ?_
  refine q_aload_n dJ7_fill_53178_2 (rfl : 2 + 1 = 3) rfl ?_
  refine q_alen dJ7_fill_53178_3 (rfl : 3 + 1 = 4) (by first | rfl | assumption) ?_
  refine q_istore_n dJ7_fill_53178_4 (rfl : 4 + 1 = 5) (by decide) ?_
  have e : fillH I p 0 v = I := by funext a b; simp [fillH]
  rw [← e]
  refine L_fill hs hn ?_ 0 (by omega)
  refine q_vret rfl dJ7_fill_53178_20 ⟨rfl, rfl, rfl, ?_⟩
  rw [e]
  exact ⟨rfl, rfl⟩
def forgetT (I : HI) (t : Nat) : HI := fillH (wr (wr (wr (wr (wr (wr I t 0 (nI 400)) t 1 (nI 60)) t 2 (nI 5)) t 3 (nI 1)) t 4 (nI 0)) t 5 (nI 0)) (t + 5) 100 (nI 10)
theorem S_forget {d : Nat} {sh : List Kd} {R : HR} {I : HI} {J : HJ} {t : Nat} (ht : ToldAt sh R t) : MV mX5_forget (d + 1) [.ref t] sh I J R (fun I' J' => I' = forgetT I t ∧ J' = J) := by
  obtain ⟨h0, h1, h2, h3, h4, h5, r6, r7, r8, r9, r10⟩ := ht
  refine Mt.of (L := [some (.ref t)]) (by decide +kernel) (Nat.le_of_ble_eq_true rfl) rfl ?_
  refine q_aload_n dX5_forget_0 (rfl : 0 + 1 = 1) rfl ?_
  refine q_sipush (v := nI 400) dX5_forget_1 (rfl : 1 + 3 = 4) (by decide) ?_
  refine q_putI dX5_forget_4 (rfl : 4 + 3 = 7) pX5_30 (by first | rfl | assumption) ?_
  refine q_aload_n dX5_forget_7 (rfl : 7 + 1 = 8) rfl ?_
  refine q_bipush (v := nI 60) dX5_forget_8 (rfl : 8 + 2 = 10) (by decide) ?_
  refine q_putI dX5_forget_10 (rfl : 10 + 3 = 13) pX5_34 (by first | rfl | assumption) ?_
  refine q_aload_n dX5_forget_13 (rfl : 13 + 1 = 14) rfl ?_
  refine q_iconst (v := nI 5) dX5_forget_14 (rfl : 14 + 1 = 15) (by decide) ?_
  refine q_putI dX5_forget_15 (rfl : 15 + 3 = 18) pX5_37 (by first | rfl | assumption) ?_
  refine q_aload_n dX5_forget_18 (rfl : 18 + 1 = 19) rfl ?_
  refine q_iconst (v := nI 1) dX5_forget_19 (rfl : 19 + 1 = 20) (by decide) ?_
  refine q_putI dX5_forget_20 (rfl : 20 + 3 = 23) pX5_40 (by first | rfl | assumption) ?_
  refine q_aload_n dX5_forget_23 (rfl : 23 + 1 = 24) rfl ?_
  refine q_iconst (v := nI 0) dX5_forget_24 (rfl : 24 + 1 = 25) (by decide) ?_
  refine q_putI dX5_forget_25 (rfl : 25 + 3 = 28) pX5_43 (by first | rfl | assumption) ?_
  refine q_aload_n dX5_forget_28 (rfl : 28 + 1 = 29) rfl ?_
  refine q_iconst (v := nI 0) dX5_forget_29 (rfl : 29 + 1 = 30) (by decide) ?_
  refine q_putI dX5_forget_30 (rfl : 30 + 3 = 33) pX5_46 (by first | rfl | assumption) ?_
  refine q_aload_n dX5_forget_33 (rfl : 33 + 1 = 34) rfl ?_
  refine q_getR dX5_forget_34 (rfl : 34 + 3 = 37) fX5_24 (by first | rfl | assumption) (by first | rfl | assumption) ?_
  refine q_bipush (v := nI 10) dX5_forget_37 (rfl : 37 + 2 = 39) (by decide) ?_
  refine q_callSV (S_fill h5 (by decide)) dX5_forget_39 (rfl : 39 + 3 = 42) lX5_49 vJ7_fill rfl rfl (Nat.le_of_ble_eq_true rfl) TM_room TM_cs ?_
  intro I1 J1 hp
  obtain ⟨rfl, rfl⟩ := hp
  refine q_vret rfl dX5_forget_42 ⟨rfl, rfl, rfl, ?_⟩
  exact ⟨rfl, rfl⟩
theorem inr_nI {y : Int32} {N : Nat} (hN : N < 2 ^ 31) (h : inr y (nI 0) (nI N) = true) : ∃ j : Nat, j ≤ N ∧ y = nI j := by
  unfold inr at h
  simp only [Bool.and_eq_true, decide_eq_true_eq] at h
  have h0 : ¬ y < 0 := Int32.not_lt.mpr (by rw [← nI_0]; exact h.1)
  exact nI_of2 (nI_toInt hN) h0 h.2
theorem S_isYear {d : Nat} {sh : List Kd} {I : HI} {J : HJ} {R : HR} {y : Int32} : MIp mX6_isYear (d + 1) [.int y] sh I J R (bI (inr y (nI 0) (nI 99))) := by
  refine Mt.of (L := [some (.int y)]) (by decide +kernel) (Nat.le_of_ble_eq_true rfl) rfl ?_
  refine q_iload_n dX6_isYear_0 (rfl : 0 + 1 = 1) rfl ?_
  refine q_iconst (v := nI 0) dX6_isYear_1 (rfl : 1 + 1 = 2) (by decide) ?_
  refine q_bipush (v := nI 99) dX6_isYear_2 (rfl : 2 + 2 = 4) (by decide) ?_
  refine q_callSIp S_inside dX6_isYear_4 (rfl : 4 + 3 = 7) lX6_68 vX6_inside rfl rfl (Nat.le_of_ble_eq_true rfl) TM_room TM_cs ?_
  refine q_zret rfl dX6_isYear_7 (by first | exact bI_01 _ | exact Or.inl rfl | exact Or.inr rfl) ⟨rfl, rfl, _, rfl, ?_⟩
  exact ⟨rfl, rfl, rfl⟩
def setBarnB (l w : Int32) : Bool := inr l (nI 1) (nI 999) && inr w (nI 1) (nI 99)
def setBarnH (I : HI) (t : Nat) (l w : Int32) : HI := wr (wr I t 0 l) t 1 w
theorem S_setBarn {d : Nat} {sh : List Kd} {R : HR} {I : HI} {J : HJ} {t : Nat} {l w : Int32} (ht : ToldAt sh R t) : MI mX5_setBarn (d + 1) [.ref t, .int l, .int w] sh I J R (fun x I' J' => x = bI (setBarnB l w) ∧ I' = cond (setBarnB l w) (setBarnH I t l w) I ∧ J' = J) := by
  obtain ⟨h0, h1, h2, h3, h4, h5, r6, r7, r8, r9, r10⟩ := ht
  refine Mt.of (L := [some (.ref t), some (.int l), some (.int w)]) (by decide +kernel) (Nat.le_of_ble_eq_true rfl) rfl ?_
  refine q_iload_n dX5_setBarn_0 (rfl : 0 + 1 = 1) rfl ?_
  refine q_iconst (v := nI 1) dX5_setBarn_1 (rfl : 1 + 1 = 2) (by decide) ?_
  refine q_sipush (v := nI 999) dX5_setBarn_2 (rfl : 2 + 3 = 5) (by decide) ?_
  refine q_callSIp S_inside dX5_setBarn_5 (rfl : 5 + 3 = 8) lX5_69 vX6_inside rfl rfl (Nat.le_of_ble_eq_true rfl) TM_room TM_cs ?_
  refine q_if_eq_b (q := 21) dX5_setBarn_8 (by decide) (rfl : 8 + 3 = 11) (fun a1 => ?_) (fun a1 => ?_)
  ·
    refine q_iconst (v := nI 0) dX5_setBarn_21 (rfl : 21 + 1 = 22) (by decide) ?_
    refine q_zret rfl dX5_setBarn_22 (by first | exact bI_01 _ | exact Or.inl rfl | exact Or.inr rfl) ⟨rfl, rfl, _, rfl, ?_⟩
    have e : setBarnB l w = false := by simp [setBarnB, a1]
    rw [e]
    exact ⟨rfl, rfl, rfl⟩
  ·
    refine q_iload_n dX5_setBarn_11 (rfl : 11 + 1 = 12) rfl ?_
    refine q_iconst (v := nI 1) dX5_setBarn_12 (rfl : 12 + 1 = 13) (by decide) ?_
    refine q_bipush (v := nI 99) dX5_setBarn_13 (rfl : 13 + 2 = 15) (by decide) ?_
    refine q_callSIp S_inside dX5_setBarn_15 (rfl : 15 + 3 = 18) lX5_69 vX6_inside rfl rfl (Nat.le_of_ble_eq_true rfl) TM_room TM_cs ?_
    refine q_if_ne_b (q := 23) dX5_setBarn_18 (by decide) (rfl : 18 + 3 = 21) (fun a2 => ?_) (fun a2 => ?_)
    ·
      refine q_aload_n dX5_setBarn_23 (rfl : 23 + 1 = 24) rfl ?_
      refine q_iload_n dX5_setBarn_24 (rfl : 24 + 1 = 25) rfl ?_
      refine q_putI dX5_setBarn_25 (rfl : 25 + 3 = 28) pX5_30 (by first | rfl | assumption) ?_
      refine q_aload_n dX5_setBarn_28 (rfl : 28 + 1 = 29) rfl ?_
      refine q_iload_n dX5_setBarn_29 (rfl : 29 + 1 = 30) rfl ?_
      refine q_putI dX5_setBarn_30 (rfl : 30 + 3 = 33) pX5_34 (by first | rfl | assumption) ?_
      refine q_iconst (v := nI 1) dX5_setBarn_33 (rfl : 33 + 1 = 34) (by decide) ?_
      refine q_zret rfl dX5_setBarn_34 (by first | exact bI_01 _ | exact Or.inl rfl | exact Or.inr rfl) ⟨rfl, rfl, _, rfl, ?_⟩
      have e : setBarnB l w = true := by simp [setBarnB, a1, a2]
      rw [e]
      exact ⟨rfl, rfl, rfl⟩
    ·
      refine q_iconst (v := nI 0) dX5_setBarn_21 (rfl : 21 + 1 = 22) (by decide) ?_
      refine q_zret rfl dX5_setBarn_22 (by first | exact bI_01 _ | exact Or.inl rfl | exact Or.inr rfl) ⟨rfl, rfl, _, rfl, ?_⟩
      have e : setBarnB l w = false := by simp [setBarnB, a1, a2]
      rw [e]
      exact ⟨rfl, rfl, rfl⟩
def setCostB (y c : Int32) : Bool := inr y (nI 0) (nI 99) && inr c (nI 0) (nI 99)
theorem S_setCost {d : Nat} {sh : List Kd} {R : HR} {I : HI} {J : HJ} {t : Nat} {y c : Int32} (ht : ToldAt sh R t) : MI mX5_setCost (d + 2) [.ref t, .int y, .int c] sh I J R (fun x I' J' => x = bI (setCostB y c) ∧ I' = cond (setCostB y c) (wr I (t + 5) y.toNatClampNeg c) I ∧ J' = J) := by
  obtain ⟨h0, h1, h2, h3, h4, h5, r6, r7, r8, r9, r10⟩ := ht
  refine Mt.of (L := [some (.ref t), some (.int y), some (.int c)]) (by decide +kernel) (Nat.le_of_ble_eq_true rfl) rfl ?_
  refine q_iload_n dX5_setCost_0 (rfl : 0 + 1 = 1) rfl ?_
  refine q_callSIp S_isYear dX5_setCost_1 (rfl : 1 + 3 = 4) lX5_73 vX6_isYear rfl rfl (Nat.le_of_ble_eq_true rfl) TM_room TM_cs ?_
  refine q_if_eq_b (q := 17) dX5_setCost_4 (by decide) (rfl : 4 + 3 = 7) (fun a1 => ?_) (fun a1 => ?_)
  ·
    refine q_iconst (v := nI 0) dX5_setCost_17 (rfl : 17 + 1 = 18) (by decide) ?_
    refine q_zret rfl dX5_setCost_18 (by first | exact bI_01 _ | exact Or.inl rfl | exact Or.inr rfl) ⟨rfl, rfl, _, rfl, ?_⟩
    have e : setCostB y c = false := by simp [setCostB, a1]
    rw [e]
    exact ⟨rfl, rfl, rfl⟩
  ·
    refine q_iload_n dX5_setCost_7 (rfl : 7 + 1 = 8) rfl ?_
    refine q_iconst (v := nI 0) dX5_setCost_8 (rfl : 8 + 1 = 9) (by decide) ?_
    refine q_bipush (v := nI 99) dX5_setCost_9 (rfl : 9 + 2 = 11) (by decide) ?_
    refine q_callSIp (S_inside (d := d + 1)) dX5_setCost_11 (rfl : 11 + 3 = 14) lX5_69 vX6_inside rfl rfl (Nat.le_of_ble_eq_true rfl) TM_room TM_cs ?_
    refine q_if_ne_b (q := 19) dX5_setCost_14 (by decide) (rfl : 14 + 3 = 17) (fun a2 => ?_) (fun a2 => ?_)
    ·
      obtain ⟨j, hj, rfl⟩ := inr_nI (by decide) a1
      refine q_aload_n dX5_setCost_19 (rfl : 19 + 1 = 20) rfl ?_
      refine q_getR dX5_setCost_20 (rfl : 20 + 3 = 23) fX5_24 (by first | rfl | assumption) (by first | rfl | assumption) ?_
      refine q_iload_n dX5_setCost_23 (rfl : 23 + 1 = 24) rfl ?_
      refine q_iload_n dX5_setCost_24 (rfl : 24 + 1 = 25) rfl ?_
      refine q_iast dX5_setCost_25 (rfl : 25 + 1 = 26) (by first | rfl | assumption) (by first | assumption | omega) (by decide) ?_
      refine q_iconst (v := nI 1) dX5_setCost_26 (rfl : 26 + 1 = 27) (by decide) ?_
      refine q_zret rfl dX5_setCost_27 (by first | exact bI_01 _ | exact Or.inl rfl | exact Or.inr rfl) ⟨rfl, rfl, _, rfl, ?_⟩
      have e : setCostB (nI j) c = true := by simp [setCostB, a1, a2]
      rw [e, nI_clamp (by omega)]
      exact ⟨rfl, rfl, rfl⟩
    ·
      refine q_iconst (v := nI 0) dX5_setCost_17 (rfl : 17 + 1 = 18) (by decide) ?_
      refine q_zret rfl dX5_setCost_18 (by first | exact bI_01 _ | exact Or.inl rfl | exact Or.inr rfl) ⟨rfl, rfl, _, rfl, ?_⟩
      have e : setCostB y c = false := by simp [setCostB, a1, a2]
      rw [e]
      exact ⟨rfl, rfl, rfl⟩
def addFallB (I : HI) (t n : Nat) (y i d m : Int32) : Bool := (inr y (nI 0) (nI 99) && inr i (nI 1) (nI 20) && inr d (nI 1) (nI 9) && inr m (nI 0) (nI 9)) && decide (n < 12) && (decide (n = 0) || decide (I (t + 1) (n - 1) ≤ y))
def addFallH (I : HI) (t n : Nat) (y i d m : Int32) : HI := wr (wr (wr (wr (wr I (t + 1) n y) (t + 2) n i) (t + 3) n d) (t + 4) n m) t 5 (nI (n + 1))
theorem L_addFall {d n0 n : Nat} {sh : List Kd} {R : HR} {I : HI} {J : HJ} {t : Nat} {y i d' m : Int32} {Po : PO} (ht : ToldAt sh R t) (hn : I t 5 = nI n) (h12 : n ≤ 12) (b : Bool)
    (K : ∀ (c : Bool), c = (b && decide (n < 12) && (decide (n = 0) || decide (I (t + 1) (n - 1) ≤ y))) → Po sh (some (.int (bI c))) (cond c (addFallH I t n y i d' m) I) J R) : Wm mX5_addFall (TM (d + 3) 0 0 false n0 Po) 0 0 sh 43 [some (.ref t), some (.int y), some (.int i), some (.int d'), some (.int m), none] [.int (bI b)] I J R := by
  obtain ⟨h0, h1, h2, h3, h4, h5, r6, r7, r8, r9, r10⟩ := ht
  refine q_istore dX5_addFall_43 (rfl : 43 + 2 = 45) (by decide) ?_
  refine q_iload dX5_addFall_45 (rfl : 45 + 2 = 47) rfl ?_
  have stores : n < 12 → (b && decide (n < 12) && (decide (n = 0) || decide (I (t + 1) (n - 1) ≤ y))) = true → Wm mX5_addFall (TM (d + 3) 0 0 false n0 Po) 0 0 sh 83 [some (.ref t), some (.int y), some (.int i), some (.int d'), some (.int m), none] [] I J R := by
    intro hlt hc
    refine q_aload_n dX5_addFall_83 (rfl : 83 + 1 = 84) rfl ?_
    refine q_getR dX5_addFall_84 (rfl : 84 + 3 = 87) fX5_9 (by first | rfl | assumption) (by first | rfl | assumption) ?_
    refine q_aload_n dX5_addFall_87 (rfl : 87 + 1 = 88) rfl ?_
    refine q_getI dX5_addFall_88 (rfl : 88 + 3 = 91) fX5_46 (by first | rfl | assumption) ?_
    try simp (disch := omega) only [wr_hit, wr_p, wr_k, nI_add, pk_mul, nI_1, nI_s1, hn]
    refine q_iload_n dX5_addFall_91 (rfl : 91 + 1 = 92) rfl ?_
    refine q_iast dX5_addFall_92 (rfl : 92 + 1 = 93) (by first | rfl | assumption) (by first | assumption | omega) (by decide) ?_
    refine q_aload_n dX5_addFall_93 (rfl : 93 + 1 = 94) rfl ?_
    refine q_getR dX5_addFall_94 (rfl : 94 + 3 = 97) fX5_15 (by first | rfl | assumption) (by first | rfl | assumption) ?_
    refine q_aload_n dX5_addFall_97 (rfl : 97 + 1 = 98) rfl ?_
    refine q_getI dX5_addFall_98 (rfl : 98 + 3 = 101) fX5_46 (by first | rfl | assumption) ?_
    try simp (disch := omega) only [wr_hit, wr_p, wr_k, nI_add, pk_mul, nI_1, nI_s1, hn]
    refine q_iload_n dX5_addFall_101 (rfl : 101 + 1 = 102) rfl ?_
    refine q_iast dX5_addFall_102 (rfl : 102 + 1 = 103) (by first | rfl | assumption) (by first | assumption | omega) (by decide) ?_
    refine q_aload_n dX5_addFall_103 (rfl : 103 + 1 = 104) rfl ?_
    refine q_getR dX5_addFall_104 (rfl : 104 + 3 = 107) fX5_18 (by first | rfl | assumption) (by first | rfl | assumption) ?_
    refine q_aload_n dX5_addFall_107 (rfl : 107 + 1 = 108) rfl ?_
    refine q_getI dX5_addFall_108 (rfl : 108 + 3 = 111) fX5_46 (by first | rfl | assumption) ?_
    try simp (disch := omega) only [wr_hit, wr_p, wr_k, nI_add, pk_mul, nI_1, nI_s1, hn]
    refine q_iload_n dX5_addFall_111 (rfl : 111 + 1 = 112) rfl ?_
    refine q_iast dX5_addFall_112 (rfl : 112 + 1 = 113) (by first | rfl | assumption) (by first | assumption | omega) (by decide) ?_
    refine q_aload_n dX5_addFall_113 (rfl : 113 + 1 = 114) rfl ?_
    refine q_getR dX5_addFall_114 (rfl : 114 + 3 = 117) fX5_21 (by first | rfl | assumption) (by first | rfl | assumption) ?_
    refine q_aload_n dX5_addFall_117 (rfl : 117 + 1 = 118) rfl ?_
    refine q_getI dX5_addFall_118 (rfl : 118 + 3 = 121) fX5_46 (by first | rfl | assumption) ?_
    try simp (disch := omega) only [wr_hit, wr_p, wr_k, nI_add, pk_mul, nI_1, nI_s1, hn]
    refine q_iload dX5_addFall_121 (rfl : 121 + 2 = 123) rfl ?_
    refine q_iast dX5_addFall_123 (rfl : 123 + 1 = 124) (by first | rfl | assumption) (by first | assumption | omega) (by decide) ?_
    refine q_aload_n dX5_addFall_124 (rfl : 124 + 1 = 125) rfl ?_
    refine q_dup dX5_addFall_125 (rfl : 125 + 1 = 126) rfl ?_
    refine q_getI dX5_addFall_126 (rfl : 126 + 3 = 129) fX5_46 (by first | rfl | assumption) ?_
    try simp (disch := omega) only [wr_hit, wr_p, wr_k, nI_add, pk_mul, nI_1, nI_s1, hn]
    refine q_iconst (v := nI 1) dX5_addFall_129 (rfl : 129 + 1 = 130) (by decide) ?_
    refine q_iadd dX5_addFall_130 (rfl : 130 + 1 = 131) ?_
    try simp (disch := omega) only [wr_hit, wr_p, wr_k, nI_add, pk_mul, nI_1, nI_s1, hn]
    refine q_putI dX5_addFall_131 (rfl : 131 + 3 = 134) pX5_46 (by first | rfl | assumption) ?_
    refine q_iconst (v := nI 1) dX5_addFall_134 (rfl : 134 + 1 = 135) (by decide) ?_
    exact q_zret rfl dX5_addFall_135 (Or.inr rfl) (K true hc.symm)
  have bad : (b && decide (n < 12) && (decide (n = 0) || decide (I (t + 1) (n - 1) ≤ y))) = false → Wm mX5_addFall (TM (d + 3) 0 0 false n0 Po) 0 0 sh 81 [some (.ref t), some (.int y), some (.int i), some (.int d'), some (.int m), none] [] I J R := by
    intro hc
    refine q_iconst (v := nI 0) dX5_addFall_81 (rfl : 81 + 1 = 82) (by decide) ?_
    exact q_zret rfl dX5_addFall_82 (Or.inl rfl) (K false hc.symm)
  refine q_if_eq_b (q := 81) dX5_addFall_47 (by decide) (rfl : 47 + 3 = 50) (fun hb => ?_) (fun hb => ?_)
  ·
    refine q_forget (L' := [some (.ref t), some (.int y), some (.int i), some (.int d'), some (.int m), none]) (by repeat (first | exact trivial | refine And.intro rfl ?_)) ?_
    exact bad (by simp [hb])
  ·
    refine q_aload_n dX5_addFall_50 (rfl : 50 + 1 = 51) rfl ?_
    refine q_getI dX5_addFall_51 (rfl : 51 + 3 = 54) fX5_46 (by first | rfl | assumption) ?_
    try simp (disch := omega) only [wr_hit, wr_p, wr_k, nI_add, pk_mul, nI_1, nI_s1, hn]
    refine q_bipush (v := nI 12) dX5_addFall_54 (rfl : 54 + 2 = 56) (by decide) ?_
    refine q_icmp_ge_n (q := 81) (by omega) (by omega) dX5_addFall_56 (by decide) (rfl : 56 + 3 = 59) (fun h => ?_) (fun h => ?_)
    ·
      refine q_forget (L' := [some (.ref t), some (.int y), some (.int i), some (.int d'), some (.int m), none]) (by repeat (first | exact trivial | refine And.intro rfl ?_)) ?_
      exact bad (by simp [show ¬ n < 12 by omega])
    ·
      refine q_aload_n dX5_addFall_59 (rfl : 59 + 1 = 60) rfl ?_
      refine q_getI dX5_addFall_60 (rfl : 60 + 3 = 63) fX5_46 (by first | rfl | assumption) ?_
      try simp (disch := omega) only [wr_hit, wr_p, wr_k, nI_add, pk_mul, nI_1, nI_s1, hn]
      refine q_if_le_n (q := 83) (by omega) dX5_addFall_63 (by decide) (rfl : 63 + 3 = 66) (fun hz => ?_) (fun hz => ?_)
      ·
        refine q_forget (L' := [some (.ref t), some (.int y), some (.int i), some (.int d'), some (.int m), none]) (by repeat (first | exact trivial | refine And.intro rfl ?_)) ?_
        exact stores h (by simp [hb, h, hz])
      ·
        obtain ⟨k, rfl⟩ : ∃ k, n = k + 1 := ⟨n - 1, by omega⟩
        refine q_iload_n dX5_addFall_66 (rfl : 66 + 1 = 67) rfl ?_
        refine q_aload_n dX5_addFall_67 (rfl : 67 + 1 = 68) rfl ?_
        refine q_getR dX5_addFall_68 (rfl : 68 + 3 = 71) fX5_9 (by first | rfl | assumption) (by first | rfl | assumption) ?_
        refine q_aload_n dX5_addFall_71 (rfl : 71 + 1 = 72) rfl ?_
        refine q_getI dX5_addFall_72 (rfl : 72 + 3 = 75) fX5_46 (by first | rfl | assumption) ?_
        try simp (disch := omega) only [wr_hit, wr_p, wr_k, nI_add, pk_mul, nI_1, nI_s1, hn]
        refine q_iconst (v := nI 1) dX5_addFall_75 (rfl : 75 + 1 = 76) (by decide) ?_
        refine q_isub dX5_addFall_76 (rfl : 76 + 1 = 77) ?_
        try simp (disch := omega) only [wr_hit, wr_p, wr_k, nI_add, pk_mul, nI_1, nI_s1, hn]
        refine q_iald dX5_addFall_77 (rfl : 77 + 1 = 78) (by first | rfl | assumption) (by first | assumption | omega) (by decide) ?_
        try simp (disch := omega) only [wr_hit, wr_p, wr_k, nI_add, pk_mul, nI_1, nI_s1, hn]
        refine q_icmp_ge (q := 83) dX5_addFall_78 (by decide) (rfl : 78 + 3 = 81) (fun hy => ?_) (fun hy => ?_)
        ·
          refine q_forget (L' := [some (.ref t), some (.int y), some (.int i), some (.int d'), some (.int m), none]) (by repeat (first | exact trivial | refine And.intro rfl ?_)) ?_
          exact stores h (by simp [hb, h, hy])
        ·
          refine q_forget (L' := [some (.ref t), some (.int y), some (.int i), some (.int d'), some (.int m), none]) (by repeat (first | exact trivial | refine And.intro rfl ?_)) ?_
          exact bad (by simp [Int32.not_le.mpr (Int32.not_le.mp (by simpa using hy))])
theorem S_addFall {d n : Nat} {sh : List Kd} {R : HR} {I : HI} {J : HJ} {t : Nat} {y i d' m : Int32} (ht : ToldAt sh R t) (hn : I t 5 = nI n) (h12 : n ≤ 12) : MI mX5_addFall (d + 3) [.ref t, .int y, .int i, .int d', .int m] sh I J R (fun x I' J' => x = bI (addFallB I t n y i d' m) ∧ I' = cond (addFallB I t n y i d' m) (addFallH I t n y i d' m) I ∧ J' = J) := by
  refine Mt.of (L := [some (.ref t), some (.int y), some (.int i), some (.int d'), some (.int m), none]) (by decide +kernel) (Nat.le_of_ble_eq_true rfl) rfl ?_
  have fin : ∀ b : Bool, b = (inr y (nI 0) (nI 99) && inr i (nI 1) (nI 20) && inr d' (nI 1) (nI 9) && inr m (nI 0) (nI 9)) → ∀ (c : Bool), c = (b && decide (n < 12) && (decide (n = 0) || decide (I (t + 1) (n - 1) ≤ y))) → sh = sh ∧ R = R ∧ ∃ x : Int32, some (Value.int (bI c)) = some (.int x) ∧ (x = bI (addFallB I t n y i d' m) ∧ cond c (addFallH I t n y i d' m) I = cond (addFallB I t n y i d' m) (addFallH I t n y i d' m) I ∧ J = J) := by
    intro b hb c hc
    have e : c = addFallB I t n y i d' m := by rw [hc, hb]; rfl
    rw [e]
    exact ⟨rfl, rfl, _, rfl, rfl, rfl, rfl⟩
  refine q_iload_n dX5_addFall_0 (rfl : 0 + 1 = 1) rfl ?_
  refine q_callSIp (S_isYear (d := d + 1)) dX5_addFall_1 (rfl : 1 + 3 = 4) lX5_73 vX6_isYear rfl rfl (Nat.le_of_ble_eq_true rfl) TM_room TM_cs ?_
  refine q_if_eq_b (q := 42) dX5_addFall_4 (by decide) (rfl : 4 + 3 = 7) (fun a1 => ?_) (fun a1 => ?_)
  ·
    refine q_iconst (v := nI 0) dX5_addFall_42 (rfl : 42 + 1 = 43) (by decide) ?_
    refine L_addFall ht hn h12 false ?_
    exact fin false (by simp [a1])
  ·
    refine q_iload_n dX5_addFall_7 (rfl : 7 + 1 = 8) rfl ?_
    refine q_iconst (v := nI 1) dX5_addFall_8 (rfl : 8 + 1 = 9) (by decide) ?_
    refine q_bipush (v := nI 20) dX5_addFall_9 (rfl : 9 + 2 = 11) (by decide) ?_
    refine q_callSIp (S_inside (d := d + 2)) dX5_addFall_11 (rfl : 11 + 3 = 14) lX5_69 vX6_inside rfl rfl (Nat.le_of_ble_eq_true rfl) TM_room TM_cs ?_
    refine q_if_eq_b (q := 42) dX5_addFall_14 (by decide) (rfl : 14 + 3 = 17) (fun a2 => ?_) (fun a2 => ?_)
    ·
      refine q_iconst (v := nI 0) dX5_addFall_42 (rfl : 42 + 1 = 43) (by decide) ?_
      refine L_addFall ht hn h12 false ?_
      exact fin false (by simp [a2])
    ·
      refine q_iload_n dX5_addFall_17 (rfl : 17 + 1 = 18) rfl ?_
      refine q_iconst (v := nI 1) dX5_addFall_18 (rfl : 18 + 1 = 19) (by decide) ?_
      refine q_bipush (v := nI 9) dX5_addFall_19 (rfl : 19 + 2 = 21) (by decide) ?_
      refine q_callSIp (S_inside (d := d + 2)) dX5_addFall_21 (rfl : 21 + 3 = 24) lX5_69 vX6_inside rfl rfl (Nat.le_of_ble_eq_true rfl) TM_room TM_cs ?_
      refine q_if_eq_b (q := 42) dX5_addFall_24 (by decide) (rfl : 24 + 3 = 27) (fun a3 => ?_) (fun a3 => ?_)
      ·
        refine q_iconst (v := nI 0) dX5_addFall_42 (rfl : 42 + 1 = 43) (by decide) ?_
        refine L_addFall ht hn h12 false ?_
        exact fin false (by simp [a3])
      ·
        refine q_iload dX5_addFall_27 (rfl : 27 + 2 = 29) rfl ?_
        refine q_iconst (v := nI 0) dX5_addFall_29 (rfl : 29 + 1 = 30) (by decide) ?_
        refine q_bipush (v := nI 9) dX5_addFall_30 (rfl : 30 + 2 = 32) (by decide) ?_
        refine q_callSIp (S_inside (d := d + 2)) dX5_addFall_32 (rfl : 32 + 3 = 35) lX5_69 vX6_inside rfl rfl (Nat.le_of_ble_eq_true rfl) TM_room TM_cs ?_
        refine q_if_eq_b (q := 42) dX5_addFall_35 (by decide) (rfl : 35 + 3 = 38) (fun a4 => ?_) (fun a4 => ?_)
        ·
          refine q_iconst (v := nI 0) dX5_addFall_42 (rfl : 42 + 1 = 43) (by decide) ?_
          refine L_addFall ht hn h12 false ?_
          exact fin false (by simp [a4])
        ·
          refine q_iconst (v := nI 1) dX5_addFall_38 (rfl : 38 + 1 = 39) (by decide) ?_
          refine q_goto (q := 43) dX5_addFall_39 (by decide) ?_
          refine L_addFall ht hn h12 true ?_
          exact fin true (by simp [a1, a2, a3, a4])
def setOneB (l n : Int32) : Bool := (decide (l = nI 116) && inr n (nI 1) (nI 50)) || (decide (l = nI 115) && inr n (nI 0) (nI 4)) || (decide (l = nI 118) && inr n (nI 0) (nI 9))
def setOneK (l : Int32) : Nat := if l = nI 116 then 2 else if l = nI 115 then 3 else 4
theorem S_setOne {d : Nat} {sh : List Kd} {R : HR} {I : HI} {J : HJ} {t : Nat} {l n : Int32} (ht : ToldAt sh R t) : MI mX5_setOne (d + 1) [.ref t, .int l, .int n] sh I J R (fun x I' J' => x = bI (setOneB l n) ∧ I' = cond (setOneB l n) (wr I t (setOneK l) n) I ∧ J' = J) := by
  obtain ⟨h0, h1, h2, h3, h4, h5, r6, r7, r8, r9, r10⟩ := ht
  refine Mt.of (L := [some (.ref t), some (.int l), some (.int n)]) (by decide +kernel) (Nat.le_of_ble_eq_true rfl) rfl ?_
  have k1 : (¬ l = nI 116 ∨ inr n (nI 1) (nI 50) = false) → (¬ l = nI 115 ∨ inr n (nI 0) (nI 4) = false) → Wm mX5_setOne (TM (d + 1) 0 0 false sh.length (fun sh' v I' J' R' => sh' = sh ∧ R' = R ∧ ∃ x : Int32, v = some (.int x) ∧ (x = bI (setOneB l n) ∧ I' = cond (setOneB l n) (wr I t (setOneK l) n) I ∧ J' = J))) 0 0 sh 47 [some (.ref t), some (.int l), some (.int n)] [] I J R := by
    intro q1 q2
    refine q_iload_n dX5_setOne_47 (rfl : 47 + 1 = 48) rfl ?_
    refine q_bipush (v := nI 118) dX5_setOne_48 (rfl : 48 + 2 = 50) (by decide) ?_
    refine q_icmp_ne (q := 71) dX5_setOne_50 (by decide) (rfl : 50 + 3 = 53) (fun e => ?_) (fun e => ?_)
    ·
      refine q_iconst (v := nI 0) dX5_setOne_71 (rfl : 71 + 1 = 72) (by decide) ?_
      refine q_zret rfl dX5_setOne_72 (by first | exact bI_01 _ | exact Or.inl rfl | exact Or.inr rfl) ⟨rfl, rfl, _, rfl, ?_⟩
      have z : setOneB l n = false := by rcases q1 with q1 | q1 <;> rcases q2 with q2 | q2 <;> simp [setOneB, q1, q2, e]
      rw [z]
      exact ⟨rfl, rfl, rfl⟩
    ·
      subst e
      refine q_iload_n dX5_setOne_53 (rfl : 53 + 1 = 54) rfl ?_
      refine q_iconst (v := nI 0) dX5_setOne_54 (rfl : 54 + 1 = 55) (by decide) ?_
      refine q_bipush (v := nI 9) dX5_setOne_55 (rfl : 55 + 2 = 57) (by decide) ?_
      refine q_callSIp S_inside dX5_setOne_57 (rfl : 57 + 3 = 60) lX5_69 vX6_inside rfl rfl (Nat.le_of_ble_eq_true rfl) TM_room TM_cs ?_
      refine q_if_eq_b (q := 71) dX5_setOne_60 (by decide) (rfl : 60 + 3 = 63) (fun a => ?_) (fun a => ?_)
      ·
        refine q_iconst (v := nI 0) dX5_setOne_71 (rfl : 71 + 1 = 72) (by decide) ?_
        refine q_zret rfl dX5_setOne_72 (by first | exact bI_01 _ | exact Or.inl rfl | exact Or.inr rfl) ⟨rfl, rfl, _, rfl, ?_⟩
        have z : setOneB (nI 118) n = false := by simp [setOneB, a, show ¬ nI 118 = nI 116 by decide, show ¬ nI 118 = nI 115 by decide]
        rw [z]
        exact ⟨rfl, rfl, rfl⟩
      ·
        refine q_aload_n dX5_setOne_63 (rfl : 63 + 1 = 64) rfl ?_
        refine q_iload_n dX5_setOne_64 (rfl : 64 + 1 = 65) rfl ?_
        refine q_putI dX5_setOne_65 (rfl : 65 + 3 = 68) pX5_43 (by first | rfl | assumption) ?_
        refine q_goto (q := 73) dX5_setOne_68 (by decide) ?_
        refine q_iconst (v := nI 1) dX5_setOne_73 (rfl : 73 + 1 = 74) (by decide) ?_
        refine q_zret rfl dX5_setOne_74 (by first | exact bI_01 _ | exact Or.inl rfl | exact Or.inr rfl) ⟨rfl, rfl, _, rfl, ?_⟩
        have z : setOneB (nI 118) n = true := by simp [setOneB, a]
        rw [z]
        exact ⟨rfl, rfl, rfl⟩
  have k2 : (¬ l = nI 116 ∨ inr n (nI 1) (nI 50) = false) → Wm mX5_setOne (TM (d + 1) 0 0 false sh.length (fun sh' v I' J' R' => sh' = sh ∧ R' = R ∧ ∃ x : Int32, v = some (.int x) ∧ (x = bI (setOneB l n) ∧ I' = cond (setOneB l n) (wr I t (setOneK l) n) I ∧ J' = J))) 0 0 sh 24 [some (.ref t), some (.int l), some (.int n)] [] I J R := by
    intro q1
    refine q_iload_n dX5_setOne_24 (rfl : 24 + 1 = 25) rfl ?_
    refine q_bipush (v := nI 115) dX5_setOne_25 (rfl : 25 + 2 = 27) (by decide) ?_
    refine q_icmp_ne (q := 47) dX5_setOne_27 (by decide) (rfl : 27 + 3 = 30) (fun e => ?_) (fun e => ?_)
    ·
      exact k1 q1 (Or.inl e)
    ·
      refine q_iload_n dX5_setOne_30 (rfl : 30 + 1 = 31) rfl ?_
      refine q_iconst (v := nI 0) dX5_setOne_31 (rfl : 31 + 1 = 32) (by decide) ?_
      refine q_iconst (v := nI 4) dX5_setOne_32 (rfl : 32 + 1 = 33) (by decide) ?_
      refine q_callSIp S_inside dX5_setOne_33 (rfl : 33 + 3 = 36) lX5_69 vX6_inside rfl rfl (Nat.le_of_ble_eq_true rfl) TM_room TM_cs ?_
      refine q_if_eq_b (q := 47) dX5_setOne_36 (by decide) (rfl : 36 + 3 = 39) (fun a => ?_) (fun a => ?_)
      ·
        exact k1 q1 (Or.inr a)
      ·
        subst e
        refine q_aload_n dX5_setOne_39 (rfl : 39 + 1 = 40) rfl ?_
        refine q_iload_n dX5_setOne_40 (rfl : 40 + 1 = 41) rfl ?_
        refine q_putI dX5_setOne_41 (rfl : 41 + 3 = 44) pX5_40 (by first | rfl | assumption) ?_
        refine q_goto (q := 73) dX5_setOne_44 (by decide) ?_
        refine q_iconst (v := nI 1) dX5_setOne_73 (rfl : 73 + 1 = 74) (by decide) ?_
        refine q_zret rfl dX5_setOne_74 (by first | exact bI_01 _ | exact Or.inl rfl | exact Or.inr rfl) ⟨rfl, rfl, _, rfl, ?_⟩
        have z : setOneB (nI 115) n = true := by simp [setOneB, a]
        rw [z]
        exact ⟨rfl, rfl, rfl⟩
  refine q_iload_n dX5_setOne_0 (rfl : 0 + 1 = 1) rfl ?_
  refine q_bipush (v := nI 116) dX5_setOne_1 (rfl : 1 + 2 = 3) (by decide) ?_
  refine q_icmp_ne (q := 24) dX5_setOne_3 (by decide) (rfl : 3 + 3 = 6) (fun e => ?_) (fun e => ?_)
  ·
    exact k2 (Or.inl e)
  ·
    refine q_iload_n dX5_setOne_6 (rfl : 6 + 1 = 7) rfl ?_
    refine q_iconst (v := nI 1) dX5_setOne_7 (rfl : 7 + 1 = 8) (by decide) ?_
    refine q_bipush (v := nI 50) dX5_setOne_8 (rfl : 8 + 2 = 10) (by decide) ?_
    refine q_callSIp S_inside dX5_setOne_10 (rfl : 10 + 3 = 13) lX5_69 vX6_inside rfl rfl (Nat.le_of_ble_eq_true rfl) TM_room TM_cs ?_
    refine q_if_eq_b (q := 24) dX5_setOne_13 (by decide) (rfl : 13 + 3 = 16) (fun a => ?_) (fun a => ?_)
    ·
      exact k2 (Or.inr a)
    ·
      subst e
      refine q_aload_n dX5_setOne_16 (rfl : 16 + 1 = 17) rfl ?_
      refine q_iload_n dX5_setOne_17 (rfl : 17 + 1 = 18) rfl ?_
      refine q_putI dX5_setOne_18 (rfl : 18 + 3 = 21) pX5_37 (by first | rfl | assumption) ?_
      refine q_goto (q := 73) dX5_setOne_21 (by decide) ?_
      refine q_iconst (v := nI 1) dX5_setOne_73 (rfl : 73 + 1 = 74) (by decide) ?_
      refine q_zret rfl dX5_setOne_74 (by first | exact bI_01 _ | exact Or.inl rfl | exact Or.inr rfl) ⟨rfl, rfl, _, rfl, ?_⟩
      have z : setOneB (nI 116) n = true := by simp [setOneB, a]
      rw [z]
      exact ⟨rfl, rfl, rfl⟩
theorem S_costOf {d : Nat} {I : HI} {J : HJ} {i y : Nat} (hi : i < 12) (hy : I 5 i = nI y) (hy2 : y < 100) : MIp mX5_costOf d [.ref 4, .int (nI i)] shA I J RA (I 9 y) := by
  refine Mt.of (L := [some (.ref 4), some (.int (nI i))]) (by decide +kernel) (Nat.le_of_ble_eq_true rfl) rfl ?_
  refine q_aload_n dX5_costOf_0 (rfl : 0 + 1 = 1) rfl ?_
  refine q_getR dX5_costOf_1 (rfl : 1 + 3 = 4) fX5_24 (by first | rfl | assumption) (by first | rfl | assumption) ?_
  refine q_aload_n dX5_costOf_4 (rfl : 4 + 1 = 5) rfl ?_
  refine q_getR dX5_costOf_5 (rfl : 5 + 3 = 8) fX5_9 (by first | rfl | assumption) (by first | rfl | assumption) ?_
  refine q_iload_n dX5_costOf_8 (rfl : 8 + 1 = 9) rfl ?_
  refine q_iald dX5_costOf_9 (rfl : 9 + 1 = 10) (by first | rfl | assumption) (by first | assumption | omega) (by decide) ?_
  try simp (disch := omega) only [wr_hit, wr_p, wr_k, nI_add, pk_mul, nI_1, nI_s1, hy]
  refine q_iald dX5_costOf_10 (rfl : 10 + 1 = 11) (by first | rfl | assumption) (by first | assumption | omega) (by decide) ?_
  try simp (disch := omega) only [wr_hit, wr_p, wr_k, nI_add, pk_mul, nI_1, nI_s1, hy]
  refine q_iret rfl dX5_costOf_11 ⟨rfl, rfl, _, rfl, ?_⟩
  exact ⟨rfl, rfl, rfl⟩
def bearsB (I : HI) (high load : Int32) : Bool := decide (high ≤ nI 10 * I 4 1) && decide (load ≤ nI 10 * I 4 0)
theorem S_bears {d : Nat} {I : HI} {J : HJ} {high load : Int32} : MIp mX5_bears d [.ref 4, .int high, .int load] shA I J RA (bI (bearsB I high load)) := by
  refine Mt.of (L := [some (.ref 4), some (.int high), some (.int load)]) (by decide +kernel) (Nat.le_of_ble_eq_true rfl) rfl ?_
  refine q_iload_n dX5_bears_0 (rfl : 0 + 1 = 1) rfl ?_
  refine q_bipush (v := nI 10) dX5_bears_1 (rfl : 1 + 2 = 3) (by decide) ?_
  refine q_aload_n dX5_bears_3 (rfl : 3 + 1 = 4) rfl ?_
  refine q_getI dX5_bears_4 (rfl : 4 + 3 = 7) fX5_34 (by first | rfl | assumption) ?_
  refine q_imul dX5_bears_7 (rfl : 7 + 1 = 8) ?_
  refine q_icmp_gt (q := 26) dX5_bears_8 (by decide) (rfl : 8 + 3 = 11) (fun h1 => ?_) (fun h1 => ?_)
  ·
    refine q_iconst (v := nI 0) dX5_bears_26 (rfl : 26 + 1 = 27) (by decide) ?_
    refine q_zret rfl dX5_bears_27 (by first | exact bI_01 _ | exact Or.inl rfl | exact Or.inr rfl) ⟨rfl, rfl, _, rfl, ?_⟩
    have e : bearsB I high load = false := by simp [bearsB, Int32.not_le.mpr h1]
    rw [e]
    exact ⟨rfl, rfl, rfl⟩
  ·
    refine q_iload_n dX5_bears_11 (rfl : 11 + 1 = 12) rfl ?_
    refine q_bipush (v := nI 10) dX5_bears_12 (rfl : 12 + 2 = 14) (by decide) ?_
    refine q_aload_n dX5_bears_14 (rfl : 14 + 1 = 15) rfl ?_
    refine q_getI dX5_bears_15 (rfl : 15 + 3 = 18) fX5_30 (by first | rfl | assumption) ?_
    refine q_imul dX5_bears_18 (rfl : 18 + 1 = 19) ?_
    refine q_icmp_gt (q := 26) dX5_bears_19 (by decide) (rfl : 19 + 3 = 22) (fun h2 => ?_) (fun h2 => ?_)
    ·
      refine q_iconst (v := nI 0) dX5_bears_26 (rfl : 26 + 1 = 27) (by decide) ?_
      refine q_zret rfl dX5_bears_27 (by first | exact bI_01 _ | exact Or.inl rfl | exact Or.inr rfl) ⟨rfl, rfl, _, rfl, ?_⟩
      have e : bearsB I high load = false := by simp [bearsB, Int32.not_le.mpr h2]
      rw [e]
      exact ⟨rfl, rfl, rfl⟩
    ·
      refine q_iconst (v := nI 1) dX5_bears_22 (rfl : 22 + 1 = 23) (by decide) ?_
      refine q_goto (q := 27) dX5_bears_23 (by decide) ?_
      refine q_zret rfl dX5_bears_27 (by first | exact bI_01 _ | exact Or.inl rfl | exact Or.inr rfl) ⟨rfl, rfl, _, rfl, ?_⟩
      have e : bearsB I high load = true := by simp [bearsB, Int32.not_lt.mp h1, Int32.not_lt.mp h2]
      rw [e]
      exact ⟨rfl, rfl, rfl⟩
end
section
/-! the class's text: bytes, numbers, the telling -/
theorem toldA4 : ToldAt shA RA 4 := ⟨rfl, rfl, rfl, rfl, rfl, rfl, rfl, rfl, rfl, rfl, rfl⟩
theorem toldA10 : ToldAt shA RA 10 := ⟨rfl, rfl, rfl, rfl, rfl, rfl, rfl, rfl, rfl, rfl, rfl⟩
def takeB (I : HI) (n : Nat) (l : Int32) (c : Nat) : Bool :=
  if l = nI 98 then decide (c = 2) && setBarnB (I 3 0) (I 3 1)
  else if l = nI 102 then decide (c = 4) && addFallB I 10 n (I 3 0) (I 3 1) (I 3 2) (I 3 3)
  else if l = nI 112 then decide (c = 2) && setCostB (I 3 0) (I 3 1)
  else if l = nI 115 ∨ l = nI 116 ∨ l = nI 118 then decide (c = 1) && setOneB l (I 3 0)
  else false
def takeH (I : HI) (n : Nat) (l : Int32) : HI :=
  if l = nI 98 then setBarnH I 10 (I 3 0) (I 3 1)
  else if l = nI 102 then addFallH I 10 n (I 3 0) (I 3 1) (I 3 2) (I 3 3)
  else if l = nI 112 then wr I 15 (I 3 0).toNatClampNeg (I 3 1)
  else wr I 10 (setOneK l) (I 3 0)
theorem S_take {d n c : Nat} {I : HI} {J : HJ} {l : Int32} (hn : I 10 5 = nI n) (h12 : n ≤ 12) (hc : c ≤ 4) : MI mX5_take (d + 4) [.ref 10, .int l, .ref 3, .int (nI c)] shA I J RA (fun x I' J' => x = bI (takeB I n l c) ∧ I' = cond (takeB I n l c) (takeH I n l) I ∧ J' = J) := by
  refine Mt.of (L := [some (.ref 10), some (.int l), some (.ref 3), some (.int (nI c))]) (by decide +kernel) (Nat.le_of_ble_eq_true rfl) rfl ?_
  refine q_iload_n dX5_take_0 (rfl : 0 + 1 = 1) rfl ?_
  by_cases h98 : l = nI 98
  · subst h98
    refine q_lookup (off := 59) (q := 60) dX5_take_1 (by decide) (by decide) (by decide) ?_
    refine q_iload_n dX5_take_60 (rfl : 60 + 1 = 61) rfl ?_
    refine q_iconst (v := nI 2) dX5_take_61 (rfl : 61 + 1 = 62) (by decide) ?_
    refine q_icmp_ne_n (q := 82) (by omega) (by omega) dX5_take_62 (by decide) (rfl : 62 + 3 = 65) (fun h => ?_) (fun h => ?_)
    ·
      refine q_iconst (v := nI 0) dX5_take_82 (rfl : 82 + 1 = 83) (by decide) ?_
      refine q_zret rfl dX5_take_83 (by first | exact bI_01 _ | exact Or.inl rfl | exact Or.inr rfl) ⟨rfl, rfl, _, rfl, ?_⟩
      have e : takeB I n (nI 98) c = false := by simp [takeB, h]
      rw [e]
      exact ⟨rfl, rfl, rfl⟩
    ·
      subst h
      refine q_aload_n dX5_take_65 (rfl : 65 + 1 = 66) rfl ?_
      refine q_aload_n dX5_take_66 (rfl : 66 + 1 = 67) rfl ?_
      refine q_iconst (v := nI 0) dX5_take_67 (rfl : 67 + 1 = 68) (by decide) ?_
      refine q_iald (j := 0) dX5_take_68 (rfl : 68 + 1 = 69) (by first | rfl | assumption) (by decide) (by decide) ?_
      refine q_aload_n dX5_take_69 (rfl : 69 + 1 = 70) rfl ?_
      refine q_iconst (v := nI 1) dX5_take_70 (rfl : 70 + 1 = 71) (by decide) ?_
      refine q_iald (j := 1) dX5_take_71 (rfl : 71 + 1 = 72) (by first | rfl | assumption) (by decide) (by decide) ?_
      refine q_callVI (S_setBarn (d := d + 2) toldA10) dX5_take_72 (rfl : 72 + 3 = 75) lX5_55 vX5_setBarn (by first | rfl | assumption) rfl rfl (Nat.le_of_ble_eq_true rfl) TM_room TM_cs ?_
      intro x I1 J1 hp
      obtain ⟨rfl, rfl, rfl⟩ := hp
      have e : takeB I n (nI 98) 2 = setBarnB (I 3 0) (I 3 1) := by simp [takeB]
      have e2 : takeH I n (nI 98) = setBarnH I 10 (I 3 0) (I 3 1) := by simp [takeH]
      refine q_if_eq_b (q := 82) dX5_take_75 (by decide) (rfl : 75 + 3 = 78) (fun hb => ?_) (fun hb => ?_)
      ·
        refine q_iconst (v := nI 0) dX5_take_82 (rfl : 82 + 1 = 83) (by decide) ?_
        refine q_zret rfl dX5_take_83 (by first | exact bI_01 _ | exact Or.inl rfl | exact Or.inr rfl) ⟨rfl, rfl, _, rfl, ?_⟩
        rw [e, e2, hb]
        exact ⟨rfl, rfl, rfl⟩
      ·
        refine q_iconst (v := nI 1) dX5_take_78 (rfl : 78 + 1 = 79) (by decide) ?_
        refine q_goto (q := 83) dX5_take_79 (by decide) ?_
        refine q_zret rfl dX5_take_83 (by first | exact bI_01 _ | exact Or.inl rfl | exact Or.inr rfl) ⟨rfl, rfl, _, rfl, ?_⟩
        rw [e, e2, hb]
        exact ⟨rfl, rfl, rfl⟩
  by_cases h102 : l = nI 102
  · subst h102
    refine q_lookup (off := 83) (q := 84) dX5_take_1 (by decide) (by decide) (by decide) ?_
    refine q_iload_n dX5_take_84 (rfl : 84 + 1 = 85) rfl ?_
    refine q_iconst (v := nI 4) dX5_take_85 (rfl : 85 + 1 = 86) (by decide) ?_
    refine q_icmp_ne_n (q := 112) (by omega) (by omega) dX5_take_86 (by decide) (rfl : 86 + 3 = 89) (fun h => ?_) (fun h => ?_)
    ·
      refine q_iconst (v := nI 0) dX5_take_112 (rfl : 112 + 1 = 113) (by decide) ?_
      refine q_zret rfl dX5_take_113 (by first | exact bI_01 _ | exact Or.inl rfl | exact Or.inr rfl) ⟨rfl, rfl, _, rfl, ?_⟩
      have e : takeB I n (nI 102) c = false := by simp [takeB, h, show ¬ nI 102 = nI 98 by decide]
      rw [e]
      exact ⟨rfl, rfl, rfl⟩
    ·
      subst h
      refine q_aload_n dX5_take_89 (rfl : 89 + 1 = 90) rfl ?_
      refine q_aload_n dX5_take_90 (rfl : 90 + 1 = 91) rfl ?_
      refine q_iconst (v := nI 0) dX5_take_91 (rfl : 91 + 1 = 92) (by decide) ?_
      refine q_iald (j := 0) dX5_take_92 (rfl : 92 + 1 = 93) (by first | rfl | assumption) (by decide) (by decide) ?_
      refine q_aload_n dX5_take_93 (rfl : 93 + 1 = 94) rfl ?_
      refine q_iconst (v := nI 1) dX5_take_94 (rfl : 94 + 1 = 95) (by decide) ?_
      refine q_iald (j := 1) dX5_take_95 (rfl : 95 + 1 = 96) (by first | rfl | assumption) (by decide) (by decide) ?_
      refine q_aload_n dX5_take_96 (rfl : 96 + 1 = 97) rfl ?_
      refine q_iconst (v := nI 2) dX5_take_97 (rfl : 97 + 1 = 98) (by decide) ?_
      refine q_iald (j := 2) dX5_take_98 (rfl : 98 + 1 = 99) (by first | rfl | assumption) (by decide) (by decide) ?_
      refine q_aload_n dX5_take_99 (rfl : 99 + 1 = 100) rfl ?_
      refine q_iconst (v := nI 3) dX5_take_100 (rfl : 100 + 1 = 101) (by decide) ?_
      refine q_iald (j := 3) dX5_take_101 (rfl : 101 + 1 = 102) (by first | rfl | assumption) (by decide) (by decide) ?_
      refine q_callVI (S_addFall (d := d) toldA10 hn h12) dX5_take_102 (rfl : 102 + 3 = 105) lX5_59 vX5_addFall (by first | rfl | assumption) rfl rfl (Nat.le_of_ble_eq_true rfl) TM_room TM_cs ?_
      intro x I1 J1 hp
      obtain ⟨rfl, rfl, rfl⟩ := hp
      have e : takeB I n (nI 102) 4 = addFallB I 10 n (I 3 0) (I 3 1) (I 3 2) (I 3 3) := by simp [takeB, show ¬ nI 102 = nI 98 by decide]
      have e2 : takeH I n (nI 102) = addFallH I 10 n (I 3 0) (I 3 1) (I 3 2) (I 3 3) := by simp [takeH, show ¬ nI 102 = nI 98 by decide]
      refine q_if_eq_b (q := 112) dX5_take_105 (by decide) (rfl : 105 + 3 = 108) (fun hb => ?_) (fun hb => ?_)
      ·
        refine q_iconst (v := nI 0) dX5_take_112 (rfl : 112 + 1 = 113) (by decide) ?_
        refine q_zret rfl dX5_take_113 (by first | exact bI_01 _ | exact Or.inl rfl | exact Or.inr rfl) ⟨rfl, rfl, _, rfl, ?_⟩
        rw [e, e2, hb]
        exact ⟨rfl, rfl, rfl⟩
      ·
        refine q_iconst (v := nI 1) dX5_take_108 (rfl : 108 + 1 = 109) (by decide) ?_
        refine q_goto (q := 113) dX5_take_109 (by decide) ?_
        refine q_zret rfl dX5_take_113 (by first | exact bI_01 _ | exact Or.inl rfl | exact Or.inr rfl) ⟨rfl, rfl, _, rfl, ?_⟩
        rw [e, e2, hb]
        exact ⟨rfl, rfl, rfl⟩
  by_cases h112 : l = nI 112
  · subst h112
    refine q_lookup (off := 113) (q := 114) dX5_take_1 (by decide) (by decide) (by decide) ?_
    refine q_iload_n dX5_take_114 (rfl : 114 + 1 = 115) rfl ?_
    refine q_iconst (v := nI 2) dX5_take_115 (rfl : 115 + 1 = 116) (by decide) ?_
    refine q_icmp_ne_n (q := 136) (by omega) (by omega) dX5_take_116 (by decide) (rfl : 116 + 3 = 119) (fun h => ?_) (fun h => ?_)
    ·
      refine q_iconst (v := nI 0) dX5_take_136 (rfl : 136 + 1 = 137) (by decide) ?_
      refine q_zret rfl dX5_take_137 (by first | exact bI_01 _ | exact Or.inl rfl | exact Or.inr rfl) ⟨rfl, rfl, _, rfl, ?_⟩
      have e : takeB I n (nI 112) c = false := by simp [takeB, h, show ¬ nI 112 = nI 98 by decide, show ¬ nI 112 = nI 102 by decide]
      rw [e]
      exact ⟨rfl, rfl, rfl⟩
    ·
      subst h
      refine q_aload_n dX5_take_119 (rfl : 119 + 1 = 120) rfl ?_
      refine q_aload_n dX5_take_120 (rfl : 120 + 1 = 121) rfl ?_
      refine q_iconst (v := nI 0) dX5_take_121 (rfl : 121 + 1 = 122) (by decide) ?_
      refine q_iald (j := 0) dX5_take_122 (rfl : 122 + 1 = 123) (by first | rfl | assumption) (by decide) (by decide) ?_
      refine q_aload_n dX5_take_123 (rfl : 123 + 1 = 124) rfl ?_
      refine q_iconst (v := nI 1) dX5_take_124 (rfl : 124 + 1 = 125) (by decide) ?_
      refine q_iald (j := 1) dX5_take_125 (rfl : 125 + 1 = 126) (by first | rfl | assumption) (by decide) (by decide) ?_
      refine q_callVI (S_setCost (d := d + 1) toldA10) dX5_take_126 (rfl : 126 + 3 = 129) lX5_63 vX5_setCost (by first | rfl | assumption) rfl rfl (Nat.le_of_ble_eq_true rfl) TM_room TM_cs ?_
      intro x I1 J1 hp
      obtain ⟨rfl, rfl, rfl⟩ := hp
      have e : takeB I n (nI 112) 2 = setCostB (I 3 0) (I 3 1) := by simp [takeB, show ¬ nI 112 = nI 98 by decide, show ¬ nI 112 = nI 102 by decide]
      have e2 : takeH I n (nI 112) = wr I 15 (I 3 0).toNatClampNeg (I 3 1) := by simp [takeH, show ¬ nI 112 = nI 98 by decide, show ¬ nI 112 = nI 102 by decide]
      refine q_if_eq_b (q := 136) dX5_take_129 (by decide) (rfl : 129 + 3 = 132) (fun hb => ?_) (fun hb => ?_)
      ·
        refine q_iconst (v := nI 0) dX5_take_136 (rfl : 136 + 1 = 137) (by decide) ?_
        refine q_zret rfl dX5_take_137 (by first | exact bI_01 _ | exact Or.inl rfl | exact Or.inr rfl) ⟨rfl, rfl, _, rfl, ?_⟩
        rw [e, e2, hb]
        exact ⟨rfl, rfl, rfl⟩
      ·
        refine q_iconst (v := nI 1) dX5_take_132 (rfl : 132 + 1 = 133) (by decide) ?_
        refine q_goto (q := 137) dX5_take_133 (by decide) ?_
        refine q_zret rfl dX5_take_137 (by first | exact bI_01 _ | exact Or.inl rfl | exact Or.inr rfl) ⟨rfl, rfl, _, rfl, ?_⟩
        rw [e, e2, hb]
        exact ⟨rfl, rfl, rfl⟩
  by_cases h1 : l = nI 115 ∨ l = nI 116 ∨ l = nI 118
  · have e0 : ∀ c, takeB I n l c = (decide (c = 1) && setOneB l (I 3 0)) := fun c => by simp [takeB, h98, h102, h112, h1]
    have e2 : takeH I n l = wr I 10 (setOneK l) (I 3 0) := by simp [takeH, h98, h102, h112]
    refine q_lookup (off := 137) (q := 138) dX5_take_1 (by decide) (by rcases h1 with rfl | rfl | rfl <;> decide) (by decide) ?_
    refine q_iload_n dX5_take_138 (rfl : 138 + 1 = 139) rfl ?_
    refine q_iconst (v := nI 1) dX5_take_139 (rfl : 139 + 1 = 140) (by decide) ?_
    refine q_icmp_ne_n (q := 158) (by omega) (by omega) dX5_take_140 (by decide) (rfl : 140 + 3 = 143) (fun h => ?_) (fun h => ?_)
    ·
      refine q_iconst (v := nI 0) dX5_take_158 (rfl : 158 + 1 = 159) (by decide) ?_
      refine q_zret rfl dX5_take_159 (by first | exact bI_01 _ | exact Or.inl rfl | exact Or.inr rfl) ⟨rfl, rfl, _, rfl, ?_⟩
      have e : takeB I n l c = false := by rw [e0]; simp [h]
      rw [e]
      exact ⟨rfl, rfl, rfl⟩
    ·
      subst h
      refine q_aload_n dX5_take_143 (rfl : 143 + 1 = 144) rfl ?_
      refine q_iload_n dX5_take_144 (rfl : 144 + 1 = 145) rfl ?_
      refine q_aload_n dX5_take_145 (rfl : 145 + 1 = 146) rfl ?_
      refine q_iconst (v := nI 0) dX5_take_146 (rfl : 146 + 1 = 147) (by decide) ?_
      refine q_iald (j := 0) dX5_take_147 (rfl : 147 + 1 = 148) (by first | rfl | assumption) (by decide) (by decide) ?_
      refine q_callVI (S_setOne (d := d + 2) toldA10) dX5_take_148 (rfl : 148 + 3 = 151) lX5_66 vX5_setOne (by first | rfl | assumption) rfl rfl (Nat.le_of_ble_eq_true rfl) TM_room TM_cs ?_
      intro x I1 J1 hp
      obtain ⟨rfl, rfl, rfl⟩ := hp
      have e : takeB I n l 1 = setOneB l (I 3 0) := by rw [e0]; simp
      refine q_if_eq_b (q := 158) dX5_take_151 (by decide) (rfl : 151 + 3 = 154) (fun hb => ?_) (fun hb => ?_)
      ·
        refine q_iconst (v := nI 0) dX5_take_158 (rfl : 158 + 1 = 159) (by decide) ?_
        refine q_zret rfl dX5_take_159 (by first | exact bI_01 _ | exact Or.inl rfl | exact Or.inr rfl) ⟨rfl, rfl, _, rfl, ?_⟩
        rw [e, e2, hb]
        exact ⟨rfl, rfl, rfl⟩
      ·
        refine q_iconst (v := nI 1) dX5_take_154 (rfl : 154 + 1 = 155) (by decide) ?_
        refine q_goto (q := 159) dX5_take_155 (by decide) ?_
        refine q_zret rfl dX5_take_159 (by first | exact bI_01 _ | exact Or.inl rfl | exact Or.inr rfl) ⟨rfl, rfl, _, rfl, ?_⟩
        rw [e, e2, hb]
        exact ⟨rfl, rfl, rfl⟩
  · have h115 : ¬ l = nI 115 := fun z => h1 (Or.inl z)
    have h116 : ¬ l = nI 116 := fun z => h1 (Or.inr (Or.inl z))
    have h118 : ¬ l = nI 118 := fun z => h1 (Or.inr (Or.inr z))
    refine q_lookup (off := 159) (q := 160) dX5_take_1 (by decide) ?_ (by decide) ?_
    · show Op.lookupswitch.offset [(98, 59), (102, 83), (112, 113), (115, 137), (116, 137), (118, 137)] 159 l.toInt = 159
      rw [lv_osw h98 (by decide), lv_osw h102 (by decide), lv_osw h112 (by decide), lv_osw h115 (by decide), lv_osw h116 (by decide), lv_osw h118 (by decide)]
      rfl
    refine q_iconst (v := nI 0) dX5_take_160 (rfl : 160 + 1 = 161) (by decide) ?_
    refine q_zret rfl dX5_take_161 (by first | exact bI_01 _ | exact Or.inl rfl | exact Or.inr rfl) ⟨rfl, rfl, _, rfl, ?_⟩
    have e : takeB I n l c = false := by simp [takeB, h98, h102, h112, h1]
    rw [e]
    exact ⟨rfl, rfl, rfl⟩
theorem S_tclear {d : Nat} {I : HI} {J : HJ} : MI mX3_clear d [.ref 1] shA I J RA (fun x I' J' => x = I 1 1 ∧ I' = wr I 1 1 (nI 0) ∧ J' = J) := by
  refine Mt.of (L := [some (.ref 1), none]) (by decide +kernel) (Nat.le_of_ble_eq_true rfl) rfl ?_
  refine q_aload_n dX3_clear_0 (rfl : 0 + 1 = 1) rfl ?_
  refine q_getI dX3_clear_1 (rfl : 1 + 3 = 4) fX3_15 (by first | rfl | assumption) ?_
  refine q_istore_n dX3_clear_4 (rfl : 4 + 1 = 5) (by decide) ?_
  refine q_aload_n dX3_clear_5 (rfl : 5 + 1 = 6) rfl ?_
  refine q_iconst (v := nI 0) dX3_clear_6 (rfl : 6 + 1 = 7) (by decide) ?_
  refine q_putI dX3_clear_7 (rfl : 7 + 3 = 10) pX3_15 (by first | rfl | assumption) ?_
  refine q_iload_n dX3_clear_10 (rfl : 10 + 1 = 11) rfl ?_
  refine q_iret rfl dX3_clear_11 ⟨rfl, rfl, _, rfl, ?_⟩
  exact ⟨rfl, rfl, rfl⟩
def startH (I : HI) : HI := wr (wr (wr I 1 3 (nI 0)) 1 4 (nI 0)) 1 5 (nI 0)
theorem S_startItem {d : Nat} {I : HI} {J : HJ} : MV mX3_startItem d [.ref 1] shA I J RA (fun I' J' => I' = startH I ∧ J' = J) := by
  refine Mt.of (L := [some (.ref 1)]) (by decide +kernel) (Nat.le_of_ble_eq_true rfl) rfl ?_
  refine q_aload_n dX3_startItem_0 (rfl : 0 + 1 = 1) rfl ?_
  refine q_iconst (v := nI 0) dX3_startItem_1 (rfl : 1 + 1 = 2) (by decide) ?_
  refine q_putI dX3_startItem_2 (rfl : 2 + 3 = 5) pX3_23 (by first | rfl | assumption) ?_
  refine q_aload_n dX3_startItem_5 (rfl : 5 + 1 = 6) rfl ?_
  refine q_iconst (v := nI 0) dX3_startItem_6 (rfl : 6 + 1 = 7) (by decide) ?_
  refine q_putI dX3_startItem_7 (rfl : 7 + 3 = 10) pX3_26 (by first | rfl | assumption) ?_
  refine q_aload_n dX3_startItem_10 (rfl : 10 + 1 = 11) rfl ?_
  refine q_iconst (v := nI 0) dX3_startItem_11 (rfl : 11 + 1 = 12) (by decide) ?_
  refine q_putI dX3_startItem_12 (rfl : 12 + 3 = 15) pX3_29 (by first | rfl | assumption) ?_
  refine q_vret rfl dX3_startItem_15 ⟨rfl, rfl, rfl, ?_⟩
  exact ⟨rfl, rfl⟩
def figH (I : HI) (g : Nat) (x : Int32) : HI := wr (wr I 1 4 (nI (g + 1))) 1 5 (nI 10 * I 1 5 + x)
theorem S_addFigure {d g : Nat} {I : HI} {J : HJ} {x : Int32} (hg : I 1 4 = nI g) (h3 : g ≤ 3) : MI mX3_addFigure d [.ref 1, .int x] shA I J RA (fun y I' J' => y = bI (decide (g < 3)) ∧ I' = cond (decide (g < 3)) (figH I g x) I ∧ J' = J) := by
  refine Mt.of (L := [some (.ref 1), some (.int x)]) (by decide +kernel) (Nat.le_of_ble_eq_true rfl) rfl ?_
  refine q_aload_n dX3_addFigure_0 (rfl : 0 + 1 = 1) rfl ?_
  refine q_getI dX3_addFigure_1 (rfl : 1 + 3 = 4) fX3_26 (by first | rfl | assumption) ?_
  try simp (disch := omega) only [wr_hit, wr_p, wr_k, nI_add, pk_mul, nI_1, nI_s1, hg]
  refine q_iconst (v := nI 3) dX3_addFigure_4 (rfl : 4 + 1 = 5) (by decide) ?_
  refine q_icmp_lt_n (q := 10) (by omega) (by omega) dX3_addFigure_5 (by decide) (rfl : 5 + 3 = 8) (fun h => ?_) (fun h => ?_)
  ·
    refine q_aload_n dX3_addFigure_10 (rfl : 10 + 1 = 11) rfl ?_
    refine q_dup dX3_addFigure_11 (rfl : 11 + 1 = 12) rfl ?_
    refine q_getI dX3_addFigure_12 (rfl : 12 + 3 = 15) fX3_26 (by first | rfl | assumption) ?_
    try simp (disch := omega) only [wr_hit, wr_p, wr_k, nI_add, pk_mul, nI_1, nI_s1, hg]
    refine q_iconst (v := nI 1) dX3_addFigure_15 (rfl : 15 + 1 = 16) (by decide) ?_
    refine q_iadd dX3_addFigure_16 (rfl : 16 + 1 = 17) ?_
    try simp (disch := omega) only [wr_hit, wr_p, wr_k, nI_add, pk_mul, nI_1, nI_s1, hg]
    refine q_putI dX3_addFigure_17 (rfl : 17 + 3 = 20) pX3_26 (by first | rfl | assumption) ?_
    refine q_aload_n dX3_addFigure_20 (rfl : 20 + 1 = 21) rfl ?_
    refine q_bipush (v := nI 10) dX3_addFigure_21 (rfl : 21 + 2 = 23) (by decide) ?_
    refine q_aload_n dX3_addFigure_23 (rfl : 23 + 1 = 24) rfl ?_
    refine q_getI dX3_addFigure_24 (rfl : 24 + 3 = 27) fX3_29 (by first | rfl | assumption) ?_
    try simp (disch := omega) only [wr_hit, wr_p, wr_k, nI_add, pk_mul, nI_1, nI_s1, hg]
    refine q_imul dX3_addFigure_27 (rfl : 27 + 1 = 28) ?_
    try simp (disch := omega) only [wr_hit, wr_p, wr_k, nI_add, pk_mul, nI_1, nI_s1, hg]
    refine q_iload_n dX3_addFigure_28 (rfl : 28 + 1 = 29) rfl ?_
    refine q_iadd dX3_addFigure_29 (rfl : 29 + 1 = 30) ?_
    try simp (disch := omega) only [wr_hit, wr_p, wr_k, nI_add, pk_mul, nI_1, nI_s1, hg]
    refine q_putI dX3_addFigure_30 (rfl : 30 + 3 = 33) pX3_29 (by first | rfl | assumption) ?_
    refine q_iconst (v := nI 1) dX3_addFigure_33 (rfl : 33 + 1 = 34) (by decide) ?_
    refine q_zret rfl dX3_addFigure_34 (by first | exact bI_01 _ | exact Or.inl rfl | exact Or.inr rfl) ⟨rfl, rfl, _, rfl, ?_⟩
    rw [show decide (g < 3) = true by simp [h]]
    exact ⟨rfl, rfl, rfl⟩
  ·
    refine q_iconst (v := nI 0) dX3_addFigure_8 (rfl : 8 + 1 = 9) (by decide) ?_
    refine q_zret rfl dX3_addFigure_9 (by first | exact bI_01 _ | exact Or.inl rfl | exact Or.inr rfl) ⟨rfl, rfl, _, rfl, ?_⟩
    rw [show decide (g < 3) = false by simp; omega]
    exact ⟨rfl, rfl, rfl⟩
def endH (I : HI) (c : Nat) : HI := wr (wr (wr (wr I 3 c (I 1 5)) 1 3 (nI (c + 1))) 1 4 (nI 0)) 1 5 (nI 0)
theorem S_endNumber {d g c : Nat} {I : HI} {J : HJ} (hg : I 1 4 = nI g) (h3 : g ≤ 3) (hc : I 1 3 = nI c) (h4 : c ≤ 4) : MI mX3_endNumber d [.ref 1] shA I J RA (fun y I' J' => y = bI (decide (g ≠ 0) && decide (c < 4)) ∧ I' = cond (decide (g ≠ 0) && decide (c < 4)) (endH I c) I ∧ J' = J) := by
  refine Mt.of (L := [some (.ref 1)]) (by decide +kernel) (Nat.le_of_ble_eq_true rfl) rfl ?_
  refine q_aload_n dX3_endNumber_0 (rfl : 0 + 1 = 1) rfl ?_
  refine q_getI dX3_endNumber_1 (rfl : 1 + 3 = 4) fX3_26 (by first | rfl | assumption) ?_
  try simp (disch := omega) only [wr_hit, wr_p, wr_k, nI_add, pk_mul, nI_1, nI_s1, hg, hc]
  refine q_if_eq_n (q := 15) (by omega) dX3_endNumber_4 (by decide) (rfl : 4 + 3 = 7) (fun h => ?_) (fun h => ?_)
  ·
    refine q_iconst (v := nI 0) dX3_endNumber_15 (rfl : 15 + 1 = 16) (by decide) ?_
    refine q_zret rfl dX3_endNumber_16 (by first | exact bI_01 _ | exact Or.inl rfl | exact Or.inr rfl) ⟨rfl, rfl, _, rfl, ?_⟩
    rw [show (decide (g ≠ 0) && decide (c < 4)) = false by simp [h]]
    exact ⟨rfl, rfl, rfl⟩
  ·
    refine q_aload_n dX3_endNumber_7 (rfl : 7 + 1 = 8) rfl ?_
    refine q_getI dX3_endNumber_8 (rfl : 8 + 3 = 11) fX3_23 (by first | rfl | assumption) ?_
    try simp (disch := omega) only [wr_hit, wr_p, wr_k, nI_add, pk_mul, nI_1, nI_s1, hg, hc]
    refine q_iconst (v := nI 4) dX3_endNumber_11 (rfl : 11 + 1 = 12) (by decide) ?_
    refine q_icmp_lt_n (q := 17) (by omega) (by omega) dX3_endNumber_12 (by decide) (rfl : 12 + 3 = 15) (fun h2 => ?_) (fun h2 => ?_)
    ·
      refine q_aload_n dX3_endNumber_17 (rfl : 17 + 1 = 18) rfl ?_
      refine q_getR dX3_endNumber_18 (rfl : 18 + 3 = 21) fX3_19 (by first | rfl | assumption) (by first | rfl | assumption) ?_
      refine q_aload_n dX3_endNumber_21 (rfl : 21 + 1 = 22) rfl ?_
      refine q_getI dX3_endNumber_22 (rfl : 22 + 3 = 25) fX3_23 (by first | rfl | assumption) ?_
      try simp (disch := omega) only [wr_hit, wr_p, wr_k, nI_add, pk_mul, nI_1, nI_s1, hg, hc]
      refine q_aload_n dX3_endNumber_25 (rfl : 25 + 1 = 26) rfl ?_
      refine q_getI dX3_endNumber_26 (rfl : 26 + 3 = 29) fX3_29 (by first | rfl | assumption) ?_
      try simp (disch := omega) only [wr_hit, wr_p, wr_k, nI_add, pk_mul, nI_1, nI_s1, hg, hc]
      refine q_iast dX3_endNumber_29 (rfl : 29 + 1 = 30) (by first | rfl | assumption) (by first | assumption | omega) (by decide) ?_
      refine q_aload_n dX3_endNumber_30 (rfl : 30 + 1 = 31) rfl ?_
      refine q_dup dX3_endNumber_31 (rfl : 31 + 1 = 32) rfl ?_
      refine q_getI dX3_endNumber_32 (rfl : 32 + 3 = 35) fX3_23 (by first | rfl | assumption) ?_
      try simp (disch := omega) only [wr_hit, wr_p, wr_k, nI_add, pk_mul, nI_1, nI_s1, hg, hc]
      refine q_iconst (v := nI 1) dX3_endNumber_35 (rfl : 35 + 1 = 36) (by decide) ?_
      refine q_iadd dX3_endNumber_36 (rfl : 36 + 1 = 37) ?_
      try simp (disch := omega) only [wr_hit, wr_p, wr_k, nI_add, pk_mul, nI_1, nI_s1, hg, hc]
      refine q_putI dX3_endNumber_37 (rfl : 37 + 3 = 40) pX3_23 (by first | rfl | assumption) ?_
      refine q_aload_n dX3_endNumber_40 (rfl : 40 + 1 = 41) rfl ?_
      refine q_iconst (v := nI 0) dX3_endNumber_41 (rfl : 41 + 1 = 42) (by decide) ?_
      refine q_putI dX3_endNumber_42 (rfl : 42 + 3 = 45) pX3_26 (by first | rfl | assumption) ?_
      refine q_aload_n dX3_endNumber_45 (rfl : 45 + 1 = 46) rfl ?_
      refine q_iconst (v := nI 0) dX3_endNumber_46 (rfl : 46 + 1 = 47) (by decide) ?_
      refine q_putI dX3_endNumber_47 (rfl : 47 + 3 = 50) pX3_29 (by first | rfl | assumption) ?_
      refine q_iconst (v := nI 1) dX3_endNumber_50 (rfl : 50 + 1 = 51) (by decide) ?_
      refine q_zret rfl dX3_endNumber_51 (by first | exact bI_01 _ | exact Or.inl rfl | exact Or.inr rfl) ⟨rfl, rfl, _, rfl, ?_⟩
      rw [show (decide (g ≠ 0) && decide (c < 4)) = true by simp [h, h2]]
      exact ⟨rfl, rfl, rfl⟩
    ·
      refine q_iconst (v := nI 0) dX3_endNumber_15 (rfl : 15 + 1 = 16) (by decide) ?_
      refine q_zret rfl dX3_endNumber_16 (by first | exact bI_01 _ | exact Or.inl rfl | exact Or.inr rfl) ⟨rfl, rfl, _, rfl, ?_⟩
      rw [show (decide (g ≠ 0) && decide (c < 4)) = false by simp; omega]
      exact ⟨rfl, rfl, rfl⟩
/-- the byte of v that is s bytes above the lowest -/
def bC (v : Int64) (s : Nat) : Int32 := vp_nar .byte ((((v.toUInt64 >>> ((nI (8 * s)).toInt64.toUInt64 &&& Int64.toUInt64 63)).toInt64).toInt32).toInt8.toInt32)
def appH (I : HI) (nt n : Nat) (v : Int64) (j : Nat) : HI := fun a b => if a = 2 ∧ nt ≤ b ∧ b < nt + j then bC v (n - 1 - (b - nt)) else if a = 1 ∧ b = 1 then nI (nt + j) else I a b
theorem appH_0 {I : HI} {nt n : Nat} {v : Int64} (h : I 1 1 = nI nt) : appH I nt n v 0 = I := by
  funext a b
  unfold appH
  rw [if_neg (by omega)]
  split
  · rename_i h2
    obtain ⟨rfl, rfl⟩ := h2
    exact h.symm
  · rfl
theorem appH_s {I : HI} {nt n j s : Nat} {v : Int64} (h : s = n - 1 - j) : wr (wr (appH I nt n v j) 2 (nt + j) (bC v s)) 1 1 (nI (nt + j + 1)) = appH I nt n v (j + 1) := by
  subst h
  funext a b
  unfold wr appH
  by_cases h1 : a = 1
  · subst h1
    by_cases hb : b = 1
    · subst hb; simp; rfl
    · simp [hb]
  · by_cases h2 : a = 2
    · subst h2
      by_cases hb : b = nt + j
      · subst hb; simp
      · by_cases hl : nt ≤ b ∧ b < nt + j
        · simp [hb, hl, show nt ≤ b ∧ b < nt + (j + 1) by omega]
        · simp [hb, hl, show ¬ (nt ≤ b ∧ b < nt + (j + 1)) by omega]
    · simp [h1, h2]
theorem appH_len {I : HI} {nt n j : Nat} {v : Int64} : appH I nt n v j 1 1 = nI (nt + j) := by simp [appH]
theorem nI_m1 (s : Nat) : nI s + Int32.ofInt (-1) = nI s - nI 1 := by
  rw [Int32.sub_eq_add_neg]
  rfl
theorem nI_m1neg : nI 0 - nI 1 < 0 := by decide
theorem L_append {T : Tg} {I : HI} {J : HJ} {nt n : Nat} {v : Int64} (h4 : nt + n ≤ 400) (K : Wm mX3_append T 0 0 shA 58 [some (.ref 1), some (.int (nI n)), some (.long v), none, none] [] (appH I nt n v n) J RA) :
    ∀ (j : Nat), j ≤ n → Wm mX3_append T 0 0 shA 19 [some (.ref 1), some (.int (nI n)), some (.long v), none, some (.int (nI (n - j) - nI 1))] [] (appH I nt n v j) J RA := by
  refine loopN (fun j hj ih => ?_)
  refine q_iload dX3_append_19 (rfl : 19 + 2 = 21) rfl ?_
  refine q_if_lt (q := 58) dX3_append_21 (by decide) (rfl : 21 + 3 = 24) (fun h => ?_) (fun h => ?_)
  ·
    have : j = n := by
      rcases Nat.lt_or_ge j n with q | q
      · obtain ⟨s, hs⟩ : ∃ s, n - j = s + 1 := ⟨n - j - 1, by omega⟩
        rw [hs, nI_s1] at h
        exact absurd h (nI_pos (by omega))
      · omega
    subst this
    refine q_forget (L' := [some (.ref 1), some (.int (nI j)), some (.long v), none, none]) (by repeat (first | exact trivial | refine And.intro rfl ?_)) ?_
    exact K
  ·
    have hlt : j < n := by
      rcases Nat.lt_or_ge j n with q | q
      · exact q
      · rw [show n - j = 0 by omega] at h
        exact absurd nI_m1neg h
    obtain ⟨s, hs⟩ : ∃ s, n - j = s + 1 := ⟨n - j - 1, by omega⟩
    rw [hs, nI_s1]
    refine q_aload_n dX3_append_24 (rfl : 24 + 1 = 25) rfl ?_
    refine q_getR dX3_append_25 (rfl : 25 + 3 = 28) fX3_9 (by first | rfl | assumption) (by first | rfl | assumption) ?_
    refine q_aload_n dX3_append_28 (rfl : 28 + 1 = 29) rfl ?_
    refine q_getI dX3_append_29 (rfl : 29 + 3 = 32) fX3_15 (by first | rfl | assumption) ?_
    try simp (disch := omega) only [wr_hit, wr_p, wr_k, nI_add, pk_mul, nI_1, nI_s1, appH_len]
    refine q_lload_n dX3_append_32 (rfl : 32 + 1 = 33) rfl ?_
    refine q_bipush (v := nI 8) dX3_append_33 (rfl : 33 + 2 = 35) (by decide) ?_
    refine q_iload dX3_append_35 (rfl : 35 + 2 = 37) rfl ?_
    refine q_imul dX3_append_37 (rfl : 37 + 1 = 38) ?_
    try simp (disch := omega) only [wr_hit, wr_p, wr_k, nI_add, pk_mul, nI_1, nI_s1, appH_len]
    refine q_lushr dX3_append_38 (rfl : 38 + 1 = 39) ?_
    refine q_l2i dX3_append_39 (rfl : 39 + 1 = 40) ?_
    refine q_i2b dX3_append_40 (rfl : 40 + 1 = 41) ?_
    refine q_bast dX3_append_41 (rfl : 41 + 1 = 42) (by first | rfl | assumption) (by first | assumption | omega) (by decide) ?_
    refine q_aload_n dX3_append_42 (rfl : 42 + 1 = 43) rfl ?_
    refine q_dup dX3_append_43 (rfl : 43 + 1 = 44) rfl ?_
    refine q_getI dX3_append_44 (rfl : 44 + 3 = 47) fX3_15 (by first | rfl | assumption) ?_
    try simp (disch := omega) only [wr_hit, wr_p, wr_k, nI_add, pk_mul, nI_1, nI_s1, appH_len]
    refine q_iconst (v := nI 1) dX3_append_47 (rfl : 47 + 1 = 48) (by decide) ?_
    refine q_iadd dX3_append_48 (rfl : 48 + 1 = 49) ?_
    try simp (disch := omega) only [wr_hit, wr_p, wr_k, nI_add, pk_mul, nI_1, nI_s1, appH_len]
    refine q_putI dX3_append_49 (rfl : 49 + 3 = 52) pX3_15 (by first | rfl | assumption) ?_
    refine q_iinc dX3_append_52 (rfl : 52 + 3 = 55) rfl rfl (by decide) ?_
    refine q_goto (q := 19) dX3_append_55 (by decide) ?_
    rw [nI_m1]
    have e : ((((v.toUInt64 >>> ((nI (8 * s)).toInt64.toUInt64 &&& Int64.toUInt64 63)).toInt64).toInt32).toInt8.toInt32 : Int32) = ((((v.toUInt64 >>> ((nI (8 * s)).toInt64.toUInt64 &&& Int64.toUInt64 63)).toInt64).toInt32).toInt8.toInt32 : Int32) := rfl
    have e2 := appH_s (I := I) (nt := nt) (v := v) (show s = n - 1 - j by omega)
    unfold bC at e2
    rw [e2]
    have := ih hlt
    rw [show n - (j + 1) = s by omega] at this
    exact this
theorem S_append {d nt n : Nat} {I : HI} {J : HJ} {v : Int64} (ht : I 1 1 = nI nt) (h4 : nt ≤ 400) (hn : n ≤ 8) : MI mX3_append d [.ref 1, .int (nI n), .long v] shA I J RA (fun x I' J' => x = bI (decide (nt + n ≤ 400)) ∧ I' = cond (decide (nt + n ≤ 400)) (appH I nt n v n) I ∧ J' = J) := by
  refine Mt.of (L := [some (.ref 1), some (.int (nI n)), some (.long v), none, none]) (by decide +kernel) (Nat.le_of_ble_eq_true rfl) rfl ?_
  refine q_iload_n dX3_append_0 (rfl : 0 + 1 = 1) rfl ?_
  refine q_sipush (v := nI 400) dX3_append_1 (rfl : 1 + 3 = 4) (by decide) ?_
  refine q_aload_n dX3_append_4 (rfl : 4 + 1 = 5) rfl ?_
  refine q_getI dX3_append_5 (rfl : 5 + 3 = 8) fX3_15 (by first | rfl | assumption) ?_
  try simp (disch := omega) only [wr_hit, wr_p, wr_k, nI_add, pk_mul, nI_1, nI_s1, appH_len]
  refine q_isub dX3_append_8 (rfl : 8 + 1 = 9) ?_
  try simp (disch := omega) only [wr_hit, wr_p, wr_k, nI_add, pk_mul, nI_1, nI_s1, appH_len]
  rw [ht, pk_sub h4]
  refine q_icmp_le_n (q := 14) (by omega) (by omega) dX3_append_9 (by decide) (rfl : 9 + 3 = 12) (fun h => ?_) (fun h => ?_)
  ·
    have hle : nt + n ≤ 400 := by omega
    refine q_iload_n dX3_append_14 (rfl : 14 + 1 = 15) rfl ?_
    refine q_iconst (v := nI 1) dX3_append_15 (rfl : 15 + 1 = 16) (by decide) ?_
    refine q_isub dX3_append_16 (rfl : 16 + 1 = 17) ?_
    try simp (disch := omega) only [wr_hit, wr_p, wr_k, nI_add, pk_mul, nI_1, nI_s1, appH_len]
    refine q_istore dX3_append_17 (rfl : 17 + 2 = 19) (by decide) ?_
    have := L_append (J := J) (I := I) (v := v) (T := TM d 0 0 false shA.length (fun sh' w I' J' R' => sh' = shA ∧ R' = RA ∧ ∃ x : Int32, w = some (.int x) ∧ (x = bI (decide (nt + n ≤ 400)) ∧ I' = cond (decide (nt + n ≤ 400)) (appH I nt n v n) I ∧ J' = J))) hle ?_ 0 (by omega)
    · rw [appH_0 ht] at this
      exact this
    refine q_iconst (v := nI 1) dX3_append_58 (rfl : 58 + 1 = 59) (by decide) ?_
    refine q_zret rfl dX3_append_59 (by first | exact bI_01 _ | exact Or.inl rfl | exact Or.inr rfl) ⟨rfl, rfl, _, rfl, ?_⟩
    rw [show decide (nt + n ≤ 400) = true by simp [hle]]
    exact ⟨rfl, rfl, rfl⟩
  ·
    refine q_iconst (v := nI 0) dX3_append_12 (rfl : 12 + 1 = 13) (by decide) ?_
    refine q_zret rfl dX3_append_13 (by first | exact bI_01 _ | exact Or.inl rfl | exact Or.inr rfl) ⟨rfl, rfl, _, rfl, ?_⟩
    rw [show decide (nt + n ≤ 400) = false by simp; omega]
    exact ⟨rfl, rfl, rfl⟩
end
section
/-! the class's telling of a text, byte by byte -/
def scanC (f : Nat → Int32) (len k : Nat) (X : HI) (p start c g n : Nat) : Int32 × HI := match k with
  | 0 => (if start = len then -4 else nI start, X)
  | k + 1 =>
    if p = start then scanC f len k (startH X) (p + 1) start 0 0 n
    else if nI 48 ≤ f p ∧ f p ≤ nI 57 then
      (if g < 3 then scanC f len k (figH X g (f p - nI 48)) (p + 1) start c (g + 1) n else (nI start, X))
    else if f p = nI 44 ∨ f p = nI 59 then
      (if g ≠ 0 ∧ c < 4 then
        (if f p = nI 59 then
          (if takeB (endH X c) n (f start) (c + 1) = true then scanC f len k (takeH (endH X c) n (f start)) (p + 1) (p + 1) (c + 1) 0 (if f start = nI 102 then n + 1 else n) else (nI start, endH X c))
        else scanC f len k (endH X c) (p + 1) start (c + 1) 0 n)
      else (nI start, X))
    else (nI start, X)
theorem takeH_low {X : HI} {n : Nat} {l : Int32} {a : Nat} (h : a < 10) : takeH X n l a = X a := by
  unfold takeH
  repeat' split
  · unfold setBarnH; rw [wr_ne (by omega), wr_ne (by omega)]
  · unfold addFallH; rw [wr_ne (by omega), wr_ne (by omega), wr_ne (by omega), wr_ne (by omega), wr_ne (by omega)]
  · rw [wr_ne (by omega)]
  · rw [wr_ne (by omega)]
theorem takeH_n {X : HI} {n : Nat} {l : Int32} (hn : X 10 5 = nI n) : takeH X n l 10 5 = nI (if l = nI 102 then n + 1 else n) := by
  unfold takeH
  by_cases h98 : l = nI 98
  · subst h98
    rw [if_pos rfl, if_neg (by decide)]
    simp [setBarnH, wr, hn]
  · rw [if_neg h98]
    by_cases h102 : l = nI 102
    · subst h102
      rw [if_pos rfl, if_pos rfl]
      simp [addFallH, wr]
    · rw [if_neg h102, if_neg h102]
      by_cases h112 : l = nI 112
      · rw [if_pos h112]
        simp [wr, hn]
      · rw [if_neg h112]
        have : setOneK l ≠ 5 := by
          unfold setOneK
          repeat' split
          all_goals decide
        simp [wr, hn, this.symm]
theorem takeB_n {X : HI} {n : Nat} {l : Int32} {c : Nat} (h12 : n ≤ 12) (h : takeB X n l c = true) : (if l = nI 102 then n + 1 else n) ≤ 12 := by
  by_cases h102 : l = nI 102
  · subst h102
    rw [if_pos rfl]
    have e : takeB X n (nI 102) c = (decide (c = 4) && addFallB X 10 n (X 3 0) (X 3 1) (X 3 2) (X 3 3)) := by simp [takeB, show ¬ nI 102 = nI 98 by decide]
    rw [e] at h
    unfold addFallB at h
    simp only [Bool.and_eq_true, decide_eq_true_eq] at h
    omega
  · rw [if_neg h102]
    exact h12
theorem startH_o {X : HI} {a b : Nat} (h : ¬ (a = 1 ∧ (b = 3 ∨ b = 4 ∨ b = 5))) : startH X a b = X a b := by
  unfold startH wr
  by_cases ha : a = 1
  · subst ha
    simp only [true_and] at h
    simp [show b ≠ 3 by omega, show b ≠ 4 by omega, show b ≠ 5 by omega]
  · simp [ha]
theorem figH_o {X : HI} {g : Nat} {x : Int32} {a b : Nat} (h : ¬ (a = 1 ∧ (b = 4 ∨ b = 5))) : figH X g x a b = X a b := by
  unfold figH wr
  by_cases ha : a = 1
  · subst ha
    simp only [true_and] at h
    simp [show b ≠ 4 by omega, show b ≠ 5 by omega]
  · simp [ha]
theorem endH_o {X : HI} {c : Nat} {a b : Nat} (h : ¬ (a = 1 ∧ (b = 3 ∨ b = 4 ∨ b = 5))) (h3 : a ≠ 3) : endH X c a b = X a b := by
  unfold endH wr
  by_cases ha : a = 1
  · subst ha
    simp only [true_and] at h
    simp [show b ≠ 3 by omega, show b ≠ 4 by omega, show b ≠ 5 by omega]
  · simp [ha, h3]
/-- what holds while a text is told -/
def TellI (f : Nat → Int32) (len : Nat) (X : HI) (p start c g n : Nat) : Prop := X 2 = f ∧ X 1 1 = nI len ∧ X 10 5 = nI n ∧ n ≤ 12 ∧ start ≤ p ∧ (start < p → X 1 3 = nI c ∧ X 1 4 = nI g) ∧ c ≤ 4 ∧ g ≤ 3
theorem L_tellTo {d n0 : Nat} {Po : PO} {J : HJ} {f : Nat → Int32} {len : Nat} (h400 : len ≤ 400) :
    ∀ (k : Nat) (X : HI) (p start c g n : Nat), p + k = len → TellI f len X p start c g n → Po shA (some (.int (scanC f len k X p start c g n).1)) (scanC f len k X p start c g n).2 J RA →
      Wm mX3_tellTo (TM (d + 5) 0 0 false n0 Po) 0 0 shA 8 [some (.ref 1), some (.ref 10), some (.int (nI start)), some (.int (nI p)), none] [] X J RA := by
  intro k
  induction k with
  | zero =>
    intro X p start c g n hk ⟨h2, hl, hn, h12, hsp, hcg, hc4, hg3⟩ hPo
    obtain rfl : p = len := by omega
    refine q_iload_n dX3_tellTo_8 (rfl : 8 + 1 = 9) rfl ?_
    refine q_aload_n dX3_tellTo_9 (rfl : 9 + 1 = 10) rfl ?_
    refine q_getI dX3_tellTo_10 (rfl : 10 + 3 = 13) fX3_15 (by first | rfl | assumption) ?_
    rw [hl]
    refine q_icmp_ge_n (q := 127) (by omega) (by omega) dX3_tellTo_13 (by decide) (rfl : 13 + 3 = 16) (fun h => ?_) (fun h => ?_)
    ·
      refine q_iload_n dX3_tellTo_127 (rfl : 127 + 1 = 128) rfl ?_
      refine q_aload_n dX3_tellTo_128 (rfl : 128 + 1 = 129) rfl ?_
      refine q_getI dX3_tellTo_129 (rfl : 129 + 3 = 132) fX3_15 (by first | rfl | assumption) ?_
      rw [hl]
      refine q_icmp_ne_n (q := 140) (by omega) (by omega) dX3_tellTo_132 (by decide) (rfl : 132 + 3 = 135) (fun hs => ?_) (fun hs => ?_)
      ·
        refine q_iload_n dX3_tellTo_140 (rfl : 140 + 1 = 141) rfl ?_
        have e : scanC f p 0 X p start c g n = (nI start, X) := by simp [scanC, hs]
        rw [e] at hPo
        exact q_iret rfl dX3_tellTo_141 hPo
      ·
        refine q_bipush (v := -4) dX3_tellTo_135 (rfl : 135 + 2 = 137) (by decide) ?_
        refine q_goto (q := 141) dX3_tellTo_137 (by decide) ?_
        have e : scanC f p 0 X p start c g n = (-4, X) := by simp [scanC, hs]
        rw [e] at hPo
        exact q_iret rfl dX3_tellTo_141 hPo
    ·
      omega
  | succ k ih =>
    intro X p start c g n hk ⟨h2, hl, hn, h12, hsp, hcg, hc4, hg3⟩ hPo
    refine q_iload_n dX3_tellTo_8 (rfl : 8 + 1 = 9) rfl ?_
    refine q_aload_n dX3_tellTo_9 (rfl : 9 + 1 = 10) rfl ?_
    refine q_getI dX3_tellTo_10 (rfl : 10 + 3 = 13) fX3_15 (by first | rfl | assumption) ?_
    rw [hl]
    refine q_icmp_ge_n (q := 127) (by omega) (by omega) dX3_tellTo_13 (by decide) (rfl : 13 + 3 = 16) (fun h => ?_) (fun h => ?_)
    · omega
    ·
      have hp400 : p < 400 := by omega
      refine q_aload_n dX3_tellTo_16 (rfl : 16 + 1 = 17) rfl ?_
      refine q_getR dX3_tellTo_17 (rfl : 17 + 3 = 20) fX3_9 (by first | rfl | assumption) (by first | rfl | assumption) ?_
      refine q_iload_n dX3_tellTo_20 (rfl : 20 + 1 = 21) rfl ?_
      refine q_bald dX3_tellTo_21 (rfl : 21 + 1 = 22) (by first | rfl | assumption) (by first | assumption | omega) (by decide) ?_
      refine q_istore dX3_tellTo_22 (rfl : 22 + 2 = 24) (by decide) ?_
      refine q_iload_n dX3_tellTo_24 (rfl : 24 + 1 = 25) rfl ?_
      refine q_iload_n dX3_tellTo_25 (rfl : 25 + 1 = 26) rfl ?_
      rw [h2]
      refine q_icmp_ne_n (q := 36) (by omega) (by omega) dX3_tellTo_26 (by decide) (rfl : 26 + 3 = 29) (fun hs => ?_) (fun hs => ?_)
      ·
        have hlt : start < p := by omega
        obtain ⟨hc, hg⟩ := hcg hlt
        have notdig : ¬ (nI 48 ≤ f p ∧ f p ≤ nI 57) → Wm mX3_tellTo (TM (d + 5) 0 0 false n0 Po) 0 0 shA 64 [some (.ref 1), some (.ref 10), some (.int (nI start)), some (.int (nI p)), some (.int (f p))] [] X J RA := by
          intro hd
          have sep : (f p = nI 44 ∨ f p = nI 59) → Wm mX3_tellTo (TM (d + 5) 0 0 false n0 Po) 0 0 shA 78 [some (.ref 1), some (.ref 10), some (.int (nI start)), some (.int (nI p)), some (.int (f p))] [] X J RA := by
            intro hsep
            refine q_aload_n dX3_tellTo_78 (rfl : 78 + 1 = 79) rfl ?_
            refine q_callVI (S_endNumber (d := d + 4) hg hg3 hc hc4) dX3_tellTo_79 (rfl : 79 + 3 = 82) lX3_44 vX3_endNumber (by first | rfl | assumption) rfl rfl (Nat.le_of_ble_eq_true rfl) TM_room TM_cs ?_
            intro x I1 J1 hp
            obtain ⟨rfl, rfl, rfl⟩ := hp
            refine q_if_ne_b (q := 87) dX3_tellTo_82 (by decide) (rfl : 82 + 3 = 85) (fun hb => ?_) (fun hb => ?_)
            ·
              have hb2 : g ≠ 0 ∧ c < 4 := by simpa using hb
              rw [hb]
              show Wm _ _ _ _ _ _ _ _ (endH X c) _ _
              refine q_iload dX3_tellTo_87 (rfl : 87 + 2 = 89) rfl ?_
              refine q_bipush (v := nI 59) dX3_tellTo_89 (rfl : 89 + 2 = 91) (by decide) ?_
              refine q_icmp_ne (q := 121) dX3_tellTo_91 (by decide) (rfl : 91 + 3 = 94) (fun q59 => ?_) (fun q59 => ?_)
              ·
                first | refine q_iinc1 dX3_tellTo_121 (rfl : 121 + 3 = 124) rfl (by decide) ?_ | refine q_iinc dX3_tellTo_121 (rfl : 121 + 3 = 124) rfl rfl (by decide) ?_
                refine q_goto (q := 8) dX3_tellTo_124 (by decide) ?_
                have e : scanC f len (k + 1) X p start c g n = scanC f len k (endH X c) (p + 1) start (c + 1) 0 n := by
                  simp only [scanC, if_neg hs, if_neg hd, if_pos hsep, if_pos hb2, if_neg q59]
                rw [e] at hPo
                refine q_forget (L' := [some (.ref 1), some (.ref 10), some (.int (nI start)), some (.int (nI (p + 1))), none]) (by repeat (first | exact trivial | refine And.intro rfl ?_)) ?_
                refine ih (endH X c) (p + 1) start (c + 1) 0 n (by omega) ⟨?_, ?_, ?_, h12, by omega, fun _ => ⟨?_, ?_⟩, by omega, by omega⟩ hPo
                · funext b; rw [endH_o (by omega) (by omega), h2]
                · rw [endH_o (by omega) (by omega), hl]
                · rw [endH_o (by omega) (by omega), hn]
                · simp [endH, wr]
                · simp [endH, wr]
              ·
                have hs400 : start < 400 := by omega
                have e2 : endH X c 2 = f := by funext b; rw [endH_o (by omega) (by omega), h2]
                have e3 : endH X c 1 3 = nI (c + 1) := by simp [endH, wr]
                have en : endH X c 10 5 = nI n := by rw [endH_o (by omega) (by omega), hn]
                refine q_aload_n dX3_tellTo_94 (rfl : 94 + 1 = 95) rfl ?_
                refine q_aload_n dX3_tellTo_95 (rfl : 95 + 1 = 96) rfl ?_
                refine q_getR dX3_tellTo_96 (rfl : 96 + 3 = 99) fX3_9 (by first | rfl | assumption) (by first | rfl | assumption) ?_
                refine q_iload_n dX3_tellTo_99 (rfl : 99 + 1 = 100) rfl ?_
                refine q_bald dX3_tellTo_100 (rfl : 100 + 1 = 101) (by first | rfl | assumption) (by first | assumption | omega) (by decide) ?_
                refine q_aload_n dX3_tellTo_101 (rfl : 101 + 1 = 102) rfl ?_
                refine q_getR dX3_tellTo_102 (rfl : 102 + 3 = 105) fX3_19 (by first | rfl | assumption) (by first | rfl | assumption) ?_
                refine q_aload_n dX3_tellTo_105 (rfl : 105 + 1 = 106) rfl ?_
                refine q_getI dX3_tellTo_106 (rfl : 106 + 3 = 109) fX3_23 (by first | rfl | assumption) ?_
                rw [e2, e3]
                refine q_callVI (S_take (d := d) en h12 (show c + 1 ≤ 4 by omega)) dX3_tellTo_109 (rfl : 109 + 3 = 112) lX3_48 vX5_take (by first | rfl | assumption) rfl rfl (Nat.le_of_ble_eq_true rfl) TM_room TM_cs ?_
                intro x I1 J1 hp
                obtain ⟨rfl, rfl, rfl⟩ := hp
                refine q_if_ne_b (q := 117) dX3_tellTo_112 (by decide) (rfl : 112 + 3 = 115) (fun ht => ?_) (fun ht => ?_)
                ·
                  rw [ht]
                  show Wm _ _ _ _ _ _ _ _ (takeH (endH X c) n (f start)) _ _
                  refine q_iload_n dX3_tellTo_117 (rfl : 117 + 1 = 118) rfl ?_
                  refine q_iconst (v := nI 1) dX3_tellTo_118 (rfl : 118 + 1 = 119) (by decide) ?_
                  refine q_iadd dX3_tellTo_119 (rfl : 119 + 1 = 120) ?_
                  refine q_istore_n dX3_tellTo_120 (rfl : 120 + 1 = 121) (by decide) ?_
                  first | refine q_iinc1 dX3_tellTo_121 (rfl : 121 + 3 = 124) rfl (by decide) ?_ | refine q_iinc dX3_tellTo_121 (rfl : 121 + 3 = 124) rfl rfl (by decide) ?_
                  refine q_goto (q := 8) dX3_tellTo_124 (by decide) ?_
                  have e : scanC f len (k + 1) X p start c g n = scanC f len k (takeH (endH X c) n (f start)) (p + 1) (p + 1) (c + 1) 0 (if f start = nI 102 then n + 1 else n) := by
                    simp only [scanC, if_neg hs, if_neg hd, if_pos hsep, if_pos hb2, if_pos q59, if_pos ht]
                  rw [e] at hPo
                  rw [nI_add]
                  refine q_forget (L' := [some (.ref 1), some (.ref 10), some (.int (nI (p + 1))), some (.int (nI (p + 1))), none]) (by repeat (first | exact trivial | refine And.intro rfl ?_)) ?_
                  refine ih _ (p + 1) (p + 1) (c + 1) 0 _ (by omega) ⟨?_, ?_, takeH_n en, takeB_n h12 ht, by omega, fun z => by omega, by omega, by omega⟩ hPo
                  · rw [takeH_low (by omega), e2]
                  · rw [takeH_low (by omega), endH_o (by omega) (by omega), hl]
                ·
                  rw [ht]
                  show Wm _ _ _ _ _ _ _ _ (endH X c) _ _
                  refine q_iload_n dX3_tellTo_115 (rfl : 115 + 1 = 116) rfl ?_
                  have e : scanC f len (k + 1) X p start c g n = (nI start, endH X c) := by
                    simp only [scanC, if_neg hs, if_neg hd, if_pos hsep, if_pos hb2, if_pos q59, if_neg (show ¬ takeB (endH X c) n (f start) (c + 1) = true by simp [ht])]
                  rw [e] at hPo
                  exact q_iret rfl dX3_tellTo_116 hPo
            ·
              have hb2 : ¬ (g ≠ 0 ∧ c < 4) := by simpa using hb
              rw [hb]
              show Wm _ _ _ _ _ _ _ _ X _ _
              refine q_iload_n dX3_tellTo_85 (rfl : 85 + 1 = 86) rfl ?_
              have e : scanC f len (k + 1) X p start c g n = (nI start, X) := by
                simp only [scanC, if_neg hs, if_neg hd, if_pos hsep, if_neg hb2]
              rw [e] at hPo
              exact q_iret rfl dX3_tellTo_86 hPo
          refine q_iload dX3_tellTo_64 (rfl : 64 + 2 = 66) rfl ?_
          refine q_bipush (v := nI 44) dX3_tellTo_66 (rfl : 66 + 2 = 68) (by decide) ?_
          refine q_icmp_eq (q := 78) dX3_tellTo_68 (by decide) (rfl : 68 + 3 = 71) (fun q44 => ?_) (fun q44 => ?_)
          ·
            exact sep (Or.inl q44)
          ·
            refine q_iload dX3_tellTo_71 (rfl : 71 + 2 = 73) rfl ?_
            refine q_bipush (v := nI 59) dX3_tellTo_73 (rfl : 73 + 2 = 75) (by decide) ?_
            refine q_icmp_ne (q := 85) dX3_tellTo_75 (by decide) (rfl : 75 + 3 = 78) (fun q59 => ?_) (fun q59 => ?_)
            ·
              refine q_iload_n dX3_tellTo_85 (rfl : 85 + 1 = 86) rfl ?_
              have e : scanC f len (k + 1) X p start c g n = (nI start, X) := by
                simp only [scanC, if_neg hs, if_neg hd, if_neg (show ¬ (f p = nI 44 ∨ f p = nI 59) from fun z => z.elim q44 q59)]
              rw [e] at hPo
              exact q_iret rfl dX3_tellTo_86 hPo
            ·
              exact sep (Or.inr q59)
        refine q_iload dX3_tellTo_36 (rfl : 36 + 2 = 38) rfl ?_
        refine q_bipush (v := nI 48) dX3_tellTo_38 (rfl : 38 + 2 = 40) (by decide) ?_
        refine q_icmp_lt (q := 64) dX3_tellTo_40 (by decide) (rfl : 40 + 3 = 43) (fun d1 => ?_) (fun d1 => ?_)
        ·
          exact notdig (fun z => absurd z.1 (Int32.not_le.mpr d1))
        ·
          refine q_iload dX3_tellTo_43 (rfl : 43 + 2 = 45) rfl ?_
          refine q_bipush (v := nI 57) dX3_tellTo_45 (rfl : 45 + 2 = 47) (by decide) ?_
          refine q_icmp_gt (q := 64) dX3_tellTo_47 (by decide) (rfl : 47 + 3 = 50) (fun d2 => ?_) (fun d2 => ?_)
          ·
            exact notdig (fun z => absurd z.2 (Int32.not_le.mpr d2))
          ·
            have hd : nI 48 ≤ f p ∧ f p ≤ nI 57 := ⟨Int32.not_lt.mp d1, Int32.not_lt.mp d2⟩
            refine q_aload_n dX3_tellTo_50 (rfl : 50 + 1 = 51) rfl ?_
            refine q_iload dX3_tellTo_51 (rfl : 51 + 2 = 53) rfl ?_
            refine q_bipush (v := nI 48) dX3_tellTo_53 (rfl : 53 + 2 = 55) (by decide) ?_
            refine q_isub dX3_tellTo_55 (rfl : 55 + 1 = 56) ?_
            refine q_callVI (S_addFigure (d := d + 4) hg hg3) dX3_tellTo_56 (rfl : 56 + 3 = 59) lX3_40 vX3_addFigure (by first | rfl | assumption) rfl rfl (Nat.le_of_ble_eq_true rfl) TM_room TM_cs ?_
            intro x I1 J1 hp
            obtain ⟨rfl, rfl, rfl⟩ := hp
            refine q_if_ne_b (q := 121) dX3_tellTo_59 (by decide) (rfl : 59 + 3 = 62) (fun hb => ?_) (fun hb => ?_)
            ·
              have hb2 : g < 3 := by simpa using hb
              rw [hb]
              show Wm _ _ _ _ _ _ _ _ (figH X g (f p - nI 48)) _ _
              first | refine q_iinc1 dX3_tellTo_121 (rfl : 121 + 3 = 124) rfl (by decide) ?_ | refine q_iinc dX3_tellTo_121 (rfl : 121 + 3 = 124) rfl rfl (by decide) ?_
              refine q_goto (q := 8) dX3_tellTo_124 (by decide) ?_
              have e : scanC f len (k + 1) X p start c g n = scanC f len k (figH X g (f p - nI 48)) (p + 1) start c (g + 1) n := by
                simp only [scanC, if_neg hs, if_pos hd, if_pos hb2]
              rw [e] at hPo
              refine q_forget (L' := [some (.ref 1), some (.ref 10), some (.int (nI start)), some (.int (nI (p + 1))), none]) (by repeat (first | exact trivial | refine And.intro rfl ?_)) ?_
              refine ih _ (p + 1) start c (g + 1) n (by omega) ⟨?_, ?_, ?_, h12, by omega, fun _ => ⟨?_, ?_⟩, hc4, by omega⟩ hPo
              · funext b; rw [figH_o (by omega), h2]
              · rw [figH_o (by omega), hl]
              · rw [figH_o (by omega), hn]
              · rw [figH_o (by omega), hc]
              · simp [figH, wr]
            ·
              have hb2 : ¬ g < 3 := by simpa using hb
              rw [hb]
              show Wm _ _ _ _ _ _ _ _ X _ _
              refine q_iload_n dX3_tellTo_62 (rfl : 62 + 1 = 63) rfl ?_
              have e : scanC f len (k + 1) X p start c g n = (nI start, X) := by
                simp only [scanC, if_neg hs, if_pos hd, if_neg hb2]
              rw [e] at hPo
              exact q_iret rfl dX3_tellTo_63 hPo
      ·
        subst hs
        refine q_aload_n dX3_tellTo_29 (rfl : 29 + 1 = 30) rfl ?_
        refine q_callVV (S_startItem (d := d + 4)) dX3_tellTo_30 (rfl : 30 + 3 = 33) lX3_37 vX3_startItem (by first | rfl | assumption) rfl rfl (Nat.le_of_ble_eq_true rfl) TM_room TM_cs ?_
        intro I1 J1 hp
        obtain ⟨rfl, rfl⟩ := hp
        refine q_goto (q := 121) dX3_tellTo_33 (by decide) ?_
        first | refine q_iinc1 dX3_tellTo_121 (rfl : 121 + 3 = 124) rfl (by decide) ?_ | refine q_iinc dX3_tellTo_121 (rfl : 121 + 3 = 124) rfl rfl (by decide) ?_
        refine q_goto (q := 8) dX3_tellTo_124 (by decide) ?_
        have e : scanC f len (k + 1) X p p c g n = scanC f len k (startH X) (p + 1) p 0 0 n := by
          simp only [scanC, if_true]
        rw [e] at hPo
        refine q_forget (L' := [some (.ref 1), some (.ref 10), some (.int (nI p)), some (.int (nI (p + 1))), none]) (by repeat (first | exact trivial | refine And.intro rfl ?_)) ?_
        refine ih _ (p + 1) p 0 0 n (by omega) ⟨?_, ?_, ?_, h12, by omega, fun _ => ⟨?_, ?_⟩, by omega, by omega⟩ hPo
        · funext b; rw [startH_o (by omega), h2]
        · rw [startH_o (by omega), hl]
        · rw [startH_o (by omega), hn]
        · simp [startH, wr]
        · simp [startH, wr]
theorem forgetT_low {I : HI} {t a : Nat} (h : a < t) : forgetT I t a = I a := by
  funext b
  unfold forgetT fillH
  rw [if_neg (by omega), wr_ne (by omega), wr_ne (by omega), wr_ne (by omega), wr_ne (by omega), wr_ne (by omega), wr_ne (by omega)]
theorem forgetT_5 {I : HI} {t : Nat} : forgetT I t t 5 = nI 0 := by
  unfold forgetT fillH
  rw [if_neg (by omega)]
  simp [wr]
theorem S_tellTo {d len : Nat} {I : HI} {J : HJ} (hl : I 1 1 = nI len) (h400 : len ≤ 400) : MI mX3_tellTo (d + 5) [.ref 1, .ref 10] shA I J RA (fun x I' J' => (x, I') = scanC (I 2) len len (forgetT I 10) 0 0 0 0 0 ∧ J' = J) := by
  refine Mt.of (L := [some (.ref 1), some (.ref 10), none, none, none]) (by decide +kernel) (Nat.le_of_ble_eq_true rfl) rfl ?_
  refine q_aload_n dX3_tellTo_0 (rfl : 0 + 1 = 1) rfl ?_
  refine q_callVV (S_forget (d := d + 3) toldA10) dX3_tellTo_1 (rfl : 1 + 3 = 4) lX3_32 vX5_forget (by first | rfl | assumption) rfl rfl (Nat.le_of_ble_eq_true rfl) TM_room TM_cs ?_
  intro I1 J1 hp
  obtain ⟨rfl, rfl⟩ := hp
  refine q_iconst (v := nI 0) dX3_tellTo_4 (rfl : 4 + 1 = 5) (by decide) ?_
  refine q_istore_n dX3_tellTo_5 (rfl : 5 + 1 = 6) (by decide) ?_
  refine q_iconst (v := nI 0) dX3_tellTo_6 (rfl : 6 + 1 = 7) (by decide) ?_
  refine q_istore_n dX3_tellTo_7 (rfl : 7 + 1 = 8) (by decide) ?_
  refine q_forget (L' := [some (.ref 1), some (.ref 10), some (.int (nI 0)), some (.int (nI 0)), none]) (by repeat (first | exact trivial | refine And.intro rfl ?_)) ?_
  refine L_tellTo h400 len _ 0 0 0 0 0 (by omega) ⟨forgetT_low (by omega), ?_, forgetT_5, by omega, by omega, fun z => by omega, by omega, by omega⟩ ⟨rfl, rfl, _, rfl, rfl, rfl⟩
  rw [forgetT_low (by omega), hl]
end
section
/-! the class's marks -/
/-- row p with its first k places as r has them -/
def setN (I : HI) (p : Nat) (r : Nat → Int32) (k : Nat) : HI := fun a b => if a = p ∧ b < k then r b else I a b
theorem setN_0 {I : HI} {p : Nat} {r : Nat → Int32} : setN I p r 0 = I := by
  funext a b
  simp [setN]
theorem setN_o {I : HI} {p k a b : Nat} {r : Nat → Int32} (h : a ≠ p) : setN I p r k a b = I a b := by simp [setN, h]
theorem setN_lo {I : HI} {p k b : Nat} {r : Nat → Int32} (h : b < k) : setN I p r k p b = r b := by simp [setN, h]
theorem setN_hi {I : HI} {p k b : Nat} {r : Nat → Int32} (h : k ≤ b) : setN I p r k p b = I p b := by
  unfold setN
  rw [if_neg (by omega)]
theorem setN_row {I : HI} {p k a : Nat} {r : Nat → Int32} (h : a ≠ p) : setN I p r k a = I a := by
  funext b
  exact setN_o h
theorem setN_s {I : HI} {p k : Nat} {r : Nat → Int32} {v : Int32} (h : v = r k) : wr (setN I p r k) p k v = setN I p r (k + 1) := by
  subst h
  funext a b
  unfold wr setN
  by_cases h1 : a = p
  · subst h1
    by_cases hb : b = k
    · subst hb; simp
    · by_cases hl : b < k
      · simp [hb, hl, show b < k + 1 by omega]
      · simp [hb, hl, show ¬ b < k + 1 by omega]
  · simp [h1]
theorem S_madd {d k : Nat} {I : HI} {J : HJ} {x : Int32} (hk : I 34 1 = nI k) (h14 : k ≤ 14) : MI mX2_add d [.ref 34, .int x] shA I J RA (fun y I' J' => y = bI (decide (k < 14)) ∧ I' = cond (decide (k < 14)) (wr (wr I 35 k x) 34 1 (nI (k + 1))) I ∧ J' = J) := by
  refine Mt.of (L := [some (.ref 34), some (.int x)]) (by decide +kernel) (Nat.le_of_ble_eq_true rfl) rfl ?_
  refine q_aload_n dX2_add_0 (rfl : 0 + 1 = 1) rfl ?_
  refine q_getI dX2_add_1 (rfl : 1 + 3 = 4) fX2_15 (by first | rfl | assumption) ?_
  try simp (disch := omega) only [wr_hit, wr_p, wr_k, nI_add, pk_mul, nI_1, nI_s1, hk]
  refine q_bipush (v := nI 14) dX2_add_4 (rfl : 4 + 2 = 6) (by decide) ?_
  refine q_icmp_lt_n (q := 11) (by omega) (by omega) dX2_add_6 (by decide) (rfl : 6 + 3 = 9) (fun h => ?_) (fun h => ?_)
  ·
    refine q_aload_n dX2_add_11 (rfl : 11 + 1 = 12) rfl ?_
    refine q_getR dX2_add_12 (rfl : 12 + 3 = 15) fX2_9 (by first | rfl | assumption) (by first | rfl | assumption) ?_
    refine q_aload_n dX2_add_15 (rfl : 15 + 1 = 16) rfl ?_
    refine q_getI dX2_add_16 (rfl : 16 + 3 = 19) fX2_15 (by first | rfl | assumption) ?_
    try simp (disch := omega) only [wr_hit, wr_p, wr_k, nI_add, pk_mul, nI_1, nI_s1, hk]
    refine q_iload_n dX2_add_19 (rfl : 19 + 1 = 20) rfl ?_
    refine q_iast dX2_add_20 (rfl : 20 + 1 = 21) (by first | rfl | assumption) (by first | assumption | omega) (by decide) ?_
    refine q_aload_n dX2_add_21 (rfl : 21 + 1 = 22) rfl ?_
    refine q_dup dX2_add_22 (rfl : 22 + 1 = 23) rfl ?_
    refine q_getI dX2_add_23 (rfl : 23 + 3 = 26) fX2_15 (by first | rfl | assumption) ?_
    try simp (disch := omega) only [wr_hit, wr_p, wr_k, nI_add, pk_mul, nI_1, nI_s1, hk]
    refine q_iconst (v := nI 1) dX2_add_26 (rfl : 26 + 1 = 27) (by decide) ?_
    refine q_iadd dX2_add_27 (rfl : 27 + 1 = 28) ?_
    try simp (disch := omega) only [wr_hit, wr_p, wr_k, nI_add, pk_mul, nI_1, nI_s1, hk]
    refine q_putI dX2_add_28 (rfl : 28 + 3 = 31) pX2_15 (by first | rfl | assumption) ?_
    refine q_iconst (v := nI 1) dX2_add_31 (rfl : 31 + 1 = 32) (by decide) ?_
    refine q_zret rfl dX2_add_32 (by first | exact bI_01 _ | exact Or.inl rfl | exact Or.inr rfl) ⟨rfl, rfl, _, rfl, ?_⟩
    rw [show decide (k < 14) = true by simp [h]]
    exact ⟨rfl, rfl, rfl⟩
  ·
    refine q_iconst (v := nI 0) dX2_add_9 (rfl : 9 + 1 = 10) (by decide) ?_
    refine q_zret rfl dX2_add_10 (by first | exact bI_01 _ | exact Or.inl rfl | exact Or.inr rfl) ⟨rfl, rfl, _, rfl, ?_⟩
    rw [show decide (k < 14) = false by simp; omega]
    exact ⟨rfl, rfl, rfl⟩
theorem S_mclear {d : Nat} {I : HI} {J : HJ} : MI mX2_clear d [.ref 34] shA I J RA (fun x I' J' => x = I 34 1 ∧ I' = wr I 34 1 (nI 0) ∧ J' = J) := by
  refine Mt.of (L := [some (.ref 34), none]) (by decide +kernel) (Nat.le_of_ble_eq_true rfl) rfl ?_
  refine q_aload_n dX2_clear_0 (rfl : 0 + 1 = 1) rfl ?_
  refine q_getI dX2_clear_1 (rfl : 1 + 3 = 4) fX2_15 (by first | rfl | assumption) ?_
  refine q_istore_n dX2_clear_4 (rfl : 4 + 1 = 5) (by decide) ?_
  refine q_aload_n dX2_clear_5 (rfl : 5 + 1 = 6) rfl ?_
  refine q_iconst (v := nI 0) dX2_clear_6 (rfl : 6 + 1 = 7) (by decide) ?_
  refine q_putI dX2_clear_7 (rfl : 7 + 3 = 10) pX2_15 (by first | rfl | assumption) ?_
  refine q_iload_n dX2_clear_10 (rfl : 10 + 1 = 11) rfl ?_
  refine q_iret rfl dX2_clear_11 ⟨rfl, rfl, _, rfl, ?_⟩
  exact ⟨rfl, rfl, rfl⟩
def edR (du : Nat → Int32) (s : Int32) (pr : Nat → Int32) (k : Nat) : Int32 := match k with
  | 0 => pr 0 + nI 1
  | k + 1 => mnI (pr k + (if du k = s then nI 0 else nI 1)) (nI 1 + mnI (pr (k + 1)) (edR du s pr k))
def edX (X : HI) (nm : Nat) (s : Int32) : HI := setN X 36 (edR (X 35) s (X 36)) (nm + 1)
theorem L_addLayer {T : Tg} {X : HI} {J : HJ} {nm : Nat} {s : Int32} (hk : X 34 1 = nI nm) (h14 : nm ≤ 14) (hT : 1 ≤ T.1.frames ∧ 21 ≤ T.1.locals ∧ 0 ≤ T.1.cells ∧ 0 ≤ T.1.slots) (K : Wm mX2_addLayer T 0 0 shA 86 [some (.ref 34), some (.int s), none, none, none] [] (edX X nm s) J RA) :
    ∀ (k : Nat), k ≤ nm → Wm mX2_addLayer T 0 0 shA 19 [some (.ref 34), some (.int s), some (.int (X 36 k)), some (.int (nI (k + 1))), none] [] (setN X 36 (edR (X 35) s (X 36)) (k + 1)) J RA := by
  refine loopN (fun k hkk ih => ?_)
  have e1 : setN X 36 (edR (X 35) s (X 36)) (k + 1) 34 1 = nI nm := by rw [setN_o (by omega)]; exact hk
  have e2 : ∀ b, setN X 36 (edR (X 35) s (X 36)) (k + 1) 35 b = X 35 b := fun b => setN_o (by omega)
  have e3 : setN X 36 (edR (X 35) s (X 36)) (k + 1) 36 (k + 1) = X 36 (k + 1) := setN_hi (by omega)
  have e4 : setN X 36 (edR (X 35) s (X 36)) (k + 1) 36 k = edR (X 35) s (X 36) k := setN_lo (by omega)
  refine q_iload_n dX2_addLayer_19 (rfl : 19 + 1 = 20) rfl ?_
  refine q_aload_n dX2_addLayer_20 (rfl : 20 + 1 = 21) rfl ?_
  refine q_getI dX2_addLayer_21 (rfl : 21 + 3 = 24) fX2_15 (by first | rfl | assumption) ?_
  try simp (disch := omega) only [wr_hit, wr_p, wr_k, nI_add, pk_mul, nI_1, nI_s1, e1, e2, e3, e4]
  refine q_icmp_gt_n (q := 86) (by omega) (by omega) dX2_addLayer_24 (by decide) (rfl : 24 + 3 = 27) (fun h => ?_) (fun h => ?_)
  ·
    obtain rfl : k = nm := by omega
    refine q_forget (L' := [some (.ref 34), some (.int s), none, none, none]) (by repeat (first | exact trivial | refine And.intro rfl ?_)) ?_
    exact K
  ·
    have rest : ∀ c : Int32, c = (if X 35 k = s then nI 0 else nI 1) → Wm mX2_addLayer T 0 0 shA 45 [some (.ref 34), some (.int s), some (.int (X 36 k)), some (.int (nI (k + 1))), none] [.int c, .int (X 36 k)] (setN X 36 (edR (X 35) s (X 36)) (k + 1)) J RA := by
      intro c hc
      refine q_iadd dX2_addLayer_45 (rfl : 45 + 1 = 46) ?_
      try simp (disch := omega) only [wr_hit, wr_p, wr_k, nI_add, pk_mul, nI_1, nI_s1, e1, e2, e3, e4]
      refine q_istore dX2_addLayer_46 (rfl : 46 + 2 = 48) (by decide) ?_
      refine q_aload_n dX2_addLayer_48 (rfl : 48 + 1 = 49) rfl ?_
      refine q_getR dX2_addLayer_49 (rfl : 49 + 3 = 52) fX2_19 (by first | rfl | assumption) (by first | rfl | assumption) ?_
      refine q_iload_n dX2_addLayer_52 (rfl : 52 + 1 = 53) rfl ?_
      refine q_iald dX2_addLayer_53 (rfl : 53 + 1 = 54) (by first | rfl | assumption) (by first | assumption | omega) (by decide) ?_
      try simp (disch := omega) only [wr_hit, wr_p, wr_k, nI_add, pk_mul, nI_1, nI_s1, e1, e2, e3, e4]
      refine q_istore_n dX2_addLayer_54 (rfl : 54 + 1 = 55) (by decide) ?_
      refine q_aload_n dX2_addLayer_55 (rfl : 55 + 1 = 56) rfl ?_
      refine q_getR dX2_addLayer_56 (rfl : 56 + 3 = 59) fX2_19 (by first | rfl | assumption) (by first | rfl | assumption) ?_
      refine q_iload_n dX2_addLayer_59 (rfl : 59 + 1 = 60) rfl ?_
      refine q_iload dX2_addLayer_60 (rfl : 60 + 2 = 62) rfl ?_
      refine q_iconst (v := nI 1) dX2_addLayer_62 (rfl : 62 + 1 = 63) (by decide) ?_
      refine q_iload_n dX2_addLayer_63 (rfl : 63 + 1 = 64) rfl ?_
      refine q_aload_n dX2_addLayer_64 (rfl : 64 + 1 = 65) rfl ?_
      refine q_getR dX2_addLayer_65 (rfl : 65 + 3 = 68) fX2_19 (by first | rfl | assumption) (by first | rfl | assumption) ?_
      refine q_iload_n dX2_addLayer_68 (rfl : 68 + 1 = 69) rfl ?_
      refine q_iconst (v := nI 1) dX2_addLayer_69 (rfl : 69 + 1 = 70) (by decide) ?_
      refine q_isub dX2_addLayer_70 (rfl : 70 + 1 = 71) ?_
      try simp (disch := omega) only [wr_hit, wr_p, wr_k, nI_add, pk_mul, nI_1, nI_s1, e1, e2, e3, e4]
      refine q_iald dX2_addLayer_71 (rfl : 71 + 1 = 72) (by first | rfl | assumption) (by first | assumption | omega) (by decide) ?_
      try simp (disch := omega) only [wr_hit, wr_p, wr_k, nI_add, pk_mul, nI_1, nI_s1, e1, e2, e3, e4]
      refine q_min dX2_addLayer_72 (rfl : 72 + 3 = 75) lX2_35 w_min (Nat.le_of_ble_eq_true rfl) hT ?_
      refine q_iadd dX2_addLayer_75 (rfl : 75 + 1 = 76) ?_
      try simp (disch := omega) only [wr_hit, wr_p, wr_k, nI_add, pk_mul, nI_1, nI_s1, e1, e2, e3, e4]
      refine q_min dX2_addLayer_76 (rfl : 76 + 3 = 79) lX2_35 w_min (Nat.le_of_ble_eq_true rfl) hT ?_
      refine q_iast dX2_addLayer_79 (rfl : 79 + 1 = 80) (by first | rfl | assumption) (by first | assumption | omega) (by decide) ?_
      first | refine q_iinc1 dX2_addLayer_80 (rfl : 80 + 3 = 83) rfl (by decide) ?_ | refine q_iinc dX2_addLayer_80 (rfl : 80 + 3 = 83) rfl rfl (by decide) ?_
      refine q_goto (q := 19) dX2_addLayer_83 (by decide) ?_
      rw [setN_s (by rw [hc]; rfl)]
      have := ih (by omega)
      refine q_forget (L' := [some (.ref 34), some (.int s), some (.int (X 36 (k + 1))), some (.int (nI (k + 1 + 1))), none]) (by repeat (first | exact trivial | refine And.intro rfl ?_)) ?_
      exact this
    refine q_iload_n dX2_addLayer_27 (rfl : 27 + 1 = 28) rfl ?_
    refine q_aload_n dX2_addLayer_28 (rfl : 28 + 1 = 29) rfl ?_
    refine q_getR dX2_addLayer_29 (rfl : 29 + 3 = 32) fX2_9 (by first | rfl | assumption) (by first | rfl | assumption) ?_
    refine q_iload_n dX2_addLayer_32 (rfl : 32 + 1 = 33) rfl ?_
    refine q_iconst (v := nI 1) dX2_addLayer_33 (rfl : 33 + 1 = 34) (by decide) ?_
    refine q_isub dX2_addLayer_34 (rfl : 34 + 1 = 35) ?_
    try simp (disch := omega) only [wr_hit, wr_p, wr_k, nI_add, pk_mul, nI_1, nI_s1, e1, e2, e3, e4]
    refine q_iald dX2_addLayer_35 (rfl : 35 + 1 = 36) (by first | rfl | assumption) (by first | assumption | omega) (by decide) ?_
    try simp (disch := omega) only [wr_hit, wr_p, wr_k, nI_add, pk_mul, nI_1, nI_s1, e1, e2, e3, e4]
    refine q_iload_n dX2_addLayer_36 (rfl : 36 + 1 = 37) rfl ?_
    refine q_icmp_ne (q := 44) dX2_addLayer_37 (by decide) (rfl : 37 + 3 = 40) (fun e => ?_) (fun e => ?_)
    ·
      refine q_iconst (v := nI 1) dX2_addLayer_44 (rfl : 44 + 1 = 45) (by decide) ?_
      exact rest (nI 1) (by rw [if_neg e])
    ·
      refine q_iconst (v := nI 0) dX2_addLayer_40 (rfl : 40 + 1 = 41) (by decide) ?_
      refine q_goto (q := 45) dX2_addLayer_41 (by decide) ?_
      exact rest (nI 0) (by rw [if_pos e])
theorem S_addLayer {d nm : Nat} {X : HI} {J : HJ} {s : Int32} (hk : X 34 1 = nI nm) (h14 : nm ≤ 14) : MV mX2_addLayer (d + 1) [.ref 34, .int s] shA X J RA (fun I' J' => I' = edX X nm s ∧ J' = J) := by
  refine Mt.of (L := [some (.ref 34), some (.int s), none, none, none]) (by decide +kernel) (Nat.le_of_ble_eq_true rfl) rfl ?_
  refine q_aload_n dX2_addLayer_0 (rfl : 0 + 1 = 1) rfl ?_
  refine q_getR dX2_addLayer_1 (rfl : 1 + 3 = 4) fX2_19 (by first | rfl | assumption) (by first | rfl | assumption) ?_
  refine q_iconst (v := nI 0) dX2_addLayer_4 (rfl : 4 + 1 = 5) (by decide) ?_
  refine q_iald (j := 0) dX2_addLayer_5 (rfl : 5 + 1 = 6) (by first | rfl | assumption) (by decide) (by decide) ?_
  refine q_istore_n dX2_addLayer_6 (rfl : 6 + 1 = 7) (by decide) ?_
  refine q_aload_n dX2_addLayer_7 (rfl : 7 + 1 = 8) rfl ?_
  refine q_getR dX2_addLayer_8 (rfl : 8 + 3 = 11) fX2_19 (by first | rfl | assumption) (by first | rfl | assumption) ?_
  refine q_iconst (v := nI 0) dX2_addLayer_11 (rfl : 11 + 1 = 12) (by decide) ?_
  refine q_dup2 dX2_addLayer_12 (rfl : 12 + 1 = 13) rfl rfl ?_
  refine q_iald (j := 0) dX2_addLayer_13 (rfl : 13 + 1 = 14) (by first | rfl | assumption) (by decide) (by decide) ?_
  refine q_iconst (v := nI 1) dX2_addLayer_14 (rfl : 14 + 1 = 15) (by decide) ?_
  refine q_iadd dX2_addLayer_15 (rfl : 15 + 1 = 16) ?_
  refine q_iast (j := 0) dX2_addLayer_16 (rfl : 16 + 1 = 17) (by first | rfl | assumption) (by decide) (by decide) ?_
  refine q_iconst (v := nI 1) dX2_addLayer_17 (rfl : 17 + 1 = 18) (by decide) ?_
  refine q_istore_n dX2_addLayer_18 (rfl : 18 + 1 = 19) (by decide) ?_
  have e0 : wr X 36 0 (X 36 0 + nI 1) = setN X 36 (edR (X 35) s (X 36)) 1 := by
    have := setN_s (I := X) (p := 36) (k := 0) (r := edR (X 35) s (X 36)) (v := X 36 0 + nI 1) rfl
    rw [setN_0] at this
    exact this
  rw [e0]
  refine L_addLayer hk h14 (TM_math (Nat.le_refl _) (Nat.le_refl _)) ?_ 0 (by omega)
  refine q_vret rfl dX2_addLayer_86 ⟨rfl, rfl, rfl, ?_⟩
  exact ⟨rfl, rfl⟩
def chX (I : HI) (nm i : Nat) : HI := match i with
  | 0 => setN I 36 nI (nm + 1)
  | i + 1 => if 0 < I 17 i then edX (chX I nm i) nm (I 18 i) else chX I nm i
theorem chX_row {I : HI} {nm a : Nat} (h : a ≠ 36) : ∀ i, chX I nm i a = I a := by
  intro i
  induction i with
  | zero => exact setN_row h
  | succ i ih =>
    unfold chX
    split
    · unfold edX; rw [setN_row h]; exact ih
    · exact ih
theorem L_changesTo1 {T : Tg} {I : HI} {J : HJ} {nm : Nat} (hk : I 34 1 = nI nm) (h14 : nm ≤ 14) (K : Wm mX2_changesTo T 0 0 shA 23 [some (.ref 34), some (.ref 16), none] [] (setN I 36 nI (nm + 1)) J RA) :
    ∀ (k : Nat), k ≤ nm + 1 → Wm mX2_changesTo T 0 0 shA 2 [some (.ref 34), some (.ref 16), some (.int (nI k))] [] (setN I 36 nI k) J RA := by
  refine loopN (fun k hkk ih => ?_)
  have e1 : setN I 36 nI k 34 1 = nI nm := by rw [setN_o (by omega)]; exact hk
  refine q_iload_n dX2_changesTo_2 (rfl : 2 + 1 = 3) rfl ?_
  refine q_aload_n dX2_changesTo_3 (rfl : 3 + 1 = 4) rfl ?_
  refine q_getI dX2_changesTo_4 (rfl : 4 + 3 = 7) fX2_15 (by first | rfl | assumption) ?_
  try simp (disch := omega) only [wr_hit, wr_p, wr_k, nI_add, pk_mul, nI_1, nI_s1, e1]
  refine q_icmp_gt_n (q := 23) (by omega) (by omega) dX2_changesTo_7 (by decide) (rfl : 7 + 3 = 10) (fun h => ?_) (fun h => ?_)
  ·
    obtain rfl : k = nm + 1 := by omega
    refine q_forget (L' := [some (.ref 34), some (.ref 16), none]) (by repeat (first | exact trivial | refine And.intro rfl ?_)) ?_
    exact K
  ·
    refine q_aload_n dX2_changesTo_10 (rfl : 10 + 1 = 11) rfl ?_
    refine q_getR dX2_changesTo_11 (rfl : 11 + 3 = 14) fX2_19 (by first | rfl | assumption) (by first | rfl | assumption) ?_
    refine q_iload_n dX2_changesTo_14 (rfl : 14 + 1 = 15) rfl ?_
    refine q_iload_n dX2_changesTo_15 (rfl : 15 + 1 = 16) rfl ?_
    refine q_iast dX2_changesTo_16 (rfl : 16 + 1 = 17) (by first | rfl | assumption) (by first | assumption | omega) (by decide) ?_
    first | refine q_iinc1 dX2_changesTo_17 (rfl : 17 + 3 = 20) rfl (by decide) ?_ | refine q_iinc dX2_changesTo_17 (rfl : 17 + 3 = 20) rfl rfl (by decide) ?_
    refine q_goto (q := 2) dX2_changesTo_20 (by decide) ?_
    rw [setN_s rfl]
    exact ih (by omega)
theorem L_changesTo2 {d n0 : Nat} {Po : PO} {I : HI} {J : HJ} {nm n : Nat} (hk : I 34 1 = nI nm) (h14 : nm ≤ 14) (hn : I 16 0 = nI n) (h12 : n ≤ 12) (K : Wm mX2_changesTo (TM (d + 2) 0 0 false n0 Po) 0 0 shA 58 [some (.ref 34), some (.ref 16), none] [] (chX I nm n) J RA) :
    ∀ (i : Nat), i ≤ n → Wm mX2_changesTo (TM (d + 2) 0 0 false n0 Po) 0 0 shA 25 [some (.ref 34), some (.ref 16), some (.int (nI i))] [] (chX I nm i) J RA := by
  refine loopN (fun i hi ih => ?_)
  have e1 : chX I nm i 16 0 = nI n := by rw [chX_row (by omega)]; exact hn
  have e2 : chX I nm i 17 = I 17 := chX_row (by omega) i
  have e3 : chX I nm i 18 = I 18 := chX_row (by omega) i
  have e4 : chX I nm i 34 1 = nI nm := by rw [chX_row (by omega)]; exact hk
  refine q_iload_n dX2_changesTo_25 (rfl : 25 + 1 = 26) rfl ?_
  refine q_aload_n dX2_changesTo_26 (rfl : 26 + 1 = 27) rfl ?_
  refine q_getI dX2_changesTo_27 (rfl : 27 + 3 = 30) fX2_22 (by first | rfl | assumption) ?_
  try simp (disch := omega) only [wr_hit, wr_p, wr_k, nI_add, pk_mul, nI_1, nI_s1, e1, e2, e3]
  refine q_icmp_ge_n (q := 58) (by omega) (by omega) dX2_changesTo_30 (by decide) (rfl : 30 + 3 = 33) (fun h => ?_) (fun h => ?_)
  ·
    obtain rfl : i = n := by omega
    refine q_forget (L' := [some (.ref 34), some (.ref 16), none]) (by repeat (first | exact trivial | refine And.intro rfl ?_)) ?_
    exact K
  ·
    refine q_aload_n dX2_changesTo_33 (rfl : 33 + 1 = 34) rfl ?_
    refine q_getR dX2_changesTo_34 (rfl : 34 + 3 = 37) fX2_25 (by first | rfl | assumption) (by first | rfl | assumption) ?_
    refine q_iload_n dX2_changesTo_37 (rfl : 37 + 1 = 38) rfl ?_
    refine q_iald dX2_changesTo_38 (rfl : 38 + 1 = 39) (by first | rfl | assumption) (by first | assumption | omega) (by decide) ?_
    try simp (disch := omega) only [wr_hit, wr_p, wr_k, nI_add, pk_mul, nI_1, nI_s1, e1, e2, e3]
    refine q_if_le (q := 52) dX2_changesTo_39 (by decide) (rfl : 39 + 3 = 42) (fun z => ?_) (fun z => ?_)
    ·
      first | refine q_iinc1 dX2_changesTo_52 (rfl : 52 + 3 = 55) rfl (by decide) ?_ | refine q_iinc dX2_changesTo_52 (rfl : 52 + 3 = 55) rfl rfl (by decide) ?_
      refine q_goto (q := 25) dX2_changesTo_55 (by decide) ?_
      have e : chX I nm (i + 1) = chX I nm i := by
        show (if 0 < I 17 i then _ else _) = _
        rw [if_neg (Int32.not_lt.mpr z)]
      rw [← e]
      exact ih h
    ·
      refine q_aload_n dX2_changesTo_42 (rfl : 42 + 1 = 43) rfl ?_
      refine q_aload_n dX2_changesTo_43 (rfl : 43 + 1 = 44) rfl ?_
      refine q_getR dX2_changesTo_44 (rfl : 44 + 3 = 47) fX2_28 (by first | rfl | assumption) (by first | rfl | assumption) ?_
      refine q_iload_n dX2_changesTo_47 (rfl : 47 + 1 = 48) rfl ?_
      refine q_iald dX2_changesTo_48 (rfl : 48 + 1 = 49) (by first | rfl | assumption) (by first | assumption | omega) (by decide) ?_
      try simp (disch := omega) only [wr_hit, wr_p, wr_k, nI_add, pk_mul, nI_1, nI_s1, e1, e2, e3]
      refine q_callVV (S_addLayer (d := d) e4 h14) dX2_changesTo_49 (rfl : 49 + 3 = 52) lX2_31 vX2_addLayer (by first | rfl | assumption) rfl rfl (Nat.le_of_ble_eq_true rfl) TM_room TM_cs ?_
      intro I1 J1 hp
      obtain ⟨rfl, rfl⟩ := hp
      first | refine q_iinc1 dX2_changesTo_52 (rfl : 52 + 3 = 55) rfl (by decide) ?_ | refine q_iinc dX2_changesTo_52 (rfl : 52 + 3 = 55) rfl rfl (by decide) ?_
      refine q_goto (q := 25) dX2_changesTo_55 (by decide) ?_
      have e : chX I nm (i + 1) = edX (chX I nm i) nm (I 18 i) := by
        show (if 0 < I 17 i then _ else _) = _
        rw [if_pos (Int32.not_le.mp z)]
      rw [← e]
      exact ih h
theorem S_changesTo {d nm n : Nat} {I : HI} {J : HJ} (hk : I 34 1 = nI nm) (h14 : nm ≤ 14) (hn : I 16 0 = nI n) (h12 : n ≤ 12) : MI mX2_changesTo (d + 2) [.ref 34, .ref 16] shA I J RA (fun x I' J' => x = chX I nm n 36 nm ∧ I' = chX I nm n ∧ J' = J) := by
  refine Mt.of (L := [some (.ref 34), some (.ref 16), none]) (by decide +kernel) (Nat.le_of_ble_eq_true rfl) rfl ?_
  refine q_iconst (v := nI 0) dX2_changesTo_0 (rfl : 0 + 1 = 1) (by decide) ?_
  refine q_istore_n dX2_changesTo_1 (rfl : 1 + 1 = 2) (by decide) ?_
  have e0 : setN I 36 nI 0 = I := setN_0
  have key := L_changesTo1 (J := J) (T := TM (d + 2) 0 0 false shA.length (fun sh' v I' J' R' => sh' = shA ∧ R' = RA ∧ ∃ x : Int32, v = some (.int x) ∧ (x = chX I nm n 36 nm ∧ I' = chX I nm n ∧ J' = J))) hk h14 ?_ 0 (by omega)
  · rw [e0] at key
    exact key
  refine q_iconst (v := nI 0) dX2_changesTo_23 (rfl : 23 + 1 = 24) (by decide) ?_
  refine q_istore_n dX2_changesTo_24 (rfl : 24 + 1 = 25) (by decide) ?_
  refine L_changesTo2 hk h14 hn h12 ?_ 0 (by omega)
  have e4 : chX I nm n 34 1 = nI nm := by rw [chX_row (by omega)]; exact hk
  refine q_aload_n dX2_changesTo_58 (rfl : 58 + 1 = 59) rfl ?_
  refine q_getR dX2_changesTo_59 (rfl : 59 + 3 = 62) fX2_19 (by first | rfl | assumption) (by first | rfl | assumption) ?_
  refine q_aload_n dX2_changesTo_62 (rfl : 62 + 1 = 63) rfl ?_
  refine q_getI dX2_changesTo_63 (rfl : 63 + 3 = 66) fX2_15 (by first | rfl | assumption) ?_
  try simp (disch := omega) only [wr_hit, wr_p, wr_k, nI_add, pk_mul, nI_1, nI_s1, e4]
  refine q_iald dX2_changesTo_66 (rfl : 66 + 1 = 67) (by first | rfl | assumption) (by first | assumption | omega) (by decide) ?_
  try simp (disch := omega) only [wr_hit, wr_p, wr_k, nI_add, pk_mul, nI_1, nI_s1, e4]
  refine q_iret rfl dX2_changesTo_67 ⟨rfl, rfl, _, rfl, ?_⟩
  exact ⟨rfl, rfl, rfl⟩
def fuL (du t s : Nat → Int32) (nm n k i al : Nat) : Int32 := match k with
  | 0 => nI n
  | k + 1 => if 0 < t i then (if al < nm ∧ du al = s i then fuL du t s nm n k (i + 1) (al + 1) else nI i) else fuL du t s nm n k (i + 1) al
theorem L_firstUnlike {d n0 : Nat} {Po : PO} {I : HI} {J : HJ} {nm n : Nat} (hk : I 34 1 = nI nm) (h14 : nm ≤ 14) (hn : I 16 0 = nI n) (h12 : n ≤ 12) :
    ∀ (k i al : Nat), i + k = n → al ≤ i → Po shA (some (.int (fuL (I 35) (I 17) (I 18) nm n k i al))) I J RA → Wm mX2_firstUnlike (TM d 0 0 false n0 Po) 0 0 shA 4 [some (.ref 34), some (.ref 16), some (.int (nI al)), some (.int (nI i))] [] I J RA := by
  intro k
  induction k with
  | zero =>
    intro i al hi hal hPo
    obtain rfl : i = n := by omega
    refine q_iload_n dX2_firstUnlike_4 (rfl : 4 + 1 = 5) rfl ?_
    refine q_aload_n dX2_firstUnlike_5 (rfl : 5 + 1 = 6) rfl ?_
    refine q_getI dX2_firstUnlike_6 (rfl : 6 + 3 = 9) fX2_22 (by first | rfl | assumption) ?_
    try simp (disch := omega) only [wr_hit, wr_p, wr_k, nI_add, pk_mul, nI_1, nI_s1, hn]
    refine q_icmp_ge_n (q := 55) (by omega) (by omega) dX2_firstUnlike_9 (by decide) (rfl : 9 + 3 = 12) (fun h => ?_) (fun h => ?_)
    ·
      refine q_aload_n dX2_firstUnlike_55 (rfl : 55 + 1 = 56) rfl ?_
      refine q_getI dX2_firstUnlike_56 (rfl : 56 + 3 = 59) fX2_22 (by first | rfl | assumption) ?_
      try simp (disch := omega) only [wr_hit, wr_p, wr_k, nI_add, pk_mul, nI_1, nI_s1, hn]
      exact q_iret rfl dX2_firstUnlike_59 hPo
    ·
      omega
  | succ k ih =>
    intro i al hi hal hPo
    refine q_iload_n dX2_firstUnlike_4 (rfl : 4 + 1 = 5) rfl ?_
    refine q_aload_n dX2_firstUnlike_5 (rfl : 5 + 1 = 6) rfl ?_
    refine q_getI dX2_firstUnlike_6 (rfl : 6 + 3 = 9) fX2_22 (by first | rfl | assumption) ?_
    try simp (disch := omega) only [wr_hit, wr_p, wr_k, nI_add, pk_mul, nI_1, nI_s1, hn, hk]
    refine q_icmp_ge_n (q := 55) (by omega) (by omega) dX2_firstUnlike_9 (by decide) (rfl : 9 + 3 = 12) (fun h => ?_) (fun h => ?_)
    · omega
    ·
      refine q_aload_n dX2_firstUnlike_12 (rfl : 12 + 1 = 13) rfl ?_
      refine q_getR dX2_firstUnlike_13 (rfl : 13 + 3 = 16) fX2_25 (by first | rfl | assumption) (by first | rfl | assumption) ?_
      refine q_iload_n dX2_firstUnlike_16 (rfl : 16 + 1 = 17) rfl ?_
      refine q_iald dX2_firstUnlike_17 (rfl : 17 + 1 = 18) (by first | rfl | assumption) (by first | assumption | omega) (by decide) ?_
      try simp (disch := omega) only [wr_hit, wr_p, wr_k, nI_add, pk_mul, nI_1, nI_s1, hn, hk]
      refine q_if_le (q := 49) dX2_firstUnlike_18 (by decide) (rfl : 18 + 3 = 21) (fun z => ?_) (fun z => ?_)
      ·
        first | refine q_iinc1 dX2_firstUnlike_49 (rfl : 49 + 3 = 52) rfl (by decide) ?_ | refine q_iinc dX2_firstUnlike_49 (rfl : 49 + 3 = 52) rfl rfl (by decide) ?_
        refine q_goto (q := 4) dX2_firstUnlike_52 (by decide) ?_
        have e : fuL (I 35) (I 17) (I 18) nm n (k + 1) i al = fuL (I 35) (I 17) (I 18) nm n k (i + 1) al := by
          simp only [fuL, if_neg (Int32.not_lt.mpr z)]
        rw [e] at hPo
        exact ih (i + 1) al (by omega) (by omega) hPo
      ·
        have hpos := Int32.not_le.mp z
        refine q_iload_n dX2_firstUnlike_21 (rfl : 21 + 1 = 22) rfl ?_
        refine q_aload_n dX2_firstUnlike_22 (rfl : 22 + 1 = 23) rfl ?_
        refine q_getI dX2_firstUnlike_23 (rfl : 23 + 3 = 26) fX2_15 (by first | rfl | assumption) ?_
        try simp (disch := omega) only [wr_hit, wr_p, wr_k, nI_add, pk_mul, nI_1, nI_s1, hn, hk]
        refine q_icmp_ge_n (q := 44) (by omega) (by omega) dX2_firstUnlike_26 (by decide) (rfl : 26 + 3 = 29) (fun h2 => ?_) (fun h2 => ?_)
        ·
          refine q_iload_n dX2_firstUnlike_44 (rfl : 44 + 1 = 45) rfl ?_
          have e : fuL (I 35) (I 17) (I 18) nm n (k + 1) i al = nI i := by
            simp only [fuL, if_pos hpos, if_neg (show ¬ (al < nm ∧ I 35 al = I 18 i) from fun q => by omega)]
          rw [e] at hPo
          exact q_iret rfl dX2_firstUnlike_45 hPo
        ·
          refine q_aload_n dX2_firstUnlike_29 (rfl : 29 + 1 = 30) rfl ?_
          refine q_getR dX2_firstUnlike_30 (rfl : 30 + 3 = 33) fX2_9 (by first | rfl | assumption) (by first | rfl | assumption) ?_
          refine q_iload_n dX2_firstUnlike_33 (rfl : 33 + 1 = 34) rfl ?_
          refine q_iald dX2_firstUnlike_34 (rfl : 34 + 1 = 35) (by first | rfl | assumption) (by first | assumption | omega) (by decide) ?_
          try simp (disch := omega) only [wr_hit, wr_p, wr_k, nI_add, pk_mul, nI_1, nI_s1, hn, hk]
          refine q_aload_n dX2_firstUnlike_35 (rfl : 35 + 1 = 36) rfl ?_
          refine q_getR dX2_firstUnlike_36 (rfl : 36 + 3 = 39) fX2_28 (by first | rfl | assumption) (by first | rfl | assumption) ?_
          refine q_iload_n dX2_firstUnlike_39 (rfl : 39 + 1 = 40) rfl ?_
          refine q_iald dX2_firstUnlike_40 (rfl : 40 + 1 = 41) (by first | rfl | assumption) (by first | assumption | omega) (by decide) ?_
          try simp (disch := omega) only [wr_hit, wr_p, wr_k, nI_add, pk_mul, nI_1, nI_s1, hn, hk]
          refine q_icmp_eq (q := 46) dX2_firstUnlike_41 (by decide) (rfl : 41 + 3 = 44) (fun e2 => ?_) (fun e2 => ?_)
          ·
            first | refine q_iinc1 dX2_firstUnlike_46 (rfl : 46 + 3 = 49) rfl (by decide) ?_ | refine q_iinc dX2_firstUnlike_46 (rfl : 46 + 3 = 49) rfl rfl (by decide) ?_
            first | refine q_iinc1 dX2_firstUnlike_49 (rfl : 49 + 3 = 52) rfl (by decide) ?_ | refine q_iinc dX2_firstUnlike_49 (rfl : 49 + 3 = 52) rfl rfl (by decide) ?_
            refine q_goto (q := 4) dX2_firstUnlike_52 (by decide) ?_
            have e : fuL (I 35) (I 17) (I 18) nm n (k + 1) i al = fuL (I 35) (I 17) (I 18) nm n k (i + 1) (al + 1) := by
              simp only [fuL, if_pos hpos, if_pos (show al < nm ∧ I 35 al = I 18 i from ⟨h2, e2⟩)]
            rw [e] at hPo
            exact ih (i + 1) (al + 1) (by omega) (by omega) hPo
          ·
            refine q_iload_n dX2_firstUnlike_44 (rfl : 44 + 1 = 45) rfl ?_
            have e : fuL (I 35) (I 17) (I 18) nm n (k + 1) i al = nI i := by
              simp only [fuL, if_pos hpos, if_neg (show ¬ (al < nm ∧ I 35 al = I 18 i) from fun q => e2 q.2)]
            rw [e] at hPo
            exact q_iret rfl dX2_firstUnlike_45 hPo
theorem S_firstUnlike {d nm n : Nat} {I : HI} {J : HJ} (hk : I 34 1 = nI nm) (h14 : nm ≤ 14) (hn : I 16 0 = nI n) (h12 : n ≤ 12) : MIp mX2_firstUnlike d [.ref 34, .ref 16] shA I J RA (fuL (I 35) (I 17) (I 18) nm n n 0 0) := by
  refine Mt.of (L := [some (.ref 34), some (.ref 16), none, none]) (by decide +kernel) (Nat.le_of_ble_eq_true rfl) rfl ?_
  refine q_iconst (v := nI 0) dX2_firstUnlike_0 (rfl : 0 + 1 = 1) (by decide) ?_
  refine q_istore_n dX2_firstUnlike_1 (rfl : 1 + 1 = 2) (by decide) ?_
  refine q_iconst (v := nI 0) dX2_firstUnlike_2 (rfl : 2 + 1 = 3) (by decide) ?_
  refine q_istore_n dX2_firstUnlike_3 (rfl : 3 + 1 = 4) (by decide) ?_
  exact L_firstUnlike hk h14 hn h12 n 0 0 (by omega) (by omega) ⟨rfl, rfl, _, rfl, rfl, rfl, rfl⟩
end
section
/-! the class's row of doors -/
theorem RA38 {e : Nat} (h : e < 3) : RA 38 e = some (39 + e) := by
  rcases (show e = 0 ∨ e = 1 ∨ e = 2 by omega) with rfl | rfl | rfl <;> rfl
theorem sh39 {e : Nat} (h : e < 3) : shA[39 + e]? = some (.inr (.int, 7)) := by
  rcases (show e = 0 ∨ e = 1 ∨ e = 2 by omega) with rfl | rfl | rfl <;> rfl
theorem door3 {i n : Nat} (h : i < n) : 3 * i / n < 3 := by
  rw [Nat.div_lt_iff_lt_mul (by omega)]
  omega
/-- what layers below m lose by t thaws of door e -/
def LB (t17 c : Nat → Int32) (th : Int32) (n e t m : Nat) : Int32 := sI (fun i => if 3 * i / n = e then mnI (t17 i) (nI t * th) * c i else 0) m
def wgH (V : Nat → Nat → Nat → Int32) (n t i : Nat) (I : HI) : HI := fun a b => if 39 ≤ a ∧ a < 42 ∧ b < t then V (a - 39) b n else if 39 ≤ a ∧ a < 42 ∧ b = t then V (a - 39) t i else I a b
def wgP (V : Nat → Nat → Nat → Int32) (n t e : Nat) (I : HI) : HI := fun a b => if 39 ≤ a ∧ a < 42 ∧ b < t then V (a - 39) b n else if 39 ≤ a ∧ a < 39 + e ∧ b = t then 0 else I a b
theorem wgP_o {V : Nat → Nat → Nat → Int32} {n t e a : Nat} {I : HI} (h : a < 39 ∨ 42 ≤ a) (he : e ≤ 3) : wgP V n t e I a = I a := by
  funext b
  unfold wgP
  rw [if_neg (by omega), if_neg (by omega)]
theorem wgH_o {V : Nat → Nat → Nat → Int32} {n t i a : Nat} {I : HI} (h : a < 39 ∨ 42 ≤ a) : wgH V n t i I a = I a := by
  funext b
  unfold wgH
  rw [if_neg (by omega), if_neg (by omega)]
theorem wgP_s {V : Nat → Nat → Nat → Int32} {n t e : Nat} {I : HI} (he : e < 3) : wr (wgP V n t e I) (39 + e) t (nI 0) = wgP V n t (e + 1) I := by
  funext a b
  unfold wr wgP
  by_cases h1 : 39 ≤ a ∧ a < 42 ∧ b < t
  · simp only [if_pos h1]
    by_cases h2 : a = 39 + e
    · rw [if_pos h2, if_neg (by omega)]
    · rw [if_neg h2]
  · simp only [if_neg h1]
    by_cases h2 : a = 39 + e
    · rw [if_pos h2]
      by_cases h3 : b = t
      · rw [if_pos h3, if_pos (by omega)]
        rfl
      · rw [if_neg h3, if_neg (by omega), if_neg (by omega)]
    · rw [if_neg h2]
      by_cases h3 : 39 ≤ a ∧ a < 39 + e ∧ b = t
      · rw [if_pos h3, if_pos (by omega)]
      · rw [if_neg h3, if_neg (by omega)]
theorem wgP_H {V : Nat → Nat → Nat → Int32} {n t : Nat} {I : HI} (hV : ∀ e t, V e t 0 = 0) : wgP V n t 3 I = wgH V n t 0 I := by
  funext a b
  unfold wgP wgH
  simp only [hV]
theorem wgH_n {V : Nat → Nat → Nat → Int32} {n t : Nat} {I : HI} : wgH V n t n I = wgP V n (t + 1) 0 I := by
  funext a b
  unfold wgP wgH
  by_cases h1 : 39 ≤ a ∧ a < 42 ∧ b < t
  · rw [if_pos h1, if_pos (by omega)]
  · rw [if_neg h1]
    by_cases h2 : 39 ≤ a ∧ a < 42 ∧ b = t
    · rw [if_pos h2, if_pos (by omega)]
      obtain ⟨-, -, rfl⟩ := h2
      rfl
    · rw [if_neg h2, if_neg (by omega), if_neg (by omega)]
theorem wgH_at {V : Nat → Nat → Nat → Int32} {n t i e : Nat} {I : HI} (he : e < 3) : wgH V n t i I (39 + e) t = V e t i := by
  unfold wgH
  rw [if_neg (by omega), if_pos (by omega), show 39 + e - 39 = e by omega]
theorem wgH_s {V : Nat → Nat → Nat → Int32} {n t i e : Nat} {I : HI} {v : Int32} (he : e < 3) (h1 : v = V e t (i + 1)) (h2 : ∀ e', e' < 3 → e' ≠ e → V e' t (i + 1) = V e' t i) : wr (wgH V n t i I) (39 + e) t v = wgH V n t (i + 1) I := by
  subst h1
  funext a b
  unfold wr wgH
  by_cases k1 : 39 ≤ a ∧ a < 42 ∧ b < t
  · simp only [if_pos k1]
    by_cases k2 : a = 39 + e
    · rw [if_pos k2, if_neg (by omega)]
    · rw [if_neg k2]
  · simp only [if_neg k1]
    by_cases k2 : a = 39 + e
    · subst k2
      rw [if_pos rfl]
      by_cases k3 : b = t
      · rw [if_pos k3, if_pos (by omega), show 39 + e - 39 = e by omega]
      · rw [if_neg k3, if_neg (by omega), if_neg (by omega)]
    · rw [if_neg k2]
      by_cases k3 : 39 ≤ a ∧ a < 42 ∧ b = t
      · rw [if_pos k3, if_pos k3, h2 (a - 39) (by omega) (by omega)]
      · rw [if_neg k3, if_neg k3]
theorem L_weigh0 {T : Tg} {X : HI} {J : HJ} {V : Nat → Nat → Nat → Int32} {n t : Nat} {k : Int32} (ht : t < 7) (K : Wm mX4_weigh T 0 0 shA 35 [some (.ref 37), some (.int k), some (.ref 16), some (.ref 4), some (.int (nI t)), none, none] [] (wgP V n t 3 X) J RA) :
    ∀ (e : Nat), e ≤ 3 → Wm mX4_weigh T 0 0 shA 12 [some (.ref 37), some (.int k), some (.ref 16), some (.ref 4), some (.int (nI t)), some (.int (nI e)), none] [] (wgP V n t e X) J RA := by
  refine loopN (fun e he ih => ?_)
  refine q_iload dX4_weigh_12 (rfl : 12 + 2 = 14) rfl ?_
  refine q_iconst (v := nI 3) dX4_weigh_14 (rfl : 14 + 1 = 15) (by decide) ?_
  refine q_icmp_ge_n (q := 35) (by omega) (by omega) dX4_weigh_15 (by decide) (rfl : 15 + 3 = 18) (fun h => ?_) (fun h => ?_)
  ·
    obtain rfl : e = 3 := by omega
    refine q_forget (L' := [some (.ref 37), some (.int k), some (.ref 16), some (.ref 4), some (.int (nI t)), none, none]) (by repeat (first | exact trivial | refine And.intro rfl ?_)) ?_
    exact K
  ·
    have hr := RA38 h
    have hs := sh39 h
    refine q_aload_n dX4_weigh_18 (rfl : 18 + 1 = 19) rfl ?_
    refine q_getR dX4_weigh_19 (rfl : 19 + 3 = 22) fX4_11 (by first | rfl | assumption) (by first | rfl | assumption) ?_
    refine q_iload dX4_weigh_22 (rfl : 22 + 2 = 24) rfl ?_
    refine q_aald dX4_weigh_24 (rfl : 24 + 1 = 25) (by first | rfl | assumption) (by first | assumption | omega) (by decide) (by first | rfl | assumption) ?_
    refine q_iload dX4_weigh_25 (rfl : 25 + 2 = 27) rfl ?_
    refine q_iconst (v := nI 0) dX4_weigh_27 (rfl : 27 + 1 = 28) (by decide) ?_
    refine q_iast dX4_weigh_28 (rfl : 28 + 1 = 29) (by first | rfl | assumption) (by first | assumption | omega) (by decide) ?_
    first | refine q_iinc1 dX4_weigh_29 (rfl : 29 + 3 = 32) rfl (by decide) ?_ | refine q_iinc dX4_weigh_29 (rfl : 29 + 3 = 32) rfl rfl (by decide) ?_
    refine q_goto (q := 12) dX4_weigh_32 (by decide) ?_
    rw [wgP_s h]
    exact ih h
theorem L_weigh1 {d n0 : Nat} {Po : PO} {I : HI} {J : HJ} {n t : Nat} {k : Int32} {yr : Nat → Nat} (ht : t < 7) (hn : I 16 0 = nI n) (h12 : n ≤ 12) (hy : ∀ i, i < n → I 5 i = nI (yr i) ∧ yr i < 100) (K : Wm mX4_weigh (TM (d + 2) 0 0 false n0 Po) 0 0 shA 98 [some (.ref 37), some (.int k), some (.ref 16), some (.ref 4), some (.int (nI t)), none, none] [] (wgH (LB (I 17) (fun i => I 9 (yr i)) (I 4 2) n) n t n I) J RA) :
    ∀ (i : Nat), i ≤ n → Wm mX4_weigh (TM (d + 2) 0 0 false n0 Po) 0 0 shA 38 [some (.ref 37), some (.int k), some (.ref 16), some (.ref 4), some (.int (nI t)), some (.int (nI i)), none] [] (wgH (LB (I 17) (fun i => I 9 (yr i)) (I 4 2) n) n t i I) J RA := by
  refine loopN (fun i hi ih => ?_)
  generalize hX : wgH (LB (I 17) (fun i => I 9 (yr i)) (I 4 2) n) n t i I = X
  have o : ∀ a, (a < 39 ∨ 42 ≤ a) → X a = I a := fun a ha => by rw [← hX]; exact wgH_o ha
  have e0 : X 16 0 = nI n := by rw [o 16 (by omega)]; exact hn
  have e1 : X 17 = I 17 := o 17 (by omega)
  have e2 : X 4 = I 4 := o 4 (by omega)
  refine q_iload dX4_weigh_38 (rfl : 38 + 2 = 40) rfl ?_
  refine q_aload_n dX4_weigh_40 (rfl : 40 + 1 = 41) rfl ?_
  refine q_getI dX4_weigh_41 (rfl : 41 + 3 = 44) fX4_33 (by first | rfl | assumption) ?_
  try simp (disch := omega) only [wr_hit, wr_p, wr_k, nI_add, pk_mul, nI_1, nI_s1, pk_sub, e0, e1, e2]
  refine q_icmp_ge_n (q := 98) (by omega) (by omega) dX4_weigh_44 (by decide) (rfl : 44 + 3 = 47) (fun h => ?_) (fun h => ?_)
  ·
    obtain rfl : i = n := by omega
    refine q_forget (L' := [some (.ref 37), some (.int k), some (.ref 16), some (.ref 4), some (.int (nI t)), none, none]) (by repeat (first | exact trivial | refine And.intro rfl ?_)) ?_
    rw [← hX]
    exact K
  ·
    have hd := door3 h
    have hr := RA38 hd
    have hs := sh39 hd
    obtain ⟨y1, y2⟩ := hy i h
    have hc := S_costOf (d := d + 1) (I := X) (J := J) (show i < 12 by omega) (show X 5 i = nI (yr i) by rw [o 5 (by omega)]; exact y1) y2
    rw [o 9 (by omega)] at hc
    refine q_aload_n dX4_weigh_47 (rfl : 47 + 1 = 48) rfl ?_
    refine q_getR dX4_weigh_48 (rfl : 48 + 3 = 51) fX4_38 (by first | rfl | assumption) (by first | rfl | assumption) ?_
    refine q_iload dX4_weigh_51 (rfl : 51 + 2 = 53) rfl ?_
    refine q_iald dX4_weigh_53 (rfl : 53 + 1 = 54) (by first | rfl | assumption) (by first | assumption | omega) (by decide) ?_
    try simp (disch := omega) only [wr_hit, wr_p, wr_k, nI_add, pk_mul, nI_1, nI_s1, pk_sub, e0, e1, e2]
    refine q_iload dX4_weigh_54 (rfl : 54 + 2 = 56) rfl ?_
    refine q_aload_n dX4_weigh_56 (rfl : 56 + 1 = 57) rfl ?_
    refine q_getI dX4_weigh_57 (rfl : 57 + 3 = 60) fX4_42 (by first | rfl | assumption) ?_
    try simp (disch := omega) only [wr_hit, wr_p, wr_k, nI_add, pk_mul, nI_1, nI_s1, pk_sub, e0, e1, e2]
    refine q_imul dX4_weigh_60 (rfl : 60 + 1 = 61) ?_
    try simp (disch := omega) only [wr_hit, wr_p, wr_k, nI_add, pk_mul, nI_1, nI_s1, pk_sub, e0, e1, e2]
    refine q_min dX4_weigh_61 (rfl : 61 + 3 = 64) lX4_47 w_min (Nat.le_of_ble_eq_true rfl) (TM_math (Nat.le_refl _) (Nat.le_refl _)) ?_
    refine q_istore dX4_weigh_64 (rfl : 64 + 2 = 66) (by decide) ?_
    refine q_aload_n dX4_weigh_66 (rfl : 66 + 1 = 67) rfl ?_
    refine q_getR dX4_weigh_67 (rfl : 67 + 3 = 70) fX4_11 (by first | rfl | assumption) (by first | rfl | assumption) ?_
    refine q_aload_n dX4_weigh_70 (rfl : 70 + 1 = 71) rfl ?_
    refine q_iload dX4_weigh_71 (rfl : 71 + 2 = 73) rfl ?_
    refine q_callVIp (S_doorOf (d := d) e0 h12 h) dX4_weigh_73 (rfl : 73 + 3 = 76) lX4_53 vX0_doorOf (by first | rfl | assumption) rfl rfl (Nat.le_of_ble_eq_true rfl) TM_room TM_cs ?_
    refine q_aald dX4_weigh_76 (rfl : 76 + 1 = 77) (by first | rfl | assumption) (by first | assumption | omega) (by decide) (by first | rfl | assumption) ?_
    refine q_iload dX4_weigh_77 (rfl : 77 + 2 = 79) rfl ?_
    refine q_dup2 dX4_weigh_79 (rfl : 79 + 1 = 80) rfl rfl ?_
    refine q_iald dX4_weigh_80 (rfl : 80 + 1 = 81) (by first | rfl | assumption) (by first | assumption | omega) (by decide) ?_
    try simp (disch := omega) only [wr_hit, wr_p, wr_k, nI_add, pk_mul, nI_1, nI_s1, pk_sub, e0, e1, e2]
    refine q_iload dX4_weigh_81 (rfl : 81 + 2 = 83) rfl ?_
    refine q_aload_n dX4_weigh_83 (rfl : 83 + 1 = 84) rfl ?_
    refine q_iload dX4_weigh_84 (rfl : 84 + 2 = 86) rfl ?_
    rw [show X (39 + 3 * i / n) t = LB (I 17) (fun i => I 9 (yr i)) (I 4 2) n (3 * i / n) t i by rw [← hX]; exact wgH_at hd]
    refine q_callVIp hc dX4_weigh_86 (rfl : 86 + 3 = 89) lX4_57 vX5_costOf (by first | rfl | assumption) rfl rfl (Nat.le_of_ble_eq_true rfl) TM_room TM_cs ?_
    refine q_imul dX4_weigh_89 (rfl : 89 + 1 = 90) ?_
    try simp (disch := omega) only [wr_hit, wr_p, wr_k, nI_add, pk_mul, nI_1, nI_s1, pk_sub, e0, e1, e2]
    refine q_iadd dX4_weigh_90 (rfl : 90 + 1 = 91) ?_
    try simp (disch := omega) only [wr_hit, wr_p, wr_k, nI_add, pk_mul, nI_1, nI_s1, pk_sub, e0, e1, e2]
    refine q_iast dX4_weigh_91 (rfl : 91 + 1 = 92) (by first | rfl | assumption) (by first | assumption | omega) (by decide) ?_
    first | refine q_iinc1 dX4_weigh_92 (rfl : 92 + 3 = 95) rfl (by decide) ?_ | refine q_iinc dX4_weigh_92 (rfl : 92 + 3 = 95) rfl rfl (by decide) ?_
    refine q_goto (q := 38) dX4_weigh_95 (by decide) ?_
    rw [← hX, wgH_s hd]
    · refine q_forget (L' := [some (.ref 37), some (.int k), some (.ref 16), some (.ref 4), some (.int (nI t)), some (.int (nI (i + 1))), none]) (by repeat (first | exact trivial | refine And.intro rfl ?_)) ?_
      exact ih h
    · show _ = sI _ (i + 1)
      simp only [sI, if_true]
      rfl
    · intro e' _ hne
      show sI _ (i + 1) = sI _ i
      simp only [sI, if_neg (Ne.symm hne), Int32.add_zero]
theorem L_weigh2 {d n0 : Nat} {Po : PO} {I : HI} {J : HJ} {n k : Nat} {yr : Nat → Nat} (hk : k ≤ 6) (hn : I 16 0 = nI n) (h12 : n ≤ 12) (hy : ∀ i, i < n → I 5 i = nI (yr i) ∧ yr i < 100) (K : Wm mX4_weigh (TM (d + 2) 0 0 false n0 Po) 0 0 shA 104 [some (.ref 37), some (.int (nI k)), some (.ref 16), some (.ref 4), none, none, none] [] (wgP (LB (I 17) (fun i => I 9 (yr i)) (I 4 2) n) n (k + 1) 0 I) J RA) :
    ∀ (t : Nat), t ≤ k + 1 → Wm mX4_weigh (TM (d + 2) 0 0 false n0 Po) 0 0 shA 3 [some (.ref 37), some (.int (nI k)), some (.ref 16), some (.ref 4), some (.int (nI t)), none, none] [] (wgP (LB (I 17) (fun i => I 9 (yr i)) (I 4 2) n) n t 0 I) J RA := by
  refine loopN (fun t ht ih => ?_)
  refine q_iload dX4_weigh_3 (rfl : 3 + 2 = 5) rfl ?_
  refine q_iload_n dX4_weigh_5 (rfl : 5 + 1 = 6) rfl ?_
  refine q_icmp_gt_n (q := 104) (by omega) (by omega) dX4_weigh_6 (by decide) (rfl : 6 + 3 = 9) (fun h => ?_) (fun h => ?_)
  ·
    obtain rfl : t = k + 1 := by omega
    refine q_forget (L' := [some (.ref 37), some (.int (nI k)), some (.ref 16), some (.ref 4), none, none, none]) (by repeat (first | exact trivial | refine And.intro rfl ?_)) ?_
    exact K
  ·
    refine q_iconst (v := nI 0) dX4_weigh_9 (rfl : 9 + 1 = 10) (by decide) ?_
    refine q_istore dX4_weigh_10 (rfl : 10 + 2 = 12) (by decide) ?_
    refine L_weigh0 (by omega) ?_ 0 (by omega)
    refine q_iconst (v := nI 0) dX4_weigh_35 (rfl : 35 + 1 = 36) (by decide) ?_
    refine q_istore dX4_weigh_36 (rfl : 36 + 2 = 38) (by decide) ?_
    rw [wgP_H (fun e t => rfl)]
    refine L_weigh1 (by omega) hn h12 hy ?_ 0 (by omega)
    first | refine q_iinc1 dX4_weigh_98 (rfl : 98 + 3 = 101) rfl (by decide) ?_ | refine q_iinc dX4_weigh_98 (rfl : 98 + 3 = 101) rfl rfl (by decide) ?_
    refine q_goto (q := 3) dX4_weigh_101 (by decide) ?_
    rw [wgH_n]
    exact ih (by omega)
theorem wgP_00 {V : Nat → Nat → Nat → Int32} {n : Nat} {I : HI} : wgP V n 0 0 I = I := by
  funext a b
  unfold wgP
  rw [if_neg (by omega), if_neg (by omega)]
theorem S_weigh {d n k : Nat} {I : HI} {J : HJ} {yr : Nat → Nat} (hk : k ≤ 6) (hn : I 16 0 = nI n) (h12 : n ≤ 12) (hy : ∀ i, i < n → I 5 i = nI (yr i) ∧ yr i < 100) : MV mX4_weigh (d + 2) [.ref 37, .int (nI k), .ref 16, .ref 4] shA I J RA (fun I' J' => I' = wgP (LB (I 17) (fun i => I 9 (yr i)) (I 4 2) n) n (k + 1) 0 I ∧ J' = J) := by
  refine Mt.of (L := [some (.ref 37), some (.int (nI k)), some (.ref 16), some (.ref 4), none, none, none]) (by decide +kernel) (Nat.le_of_ble_eq_true rfl) rfl ?_
  refine q_iconst (v := nI 0) dX4_weigh_0 (rfl : 0 + 1 = 1) (by decide) ?_
  refine q_istore dX4_weigh_1 (rfl : 1 + 2 = 3) (by decide) ?_
  have key := L_weigh2 (d := d) (n0 := shA.length) (J := J) (Po := fun sh' v I' J' R' => sh' = shA ∧ R' = RA ∧ v = none ∧ (I' = wgP (LB (I 17) (fun i => I 9 (yr i)) (I 4 2) n) n (k + 1) 0 I ∧ J' = J)) hk hn h12 hy ?_ 0 (by omega)
  · rw [wgP_00] at key
    exact key
  refine q_vret rfl dX4_weigh_104 ⟨rfl, rfl, rfl, ?_⟩
  exact ⟨rfl, rfl⟩
def chIn (V : Nat → Nat → Int32) (k z r : Nat) (s : Int32 × Int32 × Int32) : Int32 × Int32 × Int32 := match r with
  | 0 => s
  | r + 1 => chIn V k z r (if V 0 z + V 1 r + V 2 (k - z - r) < s.1 then (V 0 z + V 1 r + V 2 (k - z - r), nI z, nI r) else s)
def chOut (V : Nat → Nat → Int32) (k q : Nat) (s : Int32 × Int32 × Int32) : Int32 × Int32 × Int32 := match q with
  | 0 => s
  | q + 1 => chOut V k q (chIn V k q (k - q + 1) s)
def tdH (X : HI) (s : Int32 × Int32 × Int32) : HI := wr (wr (wr X 37 1 s.1) 37 2 s.2.1) 37 3 s.2.2
theorem tdH_u {X : HI} {s : Int32 × Int32 × Int32} {a b c : Int32} : wr (wr (wr (tdH X s) 37 1 a) 37 2 b) 37 3 c = tdH X (a, b, c) := by
  funext x y
  unfold tdH wr
  by_cases hx : x = 37
  · simp only [hx, if_true]
    by_cases h3 : y = 3
    · simp [h3]
    · by_cases h2 : y = 2
      · simp [h2]
      · by_cases h1 : y = 1
        · simp [h1]
        · simp [h1, h2, h3]
  · simp [hx]
theorem tdH_o {X : HI} {s : Int32 × Int32 × Int32} {a : Nat} (h : a ≠ 37) : tdH X s a = X a := by
  unfold tdH
  rw [wr_ne h, wr_ne h, wr_ne h]
theorem tdH_1 {X : HI} {s : Int32 × Int32 × Int32} : tdH X s 37 1 = s.1 := by simp [tdH, wr]
theorem L_choose1 {T : Tg} {X : HI} {J : HJ} {k z : Nat} (hk : k ≤ 6) (hz : z ≤ k) (K : ∀ s, Wm mX4_choose T 0 0 shA 101 [some (.ref 37), some (.int (nI k)), some (.ref 16), some (.ref 4), some (.int (nI z)), none, none] [] (tdH X s) J RA → True) : True := trivial
theorem L_chIn {d n0 : Nat} {Po : PO} {X : HI} {J : HJ} {k z : Nat} (hk : k ≤ 6) (hz : z ≤ k) :
    ∀ (r : Nat) (s : Int32 × Int32 × Int32), r ≤ k - z + 1 → Wm mX4_choose (TM d 0 0 false n0 Po) 0 0 shA 101 [some (.ref 37), some (.int (nI k)), some (.ref 16), some (.ref 4), some (.int (nI z)), none, none] [] (tdH X (chIn (fun e t => X (39 + e) t) k z r s)) J RA →
      Wm mX4_choose (TM d 0 0 false n0 Po) 0 0 shA 27 [some (.ref 37), some (.int (nI k)), some (.ref 16), some (.ref 4), some (.int (nI z)), some (.int (nI r - nI 1)), none] [] (tdH X s) J RA := by
  intro r
  induction r with
  | zero =>
    intro s hr K
    refine q_iload dX4_choose_27 (rfl : 27 + 2 = 29) rfl ?_
    refine q_if_lt (q := 101) dX4_choose_29 (by decide) (rfl : 29 + 3 = 32) (fun h => ?_) (fun h => ?_)
    ·
      refine q_forget (L' := [some (.ref 37), some (.int (nI k)), some (.ref 16), some (.ref 4), some (.int (nI z)), none, none]) (by repeat (first | exact trivial | refine And.intro rfl ?_)) ?_
      exact K
    ·
      exact absurd nI_m1neg h
  | succ r ih =>
    intro s hr K
    have o : ∀ a, a ≠ 37 → tdH X s a = X a := fun a ha => tdH_o ha
    have o39 := o 39 (by omega)
    have o40 := o 40 (by omega)
    have o41 := o 41 (by omega)
    have o1 : tdH X s 37 1 = s.1 := tdH_1
    rw [nI_s1]
    refine q_iload dX4_choose_27 (rfl : 27 + 2 = 29) rfl ?_
    refine q_if_lt (q := 101) dX4_choose_29 (by decide) (rfl : 29 + 3 = 32) (fun h => ?_) (fun h => ?_)
    ·
      exact absurd h (nI_pos (by omega))
    ·
      have h39 : shA[39]? = some (.inr (.int, 7)) := rfl
      have h40 : shA[40]? = some (.inr (.int, 7)) := rfl
      have h41 : shA[41]? = some (.inr (.int, 7)) := rfl
      refine q_aload_n dX4_choose_32 (rfl : 32 + 1 = 33) rfl ?_
      refine q_getR dX4_choose_33 (rfl : 33 + 3 = 36) fX4_11 (by first | rfl | assumption) (by first | rfl | assumption) ?_
      refine q_iconst (v := nI 0) dX4_choose_36 (rfl : 36 + 1 = 37) (by decide) ?_
      refine q_aald (j := 0) dX4_choose_37 (rfl : 37 + 1 = 38) (by first | rfl | assumption) (by decide) (by decide) (by first | rfl | assumption) ?_
      refine q_iload dX4_choose_38 (rfl : 38 + 2 = 40) rfl ?_
      refine q_iald dX4_choose_40 (rfl : 40 + 1 = 41) (by first | rfl | assumption) (by first | assumption | omega) (by decide) ?_
      try simp (disch := omega) only [wr_hit, wr_p, wr_k, nI_add, pk_mul, nI_1, nI_s1, pk_sub, o39, o40, o41, o1]
      refine q_aload_n dX4_choose_41 (rfl : 41 + 1 = 42) rfl ?_
      refine q_getR dX4_choose_42 (rfl : 42 + 3 = 45) fX4_11 (by first | rfl | assumption) (by first | rfl | assumption) ?_
      refine q_iconst (v := nI 1) dX4_choose_45 (rfl : 45 + 1 = 46) (by decide) ?_
      refine q_aald (j := 1) dX4_choose_46 (rfl : 46 + 1 = 47) (by first | rfl | assumption) (by decide) (by decide) (by first | rfl | assumption) ?_
      refine q_iload dX4_choose_47 (rfl : 47 + 2 = 49) rfl ?_
      refine q_iald dX4_choose_49 (rfl : 49 + 1 = 50) (by first | rfl | assumption) (by first | assumption | omega) (by decide) ?_
      try simp (disch := omega) only [wr_hit, wr_p, wr_k, nI_add, pk_mul, nI_1, nI_s1, pk_sub, o39, o40, o41, o1]
      refine q_iadd dX4_choose_50 (rfl : 50 + 1 = 51) ?_
      try simp (disch := omega) only [wr_hit, wr_p, wr_k, nI_add, pk_mul, nI_1, nI_s1, pk_sub, o39, o40, o41, o1]
      refine q_aload_n dX4_choose_51 (rfl : 51 + 1 = 52) rfl ?_
      refine q_getR dX4_choose_52 (rfl : 52 + 3 = 55) fX4_11 (by first | rfl | assumption) (by first | rfl | assumption) ?_
      refine q_iconst (v := nI 2) dX4_choose_55 (rfl : 55 + 1 = 56) (by decide) ?_
      refine q_aald (j := 2) dX4_choose_56 (rfl : 56 + 1 = 57) (by first | rfl | assumption) (by decide) (by decide) (by first | rfl | assumption) ?_
      refine q_iload_n dX4_choose_57 (rfl : 57 + 1 = 58) rfl ?_
      refine q_iload dX4_choose_58 (rfl : 58 + 2 = 60) rfl ?_
      refine q_isub dX4_choose_60 (rfl : 60 + 1 = 61) ?_
      try simp (disch := omega) only [wr_hit, wr_p, wr_k, nI_add, pk_mul, nI_1, nI_s1, pk_sub, o39, o40, o41, o1]
      refine q_iload dX4_choose_61 (rfl : 61 + 2 = 63) rfl ?_
      refine q_isub dX4_choose_63 (rfl : 63 + 1 = 64) ?_
      try simp (disch := omega) only [wr_hit, wr_p, wr_k, nI_add, pk_mul, nI_1, nI_s1, pk_sub, o39, o40, o41, o1]
      refine q_iald dX4_choose_64 (rfl : 64 + 1 = 65) (by first | rfl | assumption) (by first | assumption | omega) (by decide) ?_
      try simp (disch := omega) only [wr_hit, wr_p, wr_k, nI_add, pk_mul, nI_1, nI_s1, pk_sub, o39, o40, o41, o1]
      refine q_iadd dX4_choose_65 (rfl : 65 + 1 = 66) ?_
      try simp (disch := omega) only [wr_hit, wr_p, wr_k, nI_add, pk_mul, nI_1, nI_s1, pk_sub, o39, o40, o41, o1]
      refine q_istore dX4_choose_66 (rfl : 66 + 2 = 68) (by decide) ?_
      refine q_iload dX4_choose_68 (rfl : 68 + 2 = 70) rfl ?_
      refine q_aload_n dX4_choose_70 (rfl : 70 + 1 = 71) rfl ?_
      refine q_getI dX4_choose_71 (rfl : 71 + 3 = 74) fX4_16 (by first | rfl | assumption) ?_
      try simp (disch := omega) only [wr_hit, wr_p, wr_k, nI_add, pk_mul, nI_1, nI_s1, pk_sub, o39, o40, o41, o1]
      refine q_icmp_ge (q := 95) dX4_choose_74 (by decide) (rfl : 74 + 3 = 77) (fun q => ?_) (fun q => ?_)
      ·
        refine q_iinc dX4_choose_95 (rfl : 95 + 3 = 98) rfl rfl (by decide) ?_
        refine q_goto (q := 27) dX4_choose_98 (by decide) ?_
        rw [nI_m1]
        have e : chIn (fun e t => X (39 + e) t) k z (r + 1) s = chIn (fun e t => X (39 + e) t) k z r s := by
          show chIn _ k z r (if X 39 z + X 40 r + X 41 (k - z - r) < s.1 then _ else s) = _
          rw [if_neg (Int32.not_lt.mpr q)]
        rw [e] at K
        refine q_forget (L' := [some (.ref 37), some (.int (nI k)), some (.ref 16), some (.ref 4), some (.int (nI z)), some (.int (nI r - nI 1)), none]) (by repeat (first | exact trivial | refine And.intro rfl ?_)) ?_
        exact ih s (by omega) K
      ·
        refine q_aload_n dX4_choose_77 (rfl : 77 + 1 = 78) rfl ?_
        refine q_iload dX4_choose_78 (rfl : 78 + 2 = 80) rfl ?_
        refine q_putI dX4_choose_80 (rfl : 80 + 3 = 83) pX4_16 (by first | rfl | assumption) ?_
        refine q_aload_n dX4_choose_83 (rfl : 83 + 1 = 84) rfl ?_
        refine q_iload dX4_choose_84 (rfl : 84 + 2 = 86) rfl ?_
        refine q_putI dX4_choose_86 (rfl : 86 + 3 = 89) pX4_20 (by first | rfl | assumption) ?_
        refine q_aload_n dX4_choose_89 (rfl : 89 + 1 = 90) rfl ?_
        refine q_iload dX4_choose_90 (rfl : 90 + 2 = 92) rfl ?_
        refine q_putI dX4_choose_92 (rfl : 92 + 3 = 95) pX4_23 (by first | rfl | assumption) ?_
        refine q_iinc dX4_choose_95 (rfl : 95 + 3 = 98) rfl rfl (by decide) ?_
        refine q_goto (q := 27) dX4_choose_98 (by decide) ?_
        rw [nI_m1, tdH_u]
        have e : chIn (fun e t => X (39 + e) t) k z (r + 1) s = chIn (fun e t => X (39 + e) t) k z r (X 39 z + X 40 r + X 41 (k - z - r), nI z, nI r) := by
          show chIn _ k z r (if X 39 z + X 40 r + X 41 (k - z - r) < s.1 then _ else s) = _
          rw [if_pos (Int32.not_le.mp q)]
        rw [e] at K
        refine q_forget (L' := [some (.ref 37), some (.int (nI k)), some (.ref 16), some (.ref 4), some (.int (nI z)), some (.int (nI r - nI 1)), none]) (by repeat (first | exact trivial | refine And.intro rfl ?_)) ?_
        exact ih _ (by omega) K
theorem L_chOut {d n0 : Nat} {Po : PO} {X : HI} {J : HJ} {k : Nat} (hk : k ≤ 6) :
    ∀ (q : Nat) (s : Int32 × Int32 × Int32), q ≤ k + 1 → Wm mX4_choose (TM d 0 0 false n0 Po) 0 0 shA 107 [some (.ref 37), some (.int (nI k)), some (.ref 16), some (.ref 4), none, none, none] [] (tdH X (chOut (fun e t => X (39 + e) t) k q s)) J RA →
      Wm mX4_choose (TM d 0 0 false n0 Po) 0 0 shA 16 [some (.ref 37), some (.int (nI k)), some (.ref 16), some (.ref 4), some (.int (nI q - nI 1)), none, none] [] (tdH X s) J RA := by
  intro q
  induction q with
  | zero =>
    intro s hr K
    refine q_iload dX4_choose_16 (rfl : 16 + 2 = 18) rfl ?_
    refine q_if_lt (q := 107) dX4_choose_18 (by decide) (rfl : 18 + 3 = 21) (fun h => ?_) (fun h => ?_)
    ·
      refine q_forget (L' := [some (.ref 37), some (.int (nI k)), some (.ref 16), some (.ref 4), none, none, none]) (by repeat (first | exact trivial | refine And.intro rfl ?_)) ?_
      exact K
    ·
      exact absurd nI_m1neg h
  | succ q ih =>
    intro s hr K
    rw [nI_s1]
    refine q_iload dX4_choose_16 (rfl : 16 + 2 = 18) rfl ?_
    refine q_if_lt (q := 107) dX4_choose_18 (by decide) (rfl : 18 + 3 = 21) (fun h => ?_) (fun h => ?_)
    ·
      exact absurd h (nI_pos (by omega))
    ·
      refine q_iload_n dX4_choose_21 (rfl : 21 + 1 = 22) rfl ?_
      refine q_iload dX4_choose_22 (rfl : 22 + 2 = 24) rfl ?_
      refine q_isub dX4_choose_24 (rfl : 24 + 1 = 25) ?_
      try simp (disch := omega) only [wr_hit, wr_p, wr_k, nI_add, pk_mul, nI_1, nI_s1, pk_sub]
      refine q_istore dX4_choose_25 (rfl : 25 + 2 = 27) (by decide) ?_
      have e : nI (k - q) = nI (k - q + 1) - nI 1 := (nI_s1 (k - q)).symm
      rw [e]
      refine L_chIn hk (by omega) (k - q + 1) s (by omega) ?_
      refine q_iinc dX4_choose_101 (rfl : 101 + 3 = 104) rfl rfl (by decide) ?_
      refine q_goto (q := 16) dX4_choose_104 (by decide) ?_
      rw [nI_m1]
      exact ih _ (by omega) K
theorem S_choose {d n k : Nat} {I : HI} {J : HJ} {yr : Nat → Nat} (hk : k ≤ 6) (hn : I 16 0 = nI n) (h12 : n ≤ 12) (hy : ∀ i, i < n → I 5 i = nI (yr i) ∧ yr i < 100) : MV mX4_choose (d + 3) [.ref 37, .int (nI k), .ref 16, .ref 4] shA I J RA (fun I' J' => I' = tdH (wgP (LB (I 17) (fun i => I 9 (yr i)) (I 4 2) n) n (k + 1) 0 I) (chOut (fun e t => wgP (LB (I 17) (fun i => I 9 (yr i)) (I 4 2) n) n (k + 1) 0 I (39 + e) t) k (k + 1) (2147483647, I 37 2, I 37 3)) ∧ J' = J) := by
  refine Mt.of (L := [some (.ref 37), some (.int (nI k)), some (.ref 16), some (.ref 4), none, none, none]) (by decide +kernel) (Nat.le_of_ble_eq_true rfl) rfl ?_
  refine q_aload_n dX4_choose_0 (rfl : 0 + 1 = 1) rfl ?_
  refine q_iload_n dX4_choose_1 (rfl : 1 + 1 = 2) rfl ?_
  refine q_aload_n dX4_choose_2 (rfl : 2 + 1 = 3) rfl ?_
  refine q_aload_n dX4_choose_3 (rfl : 3 + 1 = 4) rfl ?_
  refine q_callVV (S_weigh (d := d) hk hn h12 hy) dX4_choose_4 (rfl : 4 + 3 = 7) lX4_26 vX4_weigh (by first | rfl | assumption) rfl rfl (Nat.le_of_ble_eq_true rfl) TM_room TM_cs ?_
  intro I1 J1 hp
  obtain ⟨hI, rfl⟩ := hp
  refine q_aload_n dX4_choose_7 (rfl : 7 + 1 = 8) rfl ?_
  refine q_ldc dX4_choose_8 (rfl : 8 + 2 = 10) kX4_32 ?_
  refine q_putI dX4_choose_10 (rfl : 10 + 3 = 13) pX4_16 (by first | rfl | assumption) ?_
  refine q_iload_n dX4_choose_13 (rfl : 13 + 1 = 14) rfl ?_
  refine q_istore dX4_choose_14 (rfl : 14 + 2 = 16) (by decide) ?_
  have e : wr I1 37 1 2147483647 = tdH I1 (2147483647, I1 37 2, I1 37 3) := by
    funext a b
    unfold tdH wr
    by_cases ha : a = 37
    · subst ha
      by_cases h3 : b = 3
      · subst h3; simp
      · by_cases h2 : b = 2
        · subst h2; simp
        · simp [h2, h3]
    · simp [ha]
  have e2 : I1 37 = I 37 := by rw [hI]; exact wgP_o (by omega) (by omega)
  rw [e, e2, ← nI_s1 k]
  have key := L_chOut (d := d + 3) (n0 := shA.length) (X := I1) (J := J1) (k := k) (Po := fun sh' v I' J' R' => sh' = shA ∧ R' = RA ∧ v = none ∧ (I' = tdH I1 (chOut (fun e t => I1 (39 + e) t) k (k + 1) (2147483647, I 37 2, I 37 3)) ∧ J' = J1)) hk (k + 1) (2147483647, I 37 2, I 37 3) (by omega) ?_
  · rw [← hI]
    refine q_forget (L' := [some (.ref 37), some (.int (nI (k + 1) - nI 1)), some (.ref 16), some (.ref 4), some (.int (nI (k + 1) - nI 1)), none, none]) (by repeat (first | exact trivial | refine And.intro rfl ?_)) ?_
    rw [nI_s1] at key ⊢
    exact key
  refine q_vret rfl dX4_choose_107 ⟨rfl, rfl, rfl, ?_⟩
  exact ⟨rfl, rfl⟩
def doorAtI (z r j : Nat) : Int32 := if j < z then nI 0 else if j < z + r then nI 1 else nI 2
theorem S_doorAt {d z r j : Nat} {I : HI} {J : HJ} (h1 : I 37 2 = nI z) (h2 : I 37 3 = nI r) (hz : z ≤ 100) (hr : r ≤ 100) (hj : j ≤ 100) : MIp mX4_doorAt d [.ref 37, .int (nI j)] shA I J RA (doorAtI z r j) := by
  refine Mt.of (L := [some (.ref 37), some (.int (nI j))]) (by decide +kernel) (Nat.le_of_ble_eq_true rfl) rfl ?_
  refine q_iload_n dX4_doorAt_0 (rfl : 0 + 1 = 1) rfl ?_
  refine q_aload_n dX4_doorAt_1 (rfl : 1 + 1 = 2) rfl ?_
  refine q_getI dX4_doorAt_2 (rfl : 2 + 3 = 5) fX4_20 (by first | rfl | assumption) ?_
  try simp (disch := omega) only [wr_hit, wr_p, wr_k, nI_add, pk_mul, nI_1, nI_s1, pk_sub, h1, h2]
  refine q_icmp_ge_n (q := 10) (by omega) (by omega) dX4_doorAt_5 (by decide) (rfl : 5 + 3 = 8) (fun q => ?_) (fun q => ?_)
  ·
    refine q_iload_n dX4_doorAt_10 (rfl : 10 + 1 = 11) rfl ?_
    refine q_aload_n dX4_doorAt_11 (rfl : 11 + 1 = 12) rfl ?_
    refine q_getI dX4_doorAt_12 (rfl : 12 + 3 = 15) fX4_20 (by first | rfl | assumption) ?_
    try simp (disch := omega) only [wr_hit, wr_p, wr_k, nI_add, pk_mul, nI_1, nI_s1, pk_sub, h1, h2]
    refine q_aload_n dX4_doorAt_15 (rfl : 15 + 1 = 16) rfl ?_
    refine q_getI dX4_doorAt_16 (rfl : 16 + 3 = 19) fX4_23 (by first | rfl | assumption) ?_
    try simp (disch := omega) only [wr_hit, wr_p, wr_k, nI_add, pk_mul, nI_1, nI_s1, pk_sub, h1, h2]
    refine q_iadd dX4_doorAt_19 (rfl : 19 + 1 = 20) ?_
    try simp (disch := omega) only [wr_hit, wr_p, wr_k, nI_add, pk_mul, nI_1, nI_s1, pk_sub, h1, h2]
    refine q_icmp_ge_n (q := 27) (by omega) (by omega) dX4_doorAt_20 (by decide) (rfl : 20 + 3 = 23) (fun q2 => ?_) (fun q2 => ?_)
    ·
      refine q_iconst (v := nI 2) dX4_doorAt_27 (rfl : 27 + 1 = 28) (by decide) ?_
      refine q_iret rfl dX4_doorAt_28 ⟨rfl, rfl, _, rfl, ?_⟩
      exact ⟨by unfold doorAtI; rw [if_neg (by omega), if_neg (by omega)], rfl, rfl⟩
    ·
      refine q_iconst (v := nI 1) dX4_doorAt_23 (rfl : 23 + 1 = 24) (by decide) ?_
      refine q_goto (q := 28) dX4_doorAt_24 (by decide) ?_
      refine q_iret rfl dX4_doorAt_28 ⟨rfl, rfl, _, rfl, ?_⟩
      exact ⟨by unfold doorAtI; rw [if_neg (by omega), if_pos (by omega)], rfl, rfl⟩
  ·
    refine q_iconst (v := nI 0) dX4_doorAt_8 (rfl : 8 + 1 = 9) (by decide) ?_
    refine q_iret rfl dX4_doorAt_9 ⟨rfl, rfl, _, rfl, ?_⟩
    exact ⟨by unfold doorAtI; rw [if_pos (by omega)], rfl, rfl⟩
end
section
/-! the class's letting go -/
abbrev LSt : Type := Int32 × Int32 × Int32 × (Nat → Int32)
def lsOf (X : HI) : LSt := (X 42 1, X 42 2, X 42 3, X 43)
def lsH (X : HI) (s : LSt) : HI := fun a b => if a = 42 then (if b = 1 then s.1 else if b = 2 then s.2.1 else if b = 3 then s.2.2.1 else X a b) else if a = 43 then s.2.2.2 b else X a b
theorem lsOf_H {X : HI} {s : LSt} : lsOf (lsH X s) = s := by
  unfold lsOf lsH
  simp
theorem lsH_H {X : HI} {s s' : LSt} : lsH (lsH X s) s' = lsH X s' := by
  funext a b
  unfold lsH
  by_cases h1 : a = 42
  · simp only [h1, if_true]
    by_cases b1 : b = 1
    · simp [b1]
    · by_cases b2 : b = 2
      · simp [b2]
      · by_cases b3 : b = 3
        · simp [b3]
        · simp [b1, b2, b3]
  · by_cases h2 : a = 43
    · simp [h2]
    · simp [h1, h2]
theorem lsH_of {X : HI} : lsH X (lsOf X) = X := by
  funext a b
  unfold lsH lsOf
  by_cases h1 : a = 42
  · simp only [h1, if_true]
    by_cases b1 : b = 1
    · simp [b1]
    · by_cases b2 : b = 2
      · simp [b2]
      · by_cases b3 : b = 3
        · simp [b3]
        · simp [b1, b2, b3]
  · by_cases h2 : a = 43
    · simp [h2]
    · simp [h1, h2]
theorem lsH_o {X : HI} {s : LSt} {a : Nat} (h : a ≠ 42 ∧ a ≠ 43) : lsH X s a = X a := by
  funext b
  simp [lsH, h.1, h.2]
def pbS (t h : Int32) (y : Nat) (s : LSt) : LSt := if 0 < t then (s.1 + t, s.2.1 + t * h, s.2.2.1 + (if s.2.2.2 y = 0 then nI 1 else nI 0), upd s.2.2.2 y (s.2.2.2 y + nI 1)) else s
def toS (t h : Int32) (y : Nat) (s : LSt) : LSt := if 0 < t then (s.1 - t, s.2.1 - t * h, s.2.2.1 - (if s.2.2.2 y - nI 1 = 0 then nI 1 else nI 0), upd s.2.2.2 y (s.2.2.2 y - nI 1)) else s
theorem nI0z : nI 0 = 0 := nI_0
theorem S_putBack {d y : Nat} {X : HI} {J : HJ} {t h : Int32} (hy : y < 100) : MV mX1_putBack d [.ref 42, .int t, .int h, .int (nI y)] shA X J RA (fun I' J' => I' = lsH X (pbS t h y (lsOf X)) ∧ J' = J) := by
  refine Mt.of (L := [some (.ref 42), some (.int t), some (.int h), some (.int (nI y))]) (by decide +kernel) (Nat.le_of_ble_eq_true rfl) rfl ?_
  refine q_iload_n dX1_putBack_0 (rfl : 0 + 1 = 1) rfl ?_
  refine q_if_le (q := 59) dX1_putBack_1 (by decide) (rfl : 1 + 3 = 4) (fun z => ?_) (fun z => ?_)
  ·
    refine q_vret rfl dX1_putBack_59 ⟨rfl, rfl, rfl, ?_⟩
    have e : pbS t h y (lsOf X) = lsOf X := by unfold pbS; rw [if_neg (Int32.not_lt.mpr z)]
    rw [e, lsH_of]
    exact ⟨rfl, rfl⟩
  ·
    have hpos := Int32.not_le.mp z
    have rest : ∀ c : Int32, c = (if X 43 y = 0 then nI 1 else nI 0) → Wm mX1_putBack (TM d 0 0 false shA.length (fun sh' v I' J' R' => sh' = shA ∧ R' = RA ∧ v = none ∧ (I' = lsH X (pbS t h y (lsOf X)) ∧ J' = J))) 0 0 shA 45 [some (.ref 42), some (.int t), some (.int h), some (.int (nI y))] [.int c, .int (X 42 3), .ref 42] (wr (wr X 42 1 (X 42 1 + t)) 42 2 (X 42 2 + t * h)) J RA := by
      intro c hc
      refine q_iadd dX1_putBack_45 (rfl : 45 + 1 = 46) ?_
      try simp (disch := omega) only [wr_hit, wr_p, wr_k, nI_add, pk_mul, nI_1, nI_s1, pk_sub]
      refine q_putI dX1_putBack_46 (rfl : 46 + 3 = 49) pX1_22 (by first | rfl | assumption) ?_
      refine q_aload_n dX1_putBack_49 (rfl : 49 + 1 = 50) rfl ?_
      refine q_getR dX1_putBack_50 (rfl : 50 + 3 = 53) fX1_9 (by first | rfl | assumption) (by first | rfl | assumption) ?_
      refine q_iload_n dX1_putBack_53 (rfl : 53 + 1 = 54) rfl ?_
      refine q_dup2 dX1_putBack_54 (rfl : 54 + 1 = 55) rfl rfl ?_
      refine q_iald dX1_putBack_55 (rfl : 55 + 1 = 56) (by first | rfl | assumption) (by first | assumption | omega) (by decide) ?_
      try simp (disch := omega) only [wr_hit, wr_p, wr_k, nI_add, pk_mul, nI_1, nI_s1, pk_sub]
      refine q_iconst (v := nI 1) dX1_putBack_56 (rfl : 56 + 1 = 57) (by decide) ?_
      refine q_iadd dX1_putBack_57 (rfl : 57 + 1 = 58) ?_
      try simp (disch := omega) only [wr_hit, wr_p, wr_k, nI_add, pk_mul, nI_1, nI_s1, pk_sub]
      refine q_iast dX1_putBack_58 (rfl : 58 + 1 = 59) (by first | rfl | assumption) (by first | assumption | omega) (by decide) ?_
      refine q_vret rfl dX1_putBack_59 ⟨rfl, rfl, rfl, ?_⟩
      refine ⟨?_, rfl⟩
      have e : pbS t h y (lsOf X) = (X 42 1 + t, X 42 2 + t * h, X 42 3 + c, upd (X 43) y (X 43 y + nI 1)) := by
        unfold pbS lsOf
        rw [if_pos hpos, hc]
      rw [e]
      funext a b
      unfold wr lsH upd
      by_cases h1 : a = 42
      · subst h1
        by_cases b1 : b = 1
        · simp [b1]
        · by_cases b2 : b = 2
          · simp [b2]
          · by_cases b3 : b = 3
            · simp [b3]
            · simp [b1, b2, b3]
      · by_cases h2 : a = 43
        · subst h2
          by_cases hb : b = y <;> simp [hb]
        · simp [h1, h2]
    refine q_aload_n dX1_putBack_4 (rfl : 4 + 1 = 5) rfl ?_
    refine q_dup dX1_putBack_5 (rfl : 5 + 1 = 6) rfl ?_
    refine q_getI dX1_putBack_6 (rfl : 6 + 3 = 9) fX1_15 (by first | rfl | assumption) ?_
    try simp (disch := omega) only [wr_hit, wr_p, wr_k, nI_add, pk_mul, nI_1, nI_s1, pk_sub]
    refine q_iload_n dX1_putBack_9 (rfl : 9 + 1 = 10) rfl ?_
    refine q_iadd dX1_putBack_10 (rfl : 10 + 1 = 11) ?_
    try simp (disch := omega) only [wr_hit, wr_p, wr_k, nI_add, pk_mul, nI_1, nI_s1, pk_sub]
    refine q_putI dX1_putBack_11 (rfl : 11 + 3 = 14) pX1_15 (by first | rfl | assumption) ?_
    refine q_aload_n dX1_putBack_14 (rfl : 14 + 1 = 15) rfl ?_
    refine q_dup dX1_putBack_15 (rfl : 15 + 1 = 16) rfl ?_
    refine q_getI dX1_putBack_16 (rfl : 16 + 3 = 19) fX1_19 (by first | rfl | assumption) ?_
    try simp (disch := omega) only [wr_hit, wr_p, wr_k, nI_add, pk_mul, nI_1, nI_s1, pk_sub]
    refine q_iload_n dX1_putBack_19 (rfl : 19 + 1 = 20) rfl ?_
    refine q_iload_n dX1_putBack_20 (rfl : 20 + 1 = 21) rfl ?_
    refine q_imul dX1_putBack_21 (rfl : 21 + 1 = 22) ?_
    try simp (disch := omega) only [wr_hit, wr_p, wr_k, nI_add, pk_mul, nI_1, nI_s1, pk_sub]
    refine q_iadd dX1_putBack_22 (rfl : 22 + 1 = 23) ?_
    try simp (disch := omega) only [wr_hit, wr_p, wr_k, nI_add, pk_mul, nI_1, nI_s1, pk_sub]
    refine q_putI dX1_putBack_23 (rfl : 23 + 3 = 26) pX1_19 (by first | rfl | assumption) ?_
    refine q_aload_n dX1_putBack_26 (rfl : 26 + 1 = 27) rfl ?_
    refine q_dup dX1_putBack_27 (rfl : 27 + 1 = 28) rfl ?_
    refine q_getI dX1_putBack_28 (rfl : 28 + 3 = 31) fX1_22 (by first | rfl | assumption) ?_
    try simp (disch := omega) only [wr_hit, wr_p, wr_k, nI_add, pk_mul, nI_1, nI_s1, pk_sub]
    refine q_aload_n dX1_putBack_31 (rfl : 31 + 1 = 32) rfl ?_
    refine q_getR dX1_putBack_32 (rfl : 32 + 3 = 35) fX1_9 (by first | rfl | assumption) (by first | rfl | assumption) ?_
    refine q_iload_n dX1_putBack_35 (rfl : 35 + 1 = 36) rfl ?_
    refine q_iald dX1_putBack_36 (rfl : 36 + 1 = 37) (by first | rfl | assumption) (by first | assumption | omega) (by decide) ?_
    try simp (disch := omega) only [wr_hit, wr_p, wr_k, nI_add, pk_mul, nI_1, nI_s1, pk_sub]
    refine q_if_ne (q := 44) dX1_putBack_37 (by decide) (rfl : 37 + 3 = 40) (fun e => ?_) (fun e => ?_)
    ·
      refine q_iconst (v := nI 0) dX1_putBack_44 (rfl : 44 + 1 = 45) (by decide) ?_
      exact rest _ (by rw [if_neg e])
    ·
      refine q_iconst (v := nI 1) dX1_putBack_40 (rfl : 40 + 1 = 41) (by decide) ?_
      refine q_goto (q := 45) dX1_putBack_41 (by decide) ?_
      exact rest _ (by rw [if_pos e])
theorem S_takeOut {d y : Nat} {X : HI} {J : HJ} {t h : Int32} (hy : y < 100) : MV mX1_takeOut d [.ref 42, .int t, .int h, .int (nI y)] shA X J RA (fun I' J' => I' = lsH X (toS t h y (lsOf X)) ∧ J' = J) := by
  refine Mt.of (L := [some (.ref 42), some (.int t), some (.int h), some (.int (nI y))]) (by decide +kernel) (Nat.le_of_ble_eq_true rfl) rfl ?_
  refine q_iload_n dX1_takeOut_0 (rfl : 0 + 1 = 1) rfl ?_
  refine q_if_le (q := 59) dX1_takeOut_1 (by decide) (rfl : 1 + 3 = 4) (fun z => ?_) (fun z => ?_)
  ·
    refine q_vret rfl dX1_takeOut_59 ⟨rfl, rfl, rfl, ?_⟩
    have e : toS t h y (lsOf X) = lsOf X := by unfold toS; rw [if_neg (Int32.not_lt.mpr z)]
    rw [e, lsH_of]
    exact ⟨rfl, rfl⟩
  ·
    have hpos := Int32.not_le.mp z
    have rest : ∀ c : Int32, c = (if X 43 y - nI 1 = 0 then nI 1 else nI 0) → Wm mX1_takeOut (TM d 0 0 false shA.length (fun sh' v I' J' R' => sh' = shA ∧ R' = RA ∧ v = none ∧ (I' = lsH X (toS t h y (lsOf X)) ∧ J' = J))) 0 0 shA 55 [some (.ref 42), some (.int t), some (.int h), some (.int (nI y))] [.int c, .int (X 42 3), .ref 42] (wr (wr (wr X 42 1 (X 42 1 - t)) 42 2 (X 42 2 - t * h)) 43 y (X 43 y - nI 1)) J RA := by
      intro c hc
      refine q_isub dX1_takeOut_55 (rfl : 55 + 1 = 56) ?_
      try simp (disch := omega) only [wr_hit, wr_p, wr_k, nI_add, pk_mul, nI_1, nI_s1, pk_sub]
      refine q_putI dX1_takeOut_56 (rfl : 56 + 3 = 59) pX1_22 (by first | rfl | assumption) ?_
      refine q_vret rfl dX1_takeOut_59 ⟨rfl, rfl, rfl, ?_⟩
      refine ⟨?_, rfl⟩
      have e : toS t h y (lsOf X) = (X 42 1 - t, X 42 2 - t * h, X 42 3 - c, upd (X 43) y (X 43 y - nI 1)) := by
        unfold toS lsOf
        rw [if_pos hpos, hc]
      rw [e]
      funext a b
      unfold wr lsH upd
      by_cases h1 : a = 42
      · subst h1
        by_cases b1 : b = 1
        · simp [b1]
        · by_cases b2 : b = 2
          · simp [b2]
          · by_cases b3 : b = 3
            · simp [b3]
            · simp [b1, b2, b3]
      · by_cases h2 : a = 43
        · subst h2
          by_cases hb : b = y <;> simp [hb]
        · simp [h1, h2]
    refine q_aload_n dX1_takeOut_4 (rfl : 4 + 1 = 5) rfl ?_
    refine q_dup dX1_takeOut_5 (rfl : 5 + 1 = 6) rfl ?_
    refine q_getI dX1_takeOut_6 (rfl : 6 + 3 = 9) fX1_15 (by first | rfl | assumption) ?_
    try simp (disch := omega) only [wr_hit, wr_p, wr_k, nI_add, pk_mul, nI_1, nI_s1, pk_sub]
    refine q_iload_n dX1_takeOut_9 (rfl : 9 + 1 = 10) rfl ?_
    refine q_isub dX1_takeOut_10 (rfl : 10 + 1 = 11) ?_
    try simp (disch := omega) only [wr_hit, wr_p, wr_k, nI_add, pk_mul, nI_1, nI_s1, pk_sub]
    refine q_putI dX1_takeOut_11 (rfl : 11 + 3 = 14) pX1_15 (by first | rfl | assumption) ?_
    refine q_aload_n dX1_takeOut_14 (rfl : 14 + 1 = 15) rfl ?_
    refine q_dup dX1_takeOut_15 (rfl : 15 + 1 = 16) rfl ?_
    refine q_getI dX1_takeOut_16 (rfl : 16 + 3 = 19) fX1_19 (by first | rfl | assumption) ?_
    try simp (disch := omega) only [wr_hit, wr_p, wr_k, nI_add, pk_mul, nI_1, nI_s1, pk_sub]
    refine q_iload_n dX1_takeOut_19 (rfl : 19 + 1 = 20) rfl ?_
    refine q_iload_n dX1_takeOut_20 (rfl : 20 + 1 = 21) rfl ?_
    refine q_imul dX1_takeOut_21 (rfl : 21 + 1 = 22) ?_
    try simp (disch := omega) only [wr_hit, wr_p, wr_k, nI_add, pk_mul, nI_1, nI_s1, pk_sub]
    refine q_isub dX1_takeOut_22 (rfl : 22 + 1 = 23) ?_
    try simp (disch := omega) only [wr_hit, wr_p, wr_k, nI_add, pk_mul, nI_1, nI_s1, pk_sub]
    refine q_putI dX1_takeOut_23 (rfl : 23 + 3 = 26) pX1_19 (by first | rfl | assumption) ?_
    refine q_aload_n dX1_takeOut_26 (rfl : 26 + 1 = 27) rfl ?_
    refine q_getR dX1_takeOut_27 (rfl : 27 + 3 = 30) fX1_9 (by first | rfl | assumption) (by first | rfl | assumption) ?_
    refine q_iload_n dX1_takeOut_30 (rfl : 30 + 1 = 31) rfl ?_
    refine q_dup2 dX1_takeOut_31 (rfl : 31 + 1 = 32) rfl rfl ?_
    refine q_iald dX1_takeOut_32 (rfl : 32 + 1 = 33) (by first | rfl | assumption) (by first | assumption | omega) (by decide) ?_
    try simp (disch := omega) only [wr_hit, wr_p, wr_k, nI_add, pk_mul, nI_1, nI_s1, pk_sub]
    refine q_iconst (v := nI 1) dX1_takeOut_33 (rfl : 33 + 1 = 34) (by decide) ?_
    refine q_isub dX1_takeOut_34 (rfl : 34 + 1 = 35) ?_
    try simp (disch := omega) only [wr_hit, wr_p, wr_k, nI_add, pk_mul, nI_1, nI_s1, pk_sub]
    refine q_iast dX1_takeOut_35 (rfl : 35 + 1 = 36) (by first | rfl | assumption) (by first | assumption | omega) (by decide) ?_
    refine q_aload_n dX1_takeOut_36 (rfl : 36 + 1 = 37) rfl ?_
    refine q_dup dX1_takeOut_37 (rfl : 37 + 1 = 38) rfl ?_
    refine q_getI dX1_takeOut_38 (rfl : 38 + 3 = 41) fX1_22 (by first | rfl | assumption) ?_
    try simp (disch := omega) only [wr_hit, wr_p, wr_k, nI_add, pk_mul, nI_1, nI_s1, pk_sub]
    refine q_aload_n dX1_takeOut_41 (rfl : 41 + 1 = 42) rfl ?_
    refine q_getR dX1_takeOut_42 (rfl : 42 + 3 = 45) fX1_9 (by first | rfl | assumption) (by first | rfl | assumption) ?_
    refine q_iload_n dX1_takeOut_45 (rfl : 45 + 1 = 46) rfl ?_
    refine q_iald dX1_takeOut_46 (rfl : 46 + 1 = 47) (by first | rfl | assumption) (by first | assumption | omega) (by decide) ?_
    try simp (disch := omega) only [wr_hit, wr_p, wr_k, nI_add, pk_mul, nI_1, nI_s1, pk_sub]
    refine q_if_ne (q := 54) dX1_takeOut_47 (by decide) (rfl : 47 + 3 = 50) (fun e => ?_) (fun e => ?_)
    ·
      refine q_iconst (v := nI 0) dX1_takeOut_54 (rfl : 54 + 1 = 55) (by decide) ?_
      exact rest _ (by rw [if_neg e])
    ·
      refine q_iconst (v := nI 1) dX1_takeOut_50 (rfl : 50 + 1 = 51) (by decide) ?_
      refine q_goto (q := 55) dX1_takeOut_51 (by decide) ?_
      exact rest _ (by rw [if_pos e])
/-- one bit of a set -/
theorem bitI {s i : Nat} (hs : s < 2 ^ 31) (hi : i < 32) : (nI s >>> (nI i &&& 31)) &&& nI 1 = nI (s / 2 ^ i % 2) := by
  rw [pk_andN (n := i) (by omega) (m := 31) 5 (by decide), Nat.mod_eq_of_lt (by omega)]
  have e : ((nI i).toBitVec.smod 32).toNat = i := by
    have : ∀ j, j < 32 → ((nI j).toBitVec.smod 32).toNat = j := by decide +kernel
    exact this i hi
  rw [pk_shrN hs _ i e]
  have hlt : s / 2 ^ i < 2 ^ 32 := Nat.lt_of_le_of_lt (Nat.div_le_self _ _) (by omega)
  exact pk_andN hlt (m := nI 1) 1 (by decide)
theorem shlI {i : Nat} (hi : i < 31) : nI 1 <<< (nI i &&& 31) = nI (2 ^ i) := by
  rw [pk_andN (n := i) (by omega) (m := 31) 5 (by decide), Nat.mod_eq_of_lt (by omega)]
  have e : ((nI i).toBitVec.smod 32).toNat = i := by
    have : ∀ j, j < 32 → ((nI j).toBitVec.smod 32).toNat = j := by decide +kernel
    exact this i (by omega)
  have h2 : 2 ^ i < 2 ^ 32 := Nat.pow_lt_pow_right (by omega) (by omega)
  rw [pk_shlN (n := 1) _ i e (by omega), Nat.one_mul]
def goS (t h : Nat → Int32) (yr : Nat → Nat) (s k i : Nat) (st : LSt) : LSt := match k with
  | 0 => st
  | k + 1 => if s / 2 ^ i % 2 = 0 then toS (t i) (h i) (yr i) st else goS t h yr s k (i + 1) (pbS (t i) (h i) (yr i) st)
theorem L_goOn {d n0 : Nat} {Po : PO} {X : HI} {J : HJ} {n s : Nat} {yr : Nat → Nat} (hs : s < 2 ^ 31) (hn : X 16 0 = nI n) (h12 : n ≤ 12) (hy : ∀ i, i < n → X 5 i = nI (yr i) ∧ yr i < 100) :
    ∀ (k i : Nat) (st : LSt), i + k = n → Po shA none (lsH X (goS (X 17) (X 7) yr s k i st)) J RA → Wm mX1_goOn (TM (d + 1) 0 0 false n0 Po) 0 0 shA 3 [some (.ref 42), some (.int (nI s)), some (.ref 16), some (.ref 4), some (.int (nI i))] [] (lsH X st) J RA := by
  intro k
  induction k with
  | zero =>
    intro i st hi hPo
    obtain rfl : i = n := by omega
    have o : ∀ a, a ≠ 42 ∧ a ≠ 43 → lsH X st a = X a := fun a ha => lsH_o ha
    have e0 : lsH X st 16 0 = nI i := by rw [o 16 (by omega)]; exact hn
    refine q_iload dX1_goOn_3 (rfl : 3 + 2 = 5) rfl ?_
    refine q_aload_n dX1_goOn_5 (rfl : 5 + 1 = 6) rfl ?_
    refine q_getI dX1_goOn_6 (rfl : 6 + 3 = 9) fX1_38 (by first | rfl | assumption) ?_
    try simp (disch := omega) only [wr_hit, wr_p, wr_k, nI_add, pk_mul, nI_1, nI_s1, pk_sub, e0]
    refine q_icmp_ge_n (q := 78) (by omega) (by omega) dX1_goOn_9 (by decide) (rfl : 9 + 3 = 12) (fun h => ?_) (fun h => ?_)
    ·
      exact q_vret rfl dX1_goOn_78 hPo
    ·
      omega
  | succ k ih =>
    intro i st hi hPo
    have o : ∀ a, a ≠ 42 ∧ a ≠ 43 → lsH X st a = X a := fun a ha => lsH_o ha
    have e0 : lsH X st 16 0 = nI n := by rw [o 16 (by omega)]; exact hn
    have e17 := o 17 (by omega)
    have e7 := o 7 (by omega)
    have e5 := o 5 (by omega)
    refine q_iload dX1_goOn_3 (rfl : 3 + 2 = 5) rfl ?_
    refine q_aload_n dX1_goOn_5 (rfl : 5 + 1 = 6) rfl ?_
    refine q_getI dX1_goOn_6 (rfl : 6 + 3 = 9) fX1_38 (by first | rfl | assumption) ?_
    try simp (disch := omega) only [wr_hit, wr_p, wr_k, nI_add, pk_mul, nI_1, nI_s1, pk_sub, e0]
    refine q_icmp_ge_n (q := 78) (by omega) (by omega) dX1_goOn_9 (by decide) (rfl : 9 + 3 = 12) (fun h => ?_) (fun h => ?_)
    · omega
    ·
      obtain ⟨y1, y2⟩ := hy i h
      refine q_iload_n dX1_goOn_12 (rfl : 12 + 1 = 13) rfl ?_
      refine q_iload dX1_goOn_13 (rfl : 13 + 2 = 15) rfl ?_
      refine q_ishr dX1_goOn_15 (rfl : 15 + 1 = 16) ?_
      refine q_iconst (v := nI 1) dX1_goOn_16 (rfl : 16 + 1 = 17) (by decide) ?_
      refine q_iand dX1_goOn_17 (rfl : 17 + 1 = 18) ?_
      rw [bitI hs (by omega)]
      refine q_if_ne_n (q := 47) (by omega) dX1_goOn_18 (by decide) (rfl : 18 + 3 = 21) (fun hb => ?_) (fun hb => ?_)
      ·
        refine q_aload_n dX1_goOn_47 (rfl : 47 + 1 = 48) rfl ?_
        refine q_aload_n dX1_goOn_48 (rfl : 48 + 1 = 49) rfl ?_
        refine q_getR dX1_goOn_49 (rfl : 49 + 3 = 52) fX1_57 (by first | rfl | assumption) (by first | rfl | assumption) ?_
        refine q_iload dX1_goOn_52 (rfl : 52 + 2 = 54) rfl ?_
        refine q_iald dX1_goOn_54 (rfl : 54 + 1 = 55) (by first | rfl | assumption) (by first | assumption | omega) (by decide) ?_
        try simp (disch := omega) only [wr_hit, wr_p, wr_k, nI_add, pk_mul, nI_1, nI_s1, pk_sub, e17, e7, e5, y1]
        refine q_aload_n dX1_goOn_55 (rfl : 55 + 1 = 56) rfl ?_
        refine q_getR dX1_goOn_56 (rfl : 56 + 3 = 59) fX1_60 (by first | rfl | assumption) (by first | rfl | assumption) ?_
        refine q_iload dX1_goOn_59 (rfl : 59 + 2 = 61) rfl ?_
        refine q_iald dX1_goOn_61 (rfl : 61 + 1 = 62) (by first | rfl | assumption) (by first | assumption | omega) (by decide) ?_
        try simp (disch := omega) only [wr_hit, wr_p, wr_k, nI_add, pk_mul, nI_1, nI_s1, pk_sub, e17, e7, e5, y1]
        refine q_aload_n dX1_goOn_62 (rfl : 62 + 1 = 63) rfl ?_
        refine q_getR dX1_goOn_63 (rfl : 63 + 3 = 66) fX1_65 (by first | rfl | assumption) (by first | rfl | assumption) ?_
        refine q_iload dX1_goOn_66 (rfl : 66 + 2 = 68) rfl ?_
        refine q_iald dX1_goOn_68 (rfl : 68 + 1 = 69) (by first | rfl | assumption) (by first | assumption | omega) (by decide) ?_
        try simp (disch := omega) only [wr_hit, wr_p, wr_k, nI_add, pk_mul, nI_1, nI_s1, pk_sub, e17, e7, e5, y1]
        refine q_callVV (S_putBack (d := d) y2) dX1_goOn_69 (rfl : 69 + 3 = 72) lX1_68 vX1_putBack (by first | rfl | assumption) rfl rfl (Nat.le_of_ble_eq_true rfl) TM_room TM_cs ?_
        intro I1 J1 hp
        obtain ⟨rfl, rfl⟩ := hp
        rw [lsOf_H, lsH_H]
        first | refine q_iinc1 dX1_goOn_72 (rfl : 72 + 3 = 75) rfl (by decide) ?_ | refine q_iinc dX1_goOn_72 (rfl : 72 + 3 = 75) rfl rfl (by decide) ?_
        refine q_goto (q := 3) dX1_goOn_75 (by decide) ?_
        refine ih (i + 1) _ (by omega) ?_
        have e : goS (X 17) (X 7) yr s (k + 1) i st = goS (X 17) (X 7) yr s k (i + 1) (pbS (X 17 i) (X 7 i) (yr i) st) := by
          simp only [goS, if_neg hb]
        rw [e] at hPo
        exact hPo
      ·
        refine q_aload_n dX1_goOn_21 (rfl : 21 + 1 = 22) rfl ?_
        refine q_aload_n dX1_goOn_22 (rfl : 22 + 1 = 23) rfl ?_
        refine q_getR dX1_goOn_23 (rfl : 23 + 3 = 26) fX1_57 (by first | rfl | assumption) (by first | rfl | assumption) ?_
        refine q_iload dX1_goOn_26 (rfl : 26 + 2 = 28) rfl ?_
        refine q_iald dX1_goOn_28 (rfl : 28 + 1 = 29) (by first | rfl | assumption) (by first | assumption | omega) (by decide) ?_
        try simp (disch := omega) only [wr_hit, wr_p, wr_k, nI_add, pk_mul, nI_1, nI_s1, pk_sub, e17, e7, e5, y1]
        refine q_aload_n dX1_goOn_29 (rfl : 29 + 1 = 30) rfl ?_
        refine q_getR dX1_goOn_30 (rfl : 30 + 3 = 33) fX1_60 (by first | rfl | assumption) (by first | rfl | assumption) ?_
        refine q_iload dX1_goOn_33 (rfl : 33 + 2 = 35) rfl ?_
        refine q_iald dX1_goOn_35 (rfl : 35 + 1 = 36) (by first | rfl | assumption) (by first | assumption | omega) (by decide) ?_
        try simp (disch := omega) only [wr_hit, wr_p, wr_k, nI_add, pk_mul, nI_1, nI_s1, pk_sub, e17, e7, e5, y1]
        refine q_aload_n dX1_goOn_36 (rfl : 36 + 1 = 37) rfl ?_
        refine q_getR dX1_goOn_37 (rfl : 37 + 3 = 40) fX1_65 (by first | rfl | assumption) (by first | rfl | assumption) ?_
        refine q_iload dX1_goOn_40 (rfl : 40 + 2 = 42) rfl ?_
        refine q_iald dX1_goOn_42 (rfl : 42 + 1 = 43) (by first | rfl | assumption) (by first | assumption | omega) (by decide) ?_
        try simp (disch := omega) only [wr_hit, wr_p, wr_k, nI_add, pk_mul, nI_1, nI_s1, pk_sub, e17, e7, e5, y1]
        refine q_callVV (S_takeOut (d := d) y2) dX1_goOn_43 (rfl : 43 + 3 = 46) lX1_72 vX1_takeOut (by first | rfl | assumption) rfl rfl (Nat.le_of_ble_eq_true rfl) TM_room TM_cs ?_
        intro I1 J1 hp
        obtain ⟨rfl, rfl⟩ := hp
        rw [lsOf_H, lsH_H]
        have e : goS (X 17) (X 7) yr s (k + 1) i st = toS (X 17 i) (X 7 i) (yr i) st := by
          simp only [goS, if_pos hb]
        rw [e] at hPo
        exact q_vret rfl dX1_goOn_46 hPo
theorem S_goOn {d n s : Nat} {X : HI} {J : HJ} {yr : Nat → Nat} (hs : s < 2 ^ 31) (hn : X 16 0 = nI n) (h12 : n ≤ 12) (hy : ∀ i, i < n → X 5 i = nI (yr i) ∧ yr i < 100) : MV mX1_goOn (d + 1) [.ref 42, .int (nI s), .ref 16, .ref 4] shA X J RA (fun I' J' => I' = lsH X (goS (X 17) (X 7) yr s n 0 (lsOf X)) ∧ J' = J) := by
  refine Mt.of (L := [some (.ref 42), some (.int (nI s)), some (.ref 16), some (.ref 4), none]) (by decide +kernel) (Nat.le_of_ble_eq_true rfl) rfl ?_
  refine q_iconst (v := nI 0) dX1_goOn_0 (rfl : 0 + 1 = 1) (by decide) ?_
  refine q_istore dX1_goOn_1 (rfl : 1 + 2 = 3) (by decide) ?_
  have key := L_goOn (d := d) (n0 := shA.length) (X := X) (J := J) (Po := fun sh' v I' J' R' => sh' = shA ∧ R' = RA ∧ v = none ∧ (I' = lsH X (goS (X 17) (X 7) yr s n 0 (lsOf X)) ∧ J' = J)) hs hn h12 hy n 0 (lsOf X) (by omega) ⟨rfl, rfl, rfl, rfl, rfl⟩
  rw [lsH_of] at key
  exact key
def betB (X : HI) : Bool := decide (X 42 5 < X 42 3) || (decide (X 42 3 = X 42 5) && decide (X 42 6 < X 42 1))
theorem S_isBetter {d : Nat} {X : HI} {J : HJ} : MIp mX1_isBetter d [.ref 42] shA X J RA (bI (betB X)) := by
  refine Mt.of (L := [some (.ref 42)]) (by decide +kernel) (Nat.le_of_ble_eq_true rfl) rfl ?_
  refine q_aload_n dX1_isBetter_0 (rfl : 0 + 1 = 1) rfl ?_
  refine q_getI dX1_isBetter_1 (rfl : 1 + 3 = 4) fX1_22 (by first | rfl | assumption) ?_
  refine q_aload_n dX1_isBetter_4 (rfl : 4 + 1 = 5) rfl ?_
  refine q_getI dX1_isBetter_5 (rfl : 5 + 3 = 8) fX1_28 (by first | rfl | assumption) ?_
  refine q_icmp_gt (q := 33) dX1_isBetter_8 (by decide) (rfl : 8 + 3 = 11) (fun h1 => ?_) (fun h1 => ?_)
  ·
    refine q_iconst (v := nI 1) dX1_isBetter_33 (rfl : 33 + 1 = 34) (by decide) ?_
    refine q_goto (q := 38) dX1_isBetter_34 (by decide) ?_
    refine q_zret rfl dX1_isBetter_38 (by first | exact bI_01 _ | exact Or.inl rfl | exact Or.inr rfl) ⟨rfl, rfl, _, rfl, ?_⟩
    have e : betB X = true := by simp [betB, h1]
    rw [e]
    exact ⟨rfl, rfl, rfl⟩
  ·
    refine q_aload_n dX1_isBetter_11 (rfl : 11 + 1 = 12) rfl ?_
    refine q_getI dX1_isBetter_12 (rfl : 12 + 3 = 15) fX1_22 (by first | rfl | assumption) ?_
    refine q_aload_n dX1_isBetter_15 (rfl : 15 + 1 = 16) rfl ?_
    refine q_getI dX1_isBetter_16 (rfl : 16 + 3 = 19) fX1_28 (by first | rfl | assumption) ?_
    refine q_icmp_ne (q := 37) dX1_isBetter_19 (by decide) (rfl : 19 + 3 = 22) (fun h2 => ?_) (fun h2 => ?_)
    ·
      refine q_iconst (v := nI 0) dX1_isBetter_37 (rfl : 37 + 1 = 38) (by decide) ?_
      refine q_zret rfl dX1_isBetter_38 (by first | exact bI_01 _ | exact Or.inl rfl | exact Or.inr rfl) ⟨rfl, rfl, _, rfl, ?_⟩
      have e : betB X = false := by simp only [betB, decide_eq_false h1, decide_eq_false h2, Bool.false_and, Bool.or_false]
      rw [e]
      exact ⟨rfl, rfl, rfl⟩
    ·
      refine q_aload_n dX1_isBetter_22 (rfl : 22 + 1 = 23) rfl ?_
      refine q_getI dX1_isBetter_23 (rfl : 23 + 3 = 26) fX1_15 (by first | rfl | assumption) ?_
      refine q_aload_n dX1_isBetter_26 (rfl : 26 + 1 = 27) rfl ?_
      refine q_getI dX1_isBetter_27 (rfl : 27 + 3 = 30) fX1_31 (by first | rfl | assumption) ?_
      refine q_icmp_le (q := 37) dX1_isBetter_30 (by decide) (rfl : 30 + 3 = 33) (fun h3 => ?_) (fun h3 => ?_)
      ·
        refine q_iconst (v := nI 0) dX1_isBetter_37 (rfl : 37 + 1 = 38) (by decide) ?_
        refine q_zret rfl dX1_isBetter_38 (by first | exact bI_01 _ | exact Or.inl rfl | exact Or.inr rfl) ⟨rfl, rfl, _, rfl, ?_⟩
        have e : betB X = false := by simp only [betB, decide_eq_false h1, decide_eq_false (Int32.not_lt.mpr h3), Bool.and_false, Bool.or_false]
        rw [e]
        exact ⟨rfl, rfl, rfl⟩
      ·
        refine q_iconst (v := nI 1) dX1_isBetter_33 (rfl : 33 + 1 = 34) (by decide) ?_
        refine q_goto (q := 38) dX1_isBetter_34 (by decide) ?_
        refine q_zret rfl dX1_isBetter_38 (by first | exact bI_01 _ | exact Or.inl rfl | exact Or.inr rfl) ⟨rfl, rfl, _, rfl, ?_⟩
        have e : betB X = true := by simp only [betB, decide_eq_true h2, decide_eq_true (Int32.not_le.mp h3), Bool.and_true, Bool.or_true]
        rw [e]
        exact ⟨rfl, rfl, rfl⟩
def swaS (t h : Nat → Int32) (yr : Nat → Nat) (st : LSt) (i : Nat) : LSt := match i with
  | 0 => st
  | i + 1 => pbS (t i) (h i) (yr i) (swaS t h yr st i)
theorem L_startWithAll {d n0 : Nat} {Po : PO} {X : HI} {J : HJ} {n : Nat} {yr : Nat → Nat} {st : LSt} (hn : X 16 0 = nI n) (h12 : n ≤ 12) (hy : ∀ i, i < n → X 5 i = nI (yr i) ∧ yr i < 100) (K : Wm mX1_startWithAll (TM (d + 1) 0 0 false n0 Po) 0 0 shA 61 [some (.ref 42), some (.ref 16), some (.ref 4), none] [] (lsH X (swaS (X 17) (X 7) yr st n)) J RA) :
    ∀ (i : Nat), i ≤ n → Wm mX1_startWithAll (TM (d + 1) 0 0 false n0 Po) 0 0 shA 25 [some (.ref 42), some (.ref 16), some (.ref 4), some (.int (nI i))] [] (lsH X (swaS (X 17) (X 7) yr st i)) J RA := by
  refine loopN (fun i hi ih => ?_)
  have o : ∀ a, a ≠ 42 ∧ a ≠ 43 → lsH X (swaS (X 17) (X 7) yr st i) a = X a := fun a ha => lsH_o ha
  have e0 : lsH X (swaS (X 17) (X 7) yr st i) 16 0 = nI n := by rw [o 16 (by omega)]; exact hn
  have e17 := o 17 (by omega)
  have e7 := o 7 (by omega)
  have e5 := o 5 (by omega)
  refine q_iload_n dX1_startWithAll_25 (rfl : 25 + 1 = 26) rfl ?_
  refine q_aload_n dX1_startWithAll_26 (rfl : 26 + 1 = 27) rfl ?_
  refine q_getI dX1_startWithAll_27 (rfl : 27 + 3 = 30) fX1_38 (by first | rfl | assumption) ?_
  try simp (disch := omega) only [wr_hit, wr_p, wr_k, nI_add, pk_mul, nI_1, nI_s1, pk_sub, e0]
  refine q_icmp_ge_n (q := 61) (by omega) (by omega) dX1_startWithAll_30 (by decide) (rfl : 30 + 3 = 33) (fun h => ?_) (fun h => ?_)
  ·
    obtain rfl : i = n := by omega
    refine q_forget (L' := [some (.ref 42), some (.ref 16), some (.ref 4), none]) (by repeat (first | exact trivial | refine And.intro rfl ?_)) ?_
    exact K
  ·
    obtain ⟨y1, y2⟩ := hy i h
    refine q_aload_n dX1_startWithAll_33 (rfl : 33 + 1 = 34) rfl ?_
    refine q_aload_n dX1_startWithAll_34 (rfl : 34 + 1 = 35) rfl ?_
    refine q_getR dX1_startWithAll_35 (rfl : 35 + 3 = 38) fX1_57 (by first | rfl | assumption) (by first | rfl | assumption) ?_
    refine q_iload_n dX1_startWithAll_38 (rfl : 38 + 1 = 39) rfl ?_
    refine q_iald dX1_startWithAll_39 (rfl : 39 + 1 = 40) (by first | rfl | assumption) (by first | assumption | omega) (by decide) ?_
    try simp (disch := omega) only [wr_hit, wr_p, wr_k, nI_add, pk_mul, nI_1, nI_s1, pk_sub, e17, e7, e5, y1]
    refine q_aload_n dX1_startWithAll_40 (rfl : 40 + 1 = 41) rfl ?_
    refine q_getR dX1_startWithAll_41 (rfl : 41 + 3 = 44) fX1_60 (by first | rfl | assumption) (by first | rfl | assumption) ?_
    refine q_iload_n dX1_startWithAll_44 (rfl : 44 + 1 = 45) rfl ?_
    refine q_iald dX1_startWithAll_45 (rfl : 45 + 1 = 46) (by first | rfl | assumption) (by first | assumption | omega) (by decide) ?_
    try simp (disch := omega) only [wr_hit, wr_p, wr_k, nI_add, pk_mul, nI_1, nI_s1, pk_sub, e17, e7, e5, y1]
    refine q_aload_n dX1_startWithAll_46 (rfl : 46 + 1 = 47) rfl ?_
    refine q_getR dX1_startWithAll_47 (rfl : 47 + 3 = 50) fX1_65 (by first | rfl | assumption) (by first | rfl | assumption) ?_
    refine q_iload_n dX1_startWithAll_50 (rfl : 50 + 1 = 51) rfl ?_
    refine q_iald dX1_startWithAll_51 (rfl : 51 + 1 = 52) (by first | rfl | assumption) (by first | assumption | omega) (by decide) ?_
    try simp (disch := omega) only [wr_hit, wr_p, wr_k, nI_add, pk_mul, nI_1, nI_s1, pk_sub, e17, e7, e5, y1]
    refine q_callVV (S_putBack (d := d) y2) dX1_startWithAll_52 (rfl : 52 + 3 = 55) lX1_68 vX1_putBack (by first | rfl | assumption) rfl rfl (Nat.le_of_ble_eq_true rfl) TM_room TM_cs ?_
    intro I1 J1 hp
    obtain ⟨rfl, rfl⟩ := hp
    rw [lsOf_H, lsH_H]
    first | refine q_iinc1 dX1_startWithAll_55 (rfl : 55 + 3 = 58) rfl (by decide) ?_ | refine q_iinc dX1_startWithAll_55 (rfl : 55 + 3 = 58) rfl rfl (by decide) ?_
    refine q_goto (q := 25) dX1_startWithAll_58 (by decide) ?_
    exact ih h
def sw0 (X : HI) : LSt := (nI 0, nI 0, nI 0, fillH X 43 100 (nI 0) 43)
theorem S_startWithAll {d n : Nat} {X : HI} {J : HJ} {yr : Nat → Nat} (hn : X 16 0 = nI n) (h12 : n ≤ 12) (hy : ∀ i, i < n → X 5 i = nI (yr i) ∧ yr i < 100) : MV mX1_startWithAll (d + 1) [.ref 42, .ref 16, .ref 4] shA X J RA (fun I' J' => I' = lsH X (swaS (X 17) (X 7) yr (sw0 X) n) ∧ J' = J) := by
  refine Mt.of (L := [some (.ref 42), some (.ref 16), some (.ref 4), none]) (by decide +kernel) (Nat.le_of_ble_eq_true rfl) rfl ?_
  refine q_aload_n dX1_startWithAll_0 (rfl : 0 + 1 = 1) rfl ?_
  refine q_getR dX1_startWithAll_1 (rfl : 1 + 3 = 4) fX1_9 (by first | rfl | assumption) (by first | rfl | assumption) ?_
  refine q_iconst (v := nI 0) dX1_startWithAll_4 (rfl : 4 + 1 = 5) (by decide) ?_
  refine q_callSV (S_fill (d := d) (show shA[43]? = some (.inr (.int, 100)) from rfl) (by decide)) dX1_startWithAll_5 (rfl : 5 + 3 = 8) lX1_51 vJ7_fill rfl rfl (Nat.le_of_ble_eq_true rfl) TM_room TM_cs ?_
  intro I1 J1 hp
  obtain ⟨rfl, rfl⟩ := hp
  refine q_aload_n dX1_startWithAll_8 (rfl : 8 + 1 = 9) rfl ?_
  refine q_iconst (v := nI 0) dX1_startWithAll_9 (rfl : 9 + 1 = 10) (by decide) ?_
  refine q_putI dX1_startWithAll_10 (rfl : 10 + 3 = 13) pX1_15 (by first | rfl | assumption) ?_
  refine q_aload_n dX1_startWithAll_13 (rfl : 13 + 1 = 14) rfl ?_
  refine q_iconst (v := nI 0) dX1_startWithAll_14 (rfl : 14 + 1 = 15) (by decide) ?_
  refine q_putI dX1_startWithAll_15 (rfl : 15 + 3 = 18) pX1_19 (by first | rfl | assumption) ?_
  refine q_aload_n dX1_startWithAll_18 (rfl : 18 + 1 = 19) rfl ?_
  refine q_iconst (v := nI 0) dX1_startWithAll_19 (rfl : 19 + 1 = 20) (by decide) ?_
  refine q_putI dX1_startWithAll_20 (rfl : 20 + 3 = 23) pX1_22 (by first | rfl | assumption) ?_
  refine q_iconst (v := nI 0) dX1_startWithAll_23 (rfl : 23 + 1 = 24) (by decide) ?_
  refine q_istore_n dX1_startWithAll_24 (rfl : 24 + 1 = 25) (by decide) ?_
  have e : wr (wr (wr (fillH X 43 100 (nI 0)) 42 1 (nI 0)) 42 2 (nI 0)) 42 3 (nI 0) = lsH X (sw0 X) := by
    funext a b
    unfold wr lsH sw0 fillH
    by_cases h1 : a = 42
    · subst h1
      by_cases b1 : b = 1
      · simp [b1]
      · by_cases b2 : b = 2
        · simp [b2]
        · by_cases b3 : b = 3
          · simp [b3]
          · simp [b1, b2, b3]
    · by_cases h2 : a = 43
      · subst h2
        simp
      · simp [h1, h2]
  rw [e]
  refine L_startWithAll (d := d) hn h12 hy ?_ 0 (by omega)
  refine q_vret rfl dX1_startWithAll_61 ⟨rfl, rfl, rfl, ?_⟩
  exact ⟨rfl, rfl⟩
/-- the best set so far: it, its years, its tenths -/
def lbH (X : HI) (st : LSt) (b : Int32 × Int32 × Int32) : HI := wr (wr (wr (lsH X st) 42 4 b.1) 42 5 b.2.1) 42 6 b.2.2
theorem lbH_at {X : HI} {st : LSt} {b : Int32 × Int32 × Int32} : lbH X st b 42 1 = st.1 ∧ lbH X st b 42 2 = st.2.1 ∧ lbH X st b 42 3 = st.2.2.1 ∧ lbH X st b 42 4 = b.1 ∧ lbH X st b 42 5 = b.2.1 ∧ lbH X st b 42 6 = b.2.2 := by
  unfold lbH wr lsH
  simp
theorem lbH_o {X : HI} {st : LSt} {b : Int32 × Int32 × Int32} {a : Nat} (h : a ≠ 42 ∧ a ≠ 43) : lbH X st b a = X a := by
  unfold lbH
  rw [wr_ne h.1, wr_ne h.1, wr_ne h.1, lsH_o h]
theorem lbH_of {X : HI} {st : LSt} {b : Int32 × Int32 × Int32} : lsOf (lbH X st b) = st := by
  unfold lsOf lbH wr lsH
  simp
theorem lbH_ls {X : HI} {st st' : LSt} {b : Int32 × Int32 × Int32} : lsH (lbH X st b) st' = lbH X st' b := by
  funext x y
  unfold lbH wr lsH
  by_cases h1 : x = 42
  · subst h1
    by_cases b1 : y = 1
    · simp [b1]
    · by_cases b2 : y = 2
      · simp [b2]
      · by_cases b3 : y = 3
        · simp [b3]
        · simp [b1, b2, b3]
  · by_cases h2 : x = 43
    · simp [h2]
    · simp [h1, h2]
theorem lbH_u {X : HI} {st : LSt} {b : Int32 × Int32 × Int32} {u v w : Int32} : wr (wr (wr (lbH X st b) 42 4 u) 42 5 v) 42 6 w = lbH X st (u, v, w) := by
  funext x y
  unfold lbH wr
  by_cases h1 : x = 42
  · subst h1
    by_cases b1 : y = 6
    · simp [b1]
    · by_cases b2 : y = 5
      · simp [b2]
      · by_cases b3 : y = 4
        · simp [b3]
        · simp [b1, b2, b3]
  · simp [h1]
def lgS (t h : Nat → Int32) (yr : Nat → Nat) (n : Nat) (mh ml : Int32) (k s : Nat) (st : LSt) (b : Int32 × Int32 × Int32) : LSt × (Int32 × Int32 × Int32) := match k with
  | 0 => (st, b)
  | k + 1 => lgS t h yr n mh ml k (s + 1) (goS t h yr s n 0 st) (if (st.1 ≤ mh ∧ st.2.1 ≤ ml) ∧ (b.2.1 < st.2.2.1 ∨ (st.2.2.1 = b.2.1 ∧ b.2.2 < st.1)) then (nI s, st.2.2.1, st.1) else b)
theorem L_choose {d n0 : Nat} {Po : PO} {X : HI} {J : HJ} {n : Nat} {yr : Nat → Nat} {mh ml : Int32} (hn : X 16 0 = nI n) (h12 : n ≤ 12) (hy : ∀ i, i < n → X 5 i = nI (yr i) ∧ yr i < 100) :
    ∀ (k s : Nat) (st : LSt) (b : Int32 × Int32 × Int32), s + k = 2 ^ n → Po shA none (lbH X (lgS (X 17) (X 7) yr n mh ml k s st b).1 (lgS (X 17) (X 7) yr n mh ml k s st b).2) J RA →
      Wm mX1_choose (TM (d + 2) 0 0 false n0 Po) 0 0 shA 25 [some (.ref 42), some (.int mh), some (.int ml), some (.ref 16), some (.ref 4), some (.int (nI s))] [] (lbH X st b) J RA := by
  have h2n : 2 ^ n ≤ 4096 := by
    have : 2 ^ n ≤ 2 ^ 12 := Nat.pow_le_pow_right (by omega) h12
    omega
  intro k
  induction k with
  | zero =>
    intro s st b hs hPo
    have e0 : lbH X st b 16 0 = nI n := by rw [lbH_o (by omega)]; exact hn
    refine q_iload dX1_choose_25 (rfl : 25 + 2 = 27) rfl ?_
    refine q_iconst (v := nI 1) dX1_choose_27 (rfl : 27 + 1 = 28) (by decide) ?_
    refine q_aload_n dX1_choose_28 (rfl : 28 + 1 = 29) rfl ?_
    refine q_getI dX1_choose_29 (rfl : 29 + 3 = 32) fX1_38 (by first | rfl | assumption) ?_
    try simp (disch := omega) only [wr_hit, wr_p, wr_k, nI_add, pk_mul, nI_1, nI_s1, pk_sub, e0]
    refine q_ishl dX1_choose_32 (rfl : 32 + 1 = 33) ?_
    rw [shlI (by omega)]
    refine q_icmp_ge_n (q := 96) (by omega) (by omega) dX1_choose_33 (by decide) (rfl : 33 + 3 = 36) (fun h => ?_) (fun h => ?_)
    ·
      exact q_vret rfl dX1_choose_96 hPo
    ·
      omega
  | succ k ih =>
    intro s st b hs hPo
    have e0 : lbH X st b 16 0 = nI n := by rw [lbH_o (by omega)]; exact hn
    have hy' : ∀ b', ∀ i, i < n → lbH X st b' 5 i = nI (yr i) ∧ yr i < 100 := fun b' i hi => by rw [lbH_o (by omega)]; exact hy i hi
    obtain ⟨a1, a2, a3, a4, a5, a6⟩ := lbH_at (X := X) (st := st) (b := b)
    refine q_iload dX1_choose_25 (rfl : 25 + 2 = 27) rfl ?_
    refine q_iconst (v := nI 1) dX1_choose_27 (rfl : 27 + 1 = 28) (by decide) ?_
    refine q_aload_n dX1_choose_28 (rfl : 28 + 1 = 29) rfl ?_
    refine q_getI dX1_choose_29 (rfl : 29 + 3 = 32) fX1_38 (by first | rfl | assumption) ?_
    try simp (disch := omega) only [wr_hit, wr_p, wr_k, nI_add, pk_mul, nI_1, nI_s1, pk_sub, e0]
    refine q_ishl dX1_choose_32 (rfl : 32 + 1 = 33) ?_
    rw [shlI (by omega)]
    refine q_icmp_ge_n (q := 96) (by omega) (by omega) dX1_choose_33 (by decide) (rfl : 33 + 3 = 36) (fun h => ?_) (fun h => ?_)
    · omega
    ·
      have rest : ∀ b', b' = (if (st.1 ≤ mh ∧ st.2.1 ≤ ml) ∧ (b.2.1 < st.2.2.1 ∨ (st.2.2.1 = b.2.1 ∧ b.2.2 < st.1)) then (nI s, st.2.2.1, st.1) else b) → Wm mX1_choose (TM (d + 2) 0 0 false n0 Po) 0 0 shA 81 [some (.ref 42), some (.int mh), some (.int ml), some (.ref 16), some (.ref 4), some (.int (nI s))] [] (lbH X st b') J RA := by
        intro b' hb'
        have e0' : lbH X st b' 16 0 = nI n := by rw [lbH_o (by omega)]; exact hn
        refine q_aload_n dX1_choose_81 (rfl : 81 + 1 = 82) rfl ?_
        refine q_iload dX1_choose_82 (rfl : 82 + 2 = 84) rfl ?_
        refine q_aload_n dX1_choose_84 (rfl : 84 + 1 = 85) rfl ?_
        refine q_aload dX1_choose_85 (rfl : 85 + 2 = 87) rfl ?_
        refine q_callVV (S_goOn (d := d) (show s < 2 ^ 31 by omega) e0' h12 (hy' b')) dX1_choose_87 (rfl : 87 + 3 = 90) lX1_47 vX1_goOn (by first | rfl | assumption) rfl rfl (Nat.le_of_ble_eq_true rfl) TM_room TM_cs ?_
        intro I1 J1 hp
        obtain ⟨rfl, rfl⟩ := hp
        rw [lbH_of, lbH_ls, lbH_o (show (17 : Nat) ≠ 42 ∧ (17 : Nat) ≠ 43 by omega), lbH_o (show (7 : Nat) ≠ 42 ∧ (7 : Nat) ≠ 43 by omega)]
        first | refine q_iinc1 dX1_choose_90 (rfl : 90 + 3 = 93) rfl (by decide) ?_ | refine q_iinc dX1_choose_90 (rfl : 90 + 3 = 93) rfl rfl (by decide) ?_
        refine q_goto (q := 25) dX1_choose_93 (by decide) ?_
        refine ih (s + 1) _ b' (by omega) ?_
        rw [hb']
        exact hPo
      have no : ¬ ((st.1 ≤ mh ∧ st.2.1 ≤ ml) ∧ (b.2.1 < st.2.2.1 ∨ (st.2.2.1 = b.2.1 ∧ b.2.2 < st.1))) → Wm mX1_choose (TM (d + 2) 0 0 false n0 Po) 0 0 shA 81 [some (.ref 42), some (.int mh), some (.int ml), some (.ref 16), some (.ref 4), some (.int (nI s))] [] (lbH X st b) J RA := fun q => rest b (by rw [if_neg q])
      refine q_aload_n dX1_choose_36 (rfl : 36 + 1 = 37) rfl ?_
      refine q_getI dX1_choose_37 (rfl : 37 + 3 = 40) fX1_15 (by first | rfl | assumption) ?_
      try simp (disch := omega) only [wr_hit, wr_p, wr_k, nI_add, pk_mul, nI_1, nI_s1, pk_sub, a1, a2, a3, a4, a5, a6]
      refine q_iload_n dX1_choose_40 (rfl : 40 + 1 = 41) rfl ?_
      refine q_icmp_gt (q := 81) dX1_choose_41 (by decide) (rfl : 41 + 3 = 44) (fun q1 => ?_) (fun q1 => ?_)
      ·
        exact no (fun q => absurd q.1.1 (Int32.not_le.mpr q1))
      ·
        refine q_aload_n dX1_choose_44 (rfl : 44 + 1 = 45) rfl ?_
        refine q_getI dX1_choose_45 (rfl : 45 + 3 = 48) fX1_19 (by first | rfl | assumption) ?_
        try simp (disch := omega) only [wr_hit, wr_p, wr_k, nI_add, pk_mul, nI_1, nI_s1, pk_sub, a1, a2, a3, a4, a5, a6]
        refine q_iload_n dX1_choose_48 (rfl : 48 + 1 = 49) rfl ?_
        refine q_icmp_gt (q := 81) dX1_choose_49 (by decide) (rfl : 49 + 3 = 52) (fun q2 => ?_) (fun q2 => ?_)
        ·
          exact no (fun q => absurd q.1.2 (Int32.not_le.mpr q2))
        ·
          refine q_aload_n dX1_choose_52 (rfl : 52 + 1 = 53) rfl ?_
          refine q_callVIp (S_isBetter (d := d + 1)) dX1_choose_53 (rfl : 53 + 3 = 56) lX1_43 vX1_isBetter (by first | rfl | assumption) rfl rfl (Nat.le_of_ble_eq_true rfl) TM_room TM_cs ?_
          refine q_if_eq_b (q := 81) dX1_choose_56 (by decide) (rfl : 56 + 3 = 59) (fun q3 => ?_) (fun q3 => ?_)
          ·
            have : ¬ (b.2.1 < st.2.2.1 ∨ (st.2.2.1 = b.2.1 ∧ b.2.2 < st.1)) := by
              intro q
              unfold betB at q3
              rw [a1, a3, a5, a6] at q3
              simp only [Bool.or_eq_false_iff, Bool.and_eq_false_iff, decide_eq_false_iff_not] at q3
              rcases q with q | q
              · exact q3.1 q
              · rcases q3.2 with z | z
                · exact z q.1
                · exact z q.2
            exact no (fun q => this q.2)
          ·
            have : (b.2.1 < st.2.2.1 ∨ (st.2.2.1 = b.2.1 ∧ b.2.2 < st.1)) := by
              unfold betB at q3
              rw [a1, a3, a5, a6] at q3
              simpa using q3
            refine q_aload_n dX1_choose_59 (rfl : 59 + 1 = 60) rfl ?_
            refine q_iload dX1_choose_60 (rfl : 60 + 2 = 62) rfl ?_
            refine q_putI dX1_choose_62 (rfl : 62 + 3 = 65) pX1_25 (by first | rfl | assumption) ?_
            refine q_aload_n dX1_choose_65 (rfl : 65 + 1 = 66) rfl ?_
            refine q_aload_n dX1_choose_66 (rfl : 66 + 1 = 67) rfl ?_
            refine q_getI dX1_choose_67 (rfl : 67 + 3 = 70) fX1_22 (by first | rfl | assumption) ?_
            try simp (disch := omega) only [wr_hit, wr_p, wr_k, nI_add, pk_mul, nI_1, nI_s1, pk_sub, a1, a2, a3, a4, a5, a6]
            refine q_putI dX1_choose_70 (rfl : 70 + 3 = 73) pX1_28 (by first | rfl | assumption) ?_
            refine q_aload_n dX1_choose_73 (rfl : 73 + 1 = 74) rfl ?_
            refine q_aload_n dX1_choose_74 (rfl : 74 + 1 = 75) rfl ?_
            refine q_getI dX1_choose_75 (rfl : 75 + 3 = 78) fX1_15 (by first | rfl | assumption) ?_
            try simp (disch := omega) only [wr_hit, wr_p, wr_k, nI_add, pk_mul, nI_1, nI_s1, pk_sub, a1, a2, a3, a4, a5, a6]
            refine q_putI dX1_choose_78 (rfl : 78 + 3 = 81) pX1_31 (by first | rfl | assumption) ?_
            rw [lbH_u]
            exact rest _ (by rw [if_pos ⟨⟨Int32.not_lt.mp q1, Int32.not_lt.mp q2⟩, this⟩])
theorem S_lchoose {d n : Nat} {X : HI} {J : HJ} {yr : Nat → Nat} {mh ml : Int32} (hn : X 16 0 = nI n) (h12 : n ≤ 12) (hy : ∀ i, i < n → X 5 i = nI (yr i) ∧ yr i < 100) : MV mX1_choose (d + 2) [.ref 42, .int mh, .int ml, .ref 16, .ref 4] shA X J RA (fun I' J' => I' = lbH X (lgS (X 17) (X 7) yr n mh ml (2 ^ n) 0 (swaS (X 17) (X 7) yr (sw0 X) n) (nI 0, -1, -1)).1 (lgS (X 17) (X 7) yr n mh ml (2 ^ n) 0 (swaS (X 17) (X 7) yr (sw0 X) n) (nI 0, -1, -1)).2 ∧ J' = J) := by
  refine Mt.of (L := [some (.ref 42), some (.int mh), some (.int ml), some (.ref 16), some (.ref 4), none]) (by decide +kernel) (Nat.le_of_ble_eq_true rfl) rfl ?_
  refine q_aload_n dX1_choose_0 (rfl : 0 + 1 = 1) rfl ?_
  refine q_aload_n dX1_choose_1 (rfl : 1 + 1 = 2) rfl ?_
  refine q_aload dX1_choose_2 (rfl : 2 + 2 = 4) rfl ?_
  refine q_callVV (S_startWithAll (d := d) hn h12 hy) dX1_choose_4 (rfl : 4 + 3 = 7) lX1_34 vX1_startWithAll (by first | rfl | assumption) rfl rfl (Nat.le_of_ble_eq_true rfl) TM_room TM_cs ?_
  intro I1 J1 hp
  obtain ⟨rfl, rfl⟩ := hp
  refine q_aload_n dX1_choose_7 (rfl : 7 + 1 = 8) rfl ?_
  refine q_iconst (v := nI 0) dX1_choose_8 (rfl : 8 + 1 = 9) (by decide) ?_
  refine q_putI dX1_choose_9 (rfl : 9 + 3 = 12) pX1_25 (by first | rfl | assumption) ?_
  refine q_aload_n dX1_choose_12 (rfl : 12 + 1 = 13) rfl ?_
  refine q_iconst (v := -1) dX1_choose_13 (rfl : 13 + 1 = 14) (by decide) ?_
  refine q_putI dX1_choose_14 (rfl : 14 + 3 = 17) pX1_28 (by first | rfl | assumption) ?_
  refine q_aload_n dX1_choose_17 (rfl : 17 + 1 = 18) rfl ?_
  refine q_iconst (v := -1) dX1_choose_18 (rfl : 18 + 1 = 19) (by decide) ?_
  refine q_putI dX1_choose_19 (rfl : 19 + 3 = 22) pX1_31 (by first | rfl | assumption) ?_
  refine q_iconst (v := nI 0) dX1_choose_22 (rfl : 22 + 1 = 23) (by decide) ?_
  refine q_istore dX1_choose_23 (rfl : 23 + 2 = 25) (by decide) ?_
  have e : wr (wr (wr (lsH X (swaS (X 17) (X 7) yr (sw0 X) n)) 42 4 (nI 0)) 42 5 (-1)) 42 6 (-1) = lbH X (swaS (X 17) (X 7) yr (sw0 X) n) (nI 0, -1, -1) := rfl
  rw [e]
  exact L_choose (d := d) hn h12 hy (2 ^ n) 0 _ _ (by omega) ⟨rfl, rfl, rfl, rfl, rfl⟩
end
