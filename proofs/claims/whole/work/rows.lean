section
-- ===== PART A: goes FIRST, ahead of the names: the tables' words, and 'selects' of the private methods out of them =====
/-- a private method of a class that the tables say can be made, by its rows of tables_1 -/
def lw_okq (q : MethodName × Nat) : Prop := (q.1.cls ≠ "java/lang/invoke/MethodHandle" ∧ q.1.cls ≠ "java/lang/invoke/VarHandle") ∧ Cond.instantiable q.1.cls q.2 ∈ tables_1 ∧ Cond.privateMethod q.1 ∈ tables_1 ∧ Cond.instanceMethod q.1 ∈ tables_1
theorem lw_p0 : lw_okq (⟨"SnowByNumber$Text", "startItem", "()V"⟩, 6) := ⟨⟨by decide +kernel, by decide +kernel⟩, List.mem_of_getElem? (i := 20) (by decide +kernel), List.mem_of_getElem? (i := 287) (by decide +kernel), List.mem_of_getElem? (i := 288) (by decide +kernel)⟩
theorem lw_p1 : lw_okq (⟨"SnowByNumber$Text", "addFigure", "(I)Z"⟩, 6) := ⟨⟨by decide +kernel, by decide +kernel⟩, List.mem_of_getElem? (i := 20) (by decide +kernel), List.mem_of_getElem? (i := 291) (by decide +kernel), List.mem_of_getElem? (i := 292) (by decide +kernel)⟩
theorem lw_p2 : lw_okq (⟨"SnowByNumber$Text", "endNumber", "()Z"⟩, 6) := ⟨⟨by decide +kernel, by decide +kernel⟩, List.mem_of_getElem? (i := 20) (by decide +kernel), List.mem_of_getElem? (i := 295) (by decide +kernel), List.mem_of_getElem? (i := 296) (by decide +kernel)⟩
theorem lw_p3 : lw_okq (⟨"SnowByNumber$Told", "setBarn", "(II)Z"⟩, 11) := ⟨⟨by decide +kernel, by decide +kernel⟩, List.mem_of_getElem? (i := 48) (by decide +kernel), List.mem_of_getElem? (i := 303) (by decide +kernel), List.mem_of_getElem? (i := 304) (by decide +kernel)⟩
theorem lw_p4 : lw_okq (⟨"SnowByNumber$Told", "setCost", "(II)Z"⟩, 11) := ⟨⟨by decide +kernel, by decide +kernel⟩, List.mem_of_getElem? (i := 48) (by decide +kernel), List.mem_of_getElem? (i := 308) (by decide +kernel), List.mem_of_getElem? (i := 309) (by decide +kernel)⟩
theorem lw_p5 : lw_okq (⟨"SnowByNumber$Told", "setOne", "(II)Z"⟩, 11) := ⟨⟨by decide +kernel, by decide +kernel⟩, List.mem_of_getElem? (i := 48) (by decide +kernel), List.mem_of_getElem? (i := 312) (by decide +kernel), List.mem_of_getElem? (i := 313) (by decide +kernel)⟩
theorem lw_p6 : lw_okq (⟨"SnowByNumber", "firstThatCannot", "(IIII)I"⟩, 10) := ⟨⟨by decide +kernel, by decide +kernel⟩, List.mem_of_getElem? (i := 12) (by decide +kernel), List.mem_of_getElem? (i := 376) (by decide +kernel), List.mem_of_getElem? (i := 377) (by decide +kernel)⟩
theorem lw_p7 : lw_okq (⟨"SnowByNumber", "moreInches", "(II)I"⟩, 10) := ⟨⟨by decide +kernel, by decide +kernel⟩, List.mem_of_getElem? (i := 12) (by decide +kernel), List.mem_of_getElem? (i := 380) (by decide +kernel), List.mem_of_getElem? (i := 381) (by decide +kernel)⟩
theorem lw_p8 : lw_okq (⟨"SnowByNumber$ThawRow", "weigh", "(ILSnowByNumber$Barn;LSnowByNumber$Told;)V"⟩, 4) := ⟨⟨by decide +kernel, by decide +kernel⟩, List.mem_of_getElem? (i := 167) (by decide +kernel), List.mem_of_getElem? (i := 408) (by decide +kernel), List.mem_of_getElem? (i := 409) (by decide +kernel)⟩
theorem lw_p9 : lw_okq (⟨"SnowByNumber$Barn", "forgetOldestSale", "()V"⟩, 8) := ⟨⟨by decide +kernel, by decide +kernel⟩, List.mem_of_getElem? (i := 107) (by decide +kernel), List.mem_of_getElem? (i := 428) (by decide +kernel), List.mem_of_getElem? (i := 429) (by decide +kernel)⟩
theorem lw_p10 : lw_okq (⟨"SnowByNumber$Letting", "startWithAll", "(LSnowByNumber$Barn;LSnowByNumber$Told;)V"⟩, 7) := ⟨⟨by decide +kernel, by decide +kernel⟩, List.mem_of_getElem? (i := 189) (by decide +kernel), List.mem_of_getElem? (i := 452) (by decide +kernel), List.mem_of_getElem? (i := 453) (by decide +kernel)⟩
theorem lw_p11 : lw_okq (⟨"SnowByNumber$Letting", "putBack", "(III)V"⟩, 7) := ⟨⟨by decide +kernel, by decide +kernel⟩, List.mem_of_getElem? (i := 189) (by decide +kernel), List.mem_of_getElem? (i := 457) (by decide +kernel), List.mem_of_getElem? (i := 458) (by decide +kernel)⟩
theorem lw_p12 : lw_okq (⟨"SnowByNumber$Letting", "isBetter", "()Z"⟩, 7) := ⟨⟨by decide +kernel, by decide +kernel⟩, List.mem_of_getElem? (i := 189) (by decide +kernel), List.mem_of_getElem? (i := 461) (by decide +kernel), List.mem_of_getElem? (i := 462) (by decide +kernel)⟩
theorem lw_p13 : lw_okq (⟨"SnowByNumber$Letting", "goOn", "(ILSnowByNumber$Barn;LSnowByNumber$Told;)V"⟩, 7) := ⟨⟨by decide +kernel, by decide +kernel⟩, List.mem_of_getElem? (i := 189) (by decide +kernel), List.mem_of_getElem? (i := 465) (by decide +kernel), List.mem_of_getElem? (i := 466) (by decide +kernel)⟩
theorem lw_p14 : lw_okq (⟨"SnowByNumber$Letting", "takeOut", "(III)V"⟩, 7) := ⟨⟨by decide +kernel, by decide +kernel⟩, List.mem_of_getElem? (i := 189) (by decide +kernel), List.mem_of_getElem? (i := 469) (by decide +kernel), List.mem_of_getElem? (i := 470) (by decide +kernel)⟩
theorem lw_p15 : lw_okq (⟨"SnowByNumber", "weightOfAll", "(II)I"⟩, 10) := ⟨⟨by decide +kernel, by decide +kernel⟩, List.mem_of_getElem? (i := 12) (by decide +kernel), List.mem_of_getElem? (i := 481) (by decide +kernel), List.mem_of_getElem? (i := 482) (by decide +kernel)⟩
def lw_privs_1 : List (MethodName × Nat) := [(⟨"SnowByNumber$Text", "startItem", "()V"⟩, 6), (⟨"SnowByNumber$Text", "addFigure", "(I)Z"⟩, 6), (⟨"SnowByNumber$Text", "endNumber", "()Z"⟩, 6), (⟨"SnowByNumber$Told", "setBarn", "(II)Z"⟩, 11), (⟨"SnowByNumber$Told", "setCost", "(II)Z"⟩, 11), (⟨"SnowByNumber$Told", "setOne", "(II)Z"⟩, 11), (⟨"SnowByNumber", "firstThatCannot", "(IIII)I"⟩, 10), (⟨"SnowByNumber", "moreInches", "(II)I"⟩, 10), (⟨"SnowByNumber$ThawRow", "weigh", "(ILSnowByNumber$Barn;LSnowByNumber$Told;)V"⟩, 4), (⟨"SnowByNumber$Barn", "forgetOldestSale", "()V"⟩, 8), (⟨"SnowByNumber$Letting", "startWithAll", "(LSnowByNumber$Barn;LSnowByNumber$Told;)V"⟩, 7), (⟨"SnowByNumber$Letting", "putBack", "(III)V"⟩, 7), (⟨"SnowByNumber$Letting", "isBetter", "()Z"⟩, 7), (⟨"SnowByNumber$Letting", "goOn", "(ILSnowByNumber$Barn;LSnowByNumber$Told;)V"⟩, 7), (⟨"SnowByNumber$Letting", "takeOut", "(III)V"⟩, 7), (⟨"SnowByNumber", "weightOfAll", "(II)I"⟩, 10)]
theorem lw_r1 : ∀ q ∈ lw_privs_1, lw_okq q := List.forall_mem_cons.mpr ⟨lw_p0, List.forall_mem_cons.mpr ⟨lw_p1, List.forall_mem_cons.mpr ⟨lw_p2, List.forall_mem_cons.mpr ⟨lw_p3, List.forall_mem_cons.mpr ⟨lw_p4, List.forall_mem_cons.mpr ⟨lw_p5, List.forall_mem_cons.mpr ⟨lw_p6, List.forall_mem_cons.mpr ⟨lw_p7, List.forall_mem_cons.mpr ⟨lw_p8, List.forall_mem_cons.mpr ⟨lw_p9, List.forall_mem_cons.mpr ⟨lw_p10, List.forall_mem_cons.mpr ⟨lw_p11, List.forall_mem_cons.mpr ⟨lw_p12, List.forall_mem_cons.mpr ⟨lw_p13, List.forall_mem_cons.mpr ⟨lw_p14, List.forall_mem_cons.mpr ⟨lw_p15, fun _ h => absurd h List.not_mem_nil⟩⟩⟩⟩⟩⟩⟩⟩⟩⟩⟩⟩⟩⟩⟩⟩
theorem lw_p16 : lw_okq (⟨"SnowByNumber", "weightOf", "(III)I"⟩, 10) := ⟨⟨by decide +kernel, by decide +kernel⟩, List.mem_of_getElem? (i := 12) (by decide +kernel), List.mem_of_getElem? (i := 485) (by decide +kernel), List.mem_of_getElem? (i := 486) (by decide +kernel)⟩
theorem lw_p17 : lw_okq (⟨"SnowByNumber", "weightOfYear", "(III)I"⟩, 10) := ⟨⟨by decide +kernel, by decide +kernel⟩, List.mem_of_getElem? (i := 12) (by decide +kernel), List.mem_of_getElem? (i := 489) (by decide +kernel), List.mem_of_getElem? (i := 490) (by decide +kernel)⟩
theorem lw_p18 : lw_okq (⟨"SnowByNumber$Marks", "addLayer", "(I)V"⟩, 3) := ⟨⟨by decide +kernel, by decide +kernel⟩, List.mem_of_getElem? (i := 150) (by decide +kernel), List.mem_of_getElem? (i := 520) (by decide +kernel), List.mem_of_getElem? (i := 521) (by decide +kernel)⟩
theorem lw_p19 : lw_okq (⟨"SnowByNumber", "tenthsOfYear", "(I)I"⟩, 10) := ⟨⟨by decide +kernel, by decide +kernel⟩, List.mem_of_getElem? (i := 12) (by decide +kernel), List.mem_of_getElem? (i := 537) (by decide +kernel), List.mem_of_getElem? (i := 538) (by decide +kernel)⟩
theorem lw_p20 : lw_okq (⟨"SnowByNumber", "keptAt", "(I)LSnowByNumber$Barn;"⟩, 10) := ⟨⟨by decide +kernel, by decide +kernel⟩, List.mem_of_getElem? (i := 12) (by decide +kernel), List.mem_of_getElem? (i := 574) (by decide +kernel), List.mem_of_getElem? (i := 575) (by decide +kernel)⟩
theorem lw_p21 : lw_okq (⟨"SnowByNumberModel", "begins", "()V"⟩, 25) := ⟨⟨by decide +kernel, by decide +kernel⟩, List.mem_of_getElem? (i := 590) (by decide +kernel), List.mem_of_getElem? (i := 596) (by decide +kernel), List.mem_of_getElem? (i := 597) (by decide +kernel)⟩
theorem lw_p22 : lw_okq (⟨"SnowByNumberModel", "takes", "()V"⟩, 25) := ⟨⟨by decide +kernel, by decide +kernel⟩, List.mem_of_getElem? (i := 590) (by decide +kernel), List.mem_of_getElem? (i := 600) (by decide +kernel), List.mem_of_getElem? (i := 601) (by decide +kernel)⟩
theorem lw_p23 : lw_okq (⟨"SnowByNumberModel", "isItem", "()Z"⟩, 25) := ⟨⟨by decide +kernel, by decide +kernel⟩, List.mem_of_getElem? (i := 590) (by decide +kernel), List.mem_of_getElem? (i := 697) (by decide +kernel), List.mem_of_getElem? (i := 698) (by decide +kernel)⟩
theorem lw_p24 : lw_okq (⟨"SnowByNumberModel", "number", "()I"⟩, 25) := ⟨⟨by decide +kernel, by decide +kernel⟩, List.mem_of_getElem? (i := 590) (by decide +kernel), List.mem_of_getElem? (i := 704) (by decide +kernel), List.mem_of_getElem? (i := 705) (by decide +kernel)⟩
theorem lw_p25 : lw_okq (⟨"SnowByNumberModel", "isGood", "(I)Z"⟩, 25) := ⟨⟨by decide +kernel, by decide +kernel⟩, List.mem_of_getElem? (i := 590) (by decide +kernel), List.mem_of_getElem? (i := 711) (by decide +kernel), List.mem_of_getElem? (i := 712) (by decide +kernel)⟩
theorem lw_p26 : lw_okq (⟨"SnowByNumberModel", "isIn", "(III)Z"⟩, 25) := ⟨⟨by decide +kernel, by decide +kernel⟩, List.mem_of_getElem? (i := 590) (by decide +kernel), List.mem_of_getElem? (i := 715) (by decide +kernel), List.mem_of_getElem? (i := 716) (by decide +kernel)⟩
theorem lw_p27 : lw_okq (⟨"SnowByNumberModel", "of", "(II)I"⟩, 25) := ⟨⟨by decide +kernel, by decide +kernel⟩, List.mem_of_getElem? (i := 590) (by decide +kernel), List.mem_of_getElem? (i := 729) (by decide +kernel), List.mem_of_getElem? (i := 730) (by decide +kernel)⟩
theorem lw_p28 : lw_okq (⟨"SnowByNumberModel", "costOf", "(I)I"⟩, 25) := ⟨⟨by decide +kernel, by decide +kernel⟩, List.mem_of_getElem? (i := 590) (by decide +kernel), List.mem_of_getElem? (i := 733) (by decide +kernel), List.mem_of_getElem? (i := 734) (by decide +kernel)⟩
theorem lw_p29 : lw_okq (⟨"SnowByNumberModel", "high", "()I"⟩, 25) := ⟨⟨by decide +kernel, by decide +kernel⟩, List.mem_of_getElem? (i := 590) (by decide +kernel), List.mem_of_getElem? (i := 741) (by decide +kernel), List.mem_of_getElem? (i := 742) (by decide +kernel)⟩
theorem lw_p30 : lw_okq (⟨"SnowByNumberModel", "load", "()I"⟩, 25) := ⟨⟨by decide +kernel, by decide +kernel⟩, List.mem_of_getElem? (i := 590) (by decide +kernel), List.mem_of_getElem? (i := 745) (by decide +kernel), List.mem_of_getElem? (i := 746) (by decide +kernel)⟩
theorem lw_p31 : lw_okq (⟨"SnowByNumberModel", "fits", "(II)Z"⟩, 25) := ⟨⟨by decide +kernel, by decide +kernel⟩, List.mem_of_getElem? (i := 590) (by decide +kernel), List.mem_of_getElem? (i := 749) (by decide +kernel), List.mem_of_getElem? (i := 750) (by decide +kernel)⟩
def lw_privs_2 : List (MethodName × Nat) := [(⟨"SnowByNumber", "weightOf", "(III)I"⟩, 10), (⟨"SnowByNumber", "weightOfYear", "(III)I"⟩, 10), (⟨"SnowByNumber$Marks", "addLayer", "(I)V"⟩, 3), (⟨"SnowByNumber", "tenthsOfYear", "(I)I"⟩, 10), (⟨"SnowByNumber", "keptAt", "(I)LSnowByNumber$Barn;"⟩, 10), (⟨"SnowByNumberModel", "begins", "()V"⟩, 25), (⟨"SnowByNumberModel", "takes", "()V"⟩, 25), (⟨"SnowByNumberModel", "isItem", "()Z"⟩, 25), (⟨"SnowByNumberModel", "number", "()I"⟩, 25), (⟨"SnowByNumberModel", "isGood", "(I)Z"⟩, 25), (⟨"SnowByNumberModel", "isIn", "(III)Z"⟩, 25), (⟨"SnowByNumberModel", "of", "(II)I"⟩, 25), (⟨"SnowByNumberModel", "costOf", "(I)I"⟩, 25), (⟨"SnowByNumberModel", "high", "()I"⟩, 25), (⟨"SnowByNumberModel", "load", "()I"⟩, 25), (⟨"SnowByNumberModel", "fits", "(II)Z"⟩, 25)]
theorem lw_r2 : ∀ q ∈ lw_privs_2, lw_okq q := List.forall_mem_cons.mpr ⟨lw_p16, List.forall_mem_cons.mpr ⟨lw_p17, List.forall_mem_cons.mpr ⟨lw_p18, List.forall_mem_cons.mpr ⟨lw_p19, List.forall_mem_cons.mpr ⟨lw_p20, List.forall_mem_cons.mpr ⟨lw_p21, List.forall_mem_cons.mpr ⟨lw_p22, List.forall_mem_cons.mpr ⟨lw_p23, List.forall_mem_cons.mpr ⟨lw_p24, List.forall_mem_cons.mpr ⟨lw_p25, List.forall_mem_cons.mpr ⟨lw_p26, List.forall_mem_cons.mpr ⟨lw_p27, List.forall_mem_cons.mpr ⟨lw_p28, List.forall_mem_cons.mpr ⟨lw_p29, List.forall_mem_cons.mpr ⟨lw_p30, List.forall_mem_cons.mpr ⟨lw_p31, fun _ h => absurd h List.not_mem_nil⟩⟩⟩⟩⟩⟩⟩⟩⟩⟩⟩⟩⟩⟩⟩⟩
theorem lw_p32 : lw_okq (⟨"SnowByNumberModel", "isLayer", "(I)Z"⟩, 25) := ⟨⟨by decide +kernel, by decide +kernel⟩, List.mem_of_getElem? (i := 590) (by decide +kernel), List.mem_of_getElem? (i := 757) (by decide +kernel), List.mem_of_getElem? (i := 758) (by decide +kernel)⟩
theorem lw_p33 : lw_okq (⟨"SnowByNumberModel", "lostBy", "(I)I"⟩, 25) := ⟨⟨by decide +kernel, by decide +kernel⟩, List.mem_of_getElem? (i := 590) (by decide +kernel), List.mem_of_getElem? (i := 779) (by decide +kernel), List.mem_of_getElem? (i := 780) (by decide +kernel)⟩
theorem lw_p34 : lw_okq (⟨"SnowByNumberModel", "years", "(I)I"⟩, 25) := ⟨⟨by decide +kernel, by decide +kernel⟩, List.mem_of_getElem? (i := 590) (by decide +kernel), List.mem_of_getElem? (i := 803) (by decide +kernel), List.mem_of_getElem? (i := 804) (by decide +kernel)⟩
theorem lw_p35 : lw_okq (⟨"SnowByNumberModel", "weights", "(III)J"⟩, 25) := ⟨⟨by decide +kernel, by decide +kernel⟩, List.mem_of_getElem? (i := 590) (by decide +kernel), List.mem_of_getElem? (i := 817) (by decide +kernel), List.mem_of_getElem? (i := 818) (by decide +kernel)⟩
theorem lw_p36 : lw_okq (⟨"SnowByNumberModel", "weight", "(III)J"⟩, 25) := ⟨⟨by decide +kernel, by decide +kernel⟩, List.mem_of_getElem? (i := 590) (by decide +kernel), List.mem_of_getElem? (i := 821) (by decide +kernel), List.mem_of_getElem? (i := 822) (by decide +kernel)⟩
theorem lw_p37 : lw_okq (⟨"SnowByNumberModel", "lowest", "(JJ)V"⟩, 25) := ⟨⟨by decide +kernel, by decide +kernel⟩, List.mem_of_getElem? (i := 590) (by decide +kernel), List.mem_of_getElem? (i := 825) (by decide +kernel), List.mem_of_getElem? (i := 826) (by decide +kernel)⟩
theorem lw_p38 : lw_okq (⟨"SnowByNumberModel", "shows", "()I"⟩, 25) := ⟨⟨by decide +kernel, by decide +kernel⟩, List.mem_of_getElem? (i := 590) (by decide +kernel), List.mem_of_getElem? (i := 845) (by decide +kernel), List.mem_of_getElem? (i := 846) (by decide +kernel)⟩
theorem lw_p39 : lw_okq (⟨"SnowByNumberModel", "tenthsOf", "(I)I"⟩, 25) := ⟨⟨by decide +kernel, by decide +kernel⟩, List.mem_of_getElem? (i := 590) (by decide +kernel), List.mem_of_getElem? (i := 858) (by decide +kernel), List.mem_of_getElem? (i := 859) (by decide +kernel)⟩
theorem lw_p40 : lw_okq (⟨"SnowByNumberModel", "comes", "(I)I"⟩, 25) := ⟨⟨by decide +kernel, by decide +kernel⟩, List.mem_of_getElem? (i := 590) (by decide +kernel), List.mem_of_getElem? (i := 886) (by decide +kernel), List.mem_of_getElem? (i := 887) (by decide +kernel)⟩
theorem lw_p41 : lw_okq (⟨"SnowByNumberModel", "copies", "(II)V"⟩, 25) := ⟨⟨by decide +kernel, by decide +kernel⟩, List.mem_of_getElem? (i := 590) (by decide +kernel), List.mem_of_getElem? (i := 901) (by decide +kernel), List.mem_of_getElem? (i := 902) (by decide +kernel)⟩
def lw_privs_3 : List (MethodName × Nat) := [(⟨"SnowByNumberModel", "isLayer", "(I)Z"⟩, 25), (⟨"SnowByNumberModel", "lostBy", "(I)I"⟩, 25), (⟨"SnowByNumberModel", "years", "(I)I"⟩, 25), (⟨"SnowByNumberModel", "weights", "(III)J"⟩, 25), (⟨"SnowByNumberModel", "weight", "(III)J"⟩, 25), (⟨"SnowByNumberModel", "lowest", "(JJ)V"⟩, 25), (⟨"SnowByNumberModel", "shows", "()I"⟩, 25), (⟨"SnowByNumberModel", "tenthsOf", "(I)I"⟩, 25), (⟨"SnowByNumberModel", "comes", "(I)I"⟩, 25), (⟨"SnowByNumberModel", "copies", "(II)V"⟩, 25)]
theorem lw_r3 : ∀ q ∈ lw_privs_3, lw_okq q := List.forall_mem_cons.mpr ⟨lw_p32, List.forall_mem_cons.mpr ⟨lw_p33, List.forall_mem_cons.mpr ⟨lw_p34, List.forall_mem_cons.mpr ⟨lw_p35, List.forall_mem_cons.mpr ⟨lw_p36, List.forall_mem_cons.mpr ⟨lw_p37, List.forall_mem_cons.mpr ⟨lw_p38, List.forall_mem_cons.mpr ⟨lw_p39, List.forall_mem_cons.mpr ⟨lw_p40, List.forall_mem_cons.mpr ⟨lw_p41, fun _ h => absurd h List.not_mem_nil⟩⟩⟩⟩⟩⟩⟩⟩⟩⟩
def lw_privs : List (MethodName × Nat) := lw_privs_1 ++ (lw_privs_2 ++ (lw_privs_3))
def lw_tbl : List Cond := k2_sels lw_privs ++ tables_1
theorem lw_privs_ok : ∀ q ∈ lw_privs, lw_okq q := by
  show ∀ q ∈ lw_privs_1 ++ (lw_privs_2 ++ (lw_privs_3)), lw_okq q
  exact List.forall_mem_append.mpr ⟨lw_r1, List.forall_mem_append.mpr ⟨lw_r2, lw_r3⟩⟩
-- ===== end of PART A; then your names; then what follows =====
end
section
/-! ===== BEGIN words of one list among another's, by their places ===== -/
theorem goodIn_r {big : List Cond} (ws : List Cond) (ps : List Nat) (hp : ws = ps.filterMap (fun i => big[i]?)) (h : ws.all goodWord = true) : GoodIn big ws := by
  intro w hw
  have h1 := List.all_eq_true.mp h w hw
  rw [hp] at hw
  obtain ⟨i, -, hi⟩ := List.mem_filterMap.mp hw
  have hm : w ∈ big := by first | exact List.mem_of_getElem? hi | exact List.getElem?_mem hi
  exact ⟨hm, good_of_word h1⟩
theorem goodIn_app {big a b : List Cond} (ha : GoodIn big a) (hb : GoodIn big b) : GoodIn big (a ++ b) := fun w h => (List.mem_append.mp h).elim (ha w) (hb w)
theorem goodIn_ca {big a b : List Cond} {c : Cond} (ha : GoodIn big (c :: a)) (hb : GoodIn big b) : GoodIn big (c :: (a ++ b)) := fun w h => (List.mem_cons.mp h).elim (fun e => ha w (List.mem_cons.mpr (Or.inl e))) (fun h => (List.mem_append.mp h).elim (fun h => ha w (List.mem_cons.mpr (Or.inr h))) (hb w))
theorem goodIn_sub {big ws : List Cond} (hm : ∀ w ∈ ws, w ∈ big) (h : ws.all goodWord = true) : GoodIn big ws := fun w hw => ⟨hm w hw, good_of_word (List.all_eq_true.mp h w hw)⟩
/-! ===== END ===== -/


/-! ===== BEGIN printed: names, fields, word lists, decode rows ===== -/
def RX0 : String := "SnowByNumber$Barn"
def TX0 : u_T := fun k => match k with
  | 0 => ("SnowByNumber$Barn", "count", "I", false)
  | 1 => ("SnowByNumber$Barn", "tenths", "[I", true)
  | 2 => ("SnowByNumber$Barn", "shown", "[I", true)
  | 3 => ("SnowByNumber$Barn", "coin", "I", false)
  | 4 => ("SnowByNumber$Barn", "saleCount", "I", false)
  | 5 => ("SnowByNumber$Barn", "saleLayer", "[I", true)
  | 6 => ("SnowByNumber$Barn", "saleTenths", "[I", true)
  | _ => ("SnowByNumber$Barn", "salePaid", "[I", true)
def tyX0 : Nat → FieldType := fun k => match k with
  | 0 => .int
  | 1 => .array .int
  | 2 => .array .int
  | 3 => .int
  | 4 => .int
  | 5 => .array .int
  | 6 => .array .int
  | _ => .array .int
abbrev wsX00 : List Cond := u_ws RX0 TX0 8
theorem nmX0 : ∀ a, a < 8 → ∀ b, b < 8 → a ≠ b → (TX0 a).2.1 ≠ (TX0 b).2.1 := by decide +kernel
theorem tyX0_ok : ∀ k, k < 8 → parseFieldDescriptor (TX0 k).2.2.1 = some (tyX0 k) := by decide +kernel
abbrev cX0_init : ByteArray := prog_2_method_1_code
def yX0_init : MethodName := ⟨RX0, "<init>", "()V"⟩
abbrev cX0_clear : ByteArray := prog_2_method_2_code
def yX0_clear : MethodName := ⟨RX0, "clear", "()V"⟩
abbrev cX0_copyFrom : ByteArray := prog_2_method_3_code
def yX0_copyFrom : MethodName := ⟨RX0, "copyFrom", "(LSnowByNumber$Barn;)V"⟩
abbrev cX0_has : ByteArray := prog_2_method_4_code
def yX0_has : MethodName := ⟨RX0, "has", "(I)Z"⟩
abbrev cX0_high : ByteArray := prog_2_method_5_code
def yX0_high : MethodName := ⟨RX0, "high", "()I"⟩
abbrev cX0_load : ByteArray := prog_2_method_6_code
def yX0_load : MethodName := ⟨RX0, "load", "(LSnowByNumber$Told;)I"⟩
abbrev cX0_comeIn : ByteArray := prog_2_method_7_code
def yX0_comeIn : MethodName := ⟨RX0, "comeIn", "(II)V"⟩
abbrev cX0_doorOf : ByteArray := prog_2_method_8_code
def yX0_doorOf : MethodName := ⟨RX0, "doorOf", "(I)I"⟩
abbrev cX0_melt : ByteArray := prog_2_method_9_code
def yX0_melt : MethodName := ⟨RX0, "melt", "(II)I"⟩
abbrev cX0_addSale : ByteArray := prog_2_method_10_code
def yX0_addSale : MethodName := ⟨RX0, "addSale", "(III)V"⟩
abbrev cX0_forgetOldestSale : ByteArray := prog_2_method_11_code
def yX0_forgetOldestSale : MethodName := ⟨RX0, "forgetOldestSale", "()V"⟩
abbrev cX0_takeSaleBack : ByteArray := prog_2_method_12_code
def yX0_takeSaleBack : MethodName := ⟨RX0, "takeSaleBack", "()I"⟩
def RX1 : String := "SnowByNumber$Letting"
def TX1 : u_T := fun k => match k with
  | 0 => ("SnowByNumber$Letting", "layersOfYear", "[I", true)
  | 1 => ("SnowByNumber$Letting", "high", "I", false)
  | 2 => ("SnowByNumber$Letting", "load", "I", false)
  | 3 => ("SnowByNumber$Letting", "years", "I", false)
  | 4 => ("SnowByNumber$Letting", "bestSet", "I", false)
  | 5 => ("SnowByNumber$Letting", "bestYears", "I", false)
  | _ => ("SnowByNumber$Letting", "bestTenths", "I", false)
def tyX1 : Nat → FieldType := fun k => match k with
  | 0 => .array .int
  | 1 => .int
  | 2 => .int
  | 3 => .int
  | 4 => .int
  | 5 => .int
  | _ => .int
abbrev wsX10 : List Cond := u_ws RX1 TX1 7
theorem nmX1 : ∀ a, a < 7 → ∀ b, b < 7 → a ≠ b → (TX1 a).2.1 ≠ (TX1 b).2.1 := by decide +kernel
theorem tyX1_ok : ∀ k, k < 7 → parseFieldDescriptor (TX1 k).2.2.1 = some (tyX1 k) := by decide +kernel
abbrev cX1_init : ByteArray := prog_3_method_1_code
def yX1_init : MethodName := ⟨RX1, "<init>", "()V"⟩
abbrev cX1_choose : ByteArray := prog_3_method_2_code
def yX1_choose : MethodName := ⟨RX1, "choose", "(IILSnowByNumber$Barn;LSnowByNumber$Told;)V"⟩
abbrev cX1_startWithAll : ByteArray := prog_3_method_3_code
def yX1_startWithAll : MethodName := ⟨RX1, "startWithAll", "(LSnowByNumber$Barn;LSnowByNumber$Told;)V"⟩
abbrev cX1_isBetter : ByteArray := prog_3_method_4_code
def yX1_isBetter : MethodName := ⟨RX1, "isBetter", "()Z"⟩
abbrev cX1_goOn : ByteArray := prog_3_method_5_code
def yX1_goOn : MethodName := ⟨RX1, "goOn", "(ILSnowByNumber$Barn;LSnowByNumber$Told;)V"⟩
abbrev cX1_putBack : ByteArray := prog_3_method_6_code
def yX1_putBack : MethodName := ⟨RX1, "putBack", "(III)V"⟩
abbrev cX1_takeOut : ByteArray := prog_3_method_7_code
def yX1_takeOut : MethodName := ⟨RX1, "takeOut", "(III)V"⟩
def RX2 : String := "SnowByNumber$Marks"
def TX2 : u_T := fun k => match k with
  | 0 => ("SnowByNumber$Marks", "dusts", "[I", true)
  | 1 => ("SnowByNumber$Marks", "count", "I", false)
  | _ => ("SnowByNumber$Marks", "changes", "[I", true)
def tyX2 : Nat → FieldType := fun k => match k with
  | 0 => .array .int
  | 1 => .int
  | _ => .array .int
abbrev wsX20 : List Cond := u_ws RX2 TX2 3
theorem nmX2 : ∀ a, a < 3 → ∀ b, b < 3 → a ≠ b → (TX2 a).2.1 ≠ (TX2 b).2.1 := by decide +kernel
theorem tyX2_ok : ∀ k, k < 3 → parseFieldDescriptor (TX2 k).2.2.1 = some (tyX2 k) := by decide +kernel
abbrev cX2_init : ByteArray := prog_4_method_1_code
def yX2_init : MethodName := ⟨RX2, "<init>", "()V"⟩
abbrev cX2_add : ByteArray := prog_4_method_2_code
def yX2_add : MethodName := ⟨RX2, "add", "(I)Z"⟩
abbrev cX2_clear : ByteArray := prog_4_method_3_code
def yX2_clear : MethodName := ⟨RX2, "clear", "()I"⟩
abbrev cX2_changesTo : ByteArray := prog_4_method_4_code
def yX2_changesTo : MethodName := ⟨RX2, "changesTo", "(LSnowByNumber$Barn;)I"⟩
abbrev cX2_addLayer : ByteArray := prog_4_method_5_code
def yX2_addLayer : MethodName := ⟨RX2, "addLayer", "(I)V"⟩
abbrev cX2_firstUnlike : ByteArray := prog_4_method_6_code
def yX2_firstUnlike : MethodName := ⟨RX2, "firstUnlike", "(LSnowByNumber$Barn;)I"⟩
def RX3 : String := "SnowByNumber$Text"
def TX3 : u_T := fun k => match k with
  | 0 => ("SnowByNumber$Text", "bytes", "[B", true)
  | 1 => ("SnowByNumber$Text", "length", "I", false)
  | 2 => ("SnowByNumber$Text", "numbers", "[I", true)
  | 3 => ("SnowByNumber$Text", "numberCount", "I", false)
  | 4 => ("SnowByNumber$Text", "figures", "I", false)
  | _ => ("SnowByNumber$Text", "value", "I", false)
def tyX3 : Nat → FieldType := fun k => match k with
  | 0 => .array .byte
  | 1 => .int
  | 2 => .array .int
  | 3 => .int
  | 4 => .int
  | _ => .int
abbrev wsX30 : List Cond := u_ws RX3 TX3 6
theorem nmX3 : ∀ a, a < 6 → ∀ b, b < 6 → a ≠ b → (TX3 a).2.1 ≠ (TX3 b).2.1 := by decide +kernel
theorem tyX3_ok : ∀ k, k < 6 → parseFieldDescriptor (TX3 k).2.2.1 = some (tyX3 k) := by decide +kernel
abbrev cX3_init : ByteArray := prog_5_method_1_code
def yX3_init : MethodName := ⟨RX3, "<init>", "()V"⟩
abbrev cX3_append : ByteArray := prog_5_method_2_code
def yX3_append : MethodName := ⟨RX3, "append", "(IJ)Z"⟩
abbrev cX3_clear : ByteArray := prog_5_method_3_code
def yX3_clear : MethodName := ⟨RX3, "clear", "()I"⟩
abbrev cX3_tellTo : ByteArray := prog_5_method_4_code
def yX3_tellTo : MethodName := ⟨RX3, "tellTo", "(LSnowByNumber$Told;)I"⟩
abbrev cX3_startItem : ByteArray := prog_5_method_5_code
def yX3_startItem : MethodName := ⟨RX3, "startItem", "()V"⟩
abbrev cX3_addFigure : ByteArray := prog_5_method_6_code
def yX3_addFigure : MethodName := ⟨RX3, "addFigure", "(I)Z"⟩
abbrev cX3_endNumber : ByteArray := prog_5_method_7_code
def yX3_endNumber : MethodName := ⟨RX3, "endNumber", "()Z"⟩
def RX4 : String := "SnowByNumber$ThawRow"
def TX4 : u_T := fun k => match k with
  | 0 => ("SnowByNumber$ThawRow", "lostBy", "[[I", true)
  | 1 => ("SnowByNumber$ThawRow", "lost", "I", false)
  | 2 => ("SnowByNumber$ThawRow", "first", "I", false)
  | _ => ("SnowByNumber$ThawRow", "second", "I", false)
def tyX4 : Nat → FieldType := fun k => match k with
  | 0 => .array (.array .int)
  | 1 => .int
  | 2 => .int
  | _ => .int
abbrev wsX40 : List Cond := u_ws RX4 TX4 4
theorem nmX4 : ∀ a, a < 4 → ∀ b, b < 4 → a ≠ b → (TX4 a).2.1 ≠ (TX4 b).2.1 := by decide +kernel
theorem tyX4_ok : ∀ k, k < 4 → parseFieldDescriptor (TX4 k).2.2.1 = some (tyX4 k) := by decide +kernel
abbrev cX4_init : ByteArray := prog_6_method_1_code
def yX4_init : MethodName := ⟨RX4, "<init>", "()V"⟩
abbrev cX4_choose : ByteArray := prog_6_method_2_code
def yX4_choose : MethodName := ⟨RX4, "choose", "(ILSnowByNumber$Barn;LSnowByNumber$Told;)V"⟩
abbrev cX4_doorAt : ByteArray := prog_6_method_3_code
def yX4_doorAt : MethodName := ⟨RX4, "doorAt", "(I)I"⟩
abbrev cX4_weigh : ByteArray := prog_6_method_4_code
def yX4_weigh : MethodName := ⟨RX4, "weigh", "(ILSnowByNumber$Barn;LSnowByNumber$Told;)V"⟩
def RX5 : String := "SnowByNumber$Told"
def TX5 : u_T := fun k => match k with
  | 0 => ("SnowByNumber$Told", "beams", "I", false)
  | 1 => ("SnowByNumber$Told", "roof", "I", false)
  | 2 => ("SnowByNumber$Told", "thaw", "I", false)
  | 3 => ("SnowByNumber$Told", "slip", "I", false)
  | 4 => ("SnowByNumber$Told", "more", "I", false)
  | 5 => ("SnowByNumber$Told", "fallCount", "I", false)
  | 6 => ("SnowByNumber$Told", "year", "[I", true)
  | 7 => ("SnowByNumber$Told", "inches", "[I", true)
  | 8 => ("SnowByNumber$Told", "heavy", "[I", true)
  | 9 => ("SnowByNumber$Told", "dust", "[I", true)
  | _ => ("SnowByNumber$Told", "costOfYear", "[I", true)
def tyX5 : Nat → FieldType := fun k => match k with
  | 0 => .int
  | 1 => .int
  | 2 => .int
  | 3 => .int
  | 4 => .int
  | 5 => .int
  | 6 => .array .int
  | 7 => .array .int
  | 8 => .array .int
  | 9 => .array .int
  | _ => .array .int
abbrev wsX50 : List Cond := u_ws RX5 TX5 11
theorem nmX5 : ∀ a, a < 11 → ∀ b, b < 11 → a ≠ b → (TX5 a).2.1 ≠ (TX5 b).2.1 := by decide +kernel
theorem tyX5_ok : ∀ k, k < 11 → parseFieldDescriptor (TX5 k).2.2.1 = some (tyX5 k) := by decide +kernel
abbrev cX5_init : ByteArray := prog_7_method_1_code
def yX5_init : MethodName := ⟨RX5, "<init>", "()V"⟩
abbrev cX5_forget : ByteArray := prog_7_method_2_code
def yX5_forget : MethodName := ⟨RX5, "forget", "()V"⟩
abbrev cX5_take : ByteArray := prog_7_method_3_code
def yX5_take : MethodName := ⟨RX5, "take", "(I[II)Z"⟩
abbrev cX5_setBarn : ByteArray := prog_7_method_4_code
def yX5_setBarn : MethodName := ⟨RX5, "setBarn", "(II)Z"⟩
abbrev cX5_addFall : ByteArray := prog_7_method_5_code
def yX5_addFall : MethodName := ⟨RX5, "addFall", "(IIII)Z"⟩
abbrev cX5_setCost : ByteArray := prog_7_method_6_code
def yX5_setCost : MethodName := ⟨RX5, "setCost", "(II)Z"⟩
abbrev cX5_setOne : ByteArray := prog_7_method_7_code
def yX5_setOne : MethodName := ⟨RX5, "setOne", "(II)Z"⟩
abbrev cX5_costOf : ByteArray := prog_7_method_8_code
def yX5_costOf : MethodName := ⟨RX5, "costOf", "(I)I"⟩
abbrev cX5_bears : ByteArray := prog_7_method_9_code
def yX5_bears : MethodName := ⟨RX5, "bears", "(II)Z"⟩
def RX6 : String := "SnowByNumber"
def TX6 : u_T := fun k => match k with
  | 0 => ("SnowByNumber", "text", "LSnowByNumber$Text;", true)
  | 1 => ("SnowByNumber", "laid", "LSnowByNumber$Told;", false)
  | 2 => ("SnowByNumber", "draft", "LSnowByNumber$Told;", false)
  | 3 => ("SnowByNumber", "barn", "LSnowByNumber$Barn;", true)
  | 4 => ("SnowByNumber", "keptFirst", "LSnowByNumber$Barn;", true)
  | 5 => ("SnowByNumber", "keptSecond", "LSnowByNumber$Barn;", true)
  | 6 => ("SnowByNumber", "keptCount", "I", false)
  | 7 => ("SnowByNumber", "marks", "LSnowByNumber$Marks;", true)
  | 8 => ("SnowByNumber", "thawRow", "LSnowByNumber$ThawRow;", true)
  | _ => ("SnowByNumber", "letting", "LSnowByNumber$Letting;", true)
def tyX6 : Nat → FieldType := fun k => match k with
  | 0 => .object "SnowByNumber$Text"
  | 1 => .object "SnowByNumber$Told"
  | 2 => .object "SnowByNumber$Told"
  | 3 => .object "SnowByNumber$Barn"
  | 4 => .object "SnowByNumber$Barn"
  | 5 => .object "SnowByNumber$Barn"
  | 6 => .int
  | 7 => .object "SnowByNumber$Marks"
  | 8 => .object "SnowByNumber$ThawRow"
  | _ => .object "SnowByNumber$Letting"
abbrev wsX60 : List Cond := u_ws RX6 TX6 10
theorem nmX6 : ∀ a, a < 10 → ∀ b, b < 10 → a ≠ b → (TX6 a).2.1 ≠ (TX6 b).2.1 := by decide +kernel
theorem tyX6_ok : ∀ k, k < 10 → parseFieldDescriptor (TX6 k).2.2.1 = some (tyX6 k) := by decide +kernel
abbrev cX6_init : ByteArray := prog_1_method_1_code
def yX6_init : MethodName := ⟨RX6, "<init>", "()V"⟩
abbrev cX6_write : ByteArray := prog_1_method_2_code
def yX6_write : MethodName := ⟨RX6, "write", "(IJ)I"⟩
abbrev cX6_wipe : ByteArray := prog_1_method_3_code
def yX6_wipe : MethodName := ⟨RX6, "wipe", "()I"⟩
abbrev cX6_fault : ByteArray := prog_1_method_4_code
def yX6_fault : MethodName := ⟨RX6, "fault", "()I"⟩
abbrev cX6_lay : ByteArray := prog_1_method_5_code
def yX6_lay : MethodName := ⟨RX6, "lay", "()I"⟩
abbrev cX6_falls : ByteArray := prog_1_method_6_code
def yX6_falls : MethodName := ⟨RX6, "falls", "(II)I"⟩
abbrev cX6_fall : ByteArray := prog_1_method_7_code
def yX6_fall : MethodName := ⟨RX6, "fall", "()I"⟩
abbrev cX6_layer : ByteArray := prog_1_method_8_code
def yX6_layer : MethodName := ⟨RX6, "layer", "(II)I"⟩
abbrev cX6_firstOut : ByteArray := prog_1_method_9_code
def yX6_firstOut : MethodName := ⟨RX6, "firstOut", "()I"⟩
abbrev cX6_thaw : ByteArray := prog_1_method_10_code
def yX6_thaw : MethodName := ⟨RX6, "thaw", "(I)I"⟩
abbrev cX6_doors : ByteArray := prog_1_method_11_code
def yX6_doors : MethodName := ⟨RX6, "doors", "(II)I"⟩
abbrev cX6_sell : ByteArray := prog_1_method_12_code
def yX6_sell : MethodName := ⟨RX6, "sell", "(II)I"⟩
abbrev cX6_undo : ByteArray := prog_1_method_13_code
def yX6_undo : MethodName := ⟨RX6, "undo", "()I"⟩
abbrev cX6_swap : ByteArray := prog_1_method_14_code
def yX6_swap : MethodName := ⟨RX6, "swap", "(II)I"⟩
abbrev cX6_letGo : ByteArray := prog_1_method_15_code
def yX6_letGo : MethodName := ⟨RX6, "letGo", "(III)I"⟩
abbrev cX6_odds : ByteArray := prog_1_method_16_code
def yX6_odds : MethodName := ⟨RX6, "odds", "(IIII)I"⟩
abbrev cX6_likeliest : ByteArray := prog_1_method_17_code
def yX6_likeliest : MethodName := ⟨RX6, "likeliest", "(II)I"⟩
abbrev cX6_mark : ByteArray := prog_1_method_18_code
def yX6_mark : MethodName := ⟨RX6, "mark", "(I)I"⟩
abbrev cX6_noMarks : ByteArray := prog_1_method_19_code
def yX6_noMarks : MethodName := ⟨RX6, "noMarks", "()I"⟩
abbrev cX6_far : ByteArray := prog_1_method_20_code
def yX6_far : MethodName := ⟨RX6, "far", "()I"⟩
abbrev cX6_odd : ByteArray := prog_1_method_21_code
def yX6_odd : MethodName := ⟨RX6, "odd", "()I"⟩
abbrev cX6_wish : ByteArray := prog_1_method_22_code
def yX6_wish : MethodName := ⟨RX6, "wish", "(I)I"⟩
abbrev cX6_nearest : ByteArray := prog_1_method_23_code
def yX6_nearest : MethodName := ⟨RX6, "nearest", "(II)I"⟩
abbrev cX6_moved : ByteArray := prog_1_method_24_code
def yX6_moved : MethodName := ⟨RX6, "moved", "(I)I"⟩
abbrev cX6_rent : ByteArray := prog_1_method_25_code
def yX6_rent : MethodName := ⟨RX6, "rent", "(I)J"⟩
abbrev cX6_winter : ByteArray := prog_1_method_26_code
def yX6_winter : MethodName := ⟨RX6, "winter", "(I)I"⟩
abbrev cX6_ten : ByteArray := prog_1_method_27_code
def yX6_ten : MethodName := ⟨RX6, "ten", "(I)I"⟩
abbrev cX6_keep : ByteArray := prog_1_method_28_code
def yX6_keep : MethodName := ⟨RX6, "keep", "()I"⟩
abbrev cX6_back : ByteArray := prog_1_method_29_code
def yX6_back : MethodName := ⟨RX6, "back", "()I"⟩
abbrev cX6_count : ByteArray := prog_1_method_30_code
def yX6_count : MethodName := ⟨RX6, "count", "(I)I"⟩
abbrev cX6_inside : ByteArray := prog_1_method_31_code
def yX6_inside : MethodName := ⟨RX6, "inside", "(III)Z"⟩
abbrev cX6_isYear : ByteArray := prog_1_method_32_code
def yX6_isYear : MethodName := ⟨RX6, "isYear", "(I)Z"⟩
abbrev cX6_isWinter : ByteArray := prog_1_method_33_code
def yX6_isWinter : MethodName := ⟨RX6, "isWinter", "(I)Z"⟩
abbrev cX6_isPiece : ByteArray := prog_1_method_34_code
def yX6_isPiece : MethodName := ⟨RX6, "isPiece", "(II)Z"⟩
abbrev cX6_keptAt : ByteArray := prog_1_method_35_code
def yX6_keptAt : MethodName := ⟨RX6, "keptAt", "(I)LSnowByNumber$Barn;"⟩
abbrev cX6_firstThatCannot : ByteArray := prog_1_method_36_code
def yX6_firstThatCannot : MethodName := ⟨RX6, "firstThatCannot", "(IIII)I"⟩
abbrev cX6_moreInches : ByteArray := prog_1_method_37_code
def yX6_moreInches : MethodName := ⟨RX6, "moreInches", "(II)I"⟩
abbrev cX6_weightOf : ByteArray := prog_1_method_38_code
def yX6_weightOf : MethodName := ⟨RX6, "weightOf", "(III)I"⟩
abbrev cX6_weightOfAll : ByteArray := prog_1_method_39_code
def yX6_weightOfAll : MethodName := ⟨RX6, "weightOfAll", "(II)I"⟩
abbrev cX6_weightOfYear : ByteArray := prog_1_method_40_code
def yX6_weightOfYear : MethodName := ⟨RX6, "weightOfYear", "(III)I"⟩
abbrev cX6_tenthsOfYear : ByteArray := prog_1_method_41_code
def yX6_tenthsOfYear : MethodName := ⟨RX6, "tenthsOfYear", "(I)I"⟩
abbrev cX6_commonDivisor : ByteArray := prog_1_method_42_code
def yX6_commonDivisor : MethodName := ⟨RX6, "commonDivisor", "(II)I"⟩
def RX7 : String := "SnowByNumberModel"
def TX7 : u_T := fun k => match k with
  | 0 => ("SnowByNumberModel", "length", "I", false)
  | 1 => ("SnowByNumberModel", "text", "[B", true)
  | 2 => ("SnowByNumberModel", "at", "I", false)
  | 3 => ("SnowByNumberModel", "told", "[I", true)
  | 4 => ("SnowByNumberModel", "falls", "[I", true)
  | 5 => ("SnowByNumberModel", "fall", "[I", true)
  | 6 => ("SnowByNumberModel", "cost", "[I", true)
  | 7 => ("SnowByNumberModel", "layers", "[I", true)
  | 8 => ("SnowByNumberModel", "tenths", "[I", true)
  | 9 => ("SnowByNumberModel", "shown", "[I", true)
  | 10 => ("SnowByNumberModel", "coin", "[J", true)
  | 11 => ("SnowByNumberModel", "sales", "[I", true)
  | 12 => ("SnowByNumberModel", "sale", "[I", true)
  | 13 => ("SnowByNumberModel", "kept", "I", false)
  | 14 => ("SnowByNumberModel", "marks", "I", false)
  | 15 => ("SnowByNumberModel", "mark", "[I", true)
  | 16 => ("SnowByNumberModel", "tried", "[I", true)
  | 17 => ("SnowByNumberModel", "best", "[I", true)
  | 18 => ("SnowByNumberModel", "row", "[I", true)
  | 19 => ("SnowByNumberModel", "own", "[I", true)
  | 20 => ("SnowByNumberModel", "which", "[I", true)
  | 21 => ("SnowByNumberModel", "apart", "[I", true)
  | 22 => ("SnowByNumberModel", "above", "J", false)
  | 23 => ("SnowByNumberModel", "below", "J", false)
  | _ => ("SnowByNumberModel", "got", "[I", true)
def tyX7 : Nat → FieldType := fun k => match k with
  | 0 => .int
  | 1 => .array .byte
  | 2 => .int
  | 3 => .array .int
  | 4 => .array .int
  | 5 => .array .int
  | 6 => .array .int
  | 7 => .array .int
  | 8 => .array .int
  | 9 => .array .int
  | 10 => .array .long
  | 11 => .array .int
  | 12 => .array .int
  | 13 => .int
  | 14 => .int
  | 15 => .array .int
  | 16 => .array .int
  | 17 => .array .int
  | 18 => .array .int
  | 19 => .array .int
  | 20 => .array .int
  | 21 => .array .int
  | 22 => .long
  | 23 => .long
  | _ => .array .int
abbrev wsX70 : List Cond := u_ws RX7 TX7 25
theorem nmX7 : ∀ a, a < 25 → ∀ b, b < 25 → a ≠ b → (TX7 a).2.1 ≠ (TX7 b).2.1 := by decide +kernel
theorem tyX7_ok : ∀ k, k < 25 → parseFieldDescriptor (TX7 k).2.2.1 = some (tyX7 k) := by decide +kernel
abbrev cX7_init : ByteArray := prog_9_method_1_code
def yX7_init : MethodName := ⟨RX7, "<init>", "()V"⟩
abbrev cX7_in : ByteArray := prog_9_method_2_code
def yX7_in : MethodName := ⟨RX7, "in", "(JJJ)Z"⟩
abbrev cX7_write : ByteArray := prog_9_method_3_code
def yX7_write : MethodName := ⟨RX7, "write", "(IJ)I"⟩
abbrev cX7_wipe : ByteArray := prog_9_method_4_code
def yX7_wipe : MethodName := ⟨RX7, "wipe", "()I"⟩
abbrev cX7_number : ByteArray := prog_9_method_5_code
def yX7_number : MethodName := ⟨RX7, "number", "()I"⟩
abbrev cX7_parts : ByteArray := prog_9_method_6_code
def yX7_parts : MethodName := ⟨RX7, "parts", "(I)I"⟩
abbrev cX7_isIn : ByteArray := prog_9_method_7_code
def yX7_isIn : MethodName := ⟨RX7, "isIn", "(III)Z"⟩
abbrev cX7_isItem : ByteArray := prog_9_method_8_code
def yX7_isItem : MethodName := ⟨RX7, "isItem", "()Z"⟩
abbrev cX7_isGood : ByteArray := prog_9_method_9_code
def yX7_isGood : MethodName := ⟨RX7, "isGood", "(I)Z"⟩
abbrev cX7_begins : ByteArray := prog_9_method_10_code
def yX7_begins : MethodName := ⟨RX7, "begins", "()V"⟩
abbrev cX7_takes : ByteArray := prog_9_method_11_code
def yX7_takes : MethodName := ⟨RX7, "takes", "()V"⟩
abbrev cX7_fault : ByteArray := prog_9_method_12_code
def yX7_fault : MethodName := ⟨RX7, "fault", "()I"⟩
abbrev cX7_lay : ByteArray := prog_9_method_13_code
def yX7_lay : MethodName := ⟨RX7, "lay", "()I"⟩
abbrev cX7_of : ByteArray := prog_9_method_14_code
def yX7_of : MethodName := ⟨RX7, "of", "(II)I"⟩
abbrev cX7_costOf : ByteArray := prog_9_method_15_code
def yX7_costOf : MethodName := ⟨RX7, "costOf", "(I)I"⟩
abbrev cX7_isLayer : ByteArray := prog_9_method_16_code
def yX7_isLayer : MethodName := ⟨RX7, "isLayer", "(I)Z"⟩
abbrev cX7_isYear : ByteArray := prog_9_method_17_code
def yX7_isYear : MethodName := ⟨RX7, "isYear", "(I)Z"⟩
abbrev cX7_falls : ByteArray := prog_9_method_18_code
def yX7_falls : MethodName := ⟨RX7, "falls", "(II)I"⟩
abbrev cX7_high : ByteArray := prog_9_method_19_code
def yX7_high : MethodName := ⟨RX7, "high", "()I"⟩
abbrev cX7_load : ByteArray := prog_9_method_20_code
def yX7_load : MethodName := ⟨RX7, "load", "()I"⟩
abbrev cX7_fits : ByteArray := prog_9_method_21_code
def yX7_fits : MethodName := ⟨RX7, "fits", "(II)Z"⟩
abbrev cX7_fall : ByteArray := prog_9_method_22_code
def yX7_fall : MethodName := ⟨RX7, "fall", "()I"⟩
abbrev cX7_doorOf : ByteArray := prog_9_method_23_code
def yX7_doorOf : MethodName := ⟨RX7, "doorOf", "(II)I"⟩
abbrev cX7_layer : ByteArray := prog_9_method_24_code
def yX7_layer : MethodName := ⟨RX7, "layer", "(II)I"⟩
abbrev cX7_firstOut : ByteArray := prog_9_method_25_code
def yX7_firstOut : MethodName := ⟨RX7, "firstOut", "()I"⟩
abbrev cX7_thaw : ByteArray := prog_9_method_26_code
def yX7_thaw : MethodName := ⟨RX7, "thaw", "(I)I"⟩
abbrev cX7_lostBy : ByteArray := prog_9_method_27_code
def yX7_lostBy : MethodName := ⟨RX7, "lostBy", "(I)I"⟩
abbrev cX7_doors : ByteArray := prog_9_method_28_code
def yX7_doors : MethodName := ⟨RX7, "doors", "(II)I"⟩
abbrev cX7_sell : ByteArray := prog_9_method_29_code
def yX7_sell : MethodName := ⟨RX7, "sell", "(II)I"⟩
abbrev cX7_undo : ByteArray := prog_9_method_30_code
def yX7_undo : MethodName := ⟨RX7, "undo", "()I"⟩
abbrev cX7_swap : ByteArray := prog_9_method_31_code
def yX7_swap : MethodName := ⟨RX7, "swap", "(II)I"⟩
abbrev cX7_years : ByteArray := prog_9_method_32_code
def yX7_years : MethodName := ⟨RX7, "years", "(I)I"⟩
abbrev cX7_letGo : ByteArray := prog_9_method_33_code
def yX7_letGo : MethodName := ⟨RX7, "letGo", "(III)I"⟩
abbrev cX7_weight : ByteArray := prog_9_method_34_code
def yX7_weight : MethodName := ⟨RX7, "weight", "(III)J"⟩
abbrev cX7_weights : ByteArray := prog_9_method_35_code
def yX7_weights : MethodName := ⟨RX7, "weights", "(III)J"⟩
abbrev cX7_isPiece : ByteArray := prog_9_method_36_code
def yX7_isPiece : MethodName := ⟨RX7, "isPiece", "(II)Z"⟩
abbrev cX7_lowest : ByteArray := prog_9_method_37_code
def yX7_lowest : MethodName := ⟨RX7, "lowest", "(JJ)V"⟩
abbrev cX7_odds : ByteArray := prog_9_method_38_code
def yX7_odds : MethodName := ⟨RX7, "odds", "(IIII)I"⟩
abbrev cX7_likeliest : ByteArray := prog_9_method_39_code
def yX7_likeliest : MethodName := ⟨RX7, "likeliest", "(II)I"⟩
abbrev cX7_mark : ByteArray := prog_9_method_40_code
def yX7_mark : MethodName := ⟨RX7, "mark", "(I)I"⟩
abbrev cX7_noMarks : ByteArray := prog_9_method_41_code
def yX7_noMarks : MethodName := ⟨RX7, "noMarks", "()I"⟩
abbrev cX7_shows : ByteArray := prog_9_method_42_code
def yX7_shows : MethodName := ⟨RX7, "shows", "()I"⟩
abbrev cX7_far : ByteArray := prog_9_method_43_code
def yX7_far : MethodName := ⟨RX7, "far", "()I"⟩
abbrev cX7_odd : ByteArray := prog_9_method_44_code
def yX7_odd : MethodName := ⟨RX7, "odd", "()I"⟩
abbrev cX7_tenthsOf : ByteArray := prog_9_method_45_code
def yX7_tenthsOf : MethodName := ⟨RX7, "tenthsOf", "(I)I"⟩
abbrev cX7_wish : ByteArray := prog_9_method_46_code
def yX7_wish : MethodName := ⟨RX7, "wish", "(I)I"⟩
abbrev cX7_nearest : ByteArray := prog_9_method_47_code
def yX7_nearest : MethodName := ⟨RX7, "nearest", "(II)I"⟩
abbrev cX7_moved : ByteArray := prog_9_method_48_code
def yX7_moved : MethodName := ⟨RX7, "moved", "(I)I"⟩
abbrev cX7_rent : ByteArray := prog_9_method_49_code
def yX7_rent : MethodName := ⟨RX7, "rent", "(I)J"⟩
abbrev cX7_comes : ByteArray := prog_9_method_50_code
def yX7_comes : MethodName := ⟨RX7, "comes", "(I)I"⟩
abbrev cX7_isSeed : ByteArray := prog_9_method_51_code
def yX7_isSeed : MethodName := ⟨RX7, "isSeed", "(I)Z"⟩
abbrev cX7_winter : ByteArray := prog_9_method_52_code
def yX7_winter : MethodName := ⟨RX7, "winter", "(I)I"⟩
abbrev cX7_ten : ByteArray := prog_9_method_53_code
def yX7_ten : MethodName := ⟨RX7, "ten", "(I)I"⟩
abbrev cX7_copies : ByteArray := prog_9_method_54_code
def yX7_copies : MethodName := ⟨RX7, "copies", "(II)V"⟩
abbrev cX7_keep : ByteArray := prog_9_method_55_code
def yX7_keep : MethodName := ⟨RX7, "keep", "()I"⟩
abbrev cX7_back : ByteArray := prog_9_method_56_code
def yX7_back : MethodName := ⟨RX7, "back", "()I"⟩
abbrev cX7_count : ByteArray := prog_9_method_57_code
def yX7_count : MethodName := ⟨RX7, "count", "(I)I"⟩
def RJ9 : String := "java/lang/Math"
def TJ9 : u_T := fun k => match k with
  | _ => ("", "", "", false)
def tyJ9 : Nat → FieldType := fun k => match k with
  | _ => .int
abbrev wsJ90 : List Cond := u_ws RJ9 TJ9 0
theorem nmJ9 : ∀ a, a < 0 → ∀ b, b < 0 → a ≠ b → (TJ9 a).2.1 ≠ (TJ9 b).2.1 := by decide +kernel
theorem tyJ9_ok : ∀ k, k < 0 → parseFieldDescriptor (TJ9 k).2.2.1 = some (tyJ9 k) := by decide +kernel
abbrev cJ9_abs_0f7a4 : ByteArray := prog_10_method_59_code
def yJ9_abs_0f7a4 : MethodName := ⟨RJ9, "abs", "(I)I"⟩
abbrev cJ9_max_7cf53 : ByteArray := prog_10_method_65_code
def yJ9_max_7cf53 : MethodName := ⟨RJ9, "max", "(II)I"⟩
abbrev cJ9_min_7cf53 : ByteArray := prog_10_method_69_code
def yJ9_min_7cf53 : MethodName := ⟨RJ9, "min", "(II)I"⟩
def RJ7 : String := "java/util/Arrays"
def TJ7 : u_T := fun k => match k with
  | _ => ("", "", "", false)
def tyJ7 : Nat → FieldType := fun k => match k with
  | _ => .int
abbrev wsJ70 : List Cond := u_ws RJ7 TJ7 0
theorem nmJ7 : ∀ a, a < 0 → ∀ b, b < 0 → a ≠ b → (TJ7 a).2.1 ≠ (TJ7 b).2.1 := by decide +kernel
theorem tyJ7_ok : ∀ k, k < 0 → parseFieldDescriptor (TJ7 k).2.2.1 = some (tyJ7 k) := by decide +kernel
abbrev cJ7_fill_53178 : ByteArray := prog_11_method_103_code
def yJ7_fill_53178 : MethodName := ⟨RJ7, "fill", "([II)V"⟩
def RL : String := "SnowByNumberLaw"
abbrev cL_law : ByteArray := code
def yL_law : MethodName := ⟨RL, "law", "([I)Z"⟩
abbrev vwCl : List vw_C := [(RX0, TX0, 8), (RX1, TX1, 7), (RX2, TX2, 3), (RX3, TX3, 6), (RX4, TX4, 4), (RX5, TX5, 11), (RX6, TX6, 10), (RX7, TX7, 25)]
end
section
/-! THE SMALL LAYER: a method is walked over places (numbers of objects and rows), not addresses; heap contents are three functions of place and slot -/
abbrev MD : Type := MethodName × ByteArray × Nat × Option FieldType
abbrev Kd : Type := Nat ⊕ (FieldType × Nat)
abbrev HI : Type := Nat → Nat → Int32
abbrev HJ : Type := Nat → Nat → Int64
abbrev HR : Type := Nat → Nat → Option Nat
abbrev LO : Type := List (Option Value)
def tr (ad : Nat → Nat) (v : Value) : Value := match v with
  | .ref p => .ref (ad p)
  | w => w
theorem tr_cat (ad : Nat → Nat) (v : Value) : (tr ad v).category = v.category := by cases v <;> rfl
def fk (t : FieldType) : Nat := match t with
  | .long => 1
  | .object _ => 2
  | .array _ => 2
  | _ => 0
def fv (ad : Nat → Nat) (I : HI) (J : HJ) (R : HR) (p k : Nat) (t : FieldType) : Value := match fk t with
  | 0 => .int (I p k)
  | 1 => .long (J p k)
  | _ => va_rf ((R p k).map ad)
def acn (ad : Nat → Nat) (I : HI) (J : HJ) (R : HR) (p n : Nat) (t : FieldType) : vp_A := match fk t with
  | 0 => (n, .inl (I p))
  | 1 => (n, .inr (.inl (J p)))
  | _ => (n, .inr (.inr (.inr (.inr (fun j => (R p j).map ad)))))
def RC (c : Nat) : String := match c with
  | 0 => RX0 | 1 => RX1 | 2 => RX2 | 3 => RX3 | 4 => RX4 | 5 => RX5 | 6 => RX6 | _ => RX7
def TC (c : Nat) : u_T := match c with
  | 0 => TX0 | 1 => TX1 | 2 => TX2 | 3 => TX3 | 4 => TX4 | 5 => TX5 | 6 => TX6 | _ => TX7
def tyC (c : Nat) : Nat → FieldType := match c with
  | 0 => tyX0 | 1 => tyX1 | 2 => tyX2 | 3 => tyX3 | 4 => tyX4 | 5 => tyX5 | 6 => tyX6 | _ => tyX7
def nC (c : Nat) : Nat := match c with
  | 0 => 8 | 1 => 7 | 2 => 3 | 3 => 6 | 4 => 4 | 5 => 11 | 6 => 10 | _ => 25
theorem c8 {c : Nat} (h : c < 8) : c = 0 ∨ c = 1 ∨ c = 2 ∨ c = 3 ∨ c = 4 ∨ c = 5 ∨ c = 6 ∨ c = 7 := by omega
theorem vwAt {c : Nat} (h : c < 8) : vwCl[c]? = some (RC c, TC c, nC c) := by
  rcases c8 h with rfl | rfl | rfl | rfl | rfl | rfl | rfl | rfl <;> rfl
theorem tyOK {c : Nat} (h : c < 8) : ∀ k, k < nC c → parseFieldDescriptor (TC c k).2.2.1 = some (tyC c k) := by
  rcases c8 h with rfl | rfl | rfl | rfl | rfl | rfl | rfl | rfl
  · exact tyX0_ok
  · exact tyX1_ok
  · exact tyX2_ok
  · exact tyX3_ok
  · exact tyX4_ok
  · exact tyX5_ok
  · exact tyX6_ok
  · exact tyX7_ok
theorem nmOK {c : Nat} (h : c < 8) : ∀ a, a < nC c → ∀ b, b < nC c → a ≠ b → (TC c a).2.1 ≠ (TC c b).2.1 := by
  rcases c8 h with rfl | rfl | rfl | rfl | rfl | rfl | rfl | rfl
  · exact nmX0
  · exact nmX1
  · exact nmX2
  · exact nmX3
  · exact nmX4
  · exact nmX5
  · exact nmX6
  · exact nmX7
def ALLW : List Cond := lw_tbl.filter goodWord
theorem inA {w : Cond} (i : Nat) (h : lw_tbl[i]? = some w) (hg : goodWord w = true) : w ∈ ALLW := List.mem_filter.mpr ⟨List.mem_of_getElem? h, hg⟩
theorem ALLW_tbl {w : Cond} (h : w ∈ ALLW) : w ∈ lw_tbl := (List.mem_filter.mp h).1
theorem ALLW_good {w : Cond} (h : w ∈ ALLW) : goodWord w = true := (List.mem_filter.mp h).2
theorem u_good {C : String} {T : u_T} {N : Nat} : ∀ w ∈ u_ws C T N, goodWord w = true := by
  intro w hw
  obtain ⟨k, -, rfl⟩ := List.mem_map.mp hw
  unfold u_lay
  split <;> rfl
set_option maxRecDepth 100000 in
theorem uAll {c : Nat} (h : c < 8) : ∀ w ∈ u_ws (RC c) (TC c) (nC c), w ∈ ALLW := by
  intro w hw
  refine List.mem_filter.mpr ⟨?_, u_good w hw⟩
  revert w
  rcases c8 h with rfl | rfl | rfl | rfl | rfl | rfl | rfl | rfl <;> decide +kernel
def isNest (w : Cond) : Bool := match w with
  | .fieldLinkNest _ _ _ _ _ _ => true
  | .methodLinkNest _ _ _ _ => true
  | _ => false
def nestW : List Cond := lw_tbl.filter isNest
theorem inN {w : Cond} (i : Nat) (h : lw_tbl[i]? = some w) (hg : isNest w = true) : w ∈ nestW := List.mem_filter.mpr ⟨List.mem_of_getElem? h, hg⟩
def NN (U : State) : Prop := ∀ w ∈ nestW, va_Nw w U
theorem NN.tabs {w : Cond} (h : w ∈ nestW) : w.onTables = true := by
  have h2 := (List.mem_filter.mp h).2
  cases w <;> first | rfl | (simp [isNest] at h2)
theorem NN.warm {s U : State} (hW : s.WarmedH U.vm) (h : NN s) : NN U := by
  intro w hw
  have h1 := h w hw
  have h2 := (List.mem_filter.mp hw).2
  cases w <;> first | (simp [isNest] at h2; done) | exact va_Nw.warmF hW h1 | exact va_Nw.warmM hW h1
theorem NN.same {u U : State} (e : u.vm = U.vm) (h : NN u) : NN U := fun w hw => va_Nw.same (NN.tabs hw) e (h w hw)
/-- the cells of a world, out of its shape and contents -/
def en (ad : Nat → Nat) (cA : Nat → ClassId) (I : HI) (J : HJ) (R : HR) (p : Nat) (kd : Kd) : va_E := match kd with
  | .inl c => .inr (c, (List.range (nC c)).map (fun k => fv ad I J R p k (tyC c k)))
  | .inr (t, n) => .inl (cA p, acn ad I J R p n t)
def enc (ad : Nat → Nat) (cA : Nat → ClassId) (sh : List Kd) (I : HI) (J : HJ) (R : HR) : va_W := sh.mapIdx (fun p kd => (ad p, en ad cA I J R p kd))
theorem enc_at {ad : Nat → Nat} {cA : Nat → ClassId} {sh : List Kd} {I : HI} {J : HJ} {R : HR} {p : Nat} {kd : Kd} (h : sh[p]? = some kd) : (enc ad cA sh I J R)[p]? = some (ad p, en ad cA I J R p kd) := by
  unfold enc
  rw [List.getElem?_mapIdx, h]
  rfl
def wr {α : Type} (I : Nat → Nat → α) (p k : Nat) (v : α) : Nat → Nat → α := fun a b => if a = p then (if b = k then v else I a b) else I a b
theorem wr_same {α : Type} (I : Nat → Nat → α) (p k : Nat) (v : α) : wr I p k v p k = v := by simp [wr]
theorem wr_ne {α : Type} {I : Nat → Nat → α} {p k : Nat} {v : α} {q : Nat} (h : q ≠ p) : wr I p k v q = I q := by
  funext b
  simp [wr, h]
theorem wr_nk {α : Type} {I : Nat → Nat → α} {p k : Nat} {v : α} {q j : Nat} (h : j ≠ k) : wr I p k v q j = I q j := by
  simp [wr, h]
theorem enc_set {ad : Nat → Nat} {cA : Nat → ClassId} {sh : List Kd} {I I' : HI} {J J' : HJ} {R R' : HR} {p : Nat} {kd : Kd} {e : va_E} (h : sh[p]? = some kd) (hne : ∀ q kd', q ≠ p → en ad cA I' J' R' q kd' = en ad cA I J R q kd') (he : en ad cA I' J' R' p kd = e) : (enc ad cA sh I J R).set p (ad p, e) = enc ad cA sh I' J' R' := by
  apply List.ext_getElem?
  intro q
  by_cases hq : q = p
  · subst hq
    rw [enc_at h, he, List.getElem?_set_self]
    have := (List.getElem?_eq_some_iff.mp (enc_at (ad := ad) (cA := cA) (I := I) (J := J) (R := R) h)).1
    exact this
  · rw [List.getElem?_set_ne (Ne.symm hq)]
    unfold enc
    rw [List.getElem?_mapIdx, List.getElem?_mapIdx]
    cases sh[q]? with
    | none => rfl
    | some kd' => simp only [Option.map_some, hne q kd' hq]
theorem en_ne {ad : Nat → Nat} {cA : Nat → ClassId} {I I' : HI} {J J' : HJ} {R R' : HR} {q : Nat} (h1 : I' q = I q) (h2 : J' q = J q) (h3 : R' q = R q) (kd : Kd) : en ad cA I' J' R' q kd = en ad cA I J R q kd := by
  unfold en fv acn
  simp only [h1, h2, h3]
theorem range_set {f g : Nat → Value} {n k : Nat} {v : Value} (hg : ∀ j, j < n → g j = if j = k then v else f j) : ((List.range n).map f).set k v = (List.range n).map g := by
  apply List.ext_getElem?
  intro j
  by_cases hj : j < n
  · by_cases e : k = j
    · subst e
      rw [List.getElem?_set_self (by simp [hj]), List.getElem?_map, List.getElem?_range hj]
      simp [hg k hj]
    · rw [List.getElem?_set_ne e, List.getElem?_map, List.getElem?_map, List.getElem?_range hj]
      have := hg j hj
      rw [if_neg (fun q => e q.symm)] at this
      simp [this]
  · rw [List.getElem?_eq_none (by simp; omega), List.getElem?_eq_none (by simp; omega)]
theorem en_setF {ad : Nat → Nat} {cA : Nat → ClassId} {I I' : HI} {J J' : HJ} {R R' : HR} {p c k : Nat} {v : Value} (h : ∀ j, j < nC c → fv ad I' J' R' p j (tyC c j) = if j = k then v else fv ad I J R p j (tyC c j)) : en ad cA I' J' R' p (.inl c) = .inr (c, ((List.range (nC c)).map (fun k => fv ad I J R p k (tyC c k))).set k v) := by
  unfold en
  rw [range_set h]
/-- what the tables say of the world's rows -/
def KK (D : va_G) (cA : Nat → ClassId) (sh : List Kd) (U : State) : Prop := va_K D vwCl [] U ∧ ∀ (p : Nat) (t : FieldType) (n : Nat), sh[p]? = some (.inr (t, n)) → va_K D vwCl [(cA p, t)] U
theorem KK.moved {D : va_G} {cA : Nat → ClassId} {sh : List Kd} {u U : State} (hvm : u.vm.Alike U.vm) (h : KK D cA sh u) : KK D cA sh U := ⟨va_K.moved hvm h.1, fun p t n hp => va_K.moved hvm (h.2 p t n hp)⟩
/-- the locals of a frame -/
def is2 (v : Value) : Bool := match v with
  | .long _ => true
  | .double _ => true
  | _ => false
theorem is2_t {v : Value} (h : is2 v = true) : v.category = 2 := by cases v <;> first | rfl | (simp [is2] at h)
theorem is2_f {v : Value} (h : is2 v = false) : v.category = 1 := by cases v <;> first | rfl | (simp [is2] at h)
def lo (ad : Nat → Nat) (ls : Array Slot) (n : Nat) (L : LO) : Prop := ls.size = n ∧ lv_wf ls ∧ ∀ (i : Nat) (v : Value), L[i]? = some (some v) → ls[i]? = some (.val (tr ad v))
def lvl (ad : Nat → Nat) (L : LO) : List (Nat × Value) := (List.range L.length).filterMap (fun i => match L[i]? with
  | some (some v) => some (i, tr ad v)
  | _ => none)
theorem lvl_in {ad : Nat → Nat} {L : LO} {i : Nat} {v : Value} (h : L[i]? = some (some v)) : (i, tr ad v) ∈ lvl ad L := by
  refine List.mem_filterMap.mpr ⟨i, List.mem_range.mpr (List.getElem?_eq_some_iff.mp h).1, ?_⟩
  simp only [h]
theorem lvl_of {ad : Nat → Nat} {L : LO} {q : Nat × Value} (h : q ∈ lvl ad L) : ∃ v, L[q.1]? = some (some v) ∧ q.2 = tr ad v := by
  obtain ⟨i, -, hi⟩ := List.mem_filterMap.mp h
  split at hi
  · rename_i v hv
    cases hi
    exact ⟨v, hv, rfl⟩
  · cases hi
theorem lo.has {ad : Nat → Nat} {ls : Array Slot} {n : Nat} {L : LO} (h : lo ad ls n L) : lv_has ls n (lvl ad L) := ⟨h.1, h.2.1, fun q hq => by
  obtain ⟨v, h1, h2⟩ := lvl_of hq
  rw [h2]
  exact h.2.2 _ _ h1⟩
def kl2 (L : LO) (i : Nat) : LO := match i with
  | 0 => L
  | j + 1 => match L[j]? with
    | some (some v) => (match is2 v with
      | true => L.set j none
      | false => L)
    | _ => L
def st1 (L : LO) (i : Nat) (v : Value) : LO := (kl2 L i).set i (some v)
def st2 (L : LO) (i : Nat) (v : Value) : LO := ((kl2 L i).set i (some v)).set (i + 1) none
theorem kl2_at {L : LO} {i j : Nat} {w : Value} (h : (kl2 L i)[j]? = some (some w)) : L[j]? = some (some w) ∧ (j + 1 = i → is2 w = false) := by
  cases i with
  | zero => exact ⟨h, fun q => by omega⟩
  | succ i =>
    simp only [kl2] at h
    split at h
    · rename_i v hv
      split at h
      · rename_i h2
        by_cases e : i = j
        · subst e
          have hl := (List.getElem?_eq_some_iff.mp hv).1
          rw [List.getElem?_set_self hl] at h
          cases h
        · rw [List.getElem?_set_ne e] at h
          exact ⟨h, fun q => absurd (by omega) e⟩
      · rename_i h2
        refine ⟨h, fun q => ?_⟩
        have e : j = i := by omega
        subst e
        rw [hv] at h
        cases h
        exact h2
    · rename_i hn
      refine ⟨h, fun q => ?_⟩
      have e : j = i := by omega
      subst e
      exact absurd h (hn w)
theorem st1_at {L : LO} {i j : Nat} {v w : Value} (h : (st1 L i v)[j]? = some (some w)) : (j = i ∧ w = v) ∨ (j ≠ i ∧ L[j]? = some (some w) ∧ (j + 1 = i → is2 w = false)) := by
  unfold st1 at h
  by_cases e : i = j
  · subst e
    by_cases hl : i < (kl2 L i).length
    · rw [List.getElem?_set_self hl] at h
      cases h
      exact Or.inl ⟨rfl, rfl⟩
    · rw [List.getElem?_eq_none (by simp; omega)] at h
      cases h
  · rw [List.getElem?_set_ne e] at h
    exact Or.inr ⟨fun q => e q.symm, kl2_at h⟩
theorem st2_at {L : LO} {i j : Nat} {v w : Value} (h : (st2 L i v)[j]? = some (some w)) : (j = i ∧ w = v) ∨ (j ≠ i ∧ j ≠ i + 1 ∧ L[j]? = some (some w) ∧ (j + 1 = i → is2 w = false)) := by
  unfold st2 at h
  by_cases e : i + 1 = j
  · subst e
    by_cases hl : i + 1 < ((kl2 L i).set i (some v)).length
    · rw [List.getElem?_set_self hl] at h
      cases h
    · rw [List.getElem?_eq_none (by simp at hl ⊢; omega)] at h
      cases h
  · rw [List.getElem?_set_ne e] at h
    rcases st1_at (L := L) (i := i) (v := v) h with q | ⟨q1, q2, q3⟩
    · exact Or.inl q
    · exact Or.inr ⟨q1, fun z => e z.symm, q2, q3⟩
theorem lo.put1 {ad : Nat → Nat} {ls' : Array Slot} {n : Nat} {L : LO} {i : Nat} {v : Value} (h : lv_has ls' n ((i, tr ad v) :: (lvl ad L).filter (fun q => !(q.1 == i) && !(q.1 + 1 == i && q.2.category == 2)))) : lo ad ls' n (st1 L i v) := by
  refine ⟨h.1, h.2.1, fun j w hj => ?_⟩
  rcases st1_at hj with ⟨rfl, rfl⟩ | ⟨h1, h2, h3⟩
  · exact h.2.2 _ List.mem_cons_self
  · refine h.2.2 (j, tr ad w) (List.mem_cons_of_mem _ (List.mem_filter.mpr ⟨lvl_in h2, ?_⟩))
    have e1 : (j == i) = false := by simp [h1]
    have e2 : (j + 1 == i && (tr ad w).category == 2) = false := by
      by_cases q : j + 1 = i
      · have := is2_f (h3 q)
        rw [tr_cat, this]
        simp
      · simp [q]
    simp only [e1, e2]
    rfl
theorem lo.put2 {ad : Nat → Nat} {ls' : Array Slot} {n : Nat} {L : LO} {i : Nat} {v : Value} (h : lv_has ls' n ((i, tr ad v) :: (lvl ad L).filter (fun q => !(q.1 == i) && (!(q.1 == i + 1) && !(q.1 + 1 == i && q.2.category == 2))))) : lo ad ls' n (st2 L i v) := by
  refine ⟨h.1, h.2.1, fun j w hj => ?_⟩
  rcases st2_at hj with ⟨rfl, rfl⟩ | ⟨h1, h0, h2, h3⟩
  · exact h.2.2 _ List.mem_cons_self
  · refine h.2.2 (j, tr ad w) (List.mem_cons_of_mem _ (List.mem_filter.mpr ⟨lvl_in h2, ?_⟩))
    have e1 : (j == i) = false := by simp [h1]
    have e0 : (j == i + 1) = false := by simp [h0]
    have e2 : (j + 1 == i && (tr ad w).category == 2) = false := by
      by_cases q : j + 1 = i
      · have := is2_f (h3 q)
        rw [tr_cat, this]
        simp
      · simp [q]
    simp only [e1, e0, e2]
    rfl
def entA (vs : List Value) : LO := match vs with
  | [] => []
  | v :: vs => match is2 v with
    | true => some v :: none :: entA vs
    | false => some v :: entA vs
def L0 (n : Nat) (vs : List Value) : LO := entA vs ++ List.replicate (n - (entA vs).length) none
theorem entA_at (ad : Nat → Nat) : ∀ (vs : List Value) (k i : Nat) (v : Value), (entA vs)[i]? = some (some v) → (k + i, tr ad v) ∈ lv_args k (vs.map (tr ad))
  | [], k, i, v, h => by simp [entA] at h
  | w :: vs, k, i, v, h => by
    rw [entA] at h
    split at h
    · rename_i h2
      have hc := is2_t h2
      simp only [List.map_cons, lv_args, tr_cat, hc, if_true]
      match i, h with
      | 0, h => cases h; exact List.mem_cons_self
      | 1, h => cases h
      | i + 2, h =>
        have := entA_at ad vs (k + 2) i v (by simpa using h)
        rw [show k + (i + 2) = k + 2 + i by omega]
        exact List.mem_cons_of_mem _ this
    · rename_i h2
      have hc := is2_f h2
      simp only [List.map_cons, lv_args, tr_cat, hc]
      match i, h with
      | 0, h => cases h; exact List.mem_cons_self
      | i + 1, h =>
        have := entA_at ad vs (k + 1) i v (by simpa using h)
        rw [show k + (i + 1) = k + 1 + i by omega]
        exact List.mem_cons_of_mem _ (by simpa using this)
theorem sl_len (ad : Nat → Nat) (vs : List Value) : (lg_sl (vs.map (tr ad))).length = (lg_sl vs).length := by
  induction vs with
  | nil => rfl
  | cons v vs ih =>
    have e : ∀ (x : Value) (xs : List Value), (lg_sl (x :: xs)).length = (if x.category = 2 then 2 else 1) + (lg_sl xs).length := fun x xs => by
      unfold lg_sl
      rw [List.flatMap_cons, List.length_append]
      split <;> rfl
    rw [List.map_cons, e, e, tr_cat, ih]
/-- which frame a walk stands in: the room, the end, and how the addresses of now go with those of the entry -/
abbrev Tg : Type := Room × (List Frame → Array Value → State → va_G → (Nat → Prop) → (Nat → Nat) → (Nat → ClassId) → State → Prop) × (State → Array Value → (Nat → Prop) → (Nat → Nat) → (Nat → ClassId) → (Nat → Nat) → (Nat → ClassId) → Prop)
def Cx (m : MD) (p : Program) (s : State) (mid : MethodId) (args : Array Value) (meth : Method) (c : Code) : Prop :=
  p.tables.exec = Jvm.exec ∧ c.code = m.2.1 ∧ meth.sig.returnType = m.2.2.2 ∧ c.maxLocals = m.2.2.1 ∧ s.vm.findClass m.1.cls = some mid.cls ∧ (∀ w ∈ ALLW, w.before args s = true) ∧ meth.locks = false ∧ (m.1.name = "<init>" → meth.name = "<init>") ∧ NN s
def Sta (m : MD) (T : Tg) (sh : List Kd) (L : LO) (I : HI) (J : HJ) (R : HR) (p : Program) (s : State) (mid : MethodId) (args : Array Value) (meth : Method) (c : Code) (D : va_G) (A : Nat → Prop) (ad0 : Nat → Nat) (cA0 : Nat → ClassId) (ad : Nat → Nat) (cA : Nat → ClassId) (H : Heap) (locs : List Loc) (ls : Array Slot) : Prop :=
  Cx m p s mid args meth c ∧ (∀ q : Nat, s.heap.size ≤ q → A q) ∧ T.2.2 s args A ad0 cA0 ad cA ∧ KK D cA sh s ∧ va_P D vwCl (enc ad cA sh I J R) H ∧ va_D A (enc ad cA sh I J R) ∧ va_S A s.heap H locs ∧ lo ad ls m.2.2.1 L
def Wm (m : MD) (T : Tg) (cells slots : Nat) (sh : List Kd) (pc : Nat) (L : LO) (st : List Value) (I : HI) (J : HJ) (R : HR) : Prop :=
  ∀ (p : Program) (l : Launch) (e : Env) (s : State) (mid : MethodId) (args : Array Value) (below : List Frame) (meth : Method) (c : Code) (D : va_G) (A : Nat → Prop) (ad0 : Nat → Nat) (cA0 : Nat → ClassId) (ad : Nat → Nat) (cA : Nat → ClassId) (H : Heap) (locs : List Loc) (ls : Array Slot),
    Sta m T sh L I J R p s mid args meth c D A ad0 cA0 ad cA H locs ls → W p l e T.1 s mid args below meth c H locs cells slots (T.2.1 below args s D A ad0 cA0) (F0 mid pc ls (st.map (tr ad)))
section MROWS
variable {m : MD} {T : Tg} {cells slots : Nat} {sh : List Kd} {pc : Nat} {L : LO} {st : List Value} {I : HI} {J : HJ} {R : HR}
theorem q_iconst {n : Int} {v : Int32} {q : Nat} (hd : decode m.2.1 pc = .ok (.iconst n, 1)) (hq : pc + 1 = q) (hv : Int32.ofInt n = v) (K : Wm m T cells slots sh q L (.int v :: st) I J R) : Wm m T cells slots sh pc L (st) I J R := by
  subst hq
  intro p l e s mid args below meth c D A ad0 cA0 ad cA H locs ls S
  exact lv_iconst S.1.1 S.1.2.1 hd hv (K p l e s mid args below meth c D A ad0 cA0 ad cA H locs ls S)
theorem q_bipush {n : Int} {v : Int32} {q : Nat} (hd : decode m.2.1 pc = .ok (.bipush n, 2)) (hq : pc + 2 = q) (hv : (Int8.ofInt n).toInt32 = v) (K : Wm m T cells slots sh q L (.int v :: st) I J R) : Wm m T cells slots sh pc L (st) I J R := by
  subst hq
  intro p l e s mid args below meth c D A ad0 cA0 ad cA H locs ls S
  exact lv_bipush S.1.1 S.1.2.1 hd hv (K p l e s mid args below meth c D A ad0 cA0 ad cA H locs ls S)
theorem q_sipush {n : Int} {v : Int32} {q : Nat} (hd : decode m.2.1 pc = .ok (.sipush n, 3)) (hq : pc + 3 = q) (hv : (Int16.ofInt n).toInt32 = v) (K : Wm m T cells slots sh q L (.int v :: st) I J R) : Wm m T cells slots sh pc L (st) I J R := by
  subst hq
  intro p l e s mid args below meth c D A ad0 cA0 ad cA H locs ls S
  exact lv_sipush S.1.1 S.1.2.1 hd hv (K p l e s mid args below meth c D A ad0 cA0 ad cA H locs ls S)
theorem q_lconst {n : Fin 2} {v : Int64} {q : Nat} (hd : decode m.2.1 pc = .ok (.lconst n, 1)) (hq : pc + 1 = q) (hv : Int64.ofNat (n : Nat) = v) (K : Wm m T cells slots sh q L (.long v :: st) I J R) : Wm m T cells slots sh pc L (st) I J R := by
  subst hq
  intro p l e s mid args below meth c D A ad0 cA0 ad cA H locs ls S
  exact lv_lconst S.1.1 S.1.2.1 hd hv (K p l e s mid args below meth c D A ad0 cA0 ad cA H locs ls S)
theorem q_ldc {i : Nat} {v : Int32} {q : Nat} (hd : decode m.2.1 pc = .ok (.ldc i, 2)) (hq : pc + 2 = q) (hw : Cond.constant m.1.cls i v ∈ ALLW) (K : Wm m T cells slots sh q L (.int v :: st) I J R) : Wm m T cells slots sh pc L (st) I J R := by
  subst hq
  intro p l e s mid args below meth c D A ad0 cA0 ad cA H locs ls S
  exact lv_ldc S.1.1 S.1.2.1 S.1.2.2.2.2.1 (S.1.2.2.2.2.2.1 _ hw) hd (K p l e s mid args below meth c D A ad0 cA0 ad cA H locs ls S)
theorem q_ldc2 {i : Nat} {v : Int64} {q : Nat} (hd : decode m.2.1 pc = .ok (.ldc2_w i, 3)) (hq : pc + 3 = q) (hw : Cond.constantLong m.1.cls i v ∈ ALLW) (K : Wm m T cells slots sh q L (.long v :: st) I J R) : Wm m T cells slots sh pc L (st) I J R := by
  subst hq
  intro p l e s mid args below meth c D A ad0 cA0 ad cA H locs ls S
  exact lv_ldc2 S.1.1 S.1.2.1 S.1.2.2.2.2.1 (S.1.2.2.2.2.2.1 _ hw) hd (K p l e s mid args below meth c D A ad0 cA0 ad cA H locs ls S)
theorem q_iload_n {k : Fin 4} {x : Int32} {q : Nat} (hd : decode m.2.1 pc = .ok (.iload_n k, 1)) (hq : pc + 1 = q) (hL : L[(k : Nat)]? = some (some (.int x))) (K : Wm m T cells slots sh q L (.int x :: st) I J R) : Wm m T cells slots sh pc L (st) I J R := by
  subst hq
  intro p l e s mid args below meth c D A ad0 cA0 ad cA H locs ls S
  exact lv_iload_n S.1.1 S.1.2.1 hd rfl (S.2.2.2.2.2.2.2.2.2 _ _ hL) (K p l e s mid args below meth c D A ad0 cA0 ad cA H locs ls S)
theorem q_iload {i : Nat} {x : Int32} {q : Nat} (hd : decode m.2.1 pc = .ok (.iload i, 2)) (hq : pc + 2 = q) (hL : L[i]? = some (some (.int x))) (K : Wm m T cells slots sh q L (.int x :: st) I J R) : Wm m T cells slots sh pc L (st) I J R := by
  subst hq
  intro p l e s mid args below meth c D A ad0 cA0 ad cA H locs ls S
  exact lv_iload S.1.1 S.1.2.1 hd (S.2.2.2.2.2.2.2.2.2 _ _ hL) (K p l e s mid args below meth c D A ad0 cA0 ad cA H locs ls S)
theorem q_lload_n {k : Fin 4} {x : Int64} {q : Nat} (hd : decode m.2.1 pc = .ok (.lload_n k, 1)) (hq : pc + 1 = q) (hL : L[(k : Nat)]? = some (some (.long x))) (K : Wm m T cells slots sh q L (.long x :: st) I J R) : Wm m T cells slots sh pc L (st) I J R := by
  subst hq
  intro p l e s mid args below meth c D A ad0 cA0 ad cA H locs ls S
  exact lv_lload_n S.1.1 S.1.2.1 hd rfl (S.2.2.2.2.2.2.2.2.2 _ _ hL) (K p l e s mid args below meth c D A ad0 cA0 ad cA H locs ls S)
theorem q_lload {i : Nat} {x : Int64} {q : Nat} (hd : decode m.2.1 pc = .ok (.lload i, 2)) (hq : pc + 2 = q) (hL : L[i]? = some (some (.long x))) (K : Wm m T cells slots sh q L (.long x :: st) I J R) : Wm m T cells slots sh pc L (st) I J R := by
  subst hq
  intro p l e s mid args below meth c D A ad0 cA0 ad cA H locs ls S
  exact lv_lload S.1.1 S.1.2.1 hd (S.2.2.2.2.2.2.2.2.2 _ _ hL) (K p l e s mid args below meth c D A ad0 cA0 ad cA H locs ls S)
theorem q_aload_n {k : Fin 4} {x : Nat} {q : Nat} (hd : decode m.2.1 pc = .ok (.aload_n k, 1)) (hq : pc + 1 = q) (hL : L[(k : Nat)]? = some (some (.ref x))) (K : Wm m T cells slots sh q L (.ref x :: st) I J R) : Wm m T cells slots sh pc L (st) I J R := by
  subst hq
  intro p l e s mid args below meth c D A ad0 cA0 ad cA H locs ls S
  exact lv_aload_n S.1.1 S.1.2.1 hd rfl (S.2.2.2.2.2.2.2.2.2 _ _ hL) (K p l e s mid args below meth c D A ad0 cA0 ad cA H locs ls S)
theorem q_aload {i : Nat} {x : Nat} {q : Nat} (hd : decode m.2.1 pc = .ok (.aload i, 2)) (hq : pc + 2 = q) (hL : L[i]? = some (some (.ref x))) (K : Wm m T cells slots sh q L (.ref x :: st) I J R) : Wm m T cells slots sh pc L (st) I J R := by
  subst hq
  intro p l e s mid args below meth c D A ad0 cA0 ad cA H locs ls S
  exact lv_aload S.1.1 S.1.2.1 hd (S.2.2.2.2.2.2.2.2.2 _ _ hL) (K p l e s mid args below meth c D A ad0 cA0 ad cA H locs ls S)
theorem q_iadd {x y : Int32} {q : Nat} (hd : decode m.2.1 pc = .ok (.iadd, 1)) (hq : pc + 1 = q) (K : Wm m T cells slots sh q L (.int (x + y) :: st) I J R) : Wm m T cells slots sh pc L (.int y :: .int x :: st) I J R := by
  subst hq
  intro p l e s mid args below meth c D A ad0 cA0 ad cA H locs ls S
  exact lv_iadd S.1.1 S.1.2.1 hd (K p l e s mid args below meth c D A ad0 cA0 ad cA H locs ls S)
theorem q_isub {x y : Int32} {q : Nat} (hd : decode m.2.1 pc = .ok (.isub, 1)) (hq : pc + 1 = q) (K : Wm m T cells slots sh q L (.int (x - y) :: st) I J R) : Wm m T cells slots sh pc L (.int y :: .int x :: st) I J R := by
  subst hq
  intro p l e s mid args below meth c D A ad0 cA0 ad cA H locs ls S
  exact lv_isub S.1.1 S.1.2.1 hd (K p l e s mid args below meth c D A ad0 cA0 ad cA H locs ls S)
theorem q_imul {x y : Int32} {q : Nat} (hd : decode m.2.1 pc = .ok (.imul, 1)) (hq : pc + 1 = q) (K : Wm m T cells slots sh q L (.int (x * y) :: st) I J R) : Wm m T cells slots sh pc L (.int y :: .int x :: st) I J R := by
  subst hq
  intro p l e s mid args below meth c D A ad0 cA0 ad cA H locs ls S
  exact lv_imul S.1.1 S.1.2.1 hd (K p l e s mid args below meth c D A ad0 cA0 ad cA H locs ls S)
theorem q_iand {x y : Int32} {q : Nat} (hd : decode m.2.1 pc = .ok (.iand, 1)) (hq : pc + 1 = q) (K : Wm m T cells slots sh q L (.int (x &&& y) :: st) I J R) : Wm m T cells slots sh pc L (.int y :: .int x :: st) I J R := by
  subst hq
  intro p l e s mid args below meth c D A ad0 cA0 ad cA H locs ls S
  exact lv_iand S.1.1 S.1.2.1 hd (K p l e s mid args below meth c D A ad0 cA0 ad cA H locs ls S)
theorem q_ior {x y : Int32} {q : Nat} (hd : decode m.2.1 pc = .ok (.ior, 1)) (hq : pc + 1 = q) (K : Wm m T cells slots sh q L (.int (x ||| y) :: st) I J R) : Wm m T cells slots sh pc L (.int y :: .int x :: st) I J R := by
  subst hq
  intro p l e s mid args below meth c D A ad0 cA0 ad cA H locs ls S
  exact lv_ior S.1.1 S.1.2.1 hd (K p l e s mid args below meth c D A ad0 cA0 ad cA H locs ls S)
theorem q_ixor {x y : Int32} {q : Nat} (hd : decode m.2.1 pc = .ok (.ixor, 1)) (hq : pc + 1 = q) (K : Wm m T cells slots sh q L (.int (x ^^^ y) :: st) I J R) : Wm m T cells slots sh pc L (.int y :: .int x :: st) I J R := by
  subst hq
  intro p l e s mid args below meth c D A ad0 cA0 ad cA H locs ls S
  exact lv_ixor S.1.1 S.1.2.1 hd (K p l e s mid args below meth c D A ad0 cA0 ad cA H locs ls S)
theorem q_ishl {x y : Int32} {q : Nat} (hd : decode m.2.1 pc = .ok (.ishl, 1)) (hq : pc + 1 = q) (K : Wm m T cells slots sh q L (.int (x <<< (y &&& 31)) :: st) I J R) : Wm m T cells slots sh pc L (.int y :: .int x :: st) I J R := by
  subst hq
  intro p l e s mid args below meth c D A ad0 cA0 ad cA H locs ls S
  exact lv_ishl S.1.1 S.1.2.1 hd (K p l e s mid args below meth c D A ad0 cA0 ad cA H locs ls S)
theorem q_ishr {x y : Int32} {q : Nat} (hd : decode m.2.1 pc = .ok (.ishr, 1)) (hq : pc + 1 = q) (K : Wm m T cells slots sh q L (.int (x >>> (y &&& 31)) :: st) I J R) : Wm m T cells slots sh pc L (.int y :: .int x :: st) I J R := by
  subst hq
  intro p l e s mid args below meth c D A ad0 cA0 ad cA H locs ls S
  exact lv_ishr S.1.1 S.1.2.1 hd (K p l e s mid args below meth c D A ad0 cA0 ad cA H locs ls S)
theorem q_ladd {x y : Int64} {q : Nat} (hd : decode m.2.1 pc = .ok (.ladd, 1)) (hq : pc + 1 = q) (K : Wm m T cells slots sh q L (.long (x + y) :: st) I J R) : Wm m T cells slots sh pc L (.long y :: .long x :: st) I J R := by
  subst hq
  intro p l e s mid args below meth c D A ad0 cA0 ad cA H locs ls S
  exact lv_ladd S.1.1 S.1.2.1 hd (K p l e s mid args below meth c D A ad0 cA0 ad cA H locs ls S)
theorem q_lsub {x y : Int64} {q : Nat} (hd : decode m.2.1 pc = .ok (.lsub, 1)) (hq : pc + 1 = q) (K : Wm m T cells slots sh q L (.long (x - y) :: st) I J R) : Wm m T cells slots sh pc L (.long y :: .long x :: st) I J R := by
  subst hq
  intro p l e s mid args below meth c D A ad0 cA0 ad cA H locs ls S
  exact lv_lsub S.1.1 S.1.2.1 hd (K p l e s mid args below meth c D A ad0 cA0 ad cA H locs ls S)
theorem q_lmul {x y : Int64} {q : Nat} (hd : decode m.2.1 pc = .ok (.lmul, 1)) (hq : pc + 1 = q) (K : Wm m T cells slots sh q L (.long (x * y) :: st) I J R) : Wm m T cells slots sh pc L (.long y :: .long x :: st) I J R := by
  subst hq
  intro p l e s mid args below meth c D A ad0 cA0 ad cA H locs ls S
  exact lv_lmul S.1.1 S.1.2.1 hd (K p l e s mid args below meth c D A ad0 cA0 ad cA H locs ls S)
theorem q_land {x y : Int64} {q : Nat} (hd : decode m.2.1 pc = .ok (.land, 1)) (hq : pc + 1 = q) (K : Wm m T cells slots sh q L (.long (x &&& y) :: st) I J R) : Wm m T cells slots sh pc L (.long y :: .long x :: st) I J R := by
  subst hq
  intro p l e s mid args below meth c D A ad0 cA0 ad cA H locs ls S
  exact lv_land S.1.1 S.1.2.1 hd (K p l e s mid args below meth c D A ad0 cA0 ad cA H locs ls S)
theorem q_lor {x y : Int64} {q : Nat} (hd : decode m.2.1 pc = .ok (.lor, 1)) (hq : pc + 1 = q) (K : Wm m T cells slots sh q L (.long (x ||| y) :: st) I J R) : Wm m T cells slots sh pc L (.long y :: .long x :: st) I J R := by
  subst hq
  intro p l e s mid args below meth c D A ad0 cA0 ad cA H locs ls S
  exact lv_lor S.1.1 S.1.2.1 hd (K p l e s mid args below meth c D A ad0 cA0 ad cA H locs ls S)
theorem q_idiv {x y : Int32} {q : Nat} (hd : decode m.2.1 pc = .ok (.idiv, 1)) (hq : pc + 1 = q) (hne : ¬ y = 0) (K : Wm m T cells slots sh q L (.int (x / y) :: st) I J R) : Wm m T cells slots sh pc L (.int y :: .int x :: st) I J R := by
  subst hq
  intro p l e s mid args below meth c D A ad0 cA0 ad cA H locs ls S
  exact lv_idiv S.1.1 S.1.2.1 hd hne (K p l e s mid args below meth c D A ad0 cA0 ad cA H locs ls S)
theorem q_irem {x y : Int32} {q : Nat} (hd : decode m.2.1 pc = .ok (.irem, 1)) (hq : pc + 1 = q) (hne : ¬ y = 0) (K : Wm m T cells slots sh q L (.int (x - x / y * y) :: st) I J R) : Wm m T cells slots sh pc L (.int y :: .int x :: st) I J R := by
  subst hq
  intro p l e s mid args below meth c D A ad0 cA0 ad cA H locs ls S
  exact lv_irem S.1.1 S.1.2.1 hd hne (K p l e s mid args below meth c D A ad0 cA0 ad cA H locs ls S)
theorem q_ldiv {x y : Int64} {q : Nat} (hd : decode m.2.1 pc = .ok (.ldiv, 1)) (hq : pc + 1 = q) (hne : ¬ y = 0) (K : Wm m T cells slots sh q L (.long (x / y) :: st) I J R) : Wm m T cells slots sh pc L (.long y :: .long x :: st) I J R := by
  subst hq
  intro p l e s mid args below meth c D A ad0 cA0 ad cA H locs ls S
  exact lv_ldiv S.1.1 S.1.2.1 hd hne (K p l e s mid args below meth c D A ad0 cA0 ad cA H locs ls S)
theorem q_lrem {x y : Int64} {q : Nat} (hd : decode m.2.1 pc = .ok (.lrem, 1)) (hq : pc + 1 = q) (hne : ¬ y = 0) (K : Wm m T cells slots sh q L (.long (x - x / y * y) :: st) I J R) : Wm m T cells slots sh pc L (.long y :: .long x :: st) I J R := by
  subst hq
  intro p l e s mid args below meth c D A ad0 cA0 ad cA H locs ls S
  exact lv_lrem S.1.1 S.1.2.1 hd hne (K p l e s mid args below meth c D A ad0 cA0 ad cA H locs ls S)
theorem q_ineg {x : Int32} {q : Nat} (hd : decode m.2.1 pc = .ok (.ineg, 1)) (hq : pc + 1 = q) (K : Wm m T cells slots sh q L (.int (-x) :: st) I J R) : Wm m T cells slots sh pc L (.int x :: st) I J R := by
  subst hq
  intro p l e s mid args below meth c D A ad0 cA0 ad cA H locs ls S
  exact lv_ineg S.1.1 S.1.2.1 hd (K p l e s mid args below meth c D A ad0 cA0 ad cA H locs ls S)
theorem q_lshl {x : Int64} {y : Int32} {q : Nat} (hd : decode m.2.1 pc = .ok (.lshl, 1)) (hq : pc + 1 = q) (K : Wm m T cells slots sh q L (.long (x <<< (y.toInt64 &&& 63)) :: st) I J R) : Wm m T cells slots sh pc L (.int y :: .long x :: st) I J R := by
  subst hq
  intro p l e s mid args below meth c D A ad0 cA0 ad cA H locs ls S
  exact lv_lshl S.1.1 S.1.2.1 hd rfl (K p l e s mid args below meth c D A ad0 cA0 ad cA H locs ls S)
theorem q_lshr {x : Int64} {y : Int32} {q : Nat} (hd : decode m.2.1 pc = .ok (.lshr, 1)) (hq : pc + 1 = q) (K : Wm m T cells slots sh q L (.long (x >>> (y.toInt64 &&& 63)) :: st) I J R) : Wm m T cells slots sh pc L (.int y :: .long x :: st) I J R := by
  subst hq
  intro p l e s mid args below meth c D A ad0 cA0 ad cA H locs ls S
  exact lv_lshr S.1.1 S.1.2.1 hd rfl (K p l e s mid args below meth c D A ad0 cA0 ad cA H locs ls S)
theorem q_lushr {x : Int64} {y : Int32} {q : Nat} (hd : decode m.2.1 pc = .ok (.lushr, 1)) (hq : pc + 1 = q) (K : Wm m T cells slots sh q L (.long ((x.toUInt64 >>> (y.toInt64.toUInt64 &&& Int64.toUInt64 63)).toInt64) :: st) I J R) : Wm m T cells slots sh pc L (.int y :: .long x :: st) I J R := by
  subst hq
  intro p l e s mid args below meth c D A ad0 cA0 ad cA H locs ls S
  exact lv_lushr S.1.1 S.1.2.1 hd rfl (K p l e s mid args below meth c D A ad0 cA0 ad cA H locs ls S)
theorem q_i2l {x : Int32} {q : Nat} (hd : decode m.2.1 pc = .ok (.i2l, 1)) (hq : pc + 1 = q) (K : Wm m T cells slots sh q L (.long x.toInt64 :: st) I J R) : Wm m T cells slots sh pc L (.int x :: st) I J R := by
  subst hq
  intro p l e s mid args below meth c D A ad0 cA0 ad cA H locs ls S
  exact lv_i2l S.1.1 S.1.2.1 hd rfl (K p l e s mid args below meth c D A ad0 cA0 ad cA H locs ls S)
theorem q_l2i {x : Int64} {q : Nat} (hd : decode m.2.1 pc = .ok (.l2i, 1)) (hq : pc + 1 = q) (K : Wm m T cells slots sh q L (.int x.toInt32 :: st) I J R) : Wm m T cells slots sh pc L (.long x :: st) I J R := by
  subst hq
  intro p l e s mid args below meth c D A ad0 cA0 ad cA H locs ls S
  exact lv_l2i S.1.1 S.1.2.1 hd rfl (K p l e s mid args below meth c D A ad0 cA0 ad cA H locs ls S)
theorem q_i2b {x : Int32} {q : Nat} (hd : decode m.2.1 pc = .ok (.i2b, 1)) (hq : pc + 1 = q) (K : Wm m T cells slots sh q L (.int x.toInt8.toInt32 :: st) I J R) : Wm m T cells slots sh pc L (.int x :: st) I J R := by
  subst hq
  intro p l e s mid args below meth c D A ad0 cA0 ad cA H locs ls S
  exact lv_i2b S.1.1 S.1.2.1 hd rfl (K p l e s mid args below meth c D A ad0 cA0 ad cA H locs ls S)
theorem q_lcmp {x y : Int64} {q : Nat} (hd : decode m.2.1 pc = .ok (.lcmp, 1)) (hq : pc + 1 = q) (K : Wm m T cells slots sh q L (.int (lg_cmp x y) :: st) I J R) : Wm m T cells slots sh pc L (.long y :: .long x :: st) I J R := by
  subst hq
  intro p l e s mid args below meth c D A ad0 cA0 ad cA H locs ls S
  exact W.lcmp S.1.1 S.1.2.1 hd (K p l e s mid args below meth c D A ad0 cA0 ad cA H locs ls S)
theorem q_dup {v : Value} {q : Nat} (hd : decode m.2.1 pc = .ok (.dup, 1)) (hq : pc + 1 = q) (hv : v.category = 1) (K : Wm m T cells slots sh q L (v :: v :: st) I J R) : Wm m T cells slots sh pc L (v :: st) I J R := by
  subst hq
  intro p l e s mid args below meth c D A ad0 cA0 ad cA H locs ls S
  exact lv_dup S.1.1 S.1.2.1 hd ((tr_cat ad v).trans hv) (K p l e s mid args below meth c D A ad0 cA0 ad cA H locs ls S)
theorem q_pop {v : Value} {q : Nat} (hd : decode m.2.1 pc = .ok (.pop, 1)) (hq : pc + 1 = q) (hv : v.category = 1) (K : Wm m T cells slots sh q L (st) I J R) : Wm m T cells slots sh pc L (v :: st) I J R := by
  subst hq
  intro p l e s mid args below meth c D A ad0 cA0 ad cA H locs ls S
  exact lv_pop S.1.1 S.1.2.1 hd ((tr_cat ad v).trans hv) (K p l e s mid args below meth c D A ad0 cA0 ad cA H locs ls S)
theorem q_dup2 {v w : Value} {q : Nat} (hd : decode m.2.1 pc = .ok (.dup2, 1)) (hq : pc + 1 = q) (hv : v.category = 1) (hw : w.category = 1) (K : Wm m T cells slots sh q L (v :: w :: v :: w :: st) I J R) : Wm m T cells slots sh pc L (v :: w :: st) I J R := by
  subst hq
  intro p l e s mid args below meth c D A ad0 cA0 ad cA H locs ls S
  exact lv_dup2_11 S.1.1 S.1.2.1 hd ((tr_cat ad v).trans hv) ((tr_cat ad w).trans hw) (K p l e s mid args below meth c D A ad0 cA0 ad cA H locs ls S)
theorem q_dup_x1 {v w : Value} {q : Nat} (hd : decode m.2.1 pc = .ok (.dup_x1, 1)) (hq : pc + 1 = q) (hv : v.category = 1) (hw : w.category = 1) (K : Wm m T cells slots sh q L (v :: w :: v :: st) I J R) : Wm m T cells slots sh pc L (v :: w :: st) I J R := by
  subst hq
  intro p l e s mid args below meth c D A ad0 cA0 ad cA H locs ls S
  exact lv_dup_x1 S.1.1 S.1.2.1 hd ((tr_cat ad v).trans hv) ((tr_cat ad w).trans hw) (K p l e s mid args below meth c D A ad0 cA0 ad cA H locs ls S)
theorem q_goto {off : Int} {q : Nat} (hd : decode m.2.1 pc = .ok (.goto off, 3)) (ht : (pc : Int) + off = (q : Int)) (K : Wm m T cells slots sh q L st I J R) : Wm m T cells slots sh pc L st I J R := by
  intro p l e s mid args below meth c D A ad0 cA0 ad cA H locs ls S
  exact lv_goto S.1.1 S.1.2.1 hd ht (K p l e s mid args below meth c D A ad0 cA0 ad cA H locs ls S)
theorem q_if_eq {x : Int32} {off : Int} {q q2 : Nat} (hd : decode m.2.1 pc = .ok (.ifCond .eq off, 3)) (ht : (pc : Int) + off = (q : Int)) (hq : pc + 3 = q2) (kt : x = 0 → Wm m T cells slots sh q L st I J R) (kf : ¬ x = 0 → Wm m T cells slots sh q2 L st I J R) : Wm m T cells slots sh pc L (.int x :: st) I J R := by
  subst hq
  intro p l e s mid args below meth c D A ad0 cA0 ad cA H locs ls S
  exact lv_if_eq S.1.1 S.1.2.1 hd ht (fun z => kt (z) p l e s mid args below meth c D A ad0 cA0 ad cA H locs ls S) (fun z => kf (z) p l e s mid args below meth c D A ad0 cA0 ad cA H locs ls S)
theorem q_icmp_eq {x y : Int32} {off : Int} {q q2 : Nat} (hd : decode m.2.1 pc = .ok (.if_icmp .eq off, 3)) (ht : (pc : Int) + off = (q : Int)) (hq : pc + 3 = q2) (kt : x = y → Wm m T cells slots sh q L st I J R) (kf : ¬ x = y → Wm m T cells slots sh q2 L st I J R) : Wm m T cells slots sh pc L (.int y :: .int x :: st) I J R := by
  subst hq
  intro p l e s mid args below meth c D A ad0 cA0 ad cA H locs ls S
  exact lv_icmp_eq S.1.1 S.1.2.1 hd ht (fun z => kt (z) p l e s mid args below meth c D A ad0 cA0 ad cA H locs ls S) (fun z => kf (z) p l e s mid args below meth c D A ad0 cA0 ad cA H locs ls S)
theorem q_if_ne {x : Int32} {off : Int} {q q2 : Nat} (hd : decode m.2.1 pc = .ok (.ifCond .ne off, 3)) (ht : (pc : Int) + off = (q : Int)) (hq : pc + 3 = q2) (kt : ¬ x = 0 → Wm m T cells slots sh q L st I J R) (kf : x = 0 → Wm m T cells slots sh q2 L st I J R) : Wm m T cells slots sh pc L (.int x :: st) I J R := by
  subst hq
  intro p l e s mid args below meth c D A ad0 cA0 ad cA H locs ls S
  exact lv_if_ne S.1.1 S.1.2.1 hd ht (fun z => kt (z) p l e s mid args below meth c D A ad0 cA0 ad cA H locs ls S) (fun z => kf (z) p l e s mid args below meth c D A ad0 cA0 ad cA H locs ls S)
theorem q_icmp_ne {x y : Int32} {off : Int} {q q2 : Nat} (hd : decode m.2.1 pc = .ok (.if_icmp .ne off, 3)) (ht : (pc : Int) + off = (q : Int)) (hq : pc + 3 = q2) (kt : ¬ x = y → Wm m T cells slots sh q L st I J R) (kf : x = y → Wm m T cells slots sh q2 L st I J R) : Wm m T cells slots sh pc L (.int y :: .int x :: st) I J R := by
  subst hq
  intro p l e s mid args below meth c D A ad0 cA0 ad cA H locs ls S
  exact lv_icmp_ne S.1.1 S.1.2.1 hd ht (fun z => kt (z) p l e s mid args below meth c D A ad0 cA0 ad cA H locs ls S) (fun z => kf (z) p l e s mid args below meth c D A ad0 cA0 ad cA H locs ls S)
theorem q_if_lt {x : Int32} {off : Int} {q q2 : Nat} (hd : decode m.2.1 pc = .ok (.ifCond .lt off, 3)) (ht : (pc : Int) + off = (q : Int)) (hq : pc + 3 = q2) (kt : x < 0 → Wm m T cells slots sh q L st I J R) (kf : ¬ x < 0 → Wm m T cells slots sh q2 L st I J R) : Wm m T cells slots sh pc L (.int x :: st) I J R := by
  subst hq
  intro p l e s mid args below meth c D A ad0 cA0 ad cA H locs ls S
  exact lv_if_lt S.1.1 S.1.2.1 hd ht (fun z => kt (z) p l e s mid args below meth c D A ad0 cA0 ad cA H locs ls S) (fun z => kf (z) p l e s mid args below meth c D A ad0 cA0 ad cA H locs ls S)
theorem q_icmp_lt {x y : Int32} {off : Int} {q q2 : Nat} (hd : decode m.2.1 pc = .ok (.if_icmp .lt off, 3)) (ht : (pc : Int) + off = (q : Int)) (hq : pc + 3 = q2) (kt : x < y → Wm m T cells slots sh q L st I J R) (kf : ¬ x < y → Wm m T cells slots sh q2 L st I J R) : Wm m T cells slots sh pc L (.int y :: .int x :: st) I J R := by
  subst hq
  intro p l e s mid args below meth c D A ad0 cA0 ad cA H locs ls S
  exact lv_icmp_lt S.1.1 S.1.2.1 hd ht (fun z => kt (z) p l e s mid args below meth c D A ad0 cA0 ad cA H locs ls S) (fun z => kf (z) p l e s mid args below meth c D A ad0 cA0 ad cA H locs ls S)
theorem q_if_ge {x : Int32} {off : Int} {q q2 : Nat} (hd : decode m.2.1 pc = .ok (.ifCond .ge off, 3)) (ht : (pc : Int) + off = (q : Int)) (hq : pc + 3 = q2) (kt : 0 ≤ x → Wm m T cells slots sh q L st I J R) (kf : ¬ 0 ≤ x → Wm m T cells slots sh q2 L st I J R) : Wm m T cells slots sh pc L (.int x :: st) I J R := by
  subst hq
  intro p l e s mid args below meth c D A ad0 cA0 ad cA H locs ls S
  exact lv_if_ge S.1.1 S.1.2.1 hd ht (fun z => kt (z) p l e s mid args below meth c D A ad0 cA0 ad cA H locs ls S) (fun z => kf (z) p l e s mid args below meth c D A ad0 cA0 ad cA H locs ls S)
theorem q_icmp_ge {x y : Int32} {off : Int} {q q2 : Nat} (hd : decode m.2.1 pc = .ok (.if_icmp .ge off, 3)) (ht : (pc : Int) + off = (q : Int)) (hq : pc + 3 = q2) (kt : y ≤ x → Wm m T cells slots sh q L st I J R) (kf : ¬ y ≤ x → Wm m T cells slots sh q2 L st I J R) : Wm m T cells slots sh pc L (.int y :: .int x :: st) I J R := by
  subst hq
  intro p l e s mid args below meth c D A ad0 cA0 ad cA H locs ls S
  exact lv_icmp_ge S.1.1 S.1.2.1 hd ht (fun z => kt (z) p l e s mid args below meth c D A ad0 cA0 ad cA H locs ls S) (fun z => kf (z) p l e s mid args below meth c D A ad0 cA0 ad cA H locs ls S)
theorem q_if_gt {x : Int32} {off : Int} {q q2 : Nat} (hd : decode m.2.1 pc = .ok (.ifCond .gt off, 3)) (ht : (pc : Int) + off = (q : Int)) (hq : pc + 3 = q2) (kt : 0 < x → Wm m T cells slots sh q L st I J R) (kf : ¬ 0 < x → Wm m T cells slots sh q2 L st I J R) : Wm m T cells slots sh pc L (.int x :: st) I J R := by
  subst hq
  intro p l e s mid args below meth c D A ad0 cA0 ad cA H locs ls S
  exact lv_if_gt S.1.1 S.1.2.1 hd ht (fun z => kt (z) p l e s mid args below meth c D A ad0 cA0 ad cA H locs ls S) (fun z => kf (z) p l e s mid args below meth c D A ad0 cA0 ad cA H locs ls S)
theorem q_icmp_gt {x y : Int32} {off : Int} {q q2 : Nat} (hd : decode m.2.1 pc = .ok (.if_icmp .gt off, 3)) (ht : (pc : Int) + off = (q : Int)) (hq : pc + 3 = q2) (kt : y < x → Wm m T cells slots sh q L st I J R) (kf : ¬ y < x → Wm m T cells slots sh q2 L st I J R) : Wm m T cells slots sh pc L (.int y :: .int x :: st) I J R := by
  subst hq
  intro p l e s mid args below meth c D A ad0 cA0 ad cA H locs ls S
  exact lv_icmp_gt S.1.1 S.1.2.1 hd ht (fun z => kt (z) p l e s mid args below meth c D A ad0 cA0 ad cA H locs ls S) (fun z => kf (z) p l e s mid args below meth c D A ad0 cA0 ad cA H locs ls S)
theorem q_if_le {x : Int32} {off : Int} {q q2 : Nat} (hd : decode m.2.1 pc = .ok (.ifCond .le off, 3)) (ht : (pc : Int) + off = (q : Int)) (hq : pc + 3 = q2) (kt : x ≤ 0 → Wm m T cells slots sh q L st I J R) (kf : ¬ x ≤ 0 → Wm m T cells slots sh q2 L st I J R) : Wm m T cells slots sh pc L (.int x :: st) I J R := by
  subst hq
  intro p l e s mid args below meth c D A ad0 cA0 ad cA H locs ls S
  exact lv_if_le S.1.1 S.1.2.1 hd ht (fun z => kt (z) p l e s mid args below meth c D A ad0 cA0 ad cA H locs ls S) (fun z => kf (z) p l e s mid args below meth c D A ad0 cA0 ad cA H locs ls S)
theorem q_icmp_le {x y : Int32} {off : Int} {q q2 : Nat} (hd : decode m.2.1 pc = .ok (.if_icmp .le off, 3)) (ht : (pc : Int) + off = (q : Int)) (hq : pc + 3 = q2) (kt : x ≤ y → Wm m T cells slots sh q L st I J R) (kf : ¬ x ≤ y → Wm m T cells slots sh q2 L st I J R) : Wm m T cells slots sh pc L (.int y :: .int x :: st) I J R := by
  subst hq
  intro p l e s mid args below meth c D A ad0 cA0 ad cA H locs ls S
  exact lv_icmp_le S.1.1 S.1.2.1 hd ht (fun z => kt (z) p l e s mid args below meth c D A ad0 cA0 ad cA H locs ls S) (fun z => kf (z) p l e s mid args below meth c D A ad0 cA0 ad cA H locs ls S)
theorem q_istore_n {k : Fin 4} {x : Int32} {q : Nat} (hd : decode m.2.1 pc = .ok (.istore_n k, 1)) (hq : pc + 1 = q) (hn : (k : Nat) < m.2.2.1) (K : Wm m T cells slots sh q (st1 L (k : Nat) (.int x)) st I J R) : Wm m T cells slots sh pc L (.int x :: st) I J R := by
  subst hq
  intro p l e s mid args below meth c D A ad0 cA0 ad cA H locs ls S
  obtain ⟨C, hA, hT, hK, hP, hD, hS, hl⟩ := S
  exact lv_istore_n C.1 C.2.1 hd rfl hl.has hn rfl (fun ls2 h2 => K p l e s mid args below meth c D A ad0 cA0 ad cA H locs ls2 ⟨C, hA, hT, hK, hP, hD, hS, lo.put1 (v := .int x) h2⟩)
theorem q_istore {i : Nat} {x : Int32} {q : Nat} (hd : decode m.2.1 pc = .ok (.istore i, 2)) (hq : pc + 2 = q) (hn : i < m.2.2.1) (K : Wm m T cells slots sh q (st1 L i (.int x)) st I J R) : Wm m T cells slots sh pc L (.int x :: st) I J R := by
  subst hq
  intro p l e s mid args below meth c D A ad0 cA0 ad cA H locs ls S
  obtain ⟨C, hA, hT, hK, hP, hD, hS, hl⟩ := S
  exact lv_istore C.1 C.2.1 hd hl.has hn rfl (fun ls2 h2 => K p l e s mid args below meth c D A ad0 cA0 ad cA H locs ls2 ⟨C, hA, hT, hK, hP, hD, hS, lo.put1 (v := .int x) h2⟩)
theorem q_astore_n {k : Fin 4} {x : Nat} {q : Nat} (hd : decode m.2.1 pc = .ok (.astore_n k, 1)) (hq : pc + 1 = q) (hn : (k : Nat) < m.2.2.1) (K : Wm m T cells slots sh q (st1 L (k : Nat) (.ref x)) st I J R) : Wm m T cells slots sh pc L (.ref x :: st) I J R := by
  subst hq
  intro p l e s mid args below meth c D A ad0 cA0 ad cA H locs ls S
  obtain ⟨C, hA, hT, hK, hP, hD, hS, hl⟩ := S
  exact lv_astore_n C.1 C.2.1 hd rfl hl.has hn rfl (fun ls2 h2 => K p l e s mid args below meth c D A ad0 cA0 ad cA H locs ls2 ⟨C, hA, hT, hK, hP, hD, hS, lo.put1 (v := .ref x) h2⟩)
theorem q_astore {i : Nat} {x : Nat} {q : Nat} (hd : decode m.2.1 pc = .ok (.astore i, 2)) (hq : pc + 2 = q) (hn : i < m.2.2.1) (K : Wm m T cells slots sh q (st1 L i (.ref x)) st I J R) : Wm m T cells slots sh pc L (.ref x :: st) I J R := by
  subst hq
  intro p l e s mid args below meth c D A ad0 cA0 ad cA H locs ls S
  obtain ⟨C, hA, hT, hK, hP, hD, hS, hl⟩ := S
  exact lv_astore C.1 C.2.1 hd hl.has hn rfl (fun ls2 h2 => K p l e s mid args below meth c D A ad0 cA0 ad cA H locs ls2 ⟨C, hA, hT, hK, hP, hD, hS, lo.put1 (v := .ref x) h2⟩)
theorem q_lstore_n {k : Fin 4} {x : Int64} {q : Nat} (hd : decode m.2.1 pc = .ok (.lstore_n k, 1)) (hq : pc + 1 = q) (hn : (k : Nat) + 1 < m.2.2.1) (K : Wm m T cells slots sh q (st2 L (k : Nat) (.long x)) st I J R) : Wm m T cells slots sh pc L (.long x :: st) I J R := by
  subst hq
  intro p l e s mid args below meth c D A ad0 cA0 ad cA H locs ls S
  obtain ⟨C, hA, hT, hK, hP, hD, hS, hl⟩ := S
  exact lv_lstore_n C.1 C.2.1 hd rfl hl.has hn rfl (fun ls2 h2 => K p l e s mid args below meth c D A ad0 cA0 ad cA H locs ls2 ⟨C, hA, hT, hK, hP, hD, hS, lo.put2 (v := .long x) h2⟩)
theorem q_lstore {i : Nat} {x : Int64} {q : Nat} (hd : decode m.2.1 pc = .ok (.lstore i, 2)) (hq : pc + 2 = q) (hn : i + 1 < m.2.2.1) (K : Wm m T cells slots sh q (st2 L i (.long x)) st I J R) : Wm m T cells slots sh pc L (.long x :: st) I J R := by
  subst hq
  intro p l e s mid args below meth c D A ad0 cA0 ad cA H locs ls S
  obtain ⟨C, hA, hT, hK, hP, hD, hS, hl⟩ := S
  exact lv_lstore C.1 C.2.1 hd hl.has hn rfl (fun ls2 h2 => K p l e s mid args below meth c D A ad0 cA0 ad cA H locs ls2 ⟨C, hA, hT, hK, hP, hD, hS, lo.put2 (v := .long x) h2⟩)
theorem q_iinc {i : Nat} {n : Int} {x v : Int32} {q : Nat} (hd : decode m.2.1 pc = .ok (.iinc i n, 3)) (hq : pc + 3 = q) (hL : L[i]? = some (some (.int x))) (hv : x + Int32.ofInt n = v) (hn : i < m.2.2.1) (K : Wm m T cells slots sh q (st1 L i (.int v)) st I J R) : Wm m T cells slots sh pc L st I J R := by
  subst hq
  intro p l e s mid args below meth c D A ad0 cA0 ad cA H locs ls S
  obtain ⟨C, hA, hT, hK, hP, hD, hS, hl⟩ := S
  obtain ⟨k, hk⟩ := List.getElem?_of_mem (lvl_in (ad := ad) hL)
  exact lv_iinc C.1 C.2.1 hd hl.has hk hv hn rfl (fun ls2 h2 => K p l e s mid args below meth c D A ad0 cA0 ad cA H locs ls2 ⟨C, hA, hT, hK, hP, hD, hS, lo.put1 (v := .int v) h2⟩)
theorem q_lookup {dflt : Int} {ps : Array (Int × Int)} {len : Nat} {x : Int32} {off : Int} {q : Nat} (hd : decode m.2.1 pc = .ok (.lookupswitch dflt ps, len)) (hp : (ps.toList.zip (ps.toList.drop 1)).all (fun (a, next) => a.1 < next.1) = true) (ho : Op.lookupswitch.offset ps.toList dflt x.toInt = off) (ht : (pc : Int) + off = (q : Int)) (K : Wm m T cells slots sh q L st I J R) : Wm m T cells slots sh pc L (.int x :: st) I J R := by
  intro p l e s mid args below meth c D A ad0 cA0 ad cA H locs ls S
  exact lv_lookup S.1.1 S.1.2.1 hd hp ho ht (K p l e s mid args below meth c D A ad0 cA0 ad cA H locs ls S)
theorem q_tableOut {dflt lo hi : Int} {offs : Array Int} {len : Nat} {x : Int32} {q : Nat} (hd : decode m.2.1 pc = .ok (.tableswitch dflt lo hi offs, len)) (h : x.toInt < lo ∨ hi < x.toInt) (ht : (pc : Int) + dflt = (q : Int)) (K : Wm m T cells slots sh q L st I J R) : Wm m T cells slots sh pc L (.int x :: st) I J R := by
  intro p l e s mid args below meth c D A ad0 cA0 ad cA H locs ls S
  exact lv_tableOut S.1.1 S.1.2.1 hd h ht (K p l e s mid args below meth c D A ad0 cA0 ad cA H locs ls S)
theorem q_tableIn {dflt lo hi : Int} {offs : Array Int} {len : Nat} {x : Int32} {off : Int} {q : Nat} (hd : decode m.2.1 pc = .ok (.tableswitch dflt lo hi offs, len)) (h1 : ¬ x.toInt < lo) (h2 : ¬ hi < x.toInt) (ho : offs[(x.toInt - lo).toNat]? = some off) (ht : (pc : Int) + off = (q : Int)) (K : Wm m T cells slots sh q L st I J R) : Wm m T cells slots sh pc L (.int x :: st) I J R := by
  intro p l e s mid args below meth c D A ad0 cA0 ad cA H locs ls S
  exact lv_tableIn S.1.1 S.1.2.1 hd h1 h2 ho ht (K p l e s mid args below meth c D A ad0 cA0 ad cA H locs ls S)
theorem q_widen {k n : Nat} (h1 : cells ≤ k) (h2 : slots ≤ n) (K : Wm m T k n sh pc L st I J R) : Wm m T cells slots sh pc L st I J R := by
  intro p l e s mid args below meth c D A ad0 cA0 ad cA H locs ls S
  exact W.widen h1 h2 (K p l e s mid args below meth c D A ad0 cA0 ad cA H locs ls S)
theorem TC_own {c k : Nat} (h : c < 8) (hk : k < nC c) : (TC c k).1 = RC c := by
  have key : ∀ c, c < 8 → ∀ k, k < nC c → (TC c k).1 = RC c := by decide +kernel
  exact key c h k hk
/-- a field's place in its class, linked at an entry of the pool, of a kind (0 int, 1 long, 2 reference) -/
def FG (own : String) (idx c k kind : Nat) : Prop := c < 8 ∧ k < nC c ∧ fk (tyC c k) = kind ∧ (Cond.fieldLink own idx (RC c) (TC c k).2.1 (TC c k).2.2.1 ∈ ALLW ∨ ∃ host, Cond.fieldLinkNest own idx (RC c) (TC c k).2.1 (TC c k).2.2.1 host ∈ nestW)
theorem W_get {p : Program} {l : Launch} {e : Env} {RR : Room} {s : State} {mid : MethodId} {args : Array Value} {below : List Frame} {meth : Method} {c : Code} {H : Heap} {locs : List Loc} {Q : State → Prop} {D : va_G} {cA : Nat → ClassId} {ad : Nat → Nat} {ls : Array Slot} {rest : List Value} {pl k ci idx kind : Nat}
    (C : Cx m p s mid args meth c) (hK : KK D cA sh s) (hP : va_P D vwCl (enc ad cA sh I J R) H) (hf : FG m.1.cls idx ci k kind) (hs : sh[pl]? = some (.inl ci)) (hd : decode m.2.1 pc = .ok (.getfield idx, 3))
    (kk : W p l e RR s mid args below meth c H locs cells slots Q (F0 mid (pc + 3) ls (fv ad I J R pl k (tyC ci k) :: rest))) : W p l e RR s mid args below meth c H locs cells slots Q (F0 mid pc ls (.ref (ad pl) :: rest)) := by
  obtain ⟨hc, hk, -, hl⟩ := hf
  have he : (enc ad cA sh I J R)[pl]? = some (ad pl, .inr (ci, (List.range (nC ci)).map (fun k => fv ad I J R pl k (tyC ci k)))) := enc_at hs
  have hv : ((List.range (nC ci)).map (fun k => fv ad I J R pl k (tyC ci k)))[k]? = some (fv ad I J R pl k (tyC ci k)) := by
    rw [List.getElem?_map, List.getElem?_range hk]
    rfl
  rcases hl with hl | ⟨host, hl⟩
  · exact va_get (C := RC ci) (T := TC ci) (N := nC ci) C.1 C.2.1 C.2.2.2.2.2.1 (uAll hc) C.2.2.2.2.1 hK.1 hP pl he (vwAt hc) k hk (C.2.2.2.2.2.1 _ hl) (fun _ h => by rw [TC_own hc hk] at h; exact h) hv hd kk
  · exact va_getN (C := RC ci) (T := TC ci) (N := nC ci) C.1 C.2.1 C.2.2.2.2.2.1 (uAll hc) C.2.2.2.2.1 hK.1 hP pl he (vwAt hc) k hk (va_Nw.use (NN.tabs hl) (C.2.2.2.2.2.2.2.2 _ hl)) (fun _ h => by rw [TC_own hc hk] at h; exact h) hv hd kk
theorem q_getI {pl k ci idx : Nat} {q : Nat} (hd : decode m.2.1 pc = .ok (.getfield idx, 3)) (hq : pc + 3 = q) (hf : FG m.1.cls idx ci k 0) (hs : sh[pl]? = some (.inl ci)) (K : Wm m T cells slots sh q L (.int (I pl k) :: st) I J R) : Wm m T cells slots sh pc L (.ref pl :: st) I J R := by
  subst hq
  intro p l e s mid args below meth c D A ad0 cA0 ad cA H locs ls S
  refine W_get S.1 S.2.2.2.1 S.2.2.2.2.1 hf hs hd ?_
  have e1 : fv ad I J R pl k (tyC ci k) = .int (I pl k) := by
    unfold fv
    rw [hf.2.2.1]
    rfl
  rw [e1]
  exact K p l e s mid args below meth c D A ad0 cA0 ad cA H locs ls S
theorem q_getJ {pl k ci idx : Nat} {q : Nat} (hd : decode m.2.1 pc = .ok (.getfield idx, 3)) (hq : pc + 3 = q) (hf : FG m.1.cls idx ci k 1) (hs : sh[pl]? = some (.inl ci)) (K : Wm m T cells slots sh q L (.long (J pl k) :: st) I J R) : Wm m T cells slots sh pc L (.ref pl :: st) I J R := by
  subst hq
  intro p l e s mid args below meth c D A ad0 cA0 ad cA H locs ls S
  refine W_get S.1 S.2.2.2.1 S.2.2.2.2.1 hf hs hd ?_
  have e1 : fv ad I J R pl k (tyC ci k) = .long (J pl k) := by
    unfold fv
    rw [hf.2.2.1]
    rfl
  rw [e1]
  exact K p l e s mid args below meth c D A ad0 cA0 ad cA H locs ls S
theorem q_getR {pl k ci idx r : Nat} {q : Nat} (hd : decode m.2.1 pc = .ok (.getfield idx, 3)) (hq : pc + 3 = q) (hf : FG m.1.cls idx ci k 2) (hs : sh[pl]? = some (.inl ci)) (hr : R pl k = some r) (K : Wm m T cells slots sh q L (.ref r :: st) I J R) : Wm m T cells slots sh pc L (.ref pl :: st) I J R := by
  subst hq
  intro p l e s mid args below meth c D A ad0 cA0 ad cA H locs ls S
  refine W_get S.1 S.2.2.2.1 S.2.2.2.2.1 hf hs hd ?_
  have e1 : fv ad I J R pl k (tyC ci k) = .ref (ad r) := by
    unfold fv
    rw [hf.2.2.1, hr]
    rfl
  rw [e1]
  exact K p l e s mid args below meth c D A ad0 cA0 ad cA H locs ls S
/-- a field written: as FG, with its exact type, not of a nest mate -/
def FP (own : String) (idx c k : Nat) (t : FieldType) (fin : Bool) : Prop := c < 8 ∧ k < nC c ∧ tyC c k = t ∧ (TC c k).2.2.2 = fin ∧ (fin = true → RC c = own) ∧ Cond.fieldLink own idx (RC c) (TC c k).2.1 (TC c k).2.2.1 ∈ ALLW
theorem W_put {p : Program} {l : Launch} {e : Env} {RR : Room} {s : State} {mid : MethodId} {args : Array Value} {below : List Frame} {meth : Method} {c : Code} {H : Heap} {locs : List Loc} {Q : State → Prop} {D : va_G} {cA : Nat → ClassId} {ad : Nat → Nat} {ls : Array Slot} {rest : List Value} {pl k ci idx : Nat} {t : FieldType} {fin : Bool} {v : Value} {A : Nat → Prop} {H0 : Heap} {I' : HI} {J' : HJ} {R' : HR}
    (C : Cx m p s mid args meth c) (hK : KK D cA sh s) (hP : va_P D vwCl (enc ad cA sh I J R) H) (hD : va_D A (enc ad cA sh I J R)) (hS : va_S A H0 H locs) (hf : FP m.1.cls idx ci k t fin) (hin : fin = true → m.1.name = "<init>") (hs : sh[pl]? = some (.inl ci)) (hd : decode m.2.1 pc = .ok (.putfield idx, 3)) (hn : narrow t v = v) (hft : fits t v = true)
    (h1 : ∀ a, a ≠ pl → I' a = I a ∧ J' a = J a ∧ R' a = R a) (h2 : ∀ j, j < nC ci → fv ad I' J' R' pl j (tyC ci j) = if j = k then v else fv ad I J R pl j (tyC ci j))
    (kk : ∀ (H1 : Heap) (locs1 : List Loc), va_P D vwCl (enc ad cA sh I' J' R') H1 → va_D A (enc ad cA sh I' J' R') → va_S A H0 H1 locs1 → W p l e RR s mid args below meth c H1 locs1 cells slots Q (F0 mid (pc + 3) ls rest)) : W p l e RR s mid args below meth c H locs cells slots Q (F0 mid pc ls (v :: .ref (ad pl) :: rest)) := by
  obtain ⟨hc, hk, hty, hfin, how, hl⟩ := hf
  have he : (enc ad cA sh I J R)[pl]? = some (ad pl, .inr (ci, (List.range (nC ci)).map (fun k => fv ad I J R pl k (tyC ci k)))) := enc_at hs
  have hset : (enc ad cA sh I J R).set pl (ad pl, .inr (ci, ((List.range (nC ci)).map (fun k => fv ad I J R pl k (tyC ci k))).set k v)) = enc ad cA sh I' J' R' :=
    enc_set hs (fun a kd ha => en_ne (h1 a ha).1 (h1 a ha).2.1 (h1 a ha).2.2 kd) (en_setF h2)
  have kk2 : ∀ (H1 : Heap) (locs1 : List Loc), va_P D vwCl ((enc ad cA sh I J R).set pl (ad pl, .inr (ci, ((List.range (nC ci)).map (fun k => fv ad I J R pl k (tyC ci k))).set k v))) H1 → va_D A ((enc ad cA sh I J R).set pl (ad pl, .inr (ci, ((List.range (nC ci)).map (fun k => fv ad I J R pl k (tyC ci k))).set k v))) → va_S A H0 H1 locs1 → W p l e RR s mid args below meth c H1 locs1 cells slots Q (F0 mid (pc + 3) ls rest) := by
    rw [hset]
    exact kk
  have hlen : k < ((List.range (nC ci)).map (fun k => fv ad I J R pl k (tyC ci k))).length := by simp; exact hk
  have hpd : parseFieldDescriptor (TC ci k).2.2.1 = some t := by rw [tyOK hc k hk, hty]
  cases fin with
  | false => exact va_put (C := RC ci) (T := TC ci) (N := nC ci) C.1 C.2.1 C.2.2.2.2.2.1 (uAll hc) (tyC ci) (tyOK hc) (nmOK hc) C.2.2.2.2.1 hK.1 hP hD hS pl he (vwAt hc) k hk (C.2.2.2.2.2.1 _ hl) (fun _ h => by rw [TC_own hc hk] at h; exact h) hfin hpd hn hft hlen hd kk2
  | true => exact va_putF (C := RC ci) (T := TC ci) (N := nC ci) C.1 C.2.1 C.2.2.2.2.2.1 (uAll hc) (tyC ci) (tyOK hc) (nmOK hc) C.2.2.2.2.1 hK.1 hP hD hS pl he (vwAt hc) k hk (C.2.2.2.2.2.1 _ hl) (fun _ h => by rw [TC_own hc hk] at h; exact h) hfin (C.2.2.2.2.2.2.2.1 (hin rfl)) ((TC_own hc hk).trans (how rfl)) hpd hn hft hlen hd kk2
theorem fv_wrI {ad : Nat → Nat} {pl k ci : Nat} {v : Int32} (hk : fk (tyC ci k) = 0) (j : Nat) : fv ad (wr I pl k v) J R pl j (tyC ci j) = if j = k then .int v else fv ad I J R pl j (tyC ci j) := by
  by_cases e : j = k
  · subst e
    rw [if_pos rfl]
    unfold fv
    rw [hk]
    simp [wr]
  · rw [if_neg e]
    unfold fv
    rw [wr_nk e]
theorem fv_wrJ {ad : Nat → Nat} {pl k ci : Nat} {v : Int64} (hk : fk (tyC ci k) = 1) (j : Nat) : fv ad I (wr J pl k v) R pl j (tyC ci j) = if j = k then .long v else fv ad I J R pl j (tyC ci j) := by
  by_cases e : j = k
  · subst e
    rw [if_pos rfl]
    unfold fv
    rw [hk]
    simp [wr]
  · rw [if_neg e]
    unfold fv
    rw [wr_nk e]
theorem fv_wrR {ad : Nat → Nat} {pl k ci : Nat} {r : Nat} (hk : fk (tyC ci k) = 2) (j : Nat) : fv ad I J (wr R pl k (some r)) pl j (tyC ci j) = if j = k then .ref (ad r) else fv ad I J R pl j (tyC ci j) := by
  by_cases e : j = k
  · subst e
    rw [if_pos rfl]
    unfold fv
    rw [hk]
    simp [wr, va_rf]
  · rw [if_neg e]
    unfold fv
    rw [wr_nk e]
theorem q_putI {pl k ci idx : Nat} {v : Int32} {q : Nat} (hd : decode m.2.1 pc = .ok (.putfield idx, 3)) (hq : pc + 3 = q) (hf : FP m.1.cls idx ci k .int false) (hs : sh[pl]? = some (.inl ci)) (K : Wm m T cells slots sh q L st (wr I pl k v) J R) : Wm m T cells slots sh pc L (.int v :: .ref pl :: st) I J R := by
  subst hq
  intro p l e s mid args below meth c D A ad0 cA0 ad cA H locs ls S
  obtain ⟨C, hA, hT, hK, hP, hD, hS, hl⟩ := S
  have hk : fk (tyC ci k) = 0 := by rw [hf.2.2.1]; rfl
  exact W_put C hK hP hD hS hf (fun z => by cases z) hs hd rfl rfl (fun a ha => ⟨wr_ne ha, rfl, rfl⟩) (fun j _ => fv_wrI hk j) (fun H1 locs1 hP hD hS => K p l e s mid args below meth c D A ad0 cA0 ad cA H1 locs1 ls ⟨C, hA, hT, hK, hP, hD, hS, hl⟩)
theorem q_putJ {pl k ci idx : Nat} {v : Int64} {q : Nat} (hd : decode m.2.1 pc = .ok (.putfield idx, 3)) (hq : pc + 3 = q) (hf : FP m.1.cls idx ci k .long false) (hs : sh[pl]? = some (.inl ci)) (K : Wm m T cells slots sh q L st I (wr J pl k v) R) : Wm m T cells slots sh pc L (.long v :: .ref pl :: st) I J R := by
  subst hq
  intro p l e s mid args below meth c D A ad0 cA0 ad cA H locs ls S
  obtain ⟨C, hA, hT, hK, hP, hD, hS, hl⟩ := S
  have hk : fk (tyC ci k) = 1 := by rw [hf.2.2.1]; rfl
  exact W_put C hK hP hD hS hf (fun z => by cases z) hs hd rfl rfl (fun a ha => ⟨rfl, wr_ne ha, rfl⟩) (fun j _ => fv_wrJ hk j) (fun H1 locs1 hP hD hS => K p l e s mid args below meth c D A ad0 cA0 ad cA H1 locs1 ls ⟨C, hA, hT, hK, hP, hD, hS, hl⟩)
theorem q_putR {pl k ci idx r : Nat} {t : FieldType} {fin : Bool} {q : Nat} (hd : decode m.2.1 pc = .ok (.putfield idx, 3)) (hq : pc + 3 = q) (hf : FP m.1.cls idx ci k t fin) (ht : fk t = 2) (hin : fin = true → m.1.name = "<init>") (hs : sh[pl]? = some (.inl ci)) (K : Wm m T cells slots sh q L st I J (wr R pl k (some r))) : Wm m T cells slots sh pc L (.ref r :: .ref pl :: st) I J R := by
  subst hq
  intro p l e s mid args below meth c D A ad0 cA0 ad cA H locs ls S
  obtain ⟨C, hA, hT, hK, hP, hD, hS, hl⟩ := S
  have hk : fk (tyC ci k) = 2 := by rw [hf.2.2.1]; exact ht
  have hn : narrow t (.ref (ad r)) = .ref (ad r) := by cases t <;> first | rfl | (simp [fk] at ht)
  have hft : fits t (.ref (ad r)) = true := by cases t <;> first | rfl | (simp [fk] at ht)
  exact W_put C hK hP hD hS hf hin hs hd hn hft (fun a ha => ⟨rfl, rfl, wr_ne ha⟩) (fun j _ => fv_wrR hk j) (fun H1 locs1 hP hD hS => K p l e s mid args below meth c D A ad0 cA0 ad cA H1 locs1 ls ⟨C, hA, hT, hK, hP, hD, hS, hl⟩)
theorem vpn {j n : Nat} (hj : j < n) (hn : n < 2 ^ 31) : vp_in (nI j) n := vp_in_nI hj hn
theorem ncl {j n : Nat} (hj : j < n) (hn : n < 2 ^ 31) : (nI j).toNatClampNeg = j := nI_clamp (by omega)
theorem upd_wr {p k : Nat} {v : Int32} : upd (I p) k v = wr I p k v p := by
  funext b
  simp [upd, wr]
theorem updL_wr {p k : Nat} {v : Int64} : vp_updL (J p) k v = wr J p k v p := by
  funext b
  simp [vp_updL, wr]
theorem q_iald {pl j n : Nat} {q : Nat} (hd : decode m.2.1 pc = .ok (.iaload, 1)) (hq : pc + 1 = q) (hs : sh[pl]? = some (.inr (.int, n))) (hj : j < n) (hn : n < 2 ^ 31) (K : Wm m T cells slots sh q L (.int (I pl j) :: st) I J R) : Wm m T cells slots sh pc L (.int (nI j) :: .ref pl :: st) I J R := by
  subst hq
  intro p l e s mid args below meth c D A ad0 cA0 ad cA H locs ls S
  have K2 := K p l e s mid args below meth c D A ad0 cA0 ad cA H locs ls S
  have he := enc_at (ad := ad) (cA := cA) (I := I) (J := J) (R := R) hs
  refine va_iald S.1.1 S.1.2.1 (S.2.2.2.1.2 pl _ _ hs) S.2.2.2.2.1 pl 0 he rfl (vpn hj hn) hd ?_
  rw [ncl hj hn]
  exact K2
theorem q_bald {pl j n : Nat} {q : Nat} (hd : decode m.2.1 pc = .ok (.baload, 1)) (hq : pc + 1 = q) (hs : sh[pl]? = some (.inr (.byte, n))) (hj : j < n) (hn : n < 2 ^ 31) (K : Wm m T cells slots sh q L (.int (I pl j) :: st) I J R) : Wm m T cells slots sh pc L (.int (nI j) :: .ref pl :: st) I J R := by
  subst hq
  intro p l e s mid args below meth c D A ad0 cA0 ad cA H locs ls S
  have K2 := K p l e s mid args below meth c D A ad0 cA0 ad cA H locs ls S
  have he := enc_at (ad := ad) (cA := cA) (I := I) (J := J) (R := R) hs
  refine va_bald S.1.1 S.1.2.1 (S.2.2.2.1.2 pl _ _ hs) S.2.2.2.2.1 pl 0 he rfl (vpn hj hn) hd ?_
  rw [ncl hj hn]
  exact K2
theorem q_lald {pl j n : Nat} {q : Nat} (hd : decode m.2.1 pc = .ok (.laload, 1)) (hq : pc + 1 = q) (hs : sh[pl]? = some (.inr (.long, n))) (hj : j < n) (hn : n < 2 ^ 31) (K : Wm m T cells slots sh q L (.long (J pl j) :: st) I J R) : Wm m T cells slots sh pc L (.int (nI j) :: .ref pl :: st) I J R := by
  subst hq
  intro p l e s mid args below meth c D A ad0 cA0 ad cA H locs ls S
  have K2 := K p l e s mid args below meth c D A ad0 cA0 ad cA H locs ls S
  have he := enc_at (ad := ad) (cA := cA) (I := I) (J := J) (R := R) hs
  refine va_lald S.1.1 S.1.2.1 (S.2.2.2.1.2 pl _ _ hs) S.2.2.2.2.1 pl 0 he rfl (vpn hj hn) hd ?_
  rw [ncl hj hn]
  exact K2
theorem q_iast {pl j n : Nat} {v : Int32} {q : Nat} (hd : decode m.2.1 pc = .ok (.iastore, 1)) (hq : pc + 1 = q) (hs : sh[pl]? = some (.inr (.int, n))) (hj : j < n) (hn : n < 2 ^ 31) (K : Wm m T cells slots sh q L st (wr I pl j v) J R) : Wm m T cells slots sh pc L (.int v :: .int (nI j) :: .ref pl :: st) I J R := by
  subst hq
  intro p l e s mid args below meth c D A ad0 cA0 ad cA H locs ls S
  obtain ⟨C, hA, hT, hK, hP, hD, hS, hl⟩ := S
  have he := enc_at (ad := ad) (cA := cA) (I := I) (J := J) (R := R) hs
  refine va_iast C.1 C.2.1 (hK.2 pl _ _ hs) hP hD hS pl 0 he rfl (vpn hj hn) hd (fun H1 locs1 hP hD hS => ?_)
  have e2 : (enc ad cA sh I J R).set pl (ad pl, .inl (cA pl, n, .inl ((wr I pl j v) pl))) = enc ad cA sh (wr I pl j v) J R := enc_set hs (fun a kd ha => en_ne (wr_ne ha) rfl rfl kd) rfl
  rw [ncl hj hn, upd_wr, e2] at hP hD
  exact K p l e s mid args below meth c D A ad0 cA0 ad cA H1 locs1 ls ⟨C, hA, hT, hK, hP, hD, hS, hl⟩
theorem q_bast {pl j n : Nat} {v : Int32} {q : Nat} (hd : decode m.2.1 pc = .ok (.bastore, 1)) (hq : pc + 1 = q) (hs : sh[pl]? = some (.inr (.byte, n))) (hj : j < n) (hn : n < 2 ^ 31) (K : Wm m T cells slots sh q L st (wr I pl j (vp_nar .byte v)) J R) : Wm m T cells slots sh pc L (.int v :: .int (nI j) :: .ref pl :: st) I J R := by
  subst hq
  intro p l e s mid args below meth c D A ad0 cA0 ad cA H locs ls S
  obtain ⟨C, hA, hT, hK, hP, hD, hS, hl⟩ := S
  have he := enc_at (ad := ad) (cA := cA) (I := I) (J := J) (R := R) hs
  refine va_bast C.1 C.2.1 (hK.2 pl _ _ hs) hP hD hS pl 0 he rfl (vpn hj hn) hd (fun H1 locs1 hP hD hS => ?_)
  have e2 : (enc ad cA sh I J R).set pl (ad pl, .inl (cA pl, n, .inl ((wr I pl j (vp_nar .byte v)) pl))) = enc ad cA sh (wr I pl j (vp_nar .byte v)) J R := enc_set hs (fun a kd ha => en_ne (wr_ne ha) rfl rfl kd) rfl
  rw [ncl hj hn, upd_wr, e2] at hP hD
  exact K p l e s mid args below meth c D A ad0 cA0 ad cA H1 locs1 ls ⟨C, hA, hT, hK, hP, hD, hS, hl⟩
theorem q_last {pl j n : Nat} {v : Int64} {q : Nat} (hd : decode m.2.1 pc = .ok (.lastore, 1)) (hq : pc + 1 = q) (hs : sh[pl]? = some (.inr (.long, n))) (hj : j < n) (hn : n < 2 ^ 31) (K : Wm m T cells slots sh q L st I (wr J pl j v) R) : Wm m T cells slots sh pc L (.long v :: .int (nI j) :: .ref pl :: st) I J R := by
  subst hq
  intro p l e s mid args below meth c D A ad0 cA0 ad cA H locs ls S
  obtain ⟨C, hA, hT, hK, hP, hD, hS, hl⟩ := S
  have he := enc_at (ad := ad) (cA := cA) (I := I) (J := J) (R := R) hs
  refine va_last C.1 C.2.1 (hK.2 pl _ _ hs) hP hD hS pl 0 he rfl (vpn hj hn) hd (fun H1 locs1 hP hD hS => ?_)
  have e2 : (enc ad cA sh I J R).set pl (ad pl, .inl (cA pl, n, .inr (.inl (wr J pl j v pl)))) = enc ad cA sh I (wr J pl j v) R := enc_set hs (fun a kd ha => en_ne rfl (wr_ne ha) rfl kd) rfl
  rw [ncl hj hn, updL_wr, e2] at hP hD
  exact K p l e s mid args below meth c D A ad0 cA0 ad cA H1 locs1 ls ⟨C, hA, hT, hK, hP, hD, hS, hl⟩
theorem q_alen {pl n : Nat} {t : FieldType} {q : Nat} (hd : decode m.2.1 pc = .ok (.arraylength, 1)) (hq : pc + 1 = q) (hs : sh[pl]? = some (.inr (t, n))) (K : Wm m T cells slots sh q L (.int (nI n) :: st) I J R) : Wm m T cells slots sh pc L (.ref pl :: st) I J R := by
  subst hq
  intro p l e s mid args below meth c D A ad0 cA0 ad cA H locs ls S
  have he := enc_at (ad := ad) (cA := cA) (I := I) (J := J) (R := R) hs
  refine va_alen S.1.1 S.1.2.1 (S.2.2.2.1.2 pl _ _ hs) S.2.2.2.2.1 pl 0 he rfl (v := nI n) ?_ hd (K p l e s mid args below meth c D A ad0 cA0 ad cA H locs ls S)
  unfold acn
  split <;> rfl
theorem q_aald {pl j n r : Nat} {t : FieldType} {q : Nat} (hd : decode m.2.1 pc = .ok (.aaload, 1)) (hq : pc + 1 = q) (hs : sh[pl]? = some (.inr (.array t, n))) (hj : j < n) (hn : n < 2 ^ 31) (hr : R pl j = some r) (K : Wm m T cells slots sh q L (.ref r :: st) I J R) : Wm m T cells slots sh pc L (.int (nI j) :: .ref pl :: st) I J R := by
  subst hq
  intro p l e s mid args below meth c D A ad0 cA0 ad cA H locs ls S
  have K2 := K p l e s mid args below meth c D A ad0 cA0 ad cA H locs ls S
  have he := enc_at (ad := ad) (cA := cA) (I := I) (J := J) (R := R) hs
  have hin : vp_in (nI j) n := vpn hj hn
  have hlt : (nI j).toNatClampNeg < n := Nat.not_le.mp fun z => hin (Or.inr z)
  refine W.aald (v := .ref (ad r)) (ty := .array t) S.1.1 S.1.2.1 (S.2.2.2.2.1 pl _ he) (((S.2.2.2.1.2 pl _ _ hs).2 0 _ rfl).1 n (fun j => va_rf ((R pl j).map ad))) rfl (fun z => by cases z) (by show ¬ (nI j < 0 ∨ (arrV _ _ _).slots.size ≤ _); rw [arrV_size]; exact hin) ?_ rfl rfl hd K2
  show (arrV (cA pl) n (fun j => va_rf ((R pl j).map ad))).slots[(nI j).toNatClampNeg]? = some (.ref (ad r))
  rw [arrV_read _ _ hlt, ncl hj hn, hr]
  rfl
end MROWS
end
section
/-! contracts of methods in the small layer, and calls -/
def SCR : Nat := 1000
def rmd (d mc ms : Nat) : Room := { frames := d, cells := mc, slots := ms, locals := 31 * d }
def Ag (al : Bool) (n0 : Nat) (ad0 : Nat → Nat) (cA0 : Nat → ClassId) (ad : Nat → Nat) (cA : Nat → ClassId) : Prop := match al with
  | false => ad = ad0 ∧ cA = cA0
  | true => ∀ p, (p < n0 ∨ SCR ≤ p) → ad p = ad0 p ∧ cA p = cA0 p
abbrev PO : Type := List Kd → Option Value → HI → HJ → HR → Prop
def QM (al : Bool) (n0 : Nat) (D : va_G) (A : Nat → Prop) (ad0 : Nat → Nat) (cA0 : Nat → ClassId) (Po : PO) : Array Value → State → Outcome → State → Prop := fun _ st oc t =>
  (∃ (v : Option Value) (sh : List Kd) (I : HI) (J : HJ) (R : HR) (ad : Nat → Nat) (cA : Nat → ClassId), oc = .returned (v.map (tr ad)) ∧ Ag al n0 ad0 cA0 ad cA ∧ Po sh v I J R ∧ KK D cA sh t ∧ va_P D vwCl (enc ad cA sh I J R) t.heap ∧ va_D A (enc ad cA sh I J R)) ∧ va_F A st t
def TM (d mc ms : Nat) (al : Bool) (n0 : Nat) (Po : PO) : Tg := (rmd d mc ms, fun below args s D A ad0 cA0 => MQ below (QM al n0 D A ad0 cA0 Po) args s mc ms A, fun _ _ _ ad0 cA0 ad cA => Ag al n0 ad0 cA0 ad cA)
def wsM (m : MD) : List Cond := Cond.code m.1 m.2.1 m.2.2.1 m.2.2.2 :: ALLW
/-- THE CONTRACT of method m at depth d: from arguments args and a world of shape sh, it returns with Po -/
def Mt (m : MD) (d mc ms : Nat) (al : Bool) (args : List Value) (sh : List Kd) (I : HI) (J : HJ) (R : HR) (Po : PO) : Prop :=
  ∀ (l : Launch) (D : va_G) (ad : Nat → Nat) (cA : Nat → ClassId) (sz : Nat), Met l m.1 (wsM m) (rmd d mc ms) (va_Pc (args.map (tr ad)) (fun U => U.heap.size = sz ∧ va_P D vwCl (enc ad cA sh I J R) U.heap ∧ KK D cA sh U ∧ NN U ∧ va_D (fun _ => True) (enc ad cA sh I J R))) (QM al sh.length D (va_A (enc ad cA sh I J R) sz) ad cA Po) mc ms (va_A (enc ad cA sh I J R) sz)
theorem Mt.of {m : MD} {d mc ms : Nat} {al : Bool} {args : List Value} {sh : List Kd} {I : HI} {J : HJ} {R : HR} {Po : PO} {L : LO} (hy : plainName m.1.cls = true) (hn : (lg_sl args).length ≤ m.2.2.1) (hL : L0 m.2.2.1 args = L)
    (K : Wm m (TM d mc ms al sh.length Po) 0 0 sh 0 L [] I J R) : Mt m d mc ms al args sh I J R Po := by
  subst hL
  intro l D ad cA sz
  refine Met.ofW (cc := m.2.1) (maxL := m.2.2.1) (ret := m.2.2.2) hy rfl ?_
  intro p e s mid args' below meth c s₁ B hml hv
  obtain ⟨rfl, hsz, hP, hK, hN, hD0⟩ := hv
  subst hsz
  have hts := atoms_spec (ws := wsM m) B.pre
  have hD := hD0.self (sz := s.heap.size)
  have hl := lv_entry (args.map (tr ad)) (n := m.2.2.1) (by rw [sl_len]; exact hn)
  rw [lg_entry_eq]
  generalize (lg_sl (args.map (tr ad)) ++ List.replicate (m.2.2.1 - (lg_sl (args.map (tr ad))).length) Slot.unset).toArray = ls at hl ⊢
  refine K p l e s mid _ below meth c D (va_A (enc ad cA sh I J R) s.heap.size) ad cA ad cA s.heap [] ls ⟨⟨B.exec, B.bytes, B.returns, hml, findClass_of_methodNamed B.named, fun w h => hts w (List.mem_cons_of_mem _ h), B.notSynchronized, fun h => (name_of_methodNamed B.named B.method).1.trans h, hN⟩, fun q h => Or.inr h, ?_, hK, hP, hD, va_S.rf, hl.1, hl.2.1, fun i v hi => ?_⟩
  · show Ag al sh.length ad cA ad cA
    cases al with
    | false => exact ⟨rfl, rfl⟩
    | true => exact fun _ _ => ⟨rfl, rfl⟩
  · unfold L0 at hi
    have h2 : (entA args)[i]? = some (some v) := by
      by_cases h : i < (entA args).length
      · rwa [List.getElem?_append_left h] at hi
      · rw [List.getElem?_append_right (by omega)] at hi
        have := List.mem_of_getElem? hi
        simp at this
    have := entA_at ad args 0 i v h2
    rw [Nat.zero_add] at this
    exact hl.2.2 _ this
section MCALLS
variable {m : MD} {T : Tg} {cells slots : Nat} {sh : List Kd} {pc : Nat} {L : LO} {st : List Value} {I : HI} {J : HJ} {R : HR}
variable {d mc ms n0 : Nat} {al : Bool} {Po : PO}
theorem q_iret {v : Int32} (hr : m.2.2.2 = some .int) (hd : decode m.2.1 pc = .ok (.ireturn, 1)) (hP0 : Po sh (some (.int v)) I J R) : Wm m (TM d mc ms al n0 Po) mc ms sh pc L [.int v] I J R := by
  intro p l e s mid args below meth c D A ad0 cA0 ad cA H locs ls S
  obtain ⟨C, hA, hT, hK, hP, hD, hS, hl⟩ := S
  exact W.iret C.1 C.2.1 (C.2.2.1.trans hr) (fun t ht hW => ⟨⟨some (.int v), sh, I, J, R, ad, cA, rfl, hT, hP0, KK.moved hW.alike hK, by rw [ht]; exact hP, hD⟩, hS.F ht⟩) hS.2.2 hd C.2.2.2.2.2.2.1
theorem q_zret {v : Int32} (hr : m.2.2.2 = some .boolean) (hd : decode m.2.1 pc = .ok (.ireturn, 1)) (hv : v = 0 ∨ v = 1) (hP0 : Po sh (some (.int v)) I J R) : Wm m (TM d mc ms al n0 Po) mc ms sh pc L [.int v] I J R := by
  intro p l e s mid args below meth c D A ad0 cA0 ad cA H locs ls S
  obtain ⟨C, hA, hT, hK, hP, hD, hS, hl⟩ := S
  exact W.zret C.1 C.2.1 (C.2.2.1.trans hr) (by rcases hv with rfl | rfl <;> rfl) (fun t ht hW => ⟨⟨some (.int v), sh, I, J, R, ad, cA, rfl, hT, hP0, KK.moved hW.alike hK, by rw [ht]; exact hP, hD⟩, hS.F ht⟩) hS.2.2 hd C.2.2.2.2.2.2.1
theorem q_lret {v : Int64} (hr : m.2.2.2 = some .long) (hd : decode m.2.1 pc = .ok (.lreturn, 1)) (hP0 : Po sh (some (.long v)) I J R) : Wm m (TM d mc ms al n0 Po) mc ms sh pc L [.long v] I J R := by
  intro p l e s mid args below meth c D A ad0 cA0 ad cA H locs ls S
  obtain ⟨C, hA, hT, hK, hP, hD, hS, hl⟩ := S
  exact W.lret C.1 C.2.1 (C.2.2.1.trans hr) (fun t ht hW => ⟨⟨some (.long v), sh, I, J, R, ad, cA, rfl, hT, hP0, KK.moved hW.alike hK, by rw [ht]; exact hP, hD⟩, hS.F ht⟩) hS.2.2 hd C.2.2.2.2.2.2.1
theorem q_aret {v : Nat} {cn : String} (hr : m.2.2.2 = some (.object cn)) (hd : decode m.2.1 pc = .ok (.areturn, 1)) (hP0 : Po sh (some (.ref v)) I J R) : Wm m (TM d mc ms al n0 Po) mc ms sh pc L [.ref v] I J R := by
  intro p l e s mid args below meth c D A ad0 cA0 ad cA H locs ls S
  obtain ⟨C, hA, hT, hK, hP, hD, hS, hl⟩ := S
  exact W.aret (v := .ref (ad v)) C.1 C.2.1 (C.2.2.1.trans hr) (Or.inl ⟨cn, rfl⟩) (Or.inr ⟨_, rfl⟩) (fun t ht hW => ⟨⟨some (.ref v), sh, I, J, R, ad, cA, rfl, hT, hP0, KK.moved hW.alike hK, by rw [ht]; exact hP, hD⟩, hS.F ht⟩) hS.2.2 hd C.2.2.2.2.2.2.1
theorem q_vret (hr : m.2.2.2 = none) (hd : decode m.2.1 pc = .ok (.return_, 1)) (hP0 : Po sh none I J R) : Wm m (TM d mc ms al n0 Po) mc ms sh pc L [] I J R := by
  intro p l e s mid args below meth c D A ad0 cA0 ad cA H locs ls S
  obtain ⟨C, hA, hT, hK, hP, hD, hS, hl⟩ := S
  exact W.vret C.1 C.2.1 (C.2.2.1.trans hr) (fun t ht hW => ⟨⟨none, sh, I, J, R, ad, cA, rfl, hT, hP0, KK.moved hW.alike hK, by rw [ht]; exact hP, hD⟩, hS.F ht⟩) hS.2.2 hd C.2.2.2.2.2.2.1
/-- behind a call, whatever it answers -/
theorem W_call {p : Program} {l : Launch} {e : Env} {RR : Room} {s : State} {mid : MethodId} {args : Array Value} {below : List Frame} {meth : Method} {c : Code} {H : Heap} {locs : List Loc} {Q : State → Prop} {D : va_G} {cA : Nat → ClassId} {ad : Nat → Nat} {ls : Array Slot} {rest st0 : List Value} {a : Array Value} {A0 A1 free : Nat → Prop} {H0 : Heap} {k : Nat}
    (hr : va_Run p l e RR s mid args below meth c H locs cells slots mc ms (F0 mid pc ls st0) rest (QM al k D A1 ad cA Po a) free) (hS : va_S A0 H0 H locs) (hA : ∀ q, q < H.size → A1 q → A0 q) (hf : ∀ q, free q → A0 q)
    (kk : ∀ (v : Option Value) (sh' : List Kd) (I' : HI) (J' : HJ) (R' : HR) (ad' : Nat → Nat) (cA' : Nat → ClassId) (t : State) (H1 : Heap) (locs1 : List Loc), t.heap = H1 → s.vm.Alike t.vm → Ag al k ad cA ad' cA' → Po sh' v I' J' R' → KK D cA' sh' t → va_P D vwCl (enc ad' cA' sh' I' J' R') H1 → va_D A1 (enc ad' cA' sh' I' J' R') → va_S A0 H0 H1 locs1 → W p l e RR s mid args below meth c H1 locs1 (cells + mc) (slots + ms) Q (F0 mid (pc + 3) ls ((v.map (tr ad')).toList ++ rest))) : W p l e RR s mid args below meth c H locs cells slots Q (F0 mid pc ls st0) := by
  intro T hT X
  obtain ⟨v, st₀, t, T', Ls, h0, X', hL, e1, e2, ⟨⟨w, sh', I', J', R', ad', cA', hv, hg, hp, hk, hpp, hdd⟩, hz, hkk⟩, stp⟩ := hr T hT X
  cases hv
  rw [h0] at hz hkk
  obtain ⟨t2, a1, b1⟩ := kk w sh' I' J' R' ad' cA' t T'.heap (locs ++ Ls) e1.symm (by rw [← e2]; exact X'.warmed.alike) hg hp hk (by rw [e1]; exact hpp) hdd
    ⟨Nat.le_trans hS.1 (by rw [e1]; exact hz), fun q h1 h2 => by rw [e1, hkk q (Nat.lt_of_lt_of_le h1 hS.1) (fun z => h2 (hA q (Nat.lt_of_lt_of_le h1 hS.1) z))]; exact hS.2.1 q h1 h2, fun q hq => by
      rcases List.mem_append.mp hq with h | h
      · exact hS.2.2 q h
      · exact hf _ (hL q h)⟩ T' rfl X'
  exact ⟨t2, stp t2 a1, b1⟩
theorem enc_free {ad : Nat → Nat} {cA : Nat → ClassId} {A : Nat → Prop} {H0 H : Heap} {locs : List Loc} (hD : va_D A (enc ad cA sh I J R)) (hS : va_S A H0 H locs) (hA : ∀ q, H0.size ≤ q → A q) : ∀ q, va_A (enc ad cA sh I J R) H.size q → A q := by
  intro q h
  rcases h with ⟨k, e, h⟩ | h
  · exact hD.2 k _ h
  · exact hA q (Nat.le_trans hS.1 h)
/-- a callee, as its words have it: f says how it is called (0 virtual, 1 static, 2 constructor), n its arguments -/
def MF (y : MD) (f ci n : Nat) : Prop := y.2.2.1 ≤ 12 ∧ Cond.initialized y.1.cls ∈ ALLW ∧ Cond.code y.1 y.2.1 y.2.2.1 y.2.2.2 ∈ ALLW ∧ (y.1.cls ≠ "java/lang/invoke/MethodHandle" ∧ y.1.cls ≠ "java/lang/invoke/VarHandle") ∧ (parseMethodDescriptor y.1.desc).map (fun d => d.parameters.length) = some n ∧
  (match f with
  | 0 => ci < 8 ∧ RC ci = y.1.cls ∧ Cond.instanceMethod y.1 ∈ ALLW ∧ Cond.selects y.1.cls y.1 y.1 ∈ ALLW
  | 1 => Cond.static y.1 ∈ ALLW
  | _ => y.1.name = "<init>" ∧ y.2.2.2 = none ∧ Cond.instanceMethod y.1 ∈ ALLW)
def ML (own : String) (idx : Nat) (y : MD) : Prop := Cond.methodLink own idx y.1 ∈ ALLW ∨ ∃ host, Cond.methodLinkNest own idx y.1 host ∈ nestW
theorem wsM_warm {y : MD} {s : State} {args : Array Value} (hts : ∀ w ∈ ALLW, w.before args s = true) (hc : Cond.code y.1 y.2.1 y.2.2.1 y.2.2.2 ∈ ALLW) : ∀ w ∈ wsM y, ∀ (a' : Array Value) (U : State), s.WarmedH U.vm → w.before a' U = true := by
  intro w hw a' U hW
  have hw2 : w ∈ ALLW := by
    rcases List.mem_cons.mp hw with rfl | h
    · exact hc
    · exact h
  exact word_at hW (good_of_word (ALLW_good hw2)) (hts w hw2)
theorem callB_mini {y : MD} {RR : Room} {s : State} {args : Array Value} {own : String} {idx f ci n dd kc ks : Nat} (hts : ∀ w ∈ ALLW, w.before args s = true) (hm : MF y f ci n) (hl : Cond.methodLink own idx y.1 ∈ ALLW) (hR : dd + 1 ≤ RR.frames ∧ 31 * (dd + 1) ≤ RR.locals) :
    CallB RR s args own idx y.1 y.2.1 y.2.2.1 y.2.2.2 (wsM y) (rmd dd kc ks) kc ks n := by
  obtain ⟨h1, h2, h3, h4, h5, -⟩ := hm
  refine ⟨rfl, rfl, hR.1, ?_, wsM_warm hts h3, List.mem_cons_self, hts _ h3, hts _ h2, h4, fun sig h => ?_, hts _ hl⟩
  · show 8 + (y.2.2.1 + 11) + 31 * dd ≤ RR.locals
    omega
  · rw [h] at h5
    exact (Option.some.inj h5).symm
theorem callN_mini {y : MD} {RR : Room} {s : State} {args : Array Value} {own host : String} {idx f ci n dd kc ks : Nat} (hts : ∀ w ∈ ALLW, w.before args s = true) (hN : NN s) (hm : MF y f ci n) (hl : Cond.methodLinkNest own idx y.1 host ∈ nestW) (hR : dd + 1 ≤ RR.frames ∧ 31 * (dd + 1) ≤ RR.locals) :
    va_CN RR s args own idx y.1 host y.2.1 y.2.2.1 y.2.2.2 (wsM y) (rmd dd kc ks) kc ks n := by
  obtain ⟨h1, h2, h3, h4, h5, -⟩ := hm
  refine ⟨⟨rfl, rfl, hR.1, ?_, wsM_warm hts h3, List.mem_cons_self⟩, hts _ h3, hts _ h2, h4, fun sig h => ?_, va_Nw.use (NN.tabs hl) (hN _ hl)⟩
  · show 8 + (y.2.2.1 + 11) + 31 * dd ≤ RR.locals
    omega
  · rw [h] at h5
    exact (Option.some.inj h5).symm
theorem blind_mini {av : List Value} {D : va_G} {ad : Nat → Nat} {cA : Nat → ClassId} {sz : Nat} : FrameBlind (va_Pc av (fun U => U.heap.size = sz ∧ va_P D vwCl (enc ad cA sh I J R) U.heap ∧ KK D cA sh U ∧ NN U ∧ va_D (fun _ => True) (enc ad cA sh I J R))) :=
  fun a U g mk q => ⟨q.1, q.2.1, q.2.2.1, KK.moved (u := U) (U := U.calling g mk a) (Vm.Alike.refl U.vm) q.2.2.2.1, NN.same (u := U) (U := U.calling g mk a) rfl q.2.2.2.2.1, q.2.2.2.2.2⟩
theorem pre_mini {av : List Value} {D : va_G} {ad : Nat → Nat} {cA : Nat → ClassId} {H : Heap} {s : State} {A : Nat → Prop} (hK : KK D cA sh s) (hN : NN s) (hP : va_P D vwCl (enc ad cA sh I J R) H) (hD : va_D A (enc ad cA sh I J R)) : ∀ U : State, U.heap = H → s.WarmedH U.vm → va_Pc av (fun U => U.heap.size = H.size ∧ va_P D vwCl (enc ad cA sh I J R) U.heap ∧ KK D cA sh U ∧ NN U ∧ va_D (fun _ => True) (enc ad cA sh I J R)) av.toArray U :=
  fun U hU hW => ⟨rfl, by rw [hU], by rw [hU]; exact hP, KK.moved hW.alike hK, NN.warm hW hN, hD.weaken (fun _ _ _ _ => trivial)⟩
/-- a call of the small layer, as the machine's run -/
def MRun (m : MD) (T : Tg) (cells slots : Nat) (sh : List Kd) (pc : Nat) (st0 rest : List Value) (I : HI) (J : HJ) (R : HR) (mc ms : Nat) (al : Bool) (Po : PO) : Prop :=
  ∀ (p : Program) (l : Launch) (e : Env) (s : State) (mid : MethodId) (args : Array Value) (below : List Frame) (meth : Method) (c : Code) (D : va_G) (A : Nat → Prop) (ad : Nat → Nat) (cA : Nat → ClassId) (H : Heap) (locs : List Loc) (ls : Array Slot),
    Cx m p s mid args meth c → KK D cA sh s → va_P D vwCl (enc ad cA sh I J R) H → va_D A (enc ad cA sh I J R) → ls.size = m.2.2.1 → ∃ a : Array Value, va_Run p l e T.1 s mid args below meth c H locs cells slots mc ms (F0 mid pc ls (st0.map (tr ad))) (rest.map (tr ad)) (QM al sh.length D (va_A (enc ad cA sh I J R) H.size) ad cA Po a) (va_A (enc ad cA sh I J R) H.size)
theorem lv_roomM {ad : Nat → Nat} {mid : MethodId} {ls : Array Slot} {st0 rest : List Value} (h : (rest.map fun v => v.category).sum ≤ 8) : 2 * (F0 mid pc ls st0).monitorRoom + ((rest.map (tr ad)).map fun v => v.category).sum ≤ 8 := by
  refine lv_room ?_
  rw [List.map_map]
  have : (Value.category ∘ tr ad) = Value.category := funext (fun v => tr_cat ad v)
  show (List.map (Value.category ∘ tr ad) rest).sum ≤ 8
  rw [this]
  exact h
theorem run_V {y : MD} {idx ci n dd pl : Nat} {As rest : List Value} (hd : decode m.2.1 pc = .ok (.invokevirtual idx, 3)) (hl : ML m.1.cls idx y) (hm : MF y 0 ci n) (hs : sh[pl]? = some (.inl ci)) (hn : As.length = n) (hr : (rest.map fun v => v.category).sum ≤ 8) (hR : dd + 1 ≤ T.1.frames ∧ 31 * (dd + 1) ≤ T.1.locals) (hf : cells + mc ≤ T.1.cells ∧ slots + ms ≤ T.1.slots)
    (hM : Mt y dd mc ms al (.ref pl :: As) sh I J R Po) : MRun m T cells slots sh pc (As.reverse ++ .ref pl :: rest) rest I J R mc ms al Po := by
  intro p l e s mid args below meth c D A ad cA H locs ls C hK hP hD hsz
  have hc8 := hm.2.2.2.2.2.1
  have hrec := va_recv hK.1 hP (vwAt hc8) (enc_at hs)
  have hcl : (RC ci, TC ci, nC ci).1 = y.1.cls := hm.2.2.2.2.2.2.1
  rw [hcl] at hrec
  have hpre : PreV s H y.1.cls (ad pl) (va_Pc ((.ref pl :: As).map (tr ad)) (fun U => U.heap.size = H.size ∧ va_P D vwCl (enc ad cA sh I J R) U.heap ∧ KK D cA sh U ∧ NN U ∧ va_D (fun _ => True) (enc ad cA sh I J R))) (As.map (tr ad)) := ⟨blind_mini, hrec, pre_mini hK C.2.2.2.2.2.2.2.2 hP hD⟩
  have hst : (As.reverse ++ .ref pl :: rest).map (tr ad) = (As.map (tr ad)).reverse ++ .ref (ad pl) :: rest.map (tr ad) := by
    rw [List.map_append, List.map_reverse, List.map_cons]
    rfl
  rw [hst]
  rcases hl with hl | ⟨host, hl⟩
  · exact ⟨_, va_runV (g := F0 mid pc ls _) ⟨C.1, C.2.1, C.2.2.2.1, C.2.2.2.2.1, C.2.2.2.2.2.1⟩ (hM l D ad cA H.size) ⟨callB_mini C.2.2.2.2.2.1 hm hl hR, C.2.2.2.2.2.1 _ hm.2.2.2.2.2.2.2.1, C.2.2.2.2.2.1 _ hm.2.2.2.2.2.2.2.2⟩ hpre rfl (by rw [List.length_map]; exact hn) hsz rfl (lv_roomM hr) hd hf⟩
  · exact ⟨_, va_runVN (g := F0 mid pc ls _) ⟨C.1, C.2.1, C.2.2.2.1, C.2.2.2.2.1, C.2.2.2.2.2.1⟩ (hM l D ad cA H.size) ⟨callN_mini C.2.2.2.2.2.1 C.2.2.2.2.2.2.2.2 hm hl hR, C.2.2.2.2.2.1 _ hm.2.2.2.2.2.2.2.1, C.2.2.2.2.2.1 _ hm.2.2.2.2.2.2.2.2⟩ hpre rfl (by rw [List.length_map]; exact hn) hsz rfl (lv_roomM hr) hd hf⟩
theorem run_S {y : MD} {idx ci n dd : Nat} {As rest : List Value} (hd : decode m.2.1 pc = .ok (.invokestatic idx, 3)) (hl : ML m.1.cls idx y) (hm : MF y 1 ci n) (hn : As.length = n) (hr : (rest.map fun v => v.category).sum ≤ 8) (hR : dd + 1 ≤ T.1.frames ∧ 31 * (dd + 1) ≤ T.1.locals) (hf : cells + mc ≤ T.1.cells ∧ slots + ms ≤ T.1.slots)
    (hM : Mt y dd mc ms al As sh I J R Po) : MRun m T cells slots sh pc (As.reverse ++ rest) rest I J R mc ms al Po := by
  intro p l e s mid args below meth c D A ad cA H locs ls C hK hP hD hsz
  have hpre : PreS s H (va_Pc (As.map (tr ad)) (fun U => U.heap.size = H.size ∧ va_P D vwCl (enc ad cA sh I J R) U.heap ∧ KK D cA sh U ∧ NN U ∧ va_D (fun _ => True) (enc ad cA sh I J R))) (As.map (tr ad)) := ⟨blind_mini, pre_mini hK C.2.2.2.2.2.2.2.2 hP hD⟩
  have hst : (As.reverse ++ rest).map (tr ad) = (As.map (tr ad)).reverse ++ rest.map (tr ad) := by
    rw [List.map_append, List.map_reverse]
  rw [hst]
  rcases hl with hl | ⟨host, hl⟩
  · exact ⟨_, va_runS (g := F0 mid pc ls _) ⟨C.1, C.2.1, C.2.2.2.1, C.2.2.2.2.1, C.2.2.2.2.2.1⟩ (hM l D ad cA H.size) ⟨callB_mini C.2.2.2.2.2.1 hm hl hR, C.2.2.2.2.2.1 _ hm.2.2.2.2.2⟩ hpre rfl (by rw [List.length_map]; exact hn) hsz rfl (lv_roomM hr) hd hf⟩
  · exact ⟨_, va_runSN (g := F0 mid pc ls _) ⟨C.1, C.2.1, C.2.2.2.1, C.2.2.2.2.1, C.2.2.2.2.2.1⟩ (hM l D ad cA H.size) ⟨callN_mini C.2.2.2.2.2.1 C.2.2.2.2.2.2.2.2 hm hl hR, C.2.2.2.2.2.1 _ hm.2.2.2.2.2, trivial⟩ hpre rfl (by rw [List.length_map]; exact hn) hsz rfl (lv_roomM hr) hd hf⟩
theorem run_I {y : MD} {idx ci n dd pl : Nat} {As rest : List Value} (hd : decode m.2.1 pc = .ok (.invokespecial idx, 3)) (hl : ML m.1.cls idx y) (hm : MF y 2 ci n) (hn : As.length = n) (hr : (rest.map fun v => v.category).sum ≤ 8) (hR : dd + 1 ≤ T.1.frames ∧ 31 * (dd + 1) ≤ T.1.locals) (hf : cells + mc ≤ T.1.cells ∧ slots + ms ≤ T.1.slots)
    (hM : Mt y dd mc ms al (.ref pl :: As) sh I J R Po) : MRun m T cells slots sh pc (As.reverse ++ .ref pl :: rest) rest I J R mc ms al Po := by
  intro p l e s mid args below meth c D A ad cA H locs ls C hK hP hD hsz
  have hpre : PreS s H (va_Pc ((.ref pl :: As).map (tr ad)) (fun U => U.heap.size = H.size ∧ va_P D vwCl (enc ad cA sh I J R) U.heap ∧ KK D cA sh U ∧ NN U ∧ va_D (fun _ => True) (enc ad cA sh I J R))) (.ref (ad pl) :: As.map (tr ad)) := ⟨blind_mini, pre_mini hK C.2.2.2.2.2.2.2.2 hP hD⟩
  have hst : (As.reverse ++ .ref pl :: rest).map (tr ad) = (As.map (tr ad)).reverse ++ .ref (ad pl) :: rest.map (tr ad) := by
    rw [List.map_append, List.map_reverse, List.map_cons]
    rfl
  rw [hst]
  have hret := hm.2.2.2.2.2.2.1
  rcases hl with hl | ⟨host, hl⟩
  · have cb := callB_mini (kc := mc) (ks := ms) (dd := dd) (n := n) C.2.2.2.2.2.1 hm hl hR
    rw [hret] at cb
    exact ⟨_, va_runI (g := F0 mid pc ls _) ⟨C.1, C.2.1, C.2.2.2.1, C.2.2.2.2.1, C.2.2.2.2.2.1⟩ (hM l D ad cA H.size) ⟨cb, hm.2.2.2.2.2.1, C.2.2.2.2.2.1 _ hm.2.2.2.2.2.2.2⟩ hpre rfl (by rw [List.length_map]; exact hn) hsz rfl (lv_roomM hr) hd hf⟩
  · have cb := callN_mini (kc := mc) (ks := ms) (dd := dd) (n := n) C.2.2.2.2.2.1 C.2.2.2.2.2.2.2.2 hm hl hR
    rw [hret] at cb
    exact ⟨_, va_runIN (g := F0 mid pc ls _) ⟨C.1, C.2.1, C.2.2.2.1, C.2.2.2.2.1, C.2.2.2.2.2.1⟩ (hM l D ad cA H.size) ⟨cb, hm.2.2.2.2.2.1, C.2.2.2.2.2.1 _ hm.2.2.2.2.2.2.2⟩ hpre rfl (by rw [List.length_map]; exact hn) hsz rfl (lv_roomM hr) hd hf⟩
/-- behind a call that makes nothing -/
theorem q_after {st0 rest : List Value} {q : Nat} (hq : pc + 3 = q) (hr : MRun m T cells slots sh pc st0 rest I J R 0 0 false (fun sh' v I' J' R' => sh' = sh ∧ Po sh v I' J' R'))
    (K : ∀ (v : Option Value) (I' : HI) (J' : HJ) (R' : HR), Po sh v I' J' R' → Wm m T cells slots sh q L (v.toList ++ rest) I' J' R') : Wm m T cells slots sh pc L st0 I J R := by
  subst hq
  intro p l e s mid args below meth c D A ad0 cA0 ad cA H locs ls S
  obtain ⟨C, hA, hT, hK, hP, hD, hS, hl⟩ := S
  obtain ⟨a, hrun⟩ := hr p l e s mid args below meth c D A ad cA H locs ls C hK hP hD hl.1
  have hF := enc_free hD hS hA
  refine W_call hrun hS (fun q _ h => hF q h) hF (fun v sh' I' J' R' ad' cA' t H1 locs1 ht hvm hg hp hk hpp hdd hS1 => ?_)
  obtain ⟨rfl, rfl⟩ := hg
  obtain ⟨rfl, hp⟩ := hp
  have := K v I' J' R' hp p l e s mid args below meth c D A ad0 cA0 ad' cA' H1 locs1 ls ⟨C, hA, hT, hK, hpp, hdd.weaken (fun _ q _ h => hF q.1 h), hS1, hl⟩
  rw [List.map_append] at this
  cases v <;> exact this
/-- behind a call that makes cells: what was there keeps its place -/
def Tx (T : Tg) (n : Nat) : Prop := ∀ (s : State) (args : Array Value) (A : Nat → Prop) (ad0 : Nat → Nat) (cA0 : Nat → ClassId) (ad : Nat → Nat) (cA : Nat → ClassId) (ad' : Nat → Nat) (cA' : Nat → ClassId), T.2.2 s args A ad0 cA0 ad cA → (∀ p, (p < n ∨ SCR ≤ p) → ad' p = ad p ∧ cA' p = cA p) → T.2.2 s args A ad0 cA0 ad' cA'
theorem Tx.of {n : Nat} (h : n0 ≤ n) : Tx (TM d mc ms true n0 Po) n := by
  intro s args A ad0 cA0 ad cA ad' cA' h1 h2 p hp
  have e1 := h1 p hp
  have e2 := h2 p (by omega)
  exact ⟨e2.1.trans e1.1, e2.2.trans e1.2⟩
def scV (n : Nat) (v : Value) : Prop := match v with
  | .ref p => p < n ∨ SCR ≤ p
  | _ => True
def scL (n : Nat) (L : LO) : Prop := ∀ v, some v ∈ L → scV n v
def scS (n : Nat) (st : List Value) : Prop := ∀ v, v ∈ st → scV n v
def scR (n : Nat) (R : HR) : Prop := ∀ p k r, R p k = some r → r < n
theorem tr_ag {n : Nat} {ad ad' : Nat → Nat} {v : Value} (h : ∀ p, (p < n ∨ SCR ≤ p) → ad' p = ad p) (hv : scV n v) : tr ad' v = tr ad v := by
  cases v <;> first | rfl | (simp only [tr]; rw [h _ hv])
theorem map_ag {n : Nat} {ad ad' : Nat → Nat} {st : List Value} (h : ∀ p, (p < n ∨ SCR ≤ p) → ad' p = ad p) (hv : scS n st) : st.map (tr ad') = st.map (tr ad) := List.map_congr_left (fun v hm => tr_ag h (hv v hm))
theorem lo_ag {n nl : Nat} {ad ad' : Nat → Nat} {ls : Array Slot} (h : ∀ p, (p < n ∨ SCR ≤ p) → ad' p = ad p) (hv : scL n L) (hl : lo ad ls nl L) : lo ad' ls nl L := ⟨hl.1, hl.2.1, fun i v hi => by
  rw [tr_ag h (hv v (List.mem_of_getElem? hi))]
  exact hl.2.2 i v hi⟩
theorem q_afterA {st0 rest : List Value} {q : Nat} (hq : pc + 3 = q) (hr : MRun m T cells slots sh pc st0 rest I J R mc ms true Po) (hx : Tx T sh.length) (hL : scL sh.length L) (hst : scS sh.length rest)
    (K : ∀ (sh' : List Kd) (I' : HI) (J' : HJ) (R' : HR), Po sh' none I' J' R' → Wm m T (cells + mc) (slots + ms) sh' q L rest I' J' R') (hv : ∀ sh' v I' J' R', Po sh' v I' J' R' → v = none) : Wm m T cells slots sh pc L st0 I J R := by
  subst hq
  intro p l e s mid args below meth c D A ad0 cA0 ad cA H locs ls S
  obtain ⟨C, hA, hT, hK, hP, hD, hS, hl⟩ := S
  obtain ⟨a, hrun⟩ := hr p l e s mid args below meth c D A ad cA H locs ls C hK hP hD hl.1
  have hF := enc_free hD hS hA
  refine W_call hrun hS (fun q _ h => hF q h) hF (fun v sh' I' J' R' ad' cA' t H1 locs1 ht hvm hg hp hk hpp hdd hS1 => ?_)
  have hg : ∀ p, (p < sh.length ∨ SCR ≤ p) → ad' p = ad p ∧ cA' p = cA p := hg
  have hv0 := hv _ _ _ _ _ hp
  subst hv0
  have := K sh' I' J' R' hp p l e s mid args below meth c D A ad0 cA0 ad' cA' H1 locs1 ls ⟨C, hA, hx _ _ _ _ _ _ _ _ _ hT hg, KK.moved hvm.symm hk, hpp, hdd.weaken (fun _ q _ h => hF q.1 h), hS1, lo_ag (fun p h => (hg p h).1) hL hl⟩
  rw [map_ag (fun p h => (hg p h).1) hst] at this
  exact this
theorem TM_room {dd : Nat} : dd + 1 ≤ (TM (dd + 1) mc ms al n0 Po).1.frames ∧ 31 * (dd + 1) ≤ (TM (dd + 1) mc ms al n0 Po).1.locals := ⟨Nat.le_refl _, Nat.le_refl _⟩
theorem q_max {x y : Int32} {idx q : Nat} (hd : decode m.2.1 pc = .ok (.invokestatic idx, 3)) (hq : pc + 3 = q) (hlk : Cond.methodLink m.1.cls idx Lib.Math.max.name ∈ ALLW) (hf : Cond.static Lib.Math.max.name ∈ ALLW ∧ Cond.initialized "java/lang/Math" ∈ ALLW ∧ Cond.code Lib.Math.max.name Lib.Math.max.code 2 (some .int) ∈ ALLW) (hr : (st.map fun v => v.category).sum ≤ 8) (hR : 1 ≤ T.1.frames ∧ 21 ≤ T.1.locals ∧ cells ≤ T.1.cells ∧ slots ≤ T.1.slots) (K : Wm m T cells slots sh q L (.int (if x < y then y else x) :: st) I J R) : Wm m T cells slots sh pc L (.int y :: .int x :: st) I J R := by
  subst hq
  intro p l e s mid args below meth c D A ad0 cA0 ad cA H locs ls S
  obtain ⟨C, hA, hT, hK, hP, hD, hS, hl⟩ := S
  refine va_mmax C.1 C.2.1 (C.2.2.2.1.trans hl.1.symm) C.2.2.2.2.1 (C.2.2.2.2.2.1 _ hlk) (C.2.2.2.2.2.1 _ hf.1) (C.2.2.2.2.2.1 _ hf.2.1) (C.2.2.2.2.2.1 _ hf.2.2) hR.1 ?_ hR.2.2.1 hR.2.2.2 hd (K p l e s mid args below meth c D A ad0 cA0 ad cA H locs ls ⟨C, hA, hT, hK, hP, hD, hS, hl⟩)
  have := lv_roomM (ad := ad) (mid := mid) (ls := ls) (st0 := []) (pc := pc) hr
  have h2 := hR.2.1
  omega
theorem q_min {x y : Int32} {idx q : Nat} (hd : decode m.2.1 pc = .ok (.invokestatic idx, 3)) (hq : pc + 3 = q) (hlk : Cond.methodLink m.1.cls idx Lib.Math.min.name ∈ ALLW) (hf : Cond.static Lib.Math.min.name ∈ ALLW ∧ Cond.initialized "java/lang/Math" ∈ ALLW ∧ Cond.code Lib.Math.min.name Lib.Math.min.code 2 (some .int) ∈ ALLW) (hr : (st.map fun v => v.category).sum ≤ 8) (hR : 1 ≤ T.1.frames ∧ 21 ≤ T.1.locals ∧ cells ≤ T.1.cells ∧ slots ≤ T.1.slots) (K : Wm m T cells slots sh q L (.int (if y < x then y else x) :: st) I J R) : Wm m T cells slots sh pc L (.int y :: .int x :: st) I J R := by
  subst hq
  intro p l e s mid args below meth c D A ad0 cA0 ad cA H locs ls S
  obtain ⟨C, hA, hT, hK, hP, hD, hS, hl⟩ := S
  refine va_mmin C.1 C.2.1 (C.2.2.2.1.trans hl.1.symm) C.2.2.2.2.1 (C.2.2.2.2.2.1 _ hlk) (C.2.2.2.2.2.1 _ hf.1) (C.2.2.2.2.2.1 _ hf.2.1) (C.2.2.2.2.2.1 _ hf.2.2) hR.1 ?_ hR.2.2.1 hR.2.2.2 hd (K p l e s mid args below meth c D A ad0 cA0 ad cA H locs ls ⟨C, hA, hT, hK, hP, hD, hS, hl⟩)
  have := lv_roomM (ad := ad) (mid := mid) (ls := ls) (st0 := []) (pc := pc) hr
  have h2 := hR.2.1
  omega
theorem q_abs {x : Int32} {idx q : Nat} (hd : decode m.2.1 pc = .ok (.invokestatic idx, 3)) (hq : pc + 3 = q) (hlk : Cond.methodLink m.1.cls idx Lib.Math.abs.name ∈ ALLW) (hf : Cond.static Lib.Math.abs.name ∈ ALLW ∧ Cond.initialized "java/lang/Math" ∈ ALLW ∧ Cond.code Lib.Math.abs.name Lib.Math.abs.code 1 (some .int) ∈ ALLW) (hr : (st.map fun v => v.category).sum ≤ 8) (hR : 1 ≤ T.1.frames ∧ 21 ≤ T.1.locals ∧ cells ≤ T.1.cells ∧ slots ≤ T.1.slots) (K : Wm m T cells slots sh q L (.int (if 0 ≤ x then x else 0 - x) :: st) I J R) : Wm m T cells slots sh pc L (.int x :: st) I J R := by
  subst hq
  intro p l e s mid args below meth c D A ad0 cA0 ad cA H locs ls S
  obtain ⟨C, hA, hT, hK, hP, hD, hS, hl⟩ := S
  refine va_mabs C.1 C.2.1 (C.2.2.2.1.trans hl.1.symm) C.2.2.2.2.1 (C.2.2.2.2.2.1 _ hlk) (C.2.2.2.2.2.1 _ hf.1) (C.2.2.2.2.2.1 _ hf.2.1) (C.2.2.2.2.2.1 _ hf.2.2) hR.1 ?_ hR.2.2.1 hR.2.2.2 hd (K p l e s mid args below meth c D A ad0 cA0 ad cA H locs ls ⟨C, hA, hT, hK, hP, hD, hS, hl⟩)
  have := lv_roomM (ad := ad) (mid := mid) (ls := ls) (st0 := []) (pc := pc) hr
  have h2 := hR.2.1
  omega
theorem q_oinit {pl idx q : Nat} (hd : decode m.2.1 pc = .ok (.invokespecial idx, 3)) (hq : pc + 3 = q) (hlk : Cond.methodLink m.1.cls idx objectInit ∈ ALLW) (hf : Cond.instanceMethod objectInit ∈ ALLW ∧ Cond.code objectInit ⟨#[0xb1]⟩ 1 none ∈ ALLW) (hr : (st.map fun v => v.category).sum ≤ 8) (hR : 1 ≤ T.1.frames ∧ 21 ≤ T.1.locals) (K : Wm m T cells slots sh q L st I J R) : Wm m T cells slots sh pc L (.ref pl :: st) I J R := by
  subst hq
  intro p l e s mid args below meth c D A ad0 cA0 ad cA H locs ls S
  obtain ⟨C, hA, hT, hK, hP, hD, hS, hl⟩ := S
  refine W.objInit C.1 C.2.1 C.2.2.2.2.1 (C.2.2.2.2.2.1 _ hlk) (C.2.2.2.2.2.1 _ hf.1) (C.2.2.2.2.2.1 _ hf.2) rfl (hl.1.trans C.2.2.2.1.symm) rfl hd hR.1 ?_ (K p l e s mid args below meth c D A ad0 cA0 ad cA H locs ls ⟨C, hA, hT, hK, hP, hD, hS, hl⟩)
  have := lv_roomM (ad := ad) (mid := mid) (ls := ls) (st0 := List.map (tr ad) (Value.ref pl :: st)) (pc := pc) hr
  have h2 := hR.2
  omega
def zr {α : Type} (I : Nat → Nat → α) (n : Nat) (z : α) : Nat → Nat → α := fun a b => if a = n then z else I a b
theorem zr_same {α : Type} {I : Nat → Nat → α} {n : Nat} {z : α} : zr I n z n = fun _ => z := by
  funext b
  simp [zr]
theorem zr_ne {α : Type} {I : Nat → Nat → α} {n q : Nat} {z : α} (h : q ≠ n) : zr I n z q = I q := by
  funext b
  simp [zr, h]
theorem enc_push {ad : Nat → Nat} {cA : Nat → ClassId} {kd : Kd} {a : Nat} {cc : ClassId} (hR : ∀ p k r, p < sh.length → R p k = some r → r < sh.length) :
    enc (fun p => if p = sh.length then a else ad p) (fun p => if p = sh.length then cc else cA p) (sh ++ [kd]) (zr I sh.length 0) (zr J sh.length 0) (zr R sh.length none) = enc ad cA sh I J R ++ [(a, en ad (fun p => if p = sh.length then cc else cA p) (zr I sh.length 0) (zr J sh.length 0) (zr R sh.length none) sh.length kd)] := by
  unfold enc
  rw [List.mapIdx_append]
  congr 1
  · apply List.ext_getElem?
    intro q
    rw [List.getElem?_mapIdx, List.getElem?_mapIdx]
    cases hq : sh[q]? with
    | none => rfl
    | some kd' =>
      have hlt : q < sh.length := (List.getElem?_eq_some_iff.mp hq).1
      have hne : q ≠ sh.length := by omega
      simp only [Option.map_some, if_neg hne]
      refine congrArg (fun e => some (ad q, e)) ?_
      have hmap : ∀ k, (R q k).map (fun p => if p = sh.length then a else ad p) = (R q k).map ad := fun k => by
        cases hr : R q k with
        | none => rfl
        | some r =>
          have := hR q k r hlt hr
          simp [show r ≠ sh.length by omega]
      cases kd' with
      | inl ci =>
        simp only [en, fv, zr_ne hne, hmap]
      | inr tn =>
        simp only [en, acn, zr_ne hne, hmap, if_neg hne]
  · simp only [List.mapIdx_cons, List.mapIdx_nil, Nat.zero_add, if_true]
    refine congrArg (fun e => [(a, e)]) ?_
    cases kd with
    | inl ci => simp only [en, fv, zr_same]; rfl
    | inr tn => simp only [en, acn, zr_same]; rfl
theorem ag_push {ad : Nat → Nat} {cA : Nat → ClassId} {a : Nat} {cc : ClassId} {n : Nat} (hn : n < SCR) : ∀ p, (p < n ∨ SCR ≤ p) → (fun p => if p = n then a else ad p) p = ad p ∧ (fun p => if p = n then cc else cA p) p = cA p := by
  intro p h
  have : p ≠ n := by omega
  simp [this]
theorem KK_push {D : va_G} {cA : Nat → ClassId} {U : State} {kd : Kd} {cc : ClassId} (hK : KK D cA sh U) (h : ∀ t n, kd = .inr (t, n) → va_K D vwCl [(cc, t)] U) : KK D (fun p => if p = sh.length then cc else cA p) (sh ++ [kd]) U := by
  refine ⟨hK.1, fun p t n hp => ?_⟩
  by_cases hl : p < sh.length
  · rw [List.getElem?_append_left hl] at hp
    have := hK.2 p t n hp
    simp only [show p ≠ sh.length by omega, if_false]
    exact this
  · rw [List.getElem?_append_right (by omega)] at hp
    have hz : p - sh.length < 1 := (List.getElem?_eq_some_iff.mp hp).1
    have e : p = sh.length := by omega
    subst e
    rw [Nat.sub_self] at hp
    cases hp
    simp only [if_true]
    exact h t n rfl
theorem noFD {c k : Nat} (h : c < 8) (hk : k < nC c) : tyC c k ≠ .float ∧ tyC c k ≠ .double := by
  have key : ∀ c, c < 8 → ∀ k, k < nC c → tyC c k ≠ .float ∧ tyC c k ≠ .double := by decide +kernel
  exact key c h k hk
theorem q_new {ci idx q : Nat} (hd : decode m.2.1 pc = .ok (.new idx, 3)) (hq : pc + 3 = q) (hci : ci < 8) (hw : Cond.classLink m.1.cls idx (RC ci) ∈ ALLW ∧ Cond.instantiable (RC ci) (nC ci) ∈ ALLW ∧ Cond.initialized (RC ci) ∈ ALLW) (hx : Tx T sh.length) (hn : sh.length < SCR) (hL : scL sh.length L) (hst : scS sh.length st) (hR : ∀ p k r, p < sh.length → R p k = some r → r < sh.length) (hc : cells + 1 ≤ T.1.cells) (hsl : slots + nC ci ≤ T.1.slots)
    (K : Wm m T (cells + 1) (slots + nC ci) (sh ++ [.inl ci]) q L (.ref sh.length :: st) (zr I sh.length 0) (zr J sh.length 0) (zr R sh.length none)) : Wm m T cells slots sh pc L st I J R := by
  subst hq
  intro p l e s mid args below meth c D A ad0 cA0 ad cA H locs ls S
  obtain ⟨C, hA, hT, hK, hP, hD, hS, hl⟩ := S
  refine va_new (ci := ci) (fs := (List.range (nC ci)).map (fun k => fv ad (zr I sh.length 0) (zr J sh.length 0) (zr R sh.length none) sh.length k (tyC ci k))) (C := RC ci) (T := TC ci) (N := nC ci) C.1 C.2.1 C.2.2.2.2.2.1 (uAll hci) (tyC ci) (tyOK hci) C.2.2.2.2.1 (C.2.2.2.2.2.1 _ hw.1) (C.2.2.2.2.2.1 _ hw.2.1) (C.2.2.2.2.2.1 _ hw.2.2) hK.1 hP hD hS hA (vwAt hci) (fun j hj => ?_) hc hsl hd (fun a H1 hP1 hD1 hS1 => ?_)
  · show _ = ((List.range (nC ci)).map _).getD j Value.null
    rw [List.getD_eq_getElem?_getD, List.getElem?_map, List.getElem?_range hj]
    simp only [Option.map_some, Option.getD_some, fv, zr_same]
    have z := noFD hci hj
    revert z
    cases tyC ci j <;> intro z <;> first | rfl | exact absurd rfl z.1 | exact absurd rfl z.2
  · have e1 := enc_push (ad := ad) (cA := cA) (kd := .inl ci) (a := a) (cc := cA sh.length) (I := I) (J := J) hR
    have e2 : en ad (fun p => if p = sh.length then cA sh.length else cA p) (zr I sh.length 0) (zr J sh.length 0) (zr R sh.length none) sh.length (.inl ci) = .inr (ci, (List.range (nC ci)).map (fun k => fv ad (zr I sh.length 0) (zr J sh.length 0) (zr R sh.length none) sh.length k (tyC ci k))) := rfl
    rw [e2] at e1
    rw [← e1] at hP1 hD1
    have hg := ag_push (ad := ad) (cA := cA) (a := a) (cc := cA sh.length) hn
    have := K p l e s mid args below meth c D A ad0 cA0 _ _ H1 locs ls ⟨C, hA, hx _ _ _ _ _ _ _ _ _ hT hg, KK_push hK (fun t n h => by cases h), hP1, hD1, hS1, lo_ag (fun p h => (hg p h).1) hL hl⟩
    rw [List.map_cons, map_ag (fun p h => (hg p h).1) hst] at this
    have e3 : tr (fun p => if p = sh.length then a else ad p) (.ref sh.length) = .ref a := by simp [tr]
    rw [e3] at this
    exact this
theorem q_newa {at_ : ArrayType} {t : FieldType} {n : Int32} {k q : Nat} (hd : decode m.2.1 pc = .ok (.newarray at_, 2)) (hq : pc + 2 = q) (ht : newarray.typeOf at_ = t) (hw : Cond.arrayClass (newarray.typeOf at_) ∈ ALLW) (h0 : ¬ n < 0) (hk : n.toNatClampNeg = k) (hb : k * componentBytes t ≤ 536870912) (hz : ∀ (cA : ClassId) (p : Nat), vp_cell cA (acn (fun x => x) (fun _ _ => 0) (fun _ _ => 0) (fun _ _ => none) p k t) = arrV cA k (fun _ => defaultValue t)) (hx : Tx T sh.length) (hn : sh.length < SCR) (hL : scL sh.length L) (hst : scS sh.length st) (hR : ∀ p k r, p < sh.length → R p k = some r → r < sh.length) (hc : cells + 1 ≤ T.1.cells) (hsl : slots + k ≤ T.1.slots)
    (K : Wm m T (cells + 1) (slots + k) (sh ++ [.inr (t, k)]) q L (.ref sh.length :: st) (zr I sh.length 0) (zr J sh.length 0) (zr R sh.length none)) : Wm m T cells slots sh pc L (.int n :: st) I J R := by
  subst hq
  intro p l e s mid args below meth c D A ad0 cA0 ad cA H locs ls S
  obtain ⟨C, hA, hT, hK, hP, hD, hS, hl⟩ := S
  refine va_newa (a0 := acn (fun x => x) (fun _ _ => 0) (fun _ _ => 0) (fun _ _ => none) sh.length k t) C.1 C.2.1 (C.2.2.2.2.2.1 _ hw) ht hK.1 hP hD hS hA (fun cc => hz cc _) h0 hk hb hc hsl hd (fun a cc H1 hK1 hP1 hD1 hS1 => ?_)
  have e1 := enc_push (ad := ad) (cA := cA) (kd := .inr (t, k)) (a := a) (cc := cc) (I := I) (J := J) hR
  have e2 : en ad (fun p => if p = sh.length then cc else cA p) (zr I sh.length 0) (zr J sh.length 0) (zr R sh.length none) sh.length (.inr (t, k)) = .inl (cc, acn (fun x => x) (fun _ _ => 0) (fun _ _ => 0) (fun _ _ => none) sh.length k t) := by
    simp only [en, acn, zr_same, if_true]
    rfl
  rw [e2] at e1
  rw [← e1] at hP1 hD1
  have hg := ag_push (ad := ad) (cA := cA) (a := a) (cc := cc) hn
  have := K p l e s mid args below meth c D A ad0 cA0 _ _ H1 locs ls ⟨C, hA, hx _ _ _ _ _ _ _ _ _ hT hg, KK_push hK (fun t n h => by cases h; exact hK1), hP1, hD1, hS1, lo_ag (fun p h => (hg p h).1) hL hl⟩
  rw [List.map_cons, map_ag (fun p h => (hg p h).1) hst] at this
  have e3 : tr (fun p => if p = sh.length then a else ad p) (.ref sh.length) = .ref a := by simp [tr]
  rw [e3] at this
  exact this
end MCALLS
end
