section
-- ===== PART A: goes FIRST, ahead of the names: the tables' words, and 'selects' of the private methods out of them =====
/-- a private method of a class that the tables say can be made, by its rows of tables_1 -/
def lw_okq (q : MethodName × Nat) : Prop := (q.1.cls ≠ "java/lang/invoke/MethodHandle" ∧ q.1.cls ≠ "java/lang/invoke/VarHandle") ∧ Cond.instantiable q.1.cls q.2 ∈ tables_1 ∧ Cond.privateMethod q.1 ∈ tables_1 ∧ Cond.instanceMethod q.1 ∈ tables_1
theorem lw_p0 : lw_okq (⟨"FusionRules", "forgetRules", "()V"⟩, 17) := ⟨⟨by decide +kernel, by decide +kernel⟩, List.mem_of_getElem? (i := 12) (by decide +kernel), List.mem_of_getElem? (i := 227) (by decide +kernel), List.mem_of_getElem? (i := 228) (by decide +kernel)⟩
theorem lw_p1 : lw_okq (⟨"FusionRules$Reader", "readClause", "(I)Z"⟩, 6) := ⟨⟨by decide +kernel, by decide +kernel⟩, List.mem_of_getElem? (i := 131) (by decide +kernel), List.mem_of_getElem? (i := 260) (by decide +kernel), List.mem_of_getElem? (i := 261) (by decide +kernel)⟩
theorem lw_p2 : lw_okq (⟨"FusionRules$Reader", "readLetter", "(II)I"⟩, 6) := ⟨⟨by decide +kernel, by decide +kernel⟩, List.mem_of_getElem? (i := 131) (by decide +kernel), List.mem_of_getElem? (i := 264) (by decide +kernel), List.mem_of_getElem? (i := 265) (by decide +kernel)⟩
theorem lw_p3 : lw_okq (⟨"FusionRules$Reader", "nextByte", "()I"⟩, 6) := ⟨⟨by decide +kernel, by decide +kernel⟩, List.mem_of_getElem? (i := 131) (by decide +kernel), List.mem_of_getElem? (i := 268) (by decide +kernel), List.mem_of_getElem? (i := 269) (by decide +kernel)⟩
theorem lw_p4 : lw_okq (⟨"FusionRules$Reader", "passed", "(I)Z"⟩, 6) := ⟨⟨by decide +kernel, by decide +kernel⟩, List.mem_of_getElem? (i := 131) (by decide +kernel), List.mem_of_getElem? (i := 272) (by decide +kernel), List.mem_of_getElem? (i := 273) (by decide +kernel)⟩
theorem lw_p5 : lw_okq (⟨"FusionRules$Reader", "readSum", "(IIII)Z"⟩, 6) := ⟨⟨by decide +kernel, by decide +kernel⟩, List.mem_of_getElem? (i := 131) (by decide +kernel), List.mem_of_getElem? (i := 276) (by decide +kernel), List.mem_of_getElem? (i := 277) (by decide +kernel)⟩
theorem lw_p6 : lw_okq (⟨"FusionRules$Reader", "readNumber", "(II)I"⟩, 6) := ⟨⟨by decide +kernel, by decide +kernel⟩, List.mem_of_getElem? (i := 131) (by decide +kernel), List.mem_of_getElem? (i := 281) (by decide +kernel), List.mem_of_getElem? (i := 282) (by decide +kernel)⟩
theorem lw_p7 : lw_okq (⟨"FusionRules", "areSorts", "(III)Z"⟩, 17) := ⟨⟨by decide +kernel, by decide +kernel⟩, List.mem_of_getElem? (i := 12) (by decide +kernel), List.mem_of_getElem? (i := 292) (by decide +kernel), List.mem_of_getElem? (i := 293) (by decide +kernel)⟩
theorem lw_p8 : lw_okq (⟨"FusionRules", "isSort", "(I)Z"⟩, 17) := ⟨⟨by decide +kernel, by decide +kernel⟩, List.mem_of_getElem? (i := 12) (by decide +kernel), List.mem_of_getElem? (i := 296) (by decide +kernel), List.mem_of_getElem? (i := 297) (by decide +kernel)⟩
theorem lw_p9 : lw_okq (⟨"FusionRules", "currentFusion", "()LFusionRules$Fusion;"⟩, 17) := ⟨⟨by decide +kernel, by decide +kernel⟩, List.mem_of_getElem? (i := 12) (by decide +kernel), List.mem_of_getElem? (i := 300) (by decide +kernel), List.mem_of_getElem? (i := 301) (by decide +kernel)⟩
theorem lw_p10 : lw_okq (⟨"FusionRules$Fusion", "firstClashOf", "(III)I"⟩, 2) := ⟨⟨by decide +kernel, by decide +kernel⟩, List.mem_of_getElem? (i := 72) (by decide +kernel), List.mem_of_getElem? (i := 340) (by decide +kernel), List.mem_of_getElem? (i := 341) (by decide +kernel)⟩
theorem lw_p11 : lw_okq (⟨"FusionRules", "becomeSort", "([JI)V"⟩, 17) := ⟨⟨by decide +kernel, by decide +kernel⟩, List.mem_of_getElem? (i := 12) (by decide +kernel), List.mem_of_getElem? (i := 362) (by decide +kernel), List.mem_of_getElem? (i := 363) (by decide +kernel)⟩
theorem lw_p12 : lw_okq (⟨"FusionRules", "becomeElement", "([JI)V"⟩, 17) := ⟨⟨by decide +kernel, by decide +kernel⟩, List.mem_of_getElem? (i := 12) (by decide +kernel), List.mem_of_getElem? (i := 399) (by decide +kernel), List.mem_of_getElem? (i := 400) (by decide +kernel)⟩
theorem lw_p13 : lw_okq (⟨"FusionRules", "isSet", "(I)Z"⟩, 17) := ⟨⟨by decide +kernel, by decide +kernel⟩, List.mem_of_getElem? (i := 12) (by decide +kernel), List.mem_of_getElem? (i := 408) (by decide +kernel), List.mem_of_getElem? (i := 409) (by decide +kernel)⟩
theorem lw_p14 : lw_okq (⟨"FusionRules$Fusion", "withAllGiven", "(I)I"⟩, 2) := ⟨⟨by decide +kernel, by decide +kernel⟩, List.mem_of_getElem? (i := 72) (by decide +kernel), List.mem_of_getElem? (i := 416) (by decide +kernel), List.mem_of_getElem? (i := 417) (by decide +kernel)⟩
theorem lw_p15 : lw_okq (⟨"FusionRules$Fusion", "bitsGivenByAll", "(II)I"⟩, 2) := ⟨⟨by decide +kernel, by decide +kernel⟩, List.mem_of_getElem? (i := 72) (by decide +kernel), List.mem_of_getElem? (i := 420) (by decide +kernel), List.mem_of_getElem? (i := 421) (by decide +kernel)⟩
def lw_privs_1 : List (MethodName × Nat) := [(⟨"FusionRules", "forgetRules", "()V"⟩, 17), (⟨"FusionRules$Reader", "readClause", "(I)Z"⟩, 6), (⟨"FusionRules$Reader", "readLetter", "(II)I"⟩, 6), (⟨"FusionRules$Reader", "nextByte", "()I"⟩, 6), (⟨"FusionRules$Reader", "passed", "(I)Z"⟩, 6), (⟨"FusionRules$Reader", "readSum", "(IIII)Z"⟩, 6), (⟨"FusionRules$Reader", "readNumber", "(II)I"⟩, 6), (⟨"FusionRules", "areSorts", "(III)Z"⟩, 17), (⟨"FusionRules", "isSort", "(I)Z"⟩, 17), (⟨"FusionRules", "currentFusion", "()LFusionRules$Fusion;"⟩, 17), (⟨"FusionRules$Fusion", "firstClashOf", "(III)I"⟩, 2), (⟨"FusionRules", "becomeSort", "([JI)V"⟩, 17), (⟨"FusionRules", "becomeElement", "([JI)V"⟩, 17), (⟨"FusionRules", "isSet", "(I)Z"⟩, 17), (⟨"FusionRules$Fusion", "withAllGiven", "(I)I"⟩, 2), (⟨"FusionRules$Fusion", "bitsGivenByAll", "(II)I"⟩, 2)]
theorem lw_r1 : ∀ q ∈ lw_privs_1, lw_okq q := List.forall_mem_cons.mpr ⟨lw_p0, List.forall_mem_cons.mpr ⟨lw_p1, List.forall_mem_cons.mpr ⟨lw_p2, List.forall_mem_cons.mpr ⟨lw_p3, List.forall_mem_cons.mpr ⟨lw_p4, List.forall_mem_cons.mpr ⟨lw_p5, List.forall_mem_cons.mpr ⟨lw_p6, List.forall_mem_cons.mpr ⟨lw_p7, List.forall_mem_cons.mpr ⟨lw_p8, List.forall_mem_cons.mpr ⟨lw_p9, List.forall_mem_cons.mpr ⟨lw_p10, List.forall_mem_cons.mpr ⟨lw_p11, List.forall_mem_cons.mpr ⟨lw_p12, List.forall_mem_cons.mpr ⟨lw_p13, List.forall_mem_cons.mpr ⟨lw_p14, List.forall_mem_cons.mpr ⟨lw_p15, fun _ h => absurd h List.not_mem_nil⟩⟩⟩⟩⟩⟩⟩⟩⟩⟩⟩⟩⟩⟩⟩⟩
theorem lw_p16 : lw_okq (⟨"FusionRules$Fusion", "bitsGiven", "(II)I"⟩, 2) := ⟨⟨by decide +kernel, by decide +kernel⟩, List.mem_of_getElem? (i := 72) (by decide +kernel), List.mem_of_getElem? (i := 424) (by decide +kernel), List.mem_of_getElem? (i := 425) (by decide +kernel)⟩
theorem lw_p17 : lw_okq (⟨"FusionRules", "currentCharacters", "()LFusionRules$Characters;"⟩, 17) := ⟨⟨by decide +kernel, by decide +kernel⟩, List.mem_of_getElem? (i := 12) (by decide +kernel), List.mem_of_getElem? (i := 444) (by decide +kernel), List.mem_of_getElem? (i := 445) (by decide +kernel)⟩
theorem lw_p18 : lw_okq (⟨"FusionRules$Characters", "choose", "(LFusionRules$Fusion;I)V"⟩, 5) := ⟨⟨by decide +kernel, by decide +kernel⟩, List.mem_of_getElem? (i := 87) (by decide +kernel), List.mem_of_getElem? (i := 453) (by decide +kernel), List.mem_of_getElem? (i := 454) (by decide +kernel)⟩
theorem lw_p19 : lw_okq (⟨"FusionRules$Characters", "keepChosen", "()V"⟩, 5) := ⟨⟨by decide +kernel, by decide +kernel⟩, List.mem_of_getElem? (i := 87) (by decide +kernel), List.mem_of_getElem? (i := 457) (by decide +kernel), List.mem_of_getElem? (i := 458) (by decide +kernel)⟩
theorem lw_p20 : lw_okq (⟨"FusionRules$Characters", "goesOn", "(LFusionRules$Fusion;II)Z"⟩, 5) := ⟨⟨by decide +kernel, by decide +kernel⟩, List.mem_of_getElem? (i := 87) (by decide +kernel), List.mem_of_getElem? (i := 462) (by decide +kernel), List.mem_of_getElem? (i := 463) (by decide +kernel)⟩
theorem lw_p21 : lw_okq (⟨"FusionRules$Characters", "learn", "(I)Z"⟩, 5) := ⟨⟨by decide +kernel, by decide +kernel⟩, List.mem_of_getElem? (i := 87) (by decide +kernel), List.mem_of_getElem? (i := 466) (by decide +kernel), List.mem_of_getElem? (i := 467) (by decide +kernel)⟩
theorem lw_p22 : lw_okq (⟨"FusionRules$Characters", "keepEquation", "(II)V"⟩, 5) := ⟨⟨by decide +kernel, by decide +kernel⟩, List.mem_of_getElem? (i := 87) (by decide +kernel), List.mem_of_getElem? (i := 473) (by decide +kernel), List.mem_of_getElem? (i := 474) (by decide +kernel)⟩
theorem lw_p23 : lw_okq (⟨"FusionRules$Characters", "becomeLaw", "(LFusionRules$Fusion;III)V"⟩, 5) := ⟨⟨by decide +kernel, by decide +kernel⟩, List.mem_of_getElem? (i := 87) (by decide +kernel), List.mem_of_getElem? (i := 477) (by decide +kernel), List.mem_of_getElem? (i := 478) (by decide +kernel)⟩
theorem lw_p24 : lw_okq (⟨"FusionRules$SquareTables", "rowWithNumber", "(II)I"⟩, 4) := ⟨⟨by decide +kernel, by decide +kernel⟩, List.mem_of_getElem? (i := 110) (by decide +kernel), List.mem_of_getElem? (i := 509) (by decide +kernel), List.mem_of_getElem? (i := 510) (by decide +kernel)⟩
theorem lw_p25 : lw_okq (⟨"FusionRules$SquareTables", "clearColumn", "(II)V"⟩, 4) := ⟨⟨by decide +kernel, by decide +kernel⟩, List.mem_of_getElem? (i := 110) (by decide +kernel), List.mem_of_getElem? (i := 516) (by decide +kernel), List.mem_of_getElem? (i := 517) (by decide +kernel)⟩
theorem lw_p26 : lw_okq (⟨"FusionRules$SquareTables", "addRow", "(III)V"⟩, 4) := ⟨⟨by decide +kernel, by decide +kernel⟩, List.mem_of_getElem? (i := 110) (by decide +kernel), List.mem_of_getElem? (i := 521) (by decide +kernel), List.mem_of_getElem? (i := 522) (by decide +kernel)⟩
theorem lw_p27 : lw_okq (⟨"FusionRules$SquareTables", "onlyColumn", "(II)I"⟩, 4) := ⟨⟨by decide +kernel, by decide +kernel⟩, List.mem_of_getElem? (i := 110) (by decide +kernel), List.mem_of_getElem? (i := 553) (by decide +kernel), List.mem_of_getElem? (i := 554) (by decide +kernel)⟩
theorem lw_p28 : lw_okq (⟨"FusionRules$SquareTables", "cubeIsProduct", "(II)Z"⟩, 4) := ⟨⟨by decide +kernel, by decide +kernel⟩, List.mem_of_getElem? (i := 110) (by decide +kernel), List.mem_of_getElem? (i := 561) (by decide +kernel), List.mem_of_getElem? (i := 562) (by decide +kernel)⟩
theorem lw_p29 : lw_okq (⟨"FusionRules$SquareTables", "productIsZero", "(I)Z"⟩, 4) := ⟨⟨by decide +kernel, by decide +kernel⟩, List.mem_of_getElem? (i := 110) (by decide +kernel), List.mem_of_getElem? (i := 565) (by decide +kernel), List.mem_of_getElem? (i := 566) (by decide +kernel)⟩
theorem lw_p30 : lw_okq (⟨"FusionRules$Fusion", "becomeGiven", "(IIIII)V"⟩, 2) := ⟨⟨by decide +kernel, by decide +kernel⟩, List.mem_of_getElem? (i := 72) (by decide +kernel), List.mem_of_getElem? (i := 577) (by decide +kernel), List.mem_of_getElem? (i := 578) (by decide +kernel)⟩
theorem lw_p31 : lw_okq (⟨"FusionRules", "doRow", "(II)V"⟩, 17) := ⟨⟨by decide +kernel, by decide +kernel⟩, List.mem_of_getElem? (i := 12) (by decide +kernel), List.mem_of_getElem? (i := 605) (by decide +kernel), List.mem_of_getElem? (i := 606) (by decide +kernel)⟩
def lw_privs_2 : List (MethodName × Nat) := [(⟨"FusionRules$Fusion", "bitsGiven", "(II)I"⟩, 2), (⟨"FusionRules", "currentCharacters", "()LFusionRules$Characters;"⟩, 17), (⟨"FusionRules$Characters", "choose", "(LFusionRules$Fusion;I)V"⟩, 5), (⟨"FusionRules$Characters", "keepChosen", "()V"⟩, 5), (⟨"FusionRules$Characters", "goesOn", "(LFusionRules$Fusion;II)Z"⟩, 5), (⟨"FusionRules$Characters", "learn", "(I)Z"⟩, 5), (⟨"FusionRules$Characters", "keepEquation", "(II)V"⟩, 5), (⟨"FusionRules$Characters", "becomeLaw", "(LFusionRules$Fusion;III)V"⟩, 5), (⟨"FusionRules$SquareTables", "rowWithNumber", "(II)I"⟩, 4), (⟨"FusionRules$SquareTables", "clearColumn", "(II)V"⟩, 4), (⟨"FusionRules$SquareTables", "addRow", "(III)V"⟩, 4), (⟨"FusionRules$SquareTables", "onlyColumn", "(II)I"⟩, 4), (⟨"FusionRules$SquareTables", "cubeIsProduct", "(II)Z"⟩, 4), (⟨"FusionRules$SquareTables", "productIsZero", "(I)Z"⟩, 4), (⟨"FusionRules$Fusion", "becomeGiven", "(IIIII)V"⟩, 2), (⟨"FusionRules", "doRow", "(II)V"⟩, 17)]
theorem lw_r2 : ∀ q ∈ lw_privs_2, lw_okq q := List.forall_mem_cons.mpr ⟨lw_p16, List.forall_mem_cons.mpr ⟨lw_p17, List.forall_mem_cons.mpr ⟨lw_p18, List.forall_mem_cons.mpr ⟨lw_p19, List.forall_mem_cons.mpr ⟨lw_p20, List.forall_mem_cons.mpr ⟨lw_p21, List.forall_mem_cons.mpr ⟨lw_p22, List.forall_mem_cons.mpr ⟨lw_p23, List.forall_mem_cons.mpr ⟨lw_p24, List.forall_mem_cons.mpr ⟨lw_p25, List.forall_mem_cons.mpr ⟨lw_p26, List.forall_mem_cons.mpr ⟨lw_p27, List.forall_mem_cons.mpr ⟨lw_p28, List.forall_mem_cons.mpr ⟨lw_p29, List.forall_mem_cons.mpr ⟨lw_p30, List.forall_mem_cons.mpr ⟨lw_p31, fun _ h => absurd h List.not_mem_nil⟩⟩⟩⟩⟩⟩⟩⟩⟩⟩⟩⟩⟩⟩⟩⟩
theorem lw_p32 : lw_okq (⟨"FusionRules", "writeTerm", "(II)V"⟩, 17) := ⟨⟨by decide +kernel, by decide +kernel⟩, List.mem_of_getElem? (i := 12) (by decide +kernel), List.mem_of_getElem? (i := 616) (by decide +kernel), List.mem_of_getElem? (i := 617) (by decide +kernel)⟩
theorem lw_p33 : lw_okq (⟨"FusionRules", "writeByte", "(I)V"⟩, 17) := ⟨⟨by decide +kernel, by decide +kernel⟩, List.mem_of_getElem? (i := 12) (by decide +kernel), List.mem_of_getElem? (i := 620) (by decide +kernel), List.mem_of_getElem? (i := 621) (by decide +kernel)⟩
theorem lw_p34 : lw_okq (⟨"FusionRulesModel", "isSort", "(I)Z"⟩, 25) := ⟨⟨by decide +kernel, by decide +kernel⟩, List.mem_of_getElem? (i := 667) (by decide +kernel), List.mem_of_getElem? (i := 775) (by decide +kernel), List.mem_of_getElem? (i := 776) (by decide +kernel)⟩
theorem lw_p35 : lw_okq (⟨"FusionRulesModel", "n", "(III)I"⟩, 25) := ⟨⟨by decide +kernel, by decide +kernel⟩, List.mem_of_getElem? (i := 667) (by decide +kernel), List.mem_of_getElem? (i := 779) (by decide +kernel), List.mem_of_getElem? (i := 780) (by decide +kernel)⟩
theorem lw_p36 : lw_okq (⟨"FusionRulesModel", "ladder", "(III)I"⟩, 25) := ⟨⟨by decide +kernel, by decide +kernel⟩, List.mem_of_getElem? (i := 667) (by decide +kernel), List.mem_of_getElem? (i := 786) (by decide +kernel), List.mem_of_getElem? (i := 787) (by decide +kernel)⟩
theorem lw_p37 : lw_okq (⟨"FusionRulesModel", "house", "(III)I"⟩, 25) := ⟨⟨by decide +kernel, by decide +kernel⟩, List.mem_of_getElem? (i := 667) (by decide +kernel), List.mem_of_getElem? (i := 790) (by decide +kernel), List.mem_of_getElem? (i := 791) (by decide +kernel)⟩
theorem lw_p38 : lw_okq (⟨"FusionRulesModel", "firstClash", "()I"⟩, 25) := ⟨⟨by decide +kernel, by decide +kernel⟩, List.mem_of_getElem? (i := 667) (by decide +kernel), List.mem_of_getElem? (i := 798) (by decide +kernel), List.mem_of_getElem? (i := 799) (by decide +kernel)⟩
theorem lw_p39 : lw_okq (⟨"FusionRulesModel", "firstUnlike", "()I"⟩, 25) := ⟨⟨by decide +kernel, by decide +kernel⟩, List.mem_of_getElem? (i := 667) (by decide +kernel), List.mem_of_getElem? (i := 802) (by decide +kernel), List.mem_of_getElem? (i := 803) (by decide +kernel)⟩
theorem lw_p40 : lw_okq (⟨"FusionRulesModel", "begins", "(I)V"⟩, 25) := ⟨⟨by decide +kernel, by decide +kernel⟩, List.mem_of_getElem? (i := 667) (by decide +kernel), List.mem_of_getElem? (i := 816) (by decide +kernel), List.mem_of_getElem? (i := 817) (by decide +kernel)⟩
theorem lw_p41 : lw_okq (⟨"FusionRulesModel", "goesWith", "(I)V"⟩, 25) := ⟨⟨by decide +kernel, by decide +kernel⟩, List.mem_of_getElem? (i := 667) (by decide +kernel), List.mem_of_getElem? (i := 820) (by decide +kernel), List.mem_of_getElem? (i := 821) (by decide +kernel)⟩
theorem lw_p42 : lw_okq (⟨"FusionRulesModel", "clauses", "(Z)I"⟩, 25) := ⟨⟨by decide +kernel, by decide +kernel⟩, List.mem_of_getElem? (i := 667) (by decide +kernel), List.mem_of_getElem? (i := 834) (by decide +kernel), List.mem_of_getElem? (i := 835) (by decide +kernel)⟩
theorem lw_p43 : lw_okq (⟨"FusionRulesModel", "sign", "(I)V"⟩, 25) := ⟨⟨by decide +kernel, by decide +kernel⟩, List.mem_of_getElem? (i := 667) (by decide +kernel), List.mem_of_getElem? (i := 838) (by decide +kernel), List.mem_of_getElem? (i := 839) (by decide +kernel)⟩
theorem lw_p44 : lw_okq (⟨"FusionRulesModel", "isNext", "(II)Z"⟩, 25) := ⟨⟨by decide +kernel, by decide +kernel⟩, List.mem_of_getElem? (i := 667) (by decide +kernel), List.mem_of_getElem? (i := 842) (by decide +kernel), List.mem_of_getElem? (i := 843) (by decide +kernel)⟩
theorem lw_p45 : lw_okq (⟨"FusionRulesModel", "wrong", "()V"⟩, 25) := ⟨⟨by decide +kernel, by decide +kernel⟩, List.mem_of_getElem? (i := 667) (by decide +kernel), List.mem_of_getElem? (i := 846) (by decide +kernel), List.mem_of_getElem? (i := 847) (by decide +kernel)⟩
theorem lw_p46 : lw_okq (⟨"FusionRulesModel", "letter", "(I)I"⟩, 25) := ⟨⟨by decide +kernel, by decide +kernel⟩, List.mem_of_getElem? (i := 667) (by decide +kernel), List.mem_of_getElem? (i := 850) (by decide +kernel), List.mem_of_getElem? (i := 851) (by decide +kernel)⟩
theorem lw_p47 : lw_okq (⟨"FusionRulesModel", "sum", "(III)V"⟩, 25) := ⟨⟨by decide +kernel, by decide +kernel⟩, List.mem_of_getElem? (i := 667) (by decide +kernel), List.mem_of_getElem? (i := 854) (by decide +kernel), List.mem_of_getElem? (i := 855) (by decide +kernel)⟩
def lw_privs_3 : List (MethodName × Nat) := [(⟨"FusionRules", "writeTerm", "(II)V"⟩, 17), (⟨"FusionRules", "writeByte", "(I)V"⟩, 17), (⟨"FusionRulesModel", "isSort", "(I)Z"⟩, 25), (⟨"FusionRulesModel", "n", "(III)I"⟩, 25), (⟨"FusionRulesModel", "ladder", "(III)I"⟩, 25), (⟨"FusionRulesModel", "house", "(III)I"⟩, 25), (⟨"FusionRulesModel", "firstClash", "()I"⟩, 25), (⟨"FusionRulesModel", "firstUnlike", "()I"⟩, 25), (⟨"FusionRulesModel", "begins", "(I)V"⟩, 25), (⟨"FusionRulesModel", "goesWith", "(I)V"⟩, 25), (⟨"FusionRulesModel", "clauses", "(Z)I"⟩, 25), (⟨"FusionRulesModel", "sign", "(I)V"⟩, 25), (⟨"FusionRulesModel", "isNext", "(II)Z"⟩, 25), (⟨"FusionRulesModel", "wrong", "()V"⟩, 25), (⟨"FusionRulesModel", "letter", "(I)I"⟩, 25), (⟨"FusionRulesModel", "sum", "(III)V"⟩, 25)]
theorem lw_r3 : ∀ q ∈ lw_privs_3, lw_okq q := List.forall_mem_cons.mpr ⟨lw_p32, List.forall_mem_cons.mpr ⟨lw_p33, List.forall_mem_cons.mpr ⟨lw_p34, List.forall_mem_cons.mpr ⟨lw_p35, List.forall_mem_cons.mpr ⟨lw_p36, List.forall_mem_cons.mpr ⟨lw_p37, List.forall_mem_cons.mpr ⟨lw_p38, List.forall_mem_cons.mpr ⟨lw_p39, List.forall_mem_cons.mpr ⟨lw_p40, List.forall_mem_cons.mpr ⟨lw_p41, List.forall_mem_cons.mpr ⟨lw_p42, List.forall_mem_cons.mpr ⟨lw_p43, List.forall_mem_cons.mpr ⟨lw_p44, List.forall_mem_cons.mpr ⟨lw_p45, List.forall_mem_cons.mpr ⟨lw_p46, List.forall_mem_cons.mpr ⟨lw_p47, fun _ h => absurd h List.not_mem_nil⟩⟩⟩⟩⟩⟩⟩⟩⟩⟩⟩⟩⟩⟩⟩⟩
theorem lw_p48 : lw_okq (⟨"FusionRulesModel", "term", "(III)V"⟩, 25) := ⟨⟨by decide +kernel, by decide +kernel⟩, List.mem_of_getElem? (i := 667) (by decide +kernel), List.mem_of_getElem? (i := 858) (by decide +kernel), List.mem_of_getElem? (i := 859) (by decide +kernel)⟩
theorem lw_p49 : lw_okq (⟨"FusionRulesModel", "isSet", "(I)Z"⟩, 25) := ⟨⟨by decide +kernel, by decide +kernel⟩, List.mem_of_getElem? (i := 667) (by decide +kernel), List.mem_of_getElem? (i := 890) (by decide +kernel), List.mem_of_getElem? (i := 891) (by decide +kernel)⟩
theorem lw_p50 : lw_okq (⟨"FusionRulesModel", "isClosed", "(I)Z"⟩, 25) := ⟨⟨by decide +kernel, by decide +kernel⟩, List.mem_of_getElem? (i := 667) (by decide +kernel), List.mem_of_getElem? (i := 894) (by decide +kernel), List.mem_of_getElem? (i := 895) (by decide +kernel)⟩
theorem lw_p51 : lw_okq (⟨"FusionRulesModel", "givenBy", "(I)I"⟩, 25) := ⟨⟨by decide +kernel, by decide +kernel⟩, List.mem_of_getElem? (i := 667) (by decide +kernel), List.mem_of_getElem? (i := 898) (by decide +kernel), List.mem_of_getElem? (i := 899) (by decide +kernel)⟩
theorem lw_p52 : lw_okq (⟨"FusionRulesModel", "findsCharacters", "()V"⟩, 25) := ⟨⟨by decide +kernel, by decide +kernel⟩, List.mem_of_getElem? (i := 667) (by decide +kernel), List.mem_of_getElem? (i := 914) (by decide +kernel), List.mem_of_getElem? (i := 915) (by decide +kernel)⟩
theorem lw_p53 : lw_okq (⟨"FusionRulesModel", "tries", "(I)V"⟩, 25) := ⟨⟨by decide +kernel, by decide +kernel⟩, List.mem_of_getElem? (i := 667) (by decide +kernel), List.mem_of_getElem? (i := 918) (by decide +kernel), List.mem_of_getElem? (i := 919) (by decide +kernel)⟩
theorem lw_p54 : lw_okq (⟨"FusionRulesModel", "areSo", "(I)Z"⟩, 25) := ⟨⟨by decide +kernel, by decide +kernel⟩, List.mem_of_getElem? (i := 667) (by decide +kernel), List.mem_of_getElem? (i := 922) (by decide +kernel), List.mem_of_getElem? (i := 923) (by decide +kernel)⟩
theorem lw_p55 : lw_okq (⟨"FusionRulesModel", "isSo", "(III)Z"⟩, 25) := ⟨⟨by decide +kernel, by decide +kernel⟩, List.mem_of_getElem? (i := 667) (by decide +kernel), List.mem_of_getElem? (i := 926) (by decide +kernel), List.mem_of_getElem? (i := 927) (by decide +kernel)⟩
theorem lw_p56 : lw_okq (⟨"FusionRulesModel", "undoes", "()Z"⟩, 25) := ⟨⟨by decide +kernel, by decide +kernel⟩, List.mem_of_getElem? (i := 667) (by decide +kernel), List.mem_of_getElem? (i := 938) (by decide +kernel), List.mem_of_getElem? (i := 939) (by decide +kernel)⟩
theorem lw_p57 : lw_okq (⟨"FusionRulesModel", "scales", "([III)V"⟩, 25) := ⟨⟨by decide +kernel, by decide +kernel⟩, List.mem_of_getElem? (i := 667) (by decide +kernel), List.mem_of_getElem? (i := 948) (by decide +kernel), List.mem_of_getElem? (i := 949) (by decide +kernel)⟩
theorem lw_p58 : lw_okq (⟨"FusionRulesModel", "takesOff", "([IIII)V"⟩, 25) := ⟨⟨by decide +kernel, by decide +kernel⟩, List.mem_of_getElem? (i := 667) (by decide +kernel), List.mem_of_getElem? (i := 952) (by decide +kernel), List.mem_of_getElem? (i := 953) (by decide +kernel)⟩
theorem lw_p59 : lw_okq (⟨"FusionRulesModel", "s", "(II)I"⟩, 25) := ⟨⟨by decide +kernel, by decide +kernel⟩, List.mem_of_getElem? (i := 667) (by decide +kernel), List.mem_of_getElem? (i := 964) (by decide +kernel), List.mem_of_getElem? (i := 965) (by decide +kernel)⟩
theorem lw_p60 : lw_okq (⟨"FusionRulesModel", "multiplies", "([I[II[II)V"⟩, 25) := ⟨⟨by decide +kernel, by decide +kernel⟩, List.mem_of_getElem? (i := 667) (by decide +kernel), List.mem_of_getElem? (i := 984) (by decide +kernel), List.mem_of_getElem? (i := 985) (by decide +kernel)⟩
theorem lw_p61 : lw_okq (⟨"FusionRulesModel", "isLawZero", "()Z"⟩, 25) := ⟨⟨by decide +kernel, by decide +kernel⟩, List.mem_of_getElem? (i := 667) (by decide +kernel), List.mem_of_getElem? (i := 988) (by decide +kernel), List.mem_of_getElem? (i := 989) (by decide +kernel)⟩
theorem lw_p62 : lw_okq (⟨"FusionRulesModel", "isLawOne", "()Z"⟩, 25) := ⟨⟨by decide +kernel, by decide +kernel⟩, List.mem_of_getElem? (i := 667) (by decide +kernel), List.mem_of_getElem? (i := 992) (by decide +kernel), List.mem_of_getElem? (i := 993) (by decide +kernel)⟩
theorem lw_p63 : lw_okq (⟨"FusionRulesModel", "isSmall", "(IIII)Z"⟩, 25) := ⟨⟨by decide +kernel, by decide +kernel⟩, List.mem_of_getElem? (i := 667) (by decide +kernel), List.mem_of_getElem? (i := 1000) (by decide +kernel), List.mem_of_getElem? (i := 1001) (by decide +kernel)⟩
def lw_privs_4 : List (MethodName × Nat) := [(⟨"FusionRulesModel", "term", "(III)V"⟩, 25), (⟨"FusionRulesModel", "isSet", "(I)Z"⟩, 25), (⟨"FusionRulesModel", "isClosed", "(I)Z"⟩, 25), (⟨"FusionRulesModel", "givenBy", "(I)I"⟩, 25), (⟨"FusionRulesModel", "findsCharacters", "()V"⟩, 25), (⟨"FusionRulesModel", "tries", "(I)V"⟩, 25), (⟨"FusionRulesModel", "areSo", "(I)Z"⟩, 25), (⟨"FusionRulesModel", "isSo", "(III)Z"⟩, 25), (⟨"FusionRulesModel", "undoes", "()Z"⟩, 25), (⟨"FusionRulesModel", "scales", "([III)V"⟩, 25), (⟨"FusionRulesModel", "takesOff", "([IIII)V"⟩, 25), (⟨"FusionRulesModel", "s", "(II)I"⟩, 25), (⟨"FusionRulesModel", "multiplies", "([I[II[II)V"⟩, 25), (⟨"FusionRulesModel", "isLawZero", "()Z"⟩, 25), (⟨"FusionRulesModel", "isLawOne", "()Z"⟩, 25), (⟨"FusionRulesModel", "isSmall", "(IIII)Z"⟩, 25)]
theorem lw_r4 : ∀ q ∈ lw_privs_4, lw_okq q := List.forall_mem_cons.mpr ⟨lw_p48, List.forall_mem_cons.mpr ⟨lw_p49, List.forall_mem_cons.mpr ⟨lw_p50, List.forall_mem_cons.mpr ⟨lw_p51, List.forall_mem_cons.mpr ⟨lw_p52, List.forall_mem_cons.mpr ⟨lw_p53, List.forall_mem_cons.mpr ⟨lw_p54, List.forall_mem_cons.mpr ⟨lw_p55, List.forall_mem_cons.mpr ⟨lw_p56, List.forall_mem_cons.mpr ⟨lw_p57, List.forall_mem_cons.mpr ⟨lw_p58, List.forall_mem_cons.mpr ⟨lw_p59, List.forall_mem_cons.mpr ⟨lw_p60, List.forall_mem_cons.mpr ⟨lw_p61, List.forall_mem_cons.mpr ⟨lw_p62, List.forall_mem_cons.mpr ⟨lw_p63, fun _ h => absurd h List.not_mem_nil⟩⟩⟩⟩⟩⟩⟩⟩⟩⟩⟩⟩⟩⟩⟩⟩
theorem lw_p64 : lw_okq (⟨"FusionRulesModel", "lays", "(IIIII)V"⟩, 25) := ⟨⟨by decide +kernel, by decide +kernel⟩, List.mem_of_getElem? (i := 667) (by decide +kernel), List.mem_of_getElem? (i := 1004) (by decide +kernel), List.mem_of_getElem? (i := 1005) (by decide +kernel)⟩
theorem lw_p65 : lw_okq (⟨"FusionRulesModel", "drawnSet", "(II)I"⟩, 25) := ⟨⟨by decide +kernel, by decide +kernel⟩, List.mem_of_getElem? (i := 667) (by decide +kernel), List.mem_of_getElem? (i := 1017) (by decide +kernel), List.mem_of_getElem? (i := 1018) (by decide +kernel)⟩
theorem lw_p66 : lw_okq (⟨"FusionRulesModel", "goes", "(II)V"⟩, 25) := ⟨⟨by decide +kernel, by decide +kernel⟩, List.mem_of_getElem? (i := 667) (by decide +kernel), List.mem_of_getElem? (i := 1030) (by decide +kernel), List.mem_of_getElem? (i := 1031) (by decide +kernel)⟩
theorem lw_p67 : lw_okq (⟨"FusionRulesModel", "writes", "(I)V"⟩, 25) := ⟨⟨by decide +kernel, by decide +kernel⟩, List.mem_of_getElem? (i := 667) (by decide +kernel), List.mem_of_getElem? (i := 1038) (by decide +kernel), List.mem_of_getElem? (i := 1039) (by decide +kernel)⟩
theorem lw_p68 : lw_okq (⟨"FusionRulesModel", "writesNumber", "(I)V"⟩, 25) := ⟨⟨by decide +kernel, by decide +kernel⟩, List.mem_of_getElem? (i := 667) (by decide +kernel), List.mem_of_getElem? (i := 1042) (by decide +kernel), List.mem_of_getElem? (i := 1043) (by decide +kernel)⟩
theorem lw_p69 : lw_okq (⟨"FusionRulesModel", "notNought", "(II)I"⟩, 25) := ⟨⟨by decide +kernel, by decide +kernel⟩, List.mem_of_getElem? (i := 667) (by decide +kernel), List.mem_of_getElem? (i := 1081) (by decide +kernel), List.mem_of_getElem? (i := 1082) (by decide +kernel)⟩
def lw_privs_5 : List (MethodName × Nat) := [(⟨"FusionRulesModel", "lays", "(IIIII)V"⟩, 25), (⟨"FusionRulesModel", "drawnSet", "(II)I"⟩, 25), (⟨"FusionRulesModel", "goes", "(II)V"⟩, 25), (⟨"FusionRulesModel", "writes", "(I)V"⟩, 25), (⟨"FusionRulesModel", "writesNumber", "(I)V"⟩, 25), (⟨"FusionRulesModel", "notNought", "(II)I"⟩, 25)]
theorem lw_r5 : ∀ q ∈ lw_privs_5, lw_okq q := List.forall_mem_cons.mpr ⟨lw_p64, List.forall_mem_cons.mpr ⟨lw_p65, List.forall_mem_cons.mpr ⟨lw_p66, List.forall_mem_cons.mpr ⟨lw_p67, List.forall_mem_cons.mpr ⟨lw_p68, List.forall_mem_cons.mpr ⟨lw_p69, fun _ h => absurd h List.not_mem_nil⟩⟩⟩⟩⟩⟩
def lw_privs : List (MethodName × Nat) := lw_privs_1 ++ (lw_privs_2 ++ (lw_privs_3 ++ (lw_privs_4 ++ (lw_privs_5))))
def lw_tbl : List Cond := k2_sels lw_privs ++ tables_1
theorem lw_privs_ok : ∀ q ∈ lw_privs, lw_okq q := by
  show ∀ q ∈ lw_privs_1 ++ (lw_privs_2 ++ (lw_privs_3 ++ (lw_privs_4 ++ (lw_privs_5)))), lw_okq q
  exact List.forall_mem_append.mpr ⟨lw_r1, List.forall_mem_append.mpr ⟨lw_r2, List.forall_mem_append.mpr ⟨lw_r3, List.forall_mem_append.mpr ⟨lw_r4, lw_r5⟩⟩⟩⟩
end
section
/-! ===== BEGIN words of one list among another's, by their places ===== -/
theorem goodIn_r {big : List Cond} (ws : List Cond) (ps : List Nat) (hp : ws = ps.filterMap (fun i => big[i]?)) (h : ws.all goodWord = true) : GoodIn big ws := by
  intro w hw
  have h1 := List.all_eq_true.mp h w hw
  rw [hp] at hw
  obtain ⟨i, -, hi⟩ := List.mem_filterMap.mp hw
  have hm : w ∈ big := by first | exact List.mem_of_getElem? hi | exact List.getElem?_mem hi
  exact ⟨hm, good_of_word h1⟩
theorem goodIn_app {big a b : List Cond} (ha : GoodIn big a) (hb : GoodIn big b) : GoodIn big (a ++ b) := fun w h => (List.mem_append.mp h).elim (ha w) (hb w)
theorem goodIn_ca {big a b : List Cond} {c : Cond} (ha : GoodIn big (c :: a)) (hb : GoodIn big b) : GoodIn big (c :: (a ++ b)) := fun w h => (List.mem_cons.mp h).elim (fun e => ha w (List.mem_cons.mpr (Or.inl e))) (fun h => (List.mem_append.mp h).elim (fun h => ha w (List.mem_cons.mpr (Or.inr h))) (hb w))
theorem goodIn_sub {big ws : List Cond} (hm : ∀ w ∈ ws, w ∈ big) (h : ws.all goodWord = true) : GoodIn big ws := fun w hw => ⟨hm w hw, good_of_word (List.all_eq_true.mp h w hw)⟩
/-! ===== END ===== -/

/-! ===== BEGIN printed: names, fields, word lists, decode rows ===== -/
def RX0 : String := "FusionRules$Characters"
def TX0 : u_T := fun k => match k with
  | 0 => ("FusionRules$Characters", "found", "I", false)
  | 1 => ("FusionRules$Characters", "rows", "[I", true)
  | 2 => ("FusionRules$Characters", "chosen", "[I", true)
  | 3 => ("FusionRules$Characters", "equation", "[I", true)
  | _ => ("FusionRules$Characters", "known", "[I", true)
def tyX0 : Nat → FieldType := fun k => match k with
  | 0 => .int
  | 1 => .array .int
  | 2 => .array .int
  | 3 => .array .int
  | _ => .array .int
abbrev wsX00 : List Cond := u_ws RX0 TX0 5
theorem nmX0 : ∀ a, a < 5 → ∀ b, b < 5 → a ≠ b → (TX0 a).2.1 ≠ (TX0 b).2.1 := by decide +kernel
theorem tyX0_ok : ∀ k, k < 5 → parseFieldDescriptor (TX0 k).2.2.1 = some (tyX0 k) := by decide +kernel
abbrev cX0_init : ByteArray := prog_2_method_1_code
def yX0_init : MethodName := ⟨RX0, "<init>", "()V"⟩
abbrev cX0_isThere : ByteArray := prog_2_method_2_code
def yX0_isThere : MethodName := ⟨RX0, "isThere", "(I)Z"⟩
abbrev cX0_numberOf : ByteArray := prog_2_method_3_code
def yX0_numberOf : MethodName := ⟨RX0, "numberOf", "(II)I"⟩
abbrev cX0_copyTo : ByteArray := prog_2_method_4_code
def yX0_copyTo : MethodName := ⟨RX0, "copyTo", "([II)V"⟩
abbrev cX0_find : ByteArray := prog_2_method_5_code
def yX0_find : MethodName := ⟨RX0, "find", "(LFusionRules$Fusion;)V"⟩
abbrev cX0_choose : ByteArray := prog_2_method_6_code
def yX0_choose : MethodName := ⟨RX0, "choose", "(LFusionRules$Fusion;I)V"⟩
abbrev cX0_keepChosen : ByteArray := prog_2_method_7_code
def yX0_keepChosen : MethodName := ⟨RX0, "keepChosen", "()V"⟩
abbrev cX0_goesOn : ByteArray := prog_2_method_8_code
def yX0_goesOn : MethodName := ⟨RX0, "goesOn", "(LFusionRules$Fusion;II)Z"⟩
abbrev cX0_becomeLaw : ByteArray := prog_2_method_9_code
def yX0_becomeLaw : MethodName := ⟨RX0, "becomeLaw", "(LFusionRules$Fusion;III)V"⟩
abbrev cX0_learn : ByteArray := prog_2_method_10_code
def yX0_learn : MethodName := ⟨RX0, "learn", "(I)Z"⟩
abbrev cX0_keepEquation : ByteArray := prog_2_method_11_code
def yX0_keepEquation : MethodName := ⟨RX0, "keepEquation", "(II)V"⟩
def RX1 : String := "FusionRules$Fusion"
def TX1 : u_T := fun k => match k with
  | 0 => ("FusionRules$Fusion", "size", "I", false)
  | _ => ("FusionRules$Fusion", "often", "[I", true)
def tyX1 : Nat → FieldType := fun k => match k with
  | 0 => .int
  | _ => .array .int
abbrev wsX10 : List Cond := u_ws RX1 TX1 2
theorem nmX1 : ∀ a, a < 2 → ∀ b, b < 2 → a ≠ b → (TX1 a).2.1 ≠ (TX1 b).2.1 := by decide +kernel
theorem tyX1_ok : ∀ k, k < 2 → parseFieldDescriptor (TX1 k).2.2.1 = some (tyX1 k) := by decide +kernel
abbrev cX1_init : ByteArray := prog_3_method_1_code
def yX1_init : MethodName := ⟨RX1, "<init>", "()V"⟩
abbrev cX1_at : ByteArray := prog_3_method_2_code
def yX1_at : MethodName := ⟨RX1, "at", "(III)I"⟩
abbrev cX1_becomeRules : ByteArray := prog_3_method_3_code
def yX1_becomeRules : MethodName := ⟨RX1, "becomeRules", "(LFusionRules$Held;)V"⟩
abbrev cX1_oftenByKind : ByteArray := prog_3_method_4_code
def yX1_oftenByKind : MethodName := ⟨RX1, "oftenByKind", "(LFusionRules$Held;III)I"⟩
abbrev cX1_plain : ByteArray := prog_3_method_5_code
def yX1_plain : MethodName := ⟨RX1, "plain", "(III)I"⟩
abbrev cX1_inCycle : ByteArray := prog_3_method_6_code
def yX1_inCycle : MethodName := ⟨RX1, "inCycle", "(IIII)I"⟩
abbrev cX1_onLadder : ByteArray := prog_3_method_7_code
def yX1_onLadder : MethodName := ⟨RX1, "onLadder", "(IIII)I"⟩
abbrev cX1_inHouse : ByteArray := prog_3_method_8_code
def yX1_inHouse : MethodName := ⟨RX1, "inHouse", "(IIII)I"⟩
abbrev cX1_becomeSmall : ByteArray := prog_3_method_9_code
def yX1_becomeSmall : MethodName := ⟨RX1, "becomeSmall", "(IIII)V"⟩
abbrev cX1_becomeGiven : ByteArray := prog_3_method_10_code
def yX1_becomeGiven : MethodName := ⟨RX1, "becomeGiven", "(IIIII)V"⟩
abbrev cX1_firstClash : ByteArray := prog_3_method_11_code
def yX1_firstClash : MethodName := ⟨RX1, "firstClash", "()I"⟩
abbrev cX1_firstClashOf : ByteArray := prog_3_method_12_code
def yX1_firstClashOf : MethodName := ⟨RX1, "firstClashOf", "(III)I"⟩
abbrev cX1_firstUnlike : ByteArray := prog_3_method_13_code
def yX1_firstUnlike : MethodName := ⟨RX1, "firstUnlike", "()I"⟩
abbrev cX1_partnerOf : ByteArray := prog_3_method_14_code
def yX1_partnerOf : MethodName := ⟨RX1, "partnerOf", "(I)I"⟩
abbrev cX1_putTogether : ByteArray := prog_3_method_15_code
def yX1_putTogether : MethodName := ⟨RX1, "putTogether", "([J[J[J)V"⟩
abbrev cX1_bitsGiven : ByteArray := prog_3_method_16_code
def yX1_bitsGiven : MethodName := ⟨RX1, "bitsGiven", "(II)I"⟩
abbrev cX1_bitsGivenByAll : ByteArray := prog_3_method_17_code
def yX1_bitsGivenByAll : MethodName := ⟨RX1, "bitsGivenByAll", "(II)I"⟩
abbrev cX1_withAllGiven : ByteArray := prog_3_method_18_code
def yX1_withAllGiven : MethodName := ⟨RX1, "withAllGiven", "(I)I"⟩
abbrev cX1_isClosed : ByteArray := prog_3_method_19_code
def yX1_isClosed : MethodName := ⟨RX1, "isClosed", "(I)Z"⟩
abbrev cX1_leastClosed : ByteArray := prog_3_method_20_code
def yX1_leastClosed : MethodName := ⟨RX1, "leastClosed", "(I)I"⟩
abbrev cX1_drawn : ByteArray := prog_3_method_21_code
def yX1_drawn : MethodName := ⟨RX1, "drawn", "(II)I"⟩
def RX2 : String := "FusionRules$Held"
def TX2 : u_T := fun k => match k with
  | 0 => ("FusionRules$Held", "kind", "I", false)
  | 1 => ("FusionRules$Held", "size", "I", false)
  | 2 => ("FusionRules$Held", "figure", "I", false)
  | 3 => ("FusionRules$Held", "told", "[I", true)
  | 4 => ("FusionRules$Held", "numbers", "[I", true)
  | 5 => ("FusionRules$Held", "first", "[I", true)
  | 6 => ("FusionRules$Held", "twists", "[I", true)
  | 7 => ("FusionRules$Held", "planWhat", "[I", true)
  | 8 => ("FusionRules$Held", "planBy", "[I", true)
  | _ => ("FusionRules$Held", "rows", "I", false)
def tyX2 : Nat → FieldType := fun k => match k with
  | 0 => .int
  | 1 => .int
  | 2 => .int
  | 3 => .array .int
  | 4 => .array .int
  | 5 => .array .int
  | 6 => .array .int
  | 7 => .array .int
  | 8 => .array .int
  | _ => .int
abbrev wsX20 : List Cond := u_ws RX2 TX2 10
theorem nmX2 : ∀ a, a < 10 → ∀ b, b < 10 → a ≠ b → (TX2 a).2.1 ≠ (TX2 b).2.1 := by decide +kernel
theorem tyX2_ok : ∀ k, k < 10 → parseFieldDescriptor (TX2 k).2.2.1 = some (tyX2 k) := by decide +kernel
abbrev cX2_init : ByteArray := prog_4_method_1_code
def yX2_init : MethodName := ⟨RX2, "<init>", "()V"⟩
abbrev cX2_becomeLike : ByteArray := prog_4_method_2_code
def yX2_becomeLike : MethodName := ⟨RX2, "becomeLike", "(LFusionRules$Held;)V"⟩
def RX3 : String := "FusionRules$Reader"
def TX3 : u_T := fun k => match k with
  | 0 => ("FusionRules$Reader", "bytes", "[B", true)
  | 1 => ("FusionRules$Reader", "length", "I", false)
  | 2 => ("FusionRules$Reader", "sum", "[I", true)
  | 3 => ("FusionRules$Reader", "terms", "I", false)
  | 4 => ("FusionRules$Reader", "place", "I", false)
  | _ => ("FusionRules$Reader", "draft", "[I", true)
def tyX3 : Nat → FieldType := fun k => match k with
  | 0 => .array .byte
  | 1 => .int
  | 2 => .array .int
  | 3 => .int
  | 4 => .int
  | _ => .array .int
abbrev wsX30 : List Cond := u_ws RX3 TX3 6
theorem nmX3 : ∀ a, a < 6 → ∀ b, b < 6 → a ≠ b → (TX3 a).2.1 ≠ (TX3 b).2.1 := by decide +kernel
theorem tyX3_ok : ∀ k, k < 6 → parseFieldDescriptor (TX3 k).2.2.1 = some (tyX3 k) := by decide +kernel
abbrev cX3_init : ByteArray := prog_5_method_1_code
def yX3_init : MethodName := ⟨RX3, "<init>", "()V"⟩
abbrev cX3_readRules : ByteArray := prog_5_method_2_code
def yX3_readRules : MethodName := ⟨RX3, "readRules", "(I[I)I"⟩
abbrev cX3_readElement : ByteArray := prog_5_method_3_code
def yX3_readElement : MethodName := ⟨RX3, "readElement", "(I)I"⟩
abbrev cX3_readClause : ByteArray := prog_5_method_4_code
def yX3_readClause : MethodName := ⟨RX3, "readClause", "(I)Z"⟩
abbrev cX3_readSum : ByteArray := prog_5_method_5_code
def yX3_readSum : MethodName := ⟨RX3, "readSum", "(IIII)Z"⟩
abbrev cX3_readNumber : ByteArray := prog_5_method_6_code
def yX3_readNumber : MethodName := ⟨RX3, "readNumber", "(II)I"⟩
abbrev cX3_readLetter : ByteArray := prog_5_method_7_code
def yX3_readLetter : MethodName := ⟨RX3, "readLetter", "(II)I"⟩
abbrev cX3_passed : ByteArray := prog_5_method_8_code
def yX3_passed : MethodName := ⟨RX3, "passed", "(I)Z"⟩
abbrev cX3_nextByte : ByteArray := prog_5_method_9_code
def yX3_nextByte : MethodName := ⟨RX3, "nextByte", "()I"⟩
def RX4 : String := "FusionRules$SquareTables"
def TX4 : u_T := fun k => match k with
  | 0 => ("FusionRules$SquareTables", "inverse", "[I", true)
  | 1 => ("FusionRules$SquareTables", "product", "[I", true)
  | 2 => ("FusionRules$SquareTables", "work", "[I", true)
  | _ => ("FusionRules$SquareTables", "cube", "[I", true)
def tyX4 : Nat → FieldType := fun k => match k with
  | 0 => .array .int
  | 1 => .array .int
  | 2 => .array .int
  | _ => .array .int
abbrev wsX40 : List Cond := u_ws RX4 TX4 4
theorem nmX4 : ∀ a, a < 4 → ∀ b, b < 4 → a ≠ b → (TX4 a).2.1 ≠ (TX4 b).2.1 := by decide +kernel
theorem tyX4_ok : ∀ k, k < 4 → parseFieldDescriptor (TX4 k).2.2.1 = some (tyX4 k) := by decide +kernel
abbrev cX4_init : ByteArray := prog_6_method_1_code
def yX4_init : MethodName := ⟨RX4, "<init>", "()V"⟩
abbrev cX4_invert : ByteArray := prog_6_method_2_code
def yX4_invert : MethodName := ⟨RX4, "invert", "([II)Z"⟩
abbrev cX4_rowWithNumber : ByteArray := prog_6_method_3_code
def yX4_rowWithNumber : MethodName := ⟨RX4, "rowWithNumber", "(II)I"⟩
abbrev cX4_swapRows : ByteArray := prog_6_method_4_code
def yX4_swapRows : MethodName := ⟨RX4, "swapRows", "([III)V"⟩
abbrev cX4_clearColumn : ByteArray := prog_6_method_5_code
def yX4_clearColumn : MethodName := ⟨RX4, "clearColumn", "(II)V"⟩
abbrev cX4_addRow : ByteArray := prog_6_method_6_code
def yX4_addRow : MethodName := ⟨RX4, "addRow", "(III)V"⟩
abbrev cX4_multiply : ByteArray := prog_6_method_7_code
def yX4_multiply : MethodName := ⟨RX4, "multiply", "([I[I[II)V"⟩
abbrev cX4_squareIsShuffle : ByteArray := prog_6_method_8_code
def yX4_squareIsShuffle : MethodName := ⟨RX4, "squareIsShuffle", "([II)Z"⟩
abbrev cX4_onlyColumn : ByteArray := prog_6_method_9_code
def yX4_onlyColumn : MethodName := ⟨RX4, "onlyColumn", "(II)I"⟩
abbrev cX4_cubeIsSquare : ByteArray := prog_6_method_10_code
def yX4_cubeIsSquare : MethodName := ⟨RX4, "cubeIsSquare", "([I[II)Z"⟩
abbrev cX4_cubeIsProduct : ByteArray := prog_6_method_11_code
def yX4_cubeIsProduct : MethodName := ⟨RX4, "cubeIsProduct", "(II)Z"⟩
abbrev cX4_productIsZero : ByteArray := prog_6_method_12_code
def yX4_productIsZero : MethodName := ⟨RX4, "productIsZero", "(I)Z"⟩
def RX5 : String := "FusionRules"
def TX5 : u_T := fun k => match k with
  | 0 => ("FusionRules", "held", "LFusionRules$Held;", true)
  | 1 => ("FusionRules", "kept", "LFusionRules$Held;", true)
  | 2 => ("FusionRules", "imageTaken", "Z", false)
  | 3 => ("FusionRules", "fusion", "LFusionRules$Fusion;", true)
  | 4 => ("FusionRules", "trial", "LFusionRules$Fusion;", true)
  | 5 => ("FusionRules", "characters", "LFusionRules$Characters;", true)
  | 6 => ("FusionRules", "squareTables", "LFusionRules$SquareTables;", true)
  | 7 => ("FusionRules", "fusionKnown", "Z", false)
  | 8 => ("FusionRules", "charactersKnown", "Z", false)
  | 9 => ("FusionRules", "reader", "LFusionRules$Reader;", true)
  | 10 => ("FusionRules", "written", "[B", true)
  | 11 => ("FusionRules", "writtenBytes", "I", false)
  | 12 => ("FusionRules", "listed", "[J", true)
  | 13 => ("FusionRules", "listSizes", "[I", true)
  | 14 => ("FusionRules", "left", "[J", true)
  | 15 => ("FusionRules", "right", "[J", true)
  | _ => ("FusionRules", "result", "[J", true)
def tyX5 : Nat → FieldType := fun k => match k with
  | 0 => .object "FusionRules$Held"
  | 1 => .object "FusionRules$Held"
  | 2 => .boolean
  | 3 => .object "FusionRules$Fusion"
  | 4 => .object "FusionRules$Fusion"
  | 5 => .object "FusionRules$Characters"
  | 6 => .object "FusionRules$SquareTables"
  | 7 => .boolean
  | 8 => .boolean
  | 9 => .object "FusionRules$Reader"
  | 10 => .array .byte
  | 11 => .int
  | 12 => .array .long
  | 13 => .array .int
  | 14 => .array .long
  | 15 => .array .long
  | _ => .array .long
abbrev wsX50 : List Cond := u_ws RX5 TX5 17
theorem nmX5 : ∀ a, a < 17 → ∀ b, b < 17 → a ≠ b → (TX5 a).2.1 ≠ (TX5 b).2.1 := by decide +kernel
theorem tyX5_ok : ∀ k, k < 17 → parseFieldDescriptor (TX5 k).2.2.1 = some (tyX5 k) := by decide +kernel
abbrev cX5_init : ByteArray := prog_1_method_1_code
def yX5_init : MethodName := ⟨RX5, "<init>", "()V"⟩
abbrev cX5_set : ByteArray := prog_1_method_2_code
def yX5_set : MethodName := ⟨RX5, "set", "(II)I"⟩
abbrev cX5_of : ByteArray := prog_1_method_3_code
def yX5_of : MethodName := ⟨RX5, "of", "(I)I"⟩
abbrev cX5_tell : ByteArray := prog_1_method_4_code
def yX5_tell : MethodName := ⟨RX5, "tell", "(IIII)I"⟩
abbrev cX5_feed : ByteArray := prog_1_method_5_code
def yX5_feed : MethodName := ⟨RX5, "feed", "(I)I"⟩
abbrev cX5_rules : ByteArray := prog_1_method_6_code
def yX5_rules : MethodName := ⟨RX5, "rules", "()I"⟩
abbrev cX5_often : ByteArray := prog_1_method_7_code
def yX5_often : MethodName := ⟨RX5, "often", "(III)I"⟩
abbrev cX5_clash : ByteArray := prog_1_method_8_code
def yX5_clash : MethodName := ⟨RX5, "clash", "(I)I"⟩
abbrev cX5_partner : ByteArray := prog_1_method_9_code
def yX5_partner : MethodName := ⟨RX5, "partner", "(I)I"⟩
abbrev cX5_power : ByteArray := prog_1_method_10_code
def yX5_power : MethodName := ⟨RX5, "power", "(III)J"⟩
abbrev cX5_element : ByteArray := prog_1_method_11_code
def yX5_element : MethodName := ⟨RX5, "element", "(I)I"⟩
abbrev cX5_has : ByteArray := prog_1_method_12_code
def yX5_has : MethodName := ⟨RX5, "has", "(II)I"⟩
abbrev cX5_give : ByteArray := prog_1_method_13_code
def yX5_give : MethodName := ⟨RX5, "give", "(III)I"⟩
abbrev cX5_together : ByteArray := prog_1_method_14_code
def yX5_together : MethodName := ⟨RX5, "together", "(II)I"⟩
abbrev cX5_closed : ByteArray := prog_1_method_15_code
def yX5_closed : MethodName := ⟨RX5, "closed", "(I)I"⟩
abbrev cX5_closedSet : ByteArray := prog_1_method_16_code
def yX5_closedSet : MethodName := ⟨RX5, "closedSet", "(I)I"⟩
abbrev cX5_hull : ByteArray := prog_1_method_17_code
def yX5_hull : MethodName := ⟨RX5, "hull", "(I)I"⟩
abbrev cX5_character : ByteArray := prog_1_method_18_code
def yX5_character : MethodName := ⟨RX5, "character", "(II)I"⟩
abbrev cX5_squares : ByteArray := prog_1_method_19_code
def yX5_squares : MethodName := ⟨RX5, "squares", "(I)I"⟩
abbrev cX5_back : ByteArray := prog_1_method_20_code
def yX5_back : MethodName := ⟨RX5, "back", "(III)I"⟩
abbrev cX5_table : ByteArray := prog_1_method_21_code
def yX5_table : MethodName := ⟨RX5, "table", "(III)I"⟩
abbrev cX5_twist : ByteArray := prog_1_method_22_code
def yX5_twist : MethodName := ⟨RX5, "twist", "(II)I"⟩
abbrev cX5_fill : ByteArray := prog_1_method_23_code
def yX5_fill : MethodName := ⟨RX5, "fill", "()I"⟩
abbrev cX5_given : ByteArray := prog_1_method_24_code
def yX5_given : MethodName := ⟨RX5, "given", "(III)I"⟩
abbrev cX5_law : ByteArray := prog_1_method_25_code
def yX5_law : MethodName := ⟨RX5, "law", "(I)I"⟩
abbrev cX5_small : ByteArray := prog_1_method_26_code
def yX5_small : MethodName := ⟨RX5, "small", "(II)I"⟩
abbrev cX5_were : ByteArray := prog_1_method_27_code
def yX5_were : MethodName := ⟨RX5, "were", "(III)I"⟩
abbrev cX5_odds : ByteArray := prog_1_method_28_code
def yX5_odds : MethodName := ⟨RX5, "odds", "(IIIII)J"⟩
abbrev cX5_plan : ByteArray := prog_1_method_29_code
def yX5_plan : MethodName := ⟨RX5, "plan", "(II)I"⟩
abbrev cX5_ends : ByteArray := prog_1_method_30_code
def yX5_ends : MethodName := ⟨RX5, "ends", "(II)I"⟩
abbrev cX5_write : ByteArray := prog_1_method_31_code
def yX5_write : MethodName := ⟨RX5, "write", "(I)I"⟩
abbrev cX5_paper : ByteArray := prog_1_method_32_code
def yX5_paper : MethodName := ⟨RX5, "paper", "(I)I"⟩
abbrev cX5_judge : ByteArray := prog_1_method_33_code
def yX5_judge : MethodName := ⟨RX5, "judge", "(III)I"⟩
abbrev cX5_list : ByteArray := prog_1_method_34_code
def yX5_list : MethodName := ⟨RX5, "list", "(II)I"⟩
abbrev cX5_put : ByteArray := prog_1_method_35_code
def yX5_put : MethodName := ⟨RX5, "put", "(IIJ)I"⟩
abbrev cX5_get : ByteArray := prog_1_method_36_code
def yX5_get : MethodName := ⟨RX5, "get", "(II)J"⟩
abbrev cX5_image : ByteArray := prog_1_method_37_code
def yX5_image : MethodName := ⟨RX5, "image", "()I"⟩
abbrev cX5_undo : ByteArray := prog_1_method_38_code
def yX5_undo : MethodName := ⟨RX5, "undo", "()I"⟩
abbrev cX5_count : ByteArray := prog_1_method_39_code
def yX5_count : MethodName := ⟨RX5, "count", "(I)I"⟩
abbrev cX5_isOfFive : ByteArray := prog_1_method_40_code
def yX5_isOfFive : MethodName := ⟨RX5, "isOfFive", "(I)Z"⟩
abbrev cX5_isTold : ByteArray := prog_1_method_41_code
def yX5_isTold : MethodName := ⟨RX5, "isTold", "(III)Z"⟩
abbrev cX5_isElement : ByteArray := prog_1_method_42_code
def yX5_isElement : MethodName := ⟨RX5, "isElement", "(I)Z"⟩
abbrev cX5_isList : ByteArray := prog_1_method_43_code
def yX5_isList : MethodName := ⟨RX5, "isList", "(I)Z"⟩
abbrev cX5_mayBecome : ByteArray := prog_1_method_44_code
def yX5_mayBecome : MethodName := ⟨RX5, "mayBecome", "(II)Z"⟩
abbrev cX5_isSort : ByteArray := prog_1_method_45_code
def yX5_isSort : MethodName := ⟨RX5, "isSort", "(I)Z"⟩
abbrev cX5_areSorts : ByteArray := prog_1_method_46_code
def yX5_areSorts : MethodName := ⟨RX5, "areSorts", "(III)Z"⟩
abbrev cX5_isSet : ByteArray := prog_1_method_47_code
def yX5_isSet : MethodName := ⟨RX5, "isSet", "(I)Z"⟩
abbrev cX5_forgetRules : ByteArray := prog_1_method_48_code
def yX5_forgetRules : MethodName := ⟨RX5, "forgetRules", "()V"⟩
abbrev cX5_currentFusion : ByteArray := prog_1_method_49_code
def yX5_currentFusion : MethodName := ⟨RX5, "currentFusion", "()LFusionRules$Fusion;"⟩
abbrev cX5_currentCharacters : ByteArray := prog_1_method_50_code
def yX5_currentCharacters : MethodName := ⟨RX5, "currentCharacters", "()LFusionRules$Characters;"⟩
abbrev cX5_becomeSort : ByteArray := prog_1_method_51_code
def yX5_becomeSort : MethodName := ⟨RX5, "becomeSort", "([JI)V"⟩
abbrev cX5_becomeElement : ByteArray := prog_1_method_52_code
def yX5_becomeElement : MethodName := ⟨RX5, "becomeElement", "([JI)V"⟩
abbrev cX5_doRow : ByteArray := prog_1_method_53_code
def yX5_doRow : MethodName := ⟨RX5, "doRow", "(II)V"⟩
abbrev cX5_writeTerm : ByteArray := prog_1_method_54_code
def yX5_writeTerm : MethodName := ⟨RX5, "writeTerm", "(II)V"⟩
abbrev cX5_writeByte : ByteArray := prog_1_method_55_code
def yX5_writeByte : MethodName := ⟨RX5, "writeByte", "(I)V"⟩
abbrev cX5_place : ByteArray := prog_1_method_56_code
def yX5_place : MethodName := ⟨RX5, "place", "(III)I"⟩
abbrev cX5_notZero : ByteArray := prog_1_method_57_code
def yX5_notZero : MethodName := ⟨RX5, "notZero", "([I)I"⟩
abbrev cX5_greatestShared : ByteArray := prog_1_method_58_code
def yX5_greatestShared : MethodName := ⟨RX5, "greatestShared", "(II)I"⟩
abbrev cX5_inverseOf : ByteArray := prog_1_method_59_code
def yX5_inverseOf : MethodName := ⟨RX5, "inverseOf", "(I)I"⟩
def RX6 : String := "FusionRulesModel"
def TX6 : u_T := fun k => match k with
  | 0 => ("FusionRulesModel", "now", "[I", true)
  | 1 => ("FusionRulesModel", "image", "[I", true)
  | 2 => ("FusionRulesModel", "hasImage", "Z", false)
  | 3 => ("FusionRulesModel", "made", "[J", true)
  | 4 => ("FusionRulesModel", "next", "[J", true)
  | 5 => ("FusionRulesModel", "tape", "[I", true)
  | 6 => ("FusionRulesModel", "length", "I", false)
  | 7 => ("FusionRulesModel", "place", "I", false)
  | 8 => ("FusionRulesModel", "fault", "I", false)
  | 9 => ("FusionRulesModel", "sums", "[I", true)
  | 10 => ("FusionRulesModel", "terms", "I", false)
  | 11 => ("FusionRulesModel", "characters", "[I", true)
  | 12 => ("FusionRulesModel", "characterMany", "I", false)
  | 13 => ("FusionRulesModel", "row", "[I", true)
  | 14 => ("FusionRulesModel", "square", "[I", true)
  | 15 => ("FusionRulesModel", "undone", "[I", true)
  | 16 => ("FusionRulesModel", "twice", "[I", true)
  | 17 => ("FusionRulesModel", "twisted", "[I", true)
  | 18 => ("FusionRulesModel", "again", "[I", true)
  | 19 => ("FusionRulesModel", "thrice", "[I", true)
  | 20 => ("FusionRulesModel", "spare", "[I", true)
  | 21 => ("FusionRulesModel", "paper", "[I", true)
  | 22 => ("FusionRulesModel", "written", "I", false)
  | 23 => ("FusionRulesModel", "lists", "[J", true)
  | _ => ("FusionRulesModel", "sizes", "[I", true)
def tyX6 : Nat → FieldType := fun k => match k with
  | 0 => .array .int
  | 1 => .array .int
  | 2 => .boolean
  | 3 => .array .long
  | 4 => .array .long
  | 5 => .array .int
  | 6 => .int
  | 7 => .int
  | 8 => .int
  | 9 => .array .int
  | 10 => .int
  | 11 => .array .int
  | 12 => .int
  | 13 => .array .int
  | 14 => .array .int
  | 15 => .array .int
  | 16 => .array .int
  | 17 => .array .int
  | 18 => .array .int
  | 19 => .array .int
  | 20 => .array .int
  | 21 => .array .int
  | 22 => .int
  | 23 => .array .long
  | _ => .array .int
abbrev wsX60 : List Cond := u_ws RX6 TX6 25
theorem nmX6 : ∀ a, a < 25 → ∀ b, b < 25 → a ≠ b → (TX6 a).2.1 ≠ (TX6 b).2.1 := by decide +kernel
theorem tyX6_ok : ∀ k, k < 25 → parseFieldDescriptor (TX6 k).2.2.1 = some (tyX6 k) := by decide +kernel
abbrev cX6_init : ByteArray := prog_8_method_1_code
def yX6_init : MethodName := ⟨RX6, "<init>", "()V"⟩
abbrev cX6_in : ByteArray := prog_8_method_2_code
def yX6_in : MethodName := ⟨RX6, "in", "(JJJ)Z"⟩
abbrev cX6_bit : ByteArray := prog_8_method_3_code
def yX6_bit : MethodName := ⟨RX6, "bit", "(Z)I"⟩
abbrev cX6_isSort : ByteArray := prog_8_method_4_code
def yX6_isSort : MethodName := ⟨RX6, "isSort", "(I)Z"⟩
abbrev cX6_at : ByteArray := prog_8_method_5_code
def yX6_at : MethodName := ⟨RX6, "at", "(III)I"⟩
abbrev cX6_set : ByteArray := prog_8_method_6_code
def yX6_set : MethodName := ⟨RX6, "set", "(II)I"⟩
abbrev cX6_of : ByteArray := prog_8_method_7_code
def yX6_of : MethodName := ⟨RX6, "of", "(I)I"⟩
abbrev cX6_tell : ByteArray := prog_8_method_8_code
def yX6_tell : MethodName := ⟨RX6, "tell", "(IIII)I"⟩
abbrev cX6_ladder : ByteArray := prog_8_method_9_code
def yX6_ladder : MethodName := ⟨RX6, "ladder", "(III)I"⟩
abbrev cX6_house : ByteArray := prog_8_method_10_code
def yX6_house : MethodName := ⟨RX6, "house", "(III)I"⟩
abbrev cX6_n : ByteArray := prog_8_method_11_code
def yX6_n : MethodName := ⟨RX6, "n", "(III)I"⟩
abbrev cX6_often : ByteArray := prog_8_method_12_code
def yX6_often : MethodName := ⟨RX6, "often", "(III)I"⟩
abbrev cX6_firstClash : ByteArray := prog_8_method_13_code
def yX6_firstClash : MethodName := ⟨RX6, "firstClash", "()I"⟩
abbrev cX6_firstUnlike : ByteArray := prog_8_method_14_code
def yX6_firstUnlike : MethodName := ⟨RX6, "firstUnlike", "()I"⟩
abbrev cX6_clash : ByteArray := prog_8_method_15_code
def yX6_clash : MethodName := ⟨RX6, "clash", "(I)I"⟩
abbrev cX6_partner : ByteArray := prog_8_method_16_code
def yX6_partner : MethodName := ⟨RX6, "partner", "(I)I"⟩
abbrev cX6_begins : ByteArray := prog_8_method_17_code
def yX6_begins : MethodName := ⟨RX6, "begins", "(I)V"⟩
abbrev cX6_goesWith : ByteArray := prog_8_method_18_code
def yX6_goesWith : MethodName := ⟨RX6, "goesWith", "(I)V"⟩
abbrev cX6_power : ByteArray := prog_8_method_19_code
def yX6_power : MethodName := ⟨RX6, "power", "(III)J"⟩
abbrev cX6_feed : ByteArray := prog_8_method_20_code
def yX6_feed : MethodName := ⟨RX6, "feed", "(I)I"⟩
abbrev cX6_isNext : ByteArray := prog_8_method_21_code
def yX6_isNext : MethodName := ⟨RX6, "isNext", "(II)Z"⟩
abbrev cX6_wrong : ByteArray := prog_8_method_22_code
def yX6_wrong : MethodName := ⟨RX6, "wrong", "()V"⟩
abbrev cX6_letter : ByteArray := prog_8_method_23_code
def yX6_letter : MethodName := ⟨RX6, "letter", "(I)I"⟩
abbrev cX6_sign : ByteArray := prog_8_method_24_code
def yX6_sign : MethodName := ⟨RX6, "sign", "(I)V"⟩
abbrev cX6_term : ByteArray := prog_8_method_25_code
def yX6_term : MethodName := ⟨RX6, "term", "(III)V"⟩
abbrev cX6_sum : ByteArray := prog_8_method_26_code
def yX6_sum : MethodName := ⟨RX6, "sum", "(III)V"⟩
abbrev cX6_clauses : ByteArray := prog_8_method_27_code
def yX6_clauses : MethodName := ⟨RX6, "clauses", "(Z)I"⟩
abbrev cX6_rules : ByteArray := prog_8_method_28_code
def yX6_rules : MethodName := ⟨RX6, "rules", "()I"⟩
abbrev cX6_isElement : ByteArray := prog_8_method_29_code
def yX6_isElement : MethodName := ⟨RX6, "isElement", "(I)Z"⟩
abbrev cX6_ofElement : ByteArray := prog_8_method_30_code
def yX6_ofElement : MethodName := ⟨RX6, "ofElement", "(II)I"⟩
abbrev cX6_element : ByteArray := prog_8_method_31_code
def yX6_element : MethodName := ⟨RX6, "element", "(I)I"⟩
abbrev cX6_has : ByteArray := prog_8_method_32_code
def yX6_has : MethodName := ⟨RX6, "has", "(II)I"⟩
abbrev cX6_give : ByteArray := prog_8_method_33_code
def yX6_give : MethodName := ⟨RX6, "give", "(III)I"⟩
abbrev cX6_together : ByteArray := prog_8_method_34_code
def yX6_together : MethodName := ⟨RX6, "together", "(II)I"⟩
abbrev cX6_isSet : ByteArray := prog_8_method_35_code
def yX6_isSet : MethodName := ⟨RX6, "isSet", "(I)Z"⟩
abbrev cX6_givenBy : ByteArray := prog_8_method_36_code
def yX6_givenBy : MethodName := ⟨RX6, "givenBy", "(I)I"⟩
abbrev cX6_isClosed : ByteArray := prog_8_method_37_code
def yX6_isClosed : MethodName := ⟨RX6, "isClosed", "(I)Z"⟩
abbrev cX6_closed : ByteArray := prog_8_method_38_code
def yX6_closed : MethodName := ⟨RX6, "closed", "(I)I"⟩
abbrev cX6_closedSet : ByteArray := prog_8_method_39_code
def yX6_closedSet : MethodName := ⟨RX6, "closedSet", "(I)I"⟩
abbrev cX6_hull : ByteArray := prog_8_method_40_code
def yX6_hull : MethodName := ⟨RX6, "hull", "(I)I"⟩
abbrev cX6_isSo : ByteArray := prog_8_method_41_code
def yX6_isSo : MethodName := ⟨RX6, "isSo", "(III)Z"⟩
abbrev cX6_areSo : ByteArray := prog_8_method_42_code
def yX6_areSo : MethodName := ⟨RX6, "areSo", "(I)Z"⟩
abbrev cX6_tries : ByteArray := prog_8_method_43_code
def yX6_tries : MethodName := ⟨RX6, "tries", "(I)V"⟩
abbrev cX6_findsCharacters : ByteArray := prog_8_method_44_code
def yX6_findsCharacters : MethodName := ⟨RX6, "findsCharacters", "()V"⟩
abbrev cX6_character : ByteArray := prog_8_method_45_code
def yX6_character : MethodName := ⟨RX6, "character", "(II)I"⟩
abbrev cX6_squares : ByteArray := prog_8_method_46_code
def yX6_squares : MethodName := ⟨RX6, "squares", "(I)I"⟩
abbrev cX6_inverse : ByteArray := prog_8_method_47_code
def yX6_inverse : MethodName := ⟨RX6, "inverse", "(I)I"⟩
abbrev cX6_swaps : ByteArray := prog_8_method_48_code
def yX6_swaps : MethodName := ⟨RX6, "swaps", "([III)V"⟩
abbrev cX6_scales : ByteArray := prog_8_method_49_code
def yX6_scales : MethodName := ⟨RX6, "scales", "([III)V"⟩
abbrev cX6_takesOff : ByteArray := prog_8_method_50_code
def yX6_takesOff : MethodName := ⟨RX6, "takesOff", "([IIII)V"⟩
abbrev cX6_undoes : ByteArray := prog_8_method_51_code
def yX6_undoes : MethodName := ⟨RX6, "undoes", "()Z"⟩
abbrev cX6_back : ByteArray := prog_8_method_52_code
def yX6_back : MethodName := ⟨RX6, "back", "(III)I"⟩
abbrev cX6_isFive : ByteArray := prog_8_method_53_code
def yX6_isFive : MethodName := ⟨RX6, "isFive", "(I)Z"⟩
abbrev cX6_s : ByteArray := prog_8_method_54_code
def yX6_s : MethodName := ⟨RX6, "s", "(II)I"⟩
abbrev cX6_table : ByteArray := prog_8_method_55_code
def yX6_table : MethodName := ⟨RX6, "table", "(III)I"⟩
abbrev cX6_twist : ByteArray := prog_8_method_56_code
def yX6_twist : MethodName := ⟨RX6, "twist", "(II)I"⟩
abbrev cX6_fill : ByteArray := prog_8_method_57_code
def yX6_fill : MethodName := ⟨RX6, "fill", "()I"⟩
abbrev cX6_given : ByteArray := prog_8_method_58_code
def yX6_given : MethodName := ⟨RX6, "given", "(III)I"⟩
abbrev cX6_multiplies : ByteArray := prog_8_method_59_code
def yX6_multiplies : MethodName := ⟨RX6, "multiplies", "([I[II[II)V"⟩
abbrev cX6_isLawZero : ByteArray := prog_8_method_60_code
def yX6_isLawZero : MethodName := ⟨RX6, "isLawZero", "()Z"⟩
abbrev cX6_isLawOne : ByteArray := prog_8_method_61_code
def yX6_isLawOne : MethodName := ⟨RX6, "isLawOne", "()Z"⟩
abbrev cX6_law : ByteArray := prog_8_method_62_code
def yX6_law : MethodName := ⟨RX6, "law", "(I)I"⟩
abbrev cX6_isSmall : ByteArray := prog_8_method_63_code
def yX6_isSmall : MethodName := ⟨RX6, "isSmall", "(IIII)Z"⟩
abbrev cX6_lays : ByteArray := prog_8_method_64_code
def yX6_lays : MethodName := ⟨RX6, "lays", "(IIIII)V"⟩
abbrev cX6_small : ByteArray := prog_8_method_65_code
def yX6_small : MethodName := ⟨RX6, "small", "(II)I"⟩
abbrev cX6_were : ByteArray := prog_8_method_66_code
def yX6_were : MethodName := ⟨RX6, "were", "(III)I"⟩
abbrev cX6_drawnSet : ByteArray := prog_8_method_67_code
def yX6_drawnSet : MethodName := ⟨RX6, "drawnSet", "(II)I"⟩
abbrev cX6_odds : ByteArray := prog_8_method_68_code
def yX6_odds : MethodName := ⟨RX6, "odds", "(IIIII)J"⟩
abbrev cX6_plan : ByteArray := prog_8_method_69_code
def yX6_plan : MethodName := ⟨RX6, "plan", "(II)I"⟩
abbrev cX6_goes : ByteArray := prog_8_method_70_code
def yX6_goes : MethodName := ⟨RX6, "goes", "(II)V"⟩
abbrev cX6_ends : ByteArray := prog_8_method_71_code
def yX6_ends : MethodName := ⟨RX6, "ends", "(II)I"⟩
abbrev cX6_writes : ByteArray := prog_8_method_72_code
def yX6_writes : MethodName := ⟨RX6, "writes", "(I)V"⟩
abbrev cX6_writesNumber : ByteArray := prog_8_method_73_code
def yX6_writesNumber : MethodName := ⟨RX6, "writesNumber", "(I)V"⟩
abbrev cX6_write : ByteArray := prog_8_method_74_code
def yX6_write : MethodName := ⟨RX6, "write", "(I)I"⟩
abbrev cX6_paper : ByteArray := prog_8_method_75_code
def yX6_paper : MethodName := ⟨RX6, "paper", "(I)I"⟩
abbrev cX6_isList : ByteArray := prog_8_method_76_code
def yX6_isList : MethodName := ⟨RX6, "isList", "(I)Z"⟩
abbrev cX6_judge : ByteArray := prog_8_method_77_code
def yX6_judge : MethodName := ⟨RX6, "judge", "(III)I"⟩
abbrev cX6_list : ByteArray := prog_8_method_78_code
def yX6_list : MethodName := ⟨RX6, "list", "(II)I"⟩
abbrev cX6_put : ByteArray := prog_8_method_79_code
def yX6_put : MethodName := ⟨RX6, "put", "(IIJ)I"⟩
abbrev cX6_get : ByteArray := prog_8_method_80_code
def yX6_get : MethodName := ⟨RX6, "get", "(II)J"⟩
abbrev cX6_image : ByteArray := prog_8_method_81_code
def yX6_image : MethodName := ⟨RX6, "image", "()I"⟩
abbrev cX6_undo : ByteArray := prog_8_method_82_code
def yX6_undo : MethodName := ⟨RX6, "undo", "()I"⟩
abbrev cX6_notNought : ByteArray := prog_8_method_83_code
def yX6_notNought : MethodName := ⟨RX6, "notNought", "(II)I"⟩
abbrev cX6_count : ByteArray := prog_8_method_84_code
def yX6_count : MethodName := ⟨RX6, "count", "(I)I"⟩
def RJ9 : String := "java/lang/Math"
def TJ9 : u_T := fun k => match k with
  | _ => ("", "", "", false)
def tyJ9 : Nat → FieldType := fun k => match k with
  | _ => .int
abbrev wsJ90 : List Cond := u_ws RJ9 TJ9 0
theorem nmJ9 : ∀ a, a < 0 → ∀ b, b < 0 → a ≠ b → (TJ9 a).2.1 ≠ (TJ9 b).2.1 := by decide +kernel
theorem tyJ9_ok : ∀ k, k < 0 → parseFieldDescriptor (TJ9 k).2.2.1 = some (tyJ9 k) := by decide +kernel
abbrev cJ9_abs_0f7a4 : ByteArray := prog_9_method_59_code
def yJ9_abs_0f7a4 : MethodName := ⟨RJ9, "abs", "(I)I"⟩
abbrev cJ9_min_7cf53 : ByteArray := prog_9_method_69_code
def yJ9_min_7cf53 : MethodName := ⟨RJ9, "min", "(II)I"⟩
abbrev cJ9_min_f86c9 : ByteArray := prog_9_method_70_code
def yJ9_min_f86c9 : MethodName := ⟨RJ9, "min", "(JJ)J"⟩
def RJ10 : String := "java/lang/System"
def TJ10 : u_T := fun k => match k with
  | _ => ("", "", "", false)
def tyJ10 : Nat → FieldType := fun k => match k with
  | _ => .int
abbrev wsJ100 : List Cond := u_ws RJ10 TJ10 0
theorem nmJ10 : ∀ a, a < 0 → ∀ b, b < 0 → a ≠ b → (TJ10 a).2.1 ≠ (TJ10 b).2.1 := by decide +kernel
theorem tyJ10_ok : ∀ k, k < 0 → parseFieldDescriptor (TJ10 k).2.2.1 = some (tyJ10 k) := by decide +kernel
def RJ7 : String := "java/util/Arrays"
def TJ7 : u_T := fun k => match k with
  | _ => ("", "", "", false)
def tyJ7 : Nat → FieldType := fun k => match k with
  | _ => .int
abbrev wsJ70 : List Cond := u_ws RJ7 TJ7 0
theorem nmJ7 : ∀ a, a < 0 → ∀ b, b < 0 → a ≠ b → (TJ7 a).2.1 ≠ (TJ7 b).2.1 := by decide +kernel
theorem tyJ7_ok : ∀ k, k < 0 → parseFieldDescriptor (TJ7 k).2.2.1 = some (tyJ7 k) := by decide +kernel
abbrev cJ7_fill_d0a16 : ByteArray := prog_11_method_101_code
def yJ7_fill_d0a16 : MethodName := ⟨RJ7, "fill", "([JJ)V"⟩
abbrev cJ7_fill_53178 : ByteArray := prog_11_method_103_code
def yJ7_fill_53178 : MethodName := ⟨RJ7, "fill", "([II)V"⟩
def RL : String := "FusionRulesLaw"
abbrev cL_law : ByteArray := code
def yL_law : MethodName := ⟨RL, "law", "([I)Z"⟩
abbrev vwCl : List vw_C := [(RX0, TX0, 5), (RX1, TX1, 2), (RX2, TX2, 10), (RX3, TX3, 6), (RX4, TX4, 4), (RX5, TX5, 17), (RX6, TX6, 25)]
end
section
/-! the program as data: cells, methods, blocks -/
abbrev zV : Type := Nat × Int
abbrev zM : Type := Int → Int → Int
abbrev zI : Type := Instr × Nat × List (Int × Nat)
def zSH : List (Nat × Int × List Int) := [(3, 5, [1, 8, -2, 15, 17, 19, 24, -2, -2, 29, 33, -1, 34, 35, 36, 37, 38]), (3, 2, [-1, -1, -1, 2, 3, 4, 5, 6, 7, -1]), (0, 125, []), (0, 20, []), (0, 25, []), (0, 5, []), (0, 8, []), (0, 8, []), (3, 2, [-1, -1, -1, 9, 10, 11, 12, 13, 14, -1]), (0, 125, []), (0, 20, []), (0, 25, []), (0, 5, []), (0, 8, []), (0, 8, []), (3, 1, [-1, 16]), (0, 125, []), (3, 1, [-1, 18]), (0, 125, []), (3, 0, [-1, 20, 21, 22, 23]), (0, 25, []), (0, 5, []), (0, 5, []), (0, 125, []), (3, 4, [25, 26, 27, 28]), (0, 25, []), (0, 25, []), (0, 25, []), (0, 25, []), (3, 3, [30, -1, 31, -1, -1, 32]), (1, 60, []), (0, 5, []), (0, 125, []), (1, 24, []), (2, 48, []), (0, 4, []), (2, 5, []), (2, 5, []), (2, 5, []), (3, 6, [40, 41, -2, 42, 43, 44, -1, -1, -1, 45, -1, 46, -1, 47, 48, 49, 50, 51, 52, 53, 54, 55, -1, 56, 57]), (0, 195, []), (0, 195, []), (2, 5, []), (2, 5, []), (0, 60, []), (0, 5, []), (0, 320, []), (0, 5, []), (0, 25, []), (0, 25, []), (0, 25, []), (0, 25, []), (0, 25, []), (0, 25, []), (0, 195, []), (0, 40, []), (2, 48, []), (0, 4, [])]
def zcn : List String := [RX0, RX1, RX2, RX3, RX4, RX5, RX6, RJ9, RJ7, RL]
def zmn : List MethodName := [yX0_isThere, yX0_numberOf, yX0_copyTo, yX0_find, yX0_choose, yX0_keepChosen, yX0_goesOn, yX0_becomeLaw, yX0_learn, yX0_keepEquation, yX1_at, yX1_becomeRules, yX1_oftenByKind, yX1_plain, yX1_inCycle, yX1_onLadder, yX1_inHouse, yX1_becomeSmall, yX1_becomeGiven, yX1_firstClash, yX1_firstClashOf, yX1_firstUnlike, yX1_partnerOf, yX1_putTogether, yX1_bitsGiven, yX1_bitsGivenByAll, yX1_withAllGiven, yX1_isClosed, yX1_leastClosed, yX1_drawn, yX2_becomeLike, yX3_readRules, yX3_readElement, yX3_readClause, yX3_readSum, yX3_readNumber, yX3_readLetter, yX3_passed, yX3_nextByte, yX4_invert, yX4_rowWithNumber, yX4_swapRows, yX4_clearColumn, yX4_addRow, yX4_multiply, yX4_squareIsShuffle, yX4_onlyColumn, yX4_cubeIsSquare, yX4_cubeIsProduct, yX4_productIsZero, yX5_set, yX5_of, yX5_tell, yX5_feed, yX5_rules, yX5_often, yX5_clash, yX5_partner, yX5_power, yX5_element, yX5_has, yX5_give, yX5_together, yX5_closed, yX5_closedSet, yX5_hull, yX5_character, yX5_squares, yX5_back, yX5_table, yX5_twist, yX5_fill, yX5_given, yX5_law, yX5_small, yX5_were, yX5_odds, yX5_plan, yX5_ends, yX5_write, yX5_paper, yX5_judge, yX5_list, yX5_put, yX5_get, yX5_image, yX5_undo, yX5_count, yX5_isOfFive, yX5_isTold, yX5_isElement, yX5_isList, yX5_mayBecome, yX5_isSort, yX5_areSorts, yX5_isSet, yX5_forgetRules, yX5_currentFusion, yX5_currentCharacters, yX5_becomeSort, yX5_becomeElement, yX5_doRow, yX5_writeTerm, yX5_writeByte, yX5_place, yX5_notZero, yX5_greatestShared, yX5_inverseOf, yX6_in, yX6_bit, yX6_isSort, yX6_at, yX6_set, yX6_of, yX6_tell, yX6_ladder, yX6_house, yX6_n, yX6_often, yX6_firstClash, yX6_firstUnlike, yX6_clash, yX6_partner, yX6_begins, yX6_goesWith, yX6_power, yX6_feed, yX6_isNext, yX6_wrong, yX6_letter, yX6_sign, yX6_term, yX6_sum, yX6_clauses, yX6_rules, yX6_isElement, yX6_ofElement, yX6_element, yX6_has, yX6_give, yX6_together, yX6_isSet, yX6_givenBy, yX6_isClosed, yX6_closed, yX6_closedSet, yX6_hull, yX6_isSo, yX6_areSo, yX6_tries, yX6_findsCharacters, yX6_character, yX6_squares, yX6_inverse, yX6_swaps, yX6_scales, yX6_takesOff, yX6_undoes, yX6_back, yX6_isFive, yX6_s, yX6_table, yX6_twist, yX6_fill, yX6_given, yX6_multiplies, yX6_isLawZero, yX6_isLawOne, yX6_law, yX6_isSmall, yX6_lays, yX6_small, yX6_were, yX6_drawnSet, yX6_odds, yX6_plan, yX6_goes, yX6_ends, yX6_writes, yX6_writesNumber, yX6_write, yX6_paper, yX6_isList, yX6_judge, yX6_list, yX6_put, yX6_get, yX6_image, yX6_undo, yX6_notNought, yX6_count, yJ7_fill_d0a16, yJ7_fill_53178, yL_law]
def zmc : List ByteArray := [cX0_isThere, cX0_numberOf, cX0_copyTo, cX0_find, cX0_choose, cX0_keepChosen, cX0_goesOn, cX0_becomeLaw, cX0_learn, cX0_keepEquation, cX1_at, cX1_becomeRules, cX1_oftenByKind, cX1_plain, cX1_inCycle, cX1_onLadder, cX1_inHouse, cX1_becomeSmall, cX1_becomeGiven, cX1_firstClash, cX1_firstClashOf, cX1_firstUnlike, cX1_partnerOf, cX1_putTogether, cX1_bitsGiven, cX1_bitsGivenByAll, cX1_withAllGiven, cX1_isClosed, cX1_leastClosed, cX1_drawn, cX2_becomeLike, cX3_readRules, cX3_readElement, cX3_readClause, cX3_readSum, cX3_readNumber, cX3_readLetter, cX3_passed, cX3_nextByte, cX4_invert, cX4_rowWithNumber, cX4_swapRows, cX4_clearColumn, cX4_addRow, cX4_multiply, cX4_squareIsShuffle, cX4_onlyColumn, cX4_cubeIsSquare, cX4_cubeIsProduct, cX4_productIsZero, cX5_set, cX5_of, cX5_tell, cX5_feed, cX5_rules, cX5_often, cX5_clash, cX5_partner, cX5_power, cX5_element, cX5_has, cX5_give, cX5_together, cX5_closed, cX5_closedSet, cX5_hull, cX5_character, cX5_squares, cX5_back, cX5_table, cX5_twist, cX5_fill, cX5_given, cX5_law, cX5_small, cX5_were, cX5_odds, cX5_plan, cX5_ends, cX5_write, cX5_paper, cX5_judge, cX5_list, cX5_put, cX5_get, cX5_image, cX5_undo, cX5_count, cX5_isOfFive, cX5_isTold, cX5_isElement, cX5_isList, cX5_mayBecome, cX5_isSort, cX5_areSorts, cX5_isSet, cX5_forgetRules, cX5_currentFusion, cX5_currentCharacters, cX5_becomeSort, cX5_becomeElement, cX5_doRow, cX5_writeTerm, cX5_writeByte, cX5_place, cX5_notZero, cX5_greatestShared, cX5_inverseOf, cX6_in, cX6_bit, cX6_isSort, cX6_at, cX6_set, cX6_of, cX6_tell, cX6_ladder, cX6_house, cX6_n, cX6_often, cX6_firstClash, cX6_firstUnlike, cX6_clash, cX6_partner, cX6_begins, cX6_goesWith, cX6_power, cX6_feed, cX6_isNext, cX6_wrong, cX6_letter, cX6_sign, cX6_term, cX6_sum, cX6_clauses, cX6_rules, cX6_isElement, cX6_ofElement, cX6_element, cX6_has, cX6_give, cX6_together, cX6_isSet, cX6_givenBy, cX6_isClosed, cX6_closed, cX6_closedSet, cX6_hull, cX6_isSo, cX6_areSo, cX6_tries, cX6_findsCharacters, cX6_character, cX6_squares, cX6_inverse, cX6_swaps, cX6_scales, cX6_takesOff, cX6_undoes, cX6_back, cX6_isFive, cX6_s, cX6_table, cX6_twist, cX6_fill, cX6_given, cX6_multiplies, cX6_isLawZero, cX6_isLawOne, cX6_law, cX6_isSmall, cX6_lays, cX6_small, cX6_were, cX6_drawnSet, cX6_odds, cX6_plan, cX6_goes, cX6_ends, cX6_writes, cX6_writesNumber, cX6_write, cX6_paper, cX6_isList, cX6_judge, cX6_list, cX6_put, cX6_get, cX6_image, cX6_undo, cX6_notNought, cX6_count, cJ7_fill_d0a16, cJ7_fill_53178, cL_law]
/-- own class, locals, arguments (the receiver too), 1: static, kind of the answer -/
def zmi : List (Nat × Nat × Nat × Nat × Nat) := [(0, 2, 2, 0, 4), (0, 3, 3, 0, 1), (0, 5, 3, 0, 0), (0, 2, 2, 0, 0), (0, 4, 3, 0, 0), (0, 1, 1, 0, 0), (0, 6, 4, 0, 4), (0, 6, 5, 0, 0), (0, 6, 2, 0, 4), (0, 4, 3, 0, 0), (1, 4, 4, 0, 1), (1, 5, 2, 0, 0), (1, 5, 4, 1, 1), (1, 3, 3, 1, 1), (1, 5, 4, 1, 1), (1, 6, 4, 1, 1), (1, 4, 4, 1, 1), (1, 6, 5, 0, 0), (1, 6, 6, 0, 0), (1, 5, 1, 0, 1), (1, 8, 4, 0, 1), (1, 4, 1, 0, 1), (1, 4, 2, 0, 1), (1, 9, 4, 0, 0), (1, 5, 3, 0, 1), (1, 5, 3, 0, 1), (1, 4, 2, 0, 1), (1, 2, 2, 0, 4), (1, 4, 2, 0, 1), (1, 6, 3, 0, 1), (2, 2, 2, 0, 0), (3, 4, 3, 0, 1), (3, 2, 2, 0, 1), (3, 4, 2, 0, 4), (3, 8, 5, 0, 4), (3, 6, 3, 0, 1), (3, 4, 3, 0, 1), (3, 2, 2, 0, 4), (3, 1, 1, 0, 1), (4, 5, 3, 0, 4), (4, 4, 3, 0, 1), (4, 5, 3, 1, 0), (4, 5, 3, 0, 0), (4, 5, 4, 0, 0), (4, 8, 4, 1, 0), (4, 8, 3, 0, 4), (4, 5, 3, 0, 1), (4, 6, 4, 0, 4), (4, 5, 3, 0, 4), (4, 4, 2, 0, 4), (5, 4, 3, 0, 1), (5, 2, 2, 0, 1), (5, 6, 5, 0, 1), (5, 2, 2, 0, 1), (5, 2, 1, 0, 1), (5, 4, 4, 0, 1), (5, 2, 2, 0, 1), (5, 2, 2, 0, 1), (5, 5, 4, 0, 2), (5, 3, 2, 0, 1), (5, 3, 3, 0, 1), (5, 5, 4, 0, 1), (5, 5, 3, 0, 1), (5, 2, 2, 0, 1), (5, 4, 2, 0, 1), (5, 2, 2, 0, 1), (5, 4, 3, 0, 1), (5, 6, 2, 0, 1), (5, 8, 4, 0, 1), (5, 5, 4, 0, 1), (5, 4, 3, 0, 1), (5, 2, 1, 0, 1), (5, 9, 4, 0, 1), (5, 2, 2, 0, 1), (5, 10, 3, 0, 1), (5, 7, 4, 0, 1), (5, 8, 6, 0, 2), (5, 3, 3, 0, 1), (5, 4, 3, 0, 1), (5, 4, 2, 0, 1), (5, 2, 2, 0, 1), (5, 6, 4, 0, 1), (5, 4, 3, 0, 1), (5, 5, 4, 0, 1), (5, 3, 3, 0, 2), (5, 1, 1, 0, 1), (5, 1, 1, 0, 1), (5, 2, 2, 0, 1), (5, 1, 1, 1, 4), (5, 3, 3, 1, 4), (5, 1, 1, 1, 4), (5, 1, 1, 1, 4), (5, 2, 2, 1, 4), (5, 2, 2, 0, 4), (5, 4, 4, 0, 4), (5, 2, 2, 0, 4), (5, 1, 1, 0, 0), (5, 1, 1, 0, 3), (5, 1, 1, 0, 3), (5, 3, 3, 0, 0), (5, 4, 3, 0, 0), (5, 4, 3, 0, 0), (5, 3, 3, 0, 0), (5, 2, 2, 0, 0), (5, 3, 3, 1, 1), (5, 6, 1, 1, 1), (5, 6, 2, 1, 1), (5, 2, 1, 1, 1), (6, 6, 3, 1, 4), (6, 1, 1, 1, 1), (6, 2, 2, 0, 4), (6, 3, 3, 1, 1), (6, 4, 3, 0, 1), (6, 2, 2, 0, 1), (6, 6, 5, 0, 1), (6, 7, 4, 0, 1), (6, 5, 4, 0, 1), (6, 4, 4, 0, 1), (6, 4, 4, 0, 1), (6, 9, 1, 0, 1), (6, 4, 1, 0, 1), (6, 2, 2, 0, 1), (6, 5, 2, 0, 1), (6, 3, 2, 0, 0), (6, 4, 2, 0, 0), (6, 5, 4, 0, 2), (6, 2, 2, 0, 1), (6, 3, 3, 0, 4), (6, 1, 1, 0, 0), (6, 2, 2, 0, 1), (6, 2, 2, 0, 0), (6, 6, 4, 0, 0), (6, 5, 4, 0, 0), (6, 6, 2, 0, 1), (6, 2, 1, 0, 1), (6, 1, 1, 1, 4), (6, 2, 2, 1, 1), (6, 2, 2, 0, 1), (6, 3, 3, 0, 1), (6, 5, 4, 0, 1), (6, 7, 3, 0, 1), (6, 2, 2, 0, 4), (6, 6, 2, 0, 1), (6, 2, 2, 0, 4), (6, 2, 2, 0, 1), (6, 4, 2, 0, 1), (6, 4, 2, 0, 1), (6, 7, 4, 0, 4), (6, 4, 2, 0, 4), (6, 3, 2, 0, 0), (6, 1, 1, 0, 0), (6, 3, 3, 0, 1), (6, 4, 2, 0, 1), (6, 2, 1, 1, 1), (6, 5, 3, 1, 0), (6, 5, 4, 0, 0), (6, 6, 5, 0, 0), (6, 7, 1, 0, 4), (6, 6, 4, 0, 1), (6, 1, 1, 1, 4), (6, 3, 3, 0, 1), (6, 5, 4, 0, 1), (6, 4, 3, 0, 1), (6, 3, 1, 0, 1), (6, 7, 4, 0, 1), (6, 10, 6, 0, 0), (6, 7, 1, 0, 4), (6, 6, 1, 0, 4), (6, 2, 2, 0, 1), (6, 6, 5, 0, 4), (6, 6, 6, 0, 0), (6, 10, 3, 0, 1), (6, 8, 4, 0, 1), (6, 10, 3, 0, 1), (6, 10, 6, 0, 2), (6, 3, 3, 0, 1), (6, 4, 3, 0, 0), (6, 4, 3, 0, 1), (6, 2, 2, 0, 0), (6, 2, 2, 0, 0), (6, 4, 2, 0, 1), (6, 2, 2, 0, 1), (6, 1, 1, 1, 4), (6, 5, 4, 0, 1), (6, 4, 3, 0, 1), (6, 5, 4, 0, 1), (6, 3, 3, 0, 2), (6, 1, 1, 0, 1), (6, 1, 1, 0, 1), (6, 5, 3, 0, 1), (6, 2, 2, 0, 1), (8, 5, 2, 1, 0), (8, 4, 2, 1, 0), (9, 4, 1, 1, 4)]
def zmr : List (Option FieldType) := [(some .boolean), (some .int), none, none, none, none, (some .boolean), none, (some .boolean), none, (some .int), none, (some .int), (some .int), (some .int), (some .int), (some .int), none, none, (some .int), (some .int), (some .int), (some .int), none, (some .int), (some .int), (some .int), (some .boolean), (some .int), (some .int), none, (some .int), (some .int), (some .boolean), (some .boolean), (some .int), (some .int), (some .boolean), (some .int), (some .boolean), (some .int), none, none, none, none, (some .boolean), (some .int), (some .boolean), (some .boolean), (some .boolean), (some .int), (some .int), (some .int), (some .int), (some .int), (some .int), (some .int), (some .int), (some .long), (some .int), (some .int), (some .int), (some .int), (some .int), (some .int), (some .int), (some .int), (some .int), (some .int), (some .int), (some .int), (some .int), (some .int), (some .int), (some .int), (some .int), (some .long), (some .int), (some .int), (some .int), (some .int), (some .int), (some .int), (some .int), (some .long), (some .int), (some .int), (some .int), (some .boolean), (some .boolean), (some .boolean), (some .boolean), (some .boolean), (some .boolean), (some .boolean), (some .boolean), none, (some (.object "FusionRules$Fusion")), (some (.object "FusionRules$Characters")), none, none, none, none, none, (some .int), (some .int), (some .int), (some .int), (some .boolean), (some .int), (some .boolean), (some .int), (some .int), (some .int), (some .int), (some .int), (some .int), (some .int), (some .int), (some .int), (some .int), (some .int), (some .int), none, none, (some .long), (some .int), (some .boolean), none, (some .int), none, none, none, (some .int), (some .int), (some .boolean), (some .int), (some .int), (some .int), (some .int), (some .int), (some .boolean), (some .int), (some .boolean), (some .int), (some .int), (some .int), (some .boolean), (some .boolean), none, none, (some .int), (some .int), (some .int), none, none, none, (some .boolean), (some .int), (some .boolean), (some .int), (some .int), (some .int), (some .int), (some .int), none, (some .boolean), (some .boolean), (some .int), (some .boolean), none, (some .int), (some .int), (some .int), (some .long), (some .int), none, (some .int), none, none, (some .int), (some .int), (some .boolean), (some .int), (some .int), (some .int), (some .long), (some .int), (some .int), (some .int), (some .int), none, none, (some .boolean)]
def k0_0 : List zI := [(.iload_n 1, 0, []), (.ifCond .lt 15, 16, []), (.iload_n 1, 0, []), (.aload_n 0, 0, []), (.getfield 9, 0, []), (.if_icmp .ge 7, 16, []), (.iconst 1, 0, []), (.goto 4, 17, [])]
def k0_16 : List zI := [(.iconst 0, 0, []), (.nop, 17, [])]
def k0_17 : List zI := [(.ireturn, 4, [])]
def zb0 : List (Nat × List zI) := [(0, k0_0), (16, k0_16), (17, k0_17)]
def k1_0 : List zI := [(.aload_n 0, 0, []), (.getfield 15, 1, []), (.iload_n 1, 0, []), (.iconst 5, 0, []), (.imul, 0, []), (.iload_n 2, 0, []), (.iadd, 0, []), (.iaload, 0, []), (.ireturn, 1, [])]
def zb1 : List (Nat × List zI) := [(0, k1_0)]
def k2_0 : List zI := [(.iconst 0, 0, []), (.istore_n 3, 0, []), (.nop, 2, [])]
def k2_2 : List zI := [(.iload_n 3, 0, []), (.iload_n 2, 0, []), (.if_icmp .ge 39, 43, []), (.iconst 0, 0, []), (.istore 4, 0, []), (.nop, 10, [])]
def k2_10 : List zI := [(.iload 4, 0, []), (.iload_n 2, 0, []), (.if_icmp .ge 24, 37, []), (.aload_n 1, 0, []), (.iload_n 3, 0, []), (.iconst 5, 0, []), (.imul, 0, []), (.iload 4, 0, []), (.iadd, 0, []), (.aload_n 0, 0, []), (.iload 4, 0, []), (.iload_n 3, 0, []), (.invokevirtual 28, 1, [(1, 3), (0, 0)]), (.iastore, 0, []), (.iinc 4 1, 0, []), (.goto (-24), 10, [])]
def k2_37 : List zI := [(.iinc 3 1, 0, []), (.goto (-38), 2, [])]
def k2_43 : List zI := [(.return_, 0, [])]
def zb2 : List (Nat × List zI) := [(0, k2_0), (2, k2_2), (10, k2_10), (37, k2_37), (43, k2_43)]
def k3_0 : List zI := [(.aload_n 0, 0, []), (.iconst 0, 0, []), (.putfield 9, 0, []), (.aload_n 0, 0, []), (.getfield 19, 2, []), (.iconst 0, 0, []), (.iconst 1, 0, []), (.iastore, 0, []), (.aload_n 0, 0, []), (.getfield 25, 4, []), (.iconst 0, 0, []), (.invokestatic 32, 192, [(0, 2)]), (.aload_n 0, 0, []), (.aload_n 1, 0, []), (.iconst 1, 0, []), (.invokevirtual 38, 4, [(0, 3), (0, 0)]), (.return_, 0, [])]
def zb3 : List (Nat × List zI) := [(0, k3_0)]
def k4_0 : List zI := [(.iload_n 2, 0, []), (.iconst 5, 0, []), (.if_icmp .ge 11, 13, []), (.iload_n 2, 0, []), (.aload_n 1, 0, []), (.getfield 42, 32, []), (.if_icmp .lt 8, 18, []), (.nop, 13, [])]
def k4_13 : List zI := [(.aload_n 0, 0, []), (.invokevirtual 47, 5, [(0, 1), (0, 0)]), (.return_, 0, [])]
def k4_18 : List zI := [(.iconst 0, 0, []), (.istore_n 3, 0, []), (.nop, 20, [])]
def k4_20 : List zI := [(.iload_n 3, 0, []), (.bipush 31, 0, []), (.if_icmp .ge 57, 80, []), (.aload_n 0, 0, []), (.getfield 25, 4, []), (.iload_n 2, 0, []), (.iconst 1, 0, []), (.isub, 0, []), (.bipush 25, 0, []), (.imul, 0, []), (.aload_n 0, 0, []), (.getfield 25, 4, []), (.iload_n 2, 0, []), (.bipush 25, 0, []), (.imul, 0, []), (.bipush 25, 0, []), (.invokestatic 50, 0, [(9, 5)]), (.aload_n 0, 0, []), (.aload_n 1, 0, []), (.iload_n 2, 0, []), (.iload_n 3, 0, []), (.invokevirtual 56, 6, [(4, 4), (0, 0)]), (.ifCond .eq 18, 74, []), (.aload_n 0, 0, []), (.getfield 19, 2, []), (.iload_n 2, 0, []), (.iload_n 3, 0, []), (.iastore, 0, []), (.aload_n 0, 0, []), (.aload_n 1, 0, []), (.iload_n 2, 0, []), (.iconst 1, 0, []), (.iadd, 0, []), (.invokevirtual 38, 4, [(0, 3), (0, 0)]), (.nop, 74, [])]
def k4_74 : List zI := [(.iinc 3 1, 0, []), (.goto (-57), 20, [])]
def k4_80 : List zI := [(.return_, 0, [])]
def zb4 : List (Nat × List zI) := [(0, k4_0), (13, k4_13), (18, k4_18), (20, k4_20), (74, k4_74), (80, k4_80)]
def k5_0 : List zI := [(.aload_n 0, 0, []), (.getfield 9, 0, []), (.iconst 5, 0, []), (.if_icmp .ge 32, 37, []), (.aload_n 0, 0, []), (.getfield 19, 2, []), (.iconst 0, 0, []), (.aload_n 0, 0, []), (.getfield 15, 1, []), (.aload_n 0, 0, []), (.getfield 9, 0, []), (.iconst 5, 0, []), (.imul, 0, []), (.iconst 5, 0, []), (.invokestatic 50, 0, [(9, 5)]), (.aload_n 0, 0, []), (.dup, 0, []), (.getfield 9, 0, []), (.iconst 1, 0, []), (.iadd, 0, []), (.putfield 9, 0, []), (.nop, 37, [])]
def k5_37 : List zI := [(.return_, 0, [])]
def zb5 : List (Nat × List zI) := [(0, k5_0), (37, k5_37)]
def k6_0 : List zI := [(.aload_n 0, 0, []), (.getfield 22, 3, []), (.iconst 0, 0, []), (.invokestatic 32, 192, [(0, 2)]), (.aload_n 0, 0, []), (.getfield 22, 3, []), (.iconst 0, 0, []), (.bipush 31, 0, []), (.iload_n 3, 0, []), (.isub, 0, []), (.bipush 31, 0, []), (.irem, 0, []), (.iastore, 0, []), (.aload_n 0, 0, []), (.getfield 22, 3, []), (.iload_n 2, 0, []), (.iconst 1, 0, []), (.iastore, 0, []), (.aload_n 0, 0, []), (.iload_n 2, 0, []), (.invokevirtual 60, 8, [(4, 2), (0, 0)]), (.istore 4, 0, []), (.iconst 1, 0, []), (.istore 5, 0, []), (.nop, 38, [])]
def k6_38 : List zI := [(.iload 4, 0, []), (.ifCond .eq 34, 74, []), (.iload 5, 0, []), (.aload_n 1, 0, []), (.getfield 42, 32, []), (.if_icmp .ge 25, 74, []), (.aload_n 0, 0, []), (.aload_n 1, 0, []), (.iload_n 2, 0, []), (.iload 5, 0, []), (.iload_n 3, 0, []), (.invokevirtual 64, 7, [(0, 5), (0, 0)]), (.aload_n 0, 0, []), (.iload_n 2, 0, []), (.invokevirtual 60, 8, [(4, 2), (0, 0)]), (.istore 4, 0, []), (.iinc 5 1, 0, []), (.goto (-33), 38, [])]
def k6_74 : List zI := [(.iload 4, 0, []), (.ireturn, 4, [])]
def zb6 : List (Nat × List zI) := [(0, k6_0), (38, k6_38), (74, k6_74)]
def k7_0 : List zI := [(.aload_n 0, 0, []), (.getfield 22, 3, []), (.iconst 0, 0, []), (.invokestatic 32, 192, [(0, 2)]), (.iconst 0, 0, []), (.istore 5, 0, []), (.nop, 11, [])]
def k7_11 : List zI := [(.iload 5, 0, []), (.aload_n 1, 0, []), (.getfield 42, 32, []), (.if_icmp .ge 30, 47, []), (.aload_n 0, 0, []), (.getfield 22, 3, []), (.iload 5, 0, []), (.bipush 31, 0, []), (.aload_n 1, 0, []), (.iload_n 2, 0, []), (.iload_n 3, 0, []), (.iload 5, 0, []), (.invokevirtual 68, 10, [(1, 4), (1, 0)]), (.isub, 0, []), (.bipush 31, 0, []), (.irem, 0, []), (.iastore, 0, []), (.iinc 5 1, 0, []), (.goto (-33), 11, [])]
def k7_47 : List zI := [(.aload_n 0, 0, []), (.getfield 22, 3, []), (.iload_n 3, 0, []), (.aload_n 0, 0, []), (.getfield 22, 3, []), (.iload_n 3, 0, []), (.iaload, 0, []), (.iload 4, 0, []), (.iadd, 0, []), (.bipush 31, 0, []), (.irem, 0, []), (.iastore, 0, []), (.return_, 0, [])]
def zb7 : List (Nat × List zI) := [(0, k7_0), (11, k7_11), (47, k7_47)]
def k8_0 : List zI := [(.iconst 4, 0, []), (.istore_n 2, 0, []), (.nop, 2, [])]
def k8_2 : List zI := [(.iload_n 2, 0, []), (.ifCond .le 110, 113, []), (.aload_n 0, 0, []), (.getfield 22, 3, []), (.iload_n 2, 0, []), (.iaload, 0, []), (.ifCond .eq 95, 107, []), (.iload_n 1, 0, []), (.bipush 25, 0, []), (.imul, 0, []), (.iload_n 2, 0, []), (.iconst 5, 0, []), (.imul, 0, []), (.iadd, 0, []), (.istore_n 3, 0, []), (.aload_n 0, 0, []), (.getfield 25, 4, []), (.iload_n 3, 0, []), (.iload_n 2, 0, []), (.iadd, 0, []), (.iaload, 0, []), (.ifCond .ne 19, 51, []), (.aload_n 0, 0, []), (.iload_n 3, 0, []), (.aload_n 0, 0, []), (.getfield 22, 3, []), (.iload_n 2, 0, []), (.iaload, 0, []), (.invokestatic 72, 107, [(1, 1)]), (.invokevirtual 76, 9, [(0, 3), (0, 0)]), (.iconst 1, 0, []), (.ireturn, 4, [])]
def k8_51 : List zI := [(.bipush 31, 0, []), (.aload_n 0, 0, []), (.getfield 22, 3, []), (.iload_n 2, 0, []), (.iaload, 0, []), (.isub, 0, []), (.istore 4, 0, []), (.iconst 0, 0, []), (.istore 5, 0, []), (.nop, 65, [])]
def k8_65 : List zI := [(.iload 5, 0, []), (.iload_n 2, 0, []), (.if_icmp .gt 39, 107, []), (.aload_n 0, 0, []), (.getfield 22, 3, []), (.iload 5, 0, []), (.aload_n 0, 0, []), (.getfield 22, 3, []), (.iload 5, 0, []), (.iaload, 0, []), (.iload 4, 0, []), (.aload_n 0, 0, []), (.getfield 25, 4, []), (.iload_n 3, 0, []), (.iload 5, 0, []), (.iadd, 0, []), (.iaload, 0, []), (.imul, 0, []), (.iadd, 0, []), (.bipush 31, 0, []), (.irem, 0, []), (.iastore, 0, []), (.iinc 5 1, 0, []), (.goto (-39), 65, [])]
def k8_107 : List zI := [(.iinc 2 (-1), 0, []), (.goto (-108), 2, [])]
def k8_113 : List zI := [(.aload_n 0, 0, []), (.getfield 22, 3, []), (.iconst 0, 0, []), (.iaload, 0, []), (.ifCond .ne 7, 126, []), (.iconst 1, 0, []), (.goto 4, 127, [])]
def k8_126 : List zI := [(.iconst 0, 0, []), (.nop, 127, [])]
def k8_127 : List zI := [(.ireturn, 4, [])]
def zb8 : List (Nat × List zI) := [(0, k8_0), (2, k8_2), (51, k8_51), (65, k8_65), (107, k8_107), (113, k8_113), (126, k8_126), (127, k8_127)]
def k9_0 : List zI := [(.iconst 0, 0, []), (.istore_n 3, 0, []), (.nop, 2, [])]
def k9_2 : List zI := [(.iload_n 3, 0, []), (.iconst 5, 0, []), (.if_icmp .ge 28, 32, []), (.aload_n 0, 0, []), (.getfield 25, 4, []), (.iload_n 1, 0, []), (.iload_n 3, 0, []), (.iadd, 0, []), (.aload_n 0, 0, []), (.getfield 22, 3, []), (.iload_n 3, 0, []), (.iaload, 0, []), (.iload_n 2, 0, []), (.imul, 0, []), (.bipush 31, 0, []), (.irem, 0, []), (.iastore, 0, []), (.iinc 3 1, 0, []), (.goto (-27), 2, [])]
def k9_32 : List zI := [(.return_, 0, [])]
def zb9 : List (Nat × List zI) := [(0, k9_0), (2, k9_2), (32, k9_32)]
def k10_0 : List zI := [(.aload_n 0, 0, []), (.getfield 15, 33, []), (.iload_n 1, 0, []), (.iload_n 2, 0, []), (.iload_n 3, 0, []), (.invokestatic 19, 104, [(1, 3)]), (.iaload, 0, []), (.ireturn, 1, [])]
def zb10 : List (Nat × List zI) := [(0, k10_0)]
def k11_0 : List zI := [(.aload_n 0, 0, []), (.aload_n 1, 0, []), (.getfield 23, 65, []), (.putfield 9, 32, []), (.iconst 0, 0, []), (.istore_n 2, 0, []), (.nop, 10, [])]
def k11_10 : List zI := [(.iload_n 2, 0, []), (.aload_n 0, 0, []), (.getfield 9, 32, []), (.if_icmp .ge 63, 78, []), (.iconst 0, 0, []), (.istore_n 3, 0, []), (.nop, 20, [])]
def k11_20 : List zI := [(.iload_n 3, 0, []), (.aload_n 0, 0, []), (.getfield 9, 32, []), (.if_icmp .ge 47, 72, []), (.iconst 0, 0, []), (.istore 4, 0, []), (.nop, 31, [])]
def k11_31 : List zI := [(.iload 4, 0, []), (.aload_n 0, 0, []), (.getfield 9, 32, []), (.if_icmp .ge 29, 66, []), (.aload_n 0, 0, []), (.getfield 15, 33, []), (.iload_n 2, 0, []), (.iload_n 3, 0, []), (.iload 4, 0, []), (.invokestatic 19, 104, [(1, 3)]), (.aload_n 1, 0, []), (.iload_n 2, 0, []), (.iload_n 3, 0, []), (.iload 4, 0, []), (.invokestatic 26, 12, [(1, 4)]), (.iastore, 0, []), (.iinc 4 1, 0, []), (.goto (-32), 31, [])]
def k11_66 : List zI := [(.iinc 3 1, 0, []), (.goto (-49), 20, [])]
def k11_72 : List zI := [(.iinc 2 1, 0, []), (.goto (-65), 10, [])]
def k11_78 : List zI := [(.return_, 0, [])]
def zb11 : List (Nat × List zI) := [(0, k11_0), (10, k11_10), (20, k11_20), (31, k11_31), (66, k11_66), (72, k11_72), (78, k11_78)]
def k12_0 : List zI := [(.iload_n 1, 0, []), (.ifCond .eq 7, 8, []), (.iload_n 2, 0, []), (.ifCond .ne 10, 15, []), (.nop, 8, [])]
def k12_8 : List zI := [(.iload_n 1, 0, []), (.iload_n 2, 0, []), (.iload_n 3, 0, []), (.invokestatic 30, 13, [(1, 3)]), (.ireturn, 1, [])]
def k12_15 : List zI := [(.aload_n 0, 0, []), (.getfield 23, 65, []), (.iconst 1, 0, []), (.isub, 0, []), (.istore 4, 0, []), (.aload_n 0, 0, []), (.getfield 33, 64, []), (.tableswitch 92 1 4 #[29, 40, 49, 58], 119, [(1, 56), (2, 67), (3, 76), (4, 85)])]
def k12_56 : List zI := [(.aload_n 0, 0, []), (.getfield 23, 65, []), (.iload_n 1, 0, []), (.iload_n 2, 0, []), (.iload_n 3, 0, []), (.invokestatic 36, 14, [(1, 4)]), (.ireturn, 1, [])]
def k12_67 : List zI := [(.iload 4, 0, []), (.iload_n 1, 0, []), (.iload_n 2, 0, []), (.iload_n 3, 0, []), (.invokestatic 40, 15, [(1, 4)]), (.ireturn, 1, [])]
def k12_76 : List zI := [(.iload 4, 0, []), (.iload_n 1, 0, []), (.iload_n 2, 0, []), (.iload_n 3, 0, []), (.invokestatic 43, 16, [(1, 4)]), (.ireturn, 1, [])]
def k12_85 : List zI := [(.iload_n 1, 0, []), (.iload 4, 0, []), (.if_icmp .ne 22, 110, []), (.iload_n 2, 0, []), (.iload 4, 0, []), (.if_icmp .ne 16, 110, []), (.iload_n 3, 0, []), (.iload 4, 0, []), (.if_icmp .ne 10, 110, []), (.aload_n 0, 0, []), (.getfield 46, 66, []), (.goto 11, 118, [])]
def k12_110 : List zI := [(.iload 4, 0, []), (.iload_n 1, 0, []), (.iload_n 2, 0, []), (.iload_n 3, 0, []), (.invokestatic 43, 16, [(1, 4)]), (.nop, 118, [])]
def k12_118 : List zI := [(.ireturn, 1, [])]
def k12_119 : List zI := [(.aload_n 0, 0, []), (.getfield 49, 67, []), (.iload_n 1, 0, []), (.iload_n 2, 0, []), (.iload_n 3, 0, []), (.invokestatic 19, 104, [(1, 3)]), (.iaload, 0, []), (.ireturn, 1, [])]
def zb12 : List (Nat × List zI) := [(0, k12_0), (8, k12_8), (15, k12_15), (56, k12_56), (67, k12_67), (76, k12_76), (85, k12_85), (110, k12_110), (118, k12_118), (119, k12_119)]
def k13_0 : List zI := [(.iload_n 2, 0, []), (.iload_n 0, 0, []), (.iload_n 1, 0, []), (.iadd, 0, []), (.if_icmp .ne 7, 11, []), (.iconst 1, 0, []), (.goto 4, 12, [])]
def k13_11 : List zI := [(.iconst 0, 0, []), (.nop, 12, [])]
def k13_12 : List zI := [(.ireturn, 1, [])]
def zb13 : List (Nat × List zI) := [(0, k13_0), (11, k13_11), (12, k13_12)]
def k14_0 : List zI := [(.iload_n 1, 0, []), (.iload_n 2, 0, []), (.iadd, 0, []), (.istore 4, 0, []), (.iload_n 3, 0, []), (.iload 4, 0, []), (.iload_n 0, 0, []), (.if_icmp .ge 8, 17, []), (.iload 4, 0, []), (.goto 7, 21, [])]
def k14_17 : List zI := [(.iload 4, 0, []), (.iload_n 0, 0, []), (.isub, 0, []), (.nop, 21, [])]
def k14_21 : List zI := [(.if_icmp .ne 7, 28, []), (.iconst 1, 0, []), (.goto 4, 29, [])]
def k14_28 : List zI := [(.iconst 0, 0, []), (.nop, 29, [])]
def k14_29 : List zI := [(.ireturn, 1, [])]
def zb14 : List (Nat × List zI) := [(0, k14_0), (17, k14_17), (21, k14_21), (28, k14_28), (29, k14_29)]
def k15_0 : List zI := [(.iload_n 1, 0, []), (.iload_n 2, 0, []), (.isub, 0, []), (.invokestatic 52, 0, [(10, 1)]), (.istore 4, 0, []), (.iload_n 1, 0, []), (.iload_n 2, 0, []), (.iadd, 0, []), (.iconst 2, 0, []), (.iload_n 0, 0, []), (.imul, 0, []), (.iload_n 1, 0, []), (.isub, 0, []), (.iload_n 2, 0, []), (.isub, 0, []), (.invokestatic 58, 0, [(11, 2)]), (.istore 5, 0, []), (.iload_n 3, 0, []), (.iload 4, 0, []), (.if_icmp .lt 22, 48, []), (.iload_n 3, 0, []), (.iload 5, 0, []), (.if_icmp .gt 16, 48, []), (.iload_n 3, 0, []), (.iload 4, 0, []), (.isub, 0, []), (.iconst 2, 0, []), (.irem, 0, []), (.ifCond .ne 7, 48, []), (.iconst 1, 0, []), (.goto 4, 49, [])]
def k15_48 : List zI := [(.iconst 0, 0, []), (.nop, 49, [])]
def k15_49 : List zI := [(.ireturn, 1, [])]
def zb15 : List (Nat × List zI) := [(0, k15_0), (48, k15_48), (49, k15_49)]
def k16_0 : List zI := [(.iload_n 1, 0, []), (.iload_n 0, 0, []), (.if_icmp .ne 19, 21, []), (.iload_n 2, 0, []), (.iload_n 0, 0, []), (.if_icmp .ne 14, 21, []), (.iload_n 3, 0, []), (.iload_n 0, 0, []), (.if_icmp .ne 7, 19, []), (.iconst 0, 0, []), (.goto 4, 20, [])]
def k16_19 : List zI := [(.iconst 1, 0, []), (.nop, 20, [])]
def k16_20 : List zI := [(.ireturn, 1, [])]
def k16_21 : List zI := [(.iload_n 1, 0, []), (.iload_n 0, 0, []), (.if_icmp .eq 8, 31, []), (.iload_n 2, 0, []), (.iload_n 0, 0, []), (.if_icmp .ne 14, 42, []), (.nop, 31, [])]
def k16_31 : List zI := [(.iload_n 3, 0, []), (.iload_n 0, 0, []), (.if_icmp .ne 7, 40, []), (.iconst 1, 0, []), (.goto 4, 41, [])]
def k16_40 : List zI := [(.iconst 0, 0, []), (.nop, 41, [])]
def k16_41 : List zI := [(.ireturn, 1, [])]
def k16_42 : List zI := [(.iload_n 0, 0, []), (.iload_n 1, 0, []), (.iload_n 2, 0, []), (.iload_n 3, 0, []), (.invokestatic 36, 14, [(1, 4)]), (.ireturn, 1, [])]
def zb16 : List (Nat × List zI) := [(0, k16_0), (19, k16_19), (20, k16_20), (21, k16_21), (31, k16_31), (40, k16_40), (41, k16_41), (42, k16_42)]
def k17_0 : List zI := [(.aload_n 0, 0, []), (.iconst 3, 0, []), (.putfield 9, 32, []), (.iconst 0, 0, []), (.istore 5, 0, []), (.nop, 8, [])]
def k17_8 : List zI := [(.iload 5, 0, []), (.aload_n 0, 0, []), (.getfield 9, 32, []), (.if_icmp .ge 37, 51, []), (.aload_n 0, 0, []), (.iconst 0, 0, []), (.iload 5, 0, []), (.iconst 0, 0, []), (.iload 5, 0, []), (.iconst 0, 0, []), (.invokestatic 30, 13, [(1, 3)]), (.iconst 0, 0, []), (.iload 5, 0, []), (.iconst 1, 0, []), (.invokestatic 30, 13, [(1, 3)]), (.iconst 0, 0, []), (.iload 5, 0, []), (.iconst 2, 0, []), (.invokestatic 30, 13, [(1, 3)]), (.invokevirtual 62, 18, [(0, 6), (1, 0)]), (.iinc 5 1, 0, []), (.goto (-40), 8, [])]
def k17_51 : List zI := [(.aload_n 0, 0, []), (.iconst 1, 0, []), (.iconst 1, 0, []), (.iconst 1, 0, []), (.iload_n 1, 0, []), (.iload_n 2, 0, []), (.invokevirtual 62, 18, [(0, 6), (1, 0)]), (.aload_n 0, 0, []), (.iconst 1, 0, []), (.iconst 2, 0, []), (.iconst 0, 0, []), (.iload_n 2, 0, []), (.iload_n 3, 0, []), (.invokevirtual 62, 18, [(0, 6), (1, 0)]), (.aload_n 0, 0, []), (.iconst 2, 0, []), (.iconst 2, 0, []), (.iconst 1, 0, []), (.iload_n 3, 0, []), (.iload 4, 0, []), (.invokevirtual 62, 18, [(0, 6), (1, 0)]), (.return_, 0, [])]
def zb17 : List (Nat × List zI) := [(0, k17_0), (8, k17_8), (51, k17_51)]
def k18_0 : List zI := [(.aload_n 0, 0, []), (.getfield 15, 33, []), (.iload_n 1, 0, []), (.iload_n 2, 0, []), (.iconst 0, 0, []), (.invokestatic 19, 104, [(1, 3)]), (.iload_n 3, 0, []), (.iastore, 0, []), (.aload_n 0, 0, []), (.getfield 15, 33, []), (.iload_n 1, 0, []), (.iload_n 2, 0, []), (.iconst 1, 0, []), (.invokestatic 19, 104, [(1, 3)]), (.iload 4, 0, []), (.iastore, 0, []), (.aload_n 0, 0, []), (.getfield 15, 33, []), (.iload_n 1, 0, []), (.iload_n 2, 0, []), (.iconst 2, 0, []), (.invokestatic 19, 104, [(1, 3)]), (.iload 5, 0, []), (.iastore, 0, []), (.aload_n 0, 0, []), (.getfield 15, 33, []), (.iload_n 2, 0, []), (.iload_n 1, 0, []), (.iconst 0, 0, []), (.invokestatic 19, 104, [(1, 3)]), (.iload_n 3, 0, []), (.iastore, 0, []), (.aload_n 0, 0, []), (.getfield 15, 33, []), (.iload_n 2, 0, []), (.iload_n 1, 0, []), (.iconst 1, 0, []), (.invokestatic 19, 104, [(1, 3)]), (.iload 4, 0, []), (.iastore, 0, []), (.aload_n 0, 0, []), (.getfield 15, 33, []), (.iload_n 2, 0, []), (.iload_n 1, 0, []), (.iconst 2, 0, []), (.invokestatic 19, 104, [(1, 3)]), (.iload 5, 0, []), (.iastore, 0, []), (.return_, 0, [])]
def zb18 : List (Nat × List zI) := [(0, k18_0)]
def k19_0 : List zI := [(.iconst 1, 0, []), (.istore_n 1, 0, []), (.nop, 2, [])]
def k19_2 : List zI := [(.iload_n 1, 0, []), (.aload_n 0, 0, []), (.getfield 9, 32, []), (.if_icmp .ge 78, 85, []), (.iconst 1, 0, []), (.istore_n 2, 0, []), (.nop, 12, [])]
def k19_12 : List zI := [(.iload_n 2, 0, []), (.aload_n 0, 0, []), (.getfield 9, 32, []), (.if_icmp .ge 62, 79, []), (.iconst 1, 0, []), (.istore_n 3, 0, []), (.nop, 22, [])]
def k19_22 : List zI := [(.iload_n 3, 0, []), (.aload_n 0, 0, []), (.getfield 9, 32, []), (.if_icmp .ge 46, 73, []), (.aload_n 0, 0, []), (.iload_n 1, 0, []), (.iload_n 2, 0, []), (.iload_n 3, 0, []), (.invokevirtual 66, 20, [(1, 4), (1, 0)]), (.istore 4, 0, []), (.iload 4, 0, []), (.aload_n 0, 0, []), (.getfield 9, 32, []), (.if_icmp .ge 22, 67, []), (.sipush 1000, 0, []), (.iload_n 1, 0, []), (.imul, 0, []), (.bipush 100, 0, []), (.iload_n 2, 0, []), (.imul, 0, []), (.iadd, 0, []), (.bipush 10, 0, []), (.iload_n 3, 0, []), (.imul, 0, []), (.iadd, 0, []), (.iload 4, 0, []), (.iadd, 0, []), (.ireturn, 1, [])]
def k19_67 : List zI := [(.iinc 3 1, 0, []), (.goto (-48), 22, [])]
def k19_73 : List zI := [(.iinc 2 1, 0, []), (.goto (-64), 12, [])]
def k19_79 : List zI := [(.iinc 1 1, 0, []), (.goto (-80), 2, [])]
def k19_85 : List zI := [(.bipush (-5), 0, []), (.ireturn, 1, [])]
def zb19 : List (Nat × List zI) := [(0, k19_0), (2, k19_2), (12, k19_12), (22, k19_22), (67, k19_67), (73, k19_73), (79, k19_79), (85, k19_85)]
def k20_0 : List zI := [(.iconst 0, 0, []), (.istore 4, 0, []), (.nop, 3, [])]
def k20_3 : List zI := [(.iload 4, 0, []), (.aload_n 0, 0, []), (.getfield 9, 32, []), (.if_icmp .ge 89, 98, []), (.iconst 0, 0, []), (.istore 5, 0, []), (.iconst 0, 0, []), (.istore 6, 0, []), (.iconst 0, 0, []), (.istore 7, 0, []), (.nop, 21, [])]
def k20_21 : List zI := [(.iload 7, 0, []), (.aload_n 0, 0, []), (.getfield 9, 32, []), (.if_icmp .ge 55, 82, []), (.iload 5, 0, []), (.aload_n 0, 0, []), (.iload_n 1, 0, []), (.iload_n 2, 0, []), (.iload 7, 0, []), (.invokevirtual 69, 10, [(1, 4), (1, 0)]), (.aload_n 0, 0, []), (.iload 7, 0, []), (.iload_n 3, 0, []), (.iload 4, 0, []), (.invokevirtual 69, 10, [(1, 4), (1, 0)]), (.imul, 0, []), (.iadd, 0, []), (.istore 5, 0, []), (.iload 6, 0, []), (.aload_n 0, 0, []), (.iload_n 2, 0, []), (.iload_n 3, 0, []), (.iload 7, 0, []), (.invokevirtual 69, 10, [(1, 4), (1, 0)]), (.aload_n 0, 0, []), (.iload_n 1, 0, []), (.iload 7, 0, []), (.iload 4, 0, []), (.invokevirtual 69, 10, [(1, 4), (1, 0)]), (.imul, 0, []), (.iadd, 0, []), (.istore 6, 0, []), (.iinc 7 1, 0, []), (.goto (-58), 21, [])]
def k20_82 : List zI := [(.iload 5, 0, []), (.iload 6, 0, []), (.if_icmp .eq 6, 92, []), (.iload 4, 0, []), (.ireturn, 1, [])]
def k20_92 : List zI := [(.iinc 4 1, 0, []), (.goto (-92), 3, [])]
def k20_98 : List zI := [(.aload_n 0, 0, []), (.getfield 9, 32, []), (.ireturn, 1, [])]
def zb20 : List (Nat × List zI) := [(0, k20_0), (3, k20_3), (21, k20_21), (82, k20_82), (92, k20_92), (98, k20_98)]
def k21_0 : List zI := [(.iconst 0, 0, []), (.istore_n 1, 0, []), (.nop, 2, [])]
def k21_2 : List zI := [(.iload_n 1, 0, []), (.aload_n 0, 0, []), (.getfield 9, 32, []), (.if_icmp .ge 65, 72, []), (.iconst 0, 0, []), (.istore_n 2, 0, []), (.nop, 12, [])]
def k21_12 : List zI := [(.iload_n 2, 0, []), (.aload_n 0, 0, []), (.getfield 9, 32, []), (.if_icmp .ge 49, 66, []), (.iconst 0, 0, []), (.istore_n 3, 0, []), (.nop, 22, [])]
def k21_22 : List zI := [(.iload_n 3, 0, []), (.aload_n 0, 0, []), (.getfield 9, 32, []), (.if_icmp .ge 33, 60, []), (.aload_n 0, 0, []), (.iload_n 1, 0, []), (.iload_n 2, 0, []), (.iload_n 3, 0, []), (.invokevirtual 69, 10, [(1, 4), (1, 0)]), (.aload_n 0, 0, []), (.iload_n 2, 0, []), (.iload_n 1, 0, []), (.iload_n 3, 0, []), (.invokevirtual 69, 10, [(1, 4), (1, 0)]), (.if_icmp .eq 10, 54, []), (.bipush 10, 0, []), (.iload_n 1, 0, []), (.imul, 0, []), (.iload_n 2, 0, []), (.iadd, 0, []), (.ireturn, 1, [])]
def k21_54 : List zI := [(.iinc 3 1, 0, []), (.goto (-35), 22, [])]
def k21_60 : List zI := [(.iinc 2 1, 0, []), (.goto (-51), 12, [])]
def k21_66 : List zI := [(.iinc 1 1, 0, []), (.goto (-67), 2, [])]
def k21_72 : List zI := [(.bipush (-5), 0, []), (.ireturn, 1, [])]
def zb21 : List (Nat × List zI) := [(0, k21_0), (2, k21_2), (12, k21_12), (22, k21_22), (54, k21_54), (60, k21_60), (66, k21_66), (72, k21_72)]
def k22_0 : List zI := [(.bipush (-5), 0, []), (.istore_n 2, 0, []), (.iconst 0, 0, []), (.istore_n 3, 0, []), (.nop, 5, [])]
def k22_5 : List zI := [(.iload_n 3, 0, []), (.aload_n 0, 0, []), (.getfield 9, 32, []), (.if_icmp .ge 41, 51, []), (.aload_n 0, 0, []), (.iload_n 1, 0, []), (.iload_n 3, 0, []), (.iconst 0, 0, []), (.invokevirtual 69, 10, [(1, 4), (1, 0)]), (.ifCond .le 25, 45, []), (.iload_n 2, 0, []), (.bipush (-5), 0, []), (.if_icmp .ne 14, 40, []), (.aload_n 0, 0, []), (.iload_n 1, 0, []), (.iload_n 3, 0, []), (.iconst 0, 0, []), (.invokevirtual 69, 10, [(1, 4), (1, 0)]), (.iconst 1, 0, []), (.if_icmp .le 6, 43, []), (.nop, 40, [])]
def k22_40 : List zI := [(.bipush (-5), 0, []), (.ireturn, 1, [])]
def k22_43 : List zI := [(.iload_n 3, 0, []), (.istore_n 2, 0, []), (.nop, 45, [])]
def k22_45 : List zI := [(.iinc 3 1, 0, []), (.goto (-43), 5, [])]
def k22_51 : List zI := [(.iload_n 2, 0, []), (.ireturn, 1, [])]
def zb22 : List (Nat × List zI) := [(0, k22_0), (5, k22_5), (40, k22_40), (43, k22_43), (45, k22_45), (51, k22_51)]
def k23_0 : List zI := [(.aload_n 3, 0, []), (.lconst 0, 0, []), (.invokestatic 72, 191, [(0, 2)]), (.iconst 0, 0, []), (.istore 4, 0, []), (.nop, 8, [])]
def k23_8 : List zI := [(.iload 4, 0, []), (.aload_n 0, 0, []), (.getfield 9, 32, []), (.if_icmp .ge 84, 98, []), (.iconst 0, 0, []), (.istore 5, 0, []), (.nop, 20, [])]
def k23_20 : List zI := [(.iload 5, 0, []), (.aload_n 0, 0, []), (.getfield 9, 32, []), (.if_icmp .ge 66, 92, []), (.aload_n 1, 0, []), (.iload 4, 0, []), (.laload, 0, []), (.aload_n 2, 0, []), (.iload 5, 0, []), (.laload, 0, []), (.lmul, 0, []), (.lstore 6, 0, []), (.iconst 0, 0, []), (.istore 8, 0, []), (.nop, 43, [])]
def k23_43 : List zI := [(.lload 6, 0, []), (.lconst 0, 0, []), (.lcmp, 0, []), (.ifCond .eq 39, 86, []), (.iload 8, 0, []), (.aload_n 0, 0, []), (.getfield 9, 32, []), (.if_icmp .ge 30, 86, []), (.aload_n 3, 0, []), (.iload 8, 0, []), (.dup2, 0, []), (.laload, 0, []), (.lload 6, 0, []), (.aload_n 0, 0, []), (.iload 4, 0, []), (.iload 5, 0, []), (.iload 8, 0, []), (.invokevirtual 69, 10, [(1, 4), (1, 0)]), (.i2l, 0, []), (.lmul, 0, []), (.ladd, 0, []), (.lastore, 0, []), (.iinc 8 1, 0, []), (.goto (-40), 43, [])]
def k23_86 : List zI := [(.iinc 5 1, 0, []), (.goto (-69), 20, [])]
def k23_92 : List zI := [(.iinc 4 1, 0, []), (.goto (-87), 8, [])]
def k23_98 : List zI := [(.return_, 0, [])]
def zb23 : List (Nat × List zI) := [(0, k23_0), (8, k23_8), (20, k23_20), (43, k23_43), (86, k23_86), (92, k23_92), (98, k23_98)]
def k24_0 : List zI := [(.iconst 0, 0, []), (.istore_n 3, 0, []), (.iconst 0, 0, []), (.istore 4, 0, []), (.nop, 5, [])]
def k24_5 : List zI := [(.iload 4, 0, []), (.aload_n 0, 0, []), (.getfield 9, 32, []), (.if_icmp .ge 27, 38, []), (.aload_n 0, 0, []), (.iload_n 1, 0, []), (.iload_n 2, 0, []), (.iload 4, 0, []), (.invokevirtual 69, 10, [(1, 4), (1, 0)]), (.ifCond .le 10, 32, []), (.iload_n 3, 0, []), (.iconst 1, 0, []), (.iload 4, 0, []), (.ishl, 0, []), (.ior, 0, []), (.istore_n 3, 0, []), (.nop, 32, [])]
def k24_32 : List zI := [(.iinc 4 1, 0, []), (.goto (-30), 5, [])]
def k24_38 : List zI := [(.iload_n 3, 0, []), (.ireturn, 1, [])]
def zb24 : List (Nat × List zI) := [(0, k24_0), (5, k24_5), (32, k24_32), (38, k24_38)]
def k25_0 : List zI := [(.iconst 0, 0, []), (.istore_n 3, 0, []), (.iconst 0, 0, []), (.istore 4, 0, []), (.nop, 5, [])]
def k25_5 : List zI := [(.iload 4, 0, []), (.aload_n 0, 0, []), (.getfield 9, 32, []), (.if_icmp .ge 29, 40, []), (.iload_n 1, 0, []), (.iload 4, 0, []), (.ishr, 0, []), (.iconst 1, 0, []), (.iand, 0, []), (.iconst 1, 0, []), (.if_icmp .ne 13, 34, []), (.iload_n 3, 0, []), (.aload_n 0, 0, []), (.iload 4, 0, []), (.iload_n 2, 0, []), (.invokevirtual 78, 24, [(1, 3), (1, 0)]), (.ior, 0, []), (.istore_n 3, 0, []), (.nop, 34, [])]
def k25_34 : List zI := [(.iinc 4 1, 0, []), (.goto (-32), 5, [])]
def k25_40 : List zI := [(.iload_n 3, 0, []), (.ireturn, 1, [])]
def zb25 : List (Nat × List zI) := [(0, k25_0), (5, k25_5), (34, k25_34), (40, k25_40)]
def k26_0 : List zI := [(.iload_n 1, 0, []), (.istore_n 2, 0, []), (.iconst 0, 0, []), (.istore_n 3, 0, []), (.nop, 4, [])]
def k26_4 : List zI := [(.iload_n 3, 0, []), (.aload_n 0, 0, []), (.getfield 9, 32, []), (.if_icmp .ge 27, 36, []), (.iload_n 1, 0, []), (.iload_n 3, 0, []), (.ishr, 0, []), (.iconst 1, 0, []), (.iand, 0, []), (.iconst 1, 0, []), (.if_icmp .ne 12, 30, []), (.iload_n 2, 0, []), (.aload_n 0, 0, []), (.iload_n 1, 0, []), (.iload_n 3, 0, []), (.invokevirtual 81, 25, [(1, 3), (1, 0)]), (.ior, 0, []), (.istore_n 2, 0, []), (.nop, 30, [])]
def k26_30 : List zI := [(.iinc 3 1, 0, []), (.goto (-29), 4, [])]
def k26_36 : List zI := [(.iload_n 2, 0, []), (.ireturn, 1, [])]
def zb26 : List (Nat × List zI) := [(0, k26_0), (4, k26_4), (30, k26_30), (36, k26_36)]
def k27_0 : List zI := [(.iload_n 1, 0, []), (.iconst 1, 0, []), (.iand, 0, []), (.iconst 1, 0, []), (.if_icmp .ne 16, 20, []), (.aload_n 0, 0, []), (.iload_n 1, 0, []), (.invokevirtual 84, 26, [(1, 2), (1, 0)]), (.iload_n 1, 0, []), (.if_icmp .ne 7, 20, []), (.iconst 1, 0, []), (.goto 4, 21, [])]
def k27_20 : List zI := [(.iconst 0, 0, []), (.nop, 21, [])]
def k27_21 : List zI := [(.ireturn, 4, [])]
def zb27 : List (Nat × List zI) := [(0, k27_0), (20, k27_20), (21, k27_21)]
def k28_0 : List zI := [(.iload_n 1, 0, []), (.iconst 1, 0, []), (.ior, 0, []), (.istore_n 2, 0, []), (.iconst 0, 0, []), (.istore_n 3, 0, []), (.nop, 6, [])]
def k28_6 : List zI := [(.iload_n 3, 0, []), (.iconst 5, 0, []), (.if_icmp .ge 15, 23, []), (.aload_n 0, 0, []), (.iload_n 2, 0, []), (.invokevirtual 84, 26, [(1, 2), (1, 0)]), (.istore_n 2, 0, []), (.iinc 3 1, 0, []), (.goto (-14), 6, [])]
def k28_23 : List zI := [(.iload_n 2, 0, []), (.ireturn, 1, [])]
def zb28 : List (Nat × List zI) := [(0, k28_0), (6, k28_6), (23, k28_23)]
def k29_0 : List zI := [(.iconst 1, 0, []), (.istore_n 3, 0, []), (.iload_n 1, 0, []), (.istore 4, 0, []), (.iconst 0, 0, []), (.istore 5, 0, []), (.nop, 8, [])]
def k29_8 : List zI := [(.iload 5, 0, []), (.iload_n 2, 0, []), (.if_icmp .ge 43, 54, []), (.aload_n 0, 0, []), (.getfield 9, 32, []), (.ifCond .le 36, 54, []), (.iload 4, 0, []), (.ldc 87, 0, [(1103515245, 0)]), (.imul, 0, []), (.sipush 12345, 0, []), (.iadd, 0, []), (.istore 4, 0, []), (.aload_n 0, 0, []), (.iload_n 3, 0, []), (.iload 4, 0, []), (.bipush 16, 0, []), (.iushr, 0, []), (.aload_n 0, 0, []), (.getfield 9, 32, []), (.irem, 0, []), (.invokevirtual 81, 25, [(1, 3), (1, 0)]), (.istore_n 3, 0, []), (.iinc 5 1, 0, []), (.goto (-43), 8, [])]
def k29_54 : List zI := [(.iload_n 3, 0, []), (.ireturn, 1, [])]
def zb29 : List (Nat × List zI) := [(0, k29_0), (8, k29_8), (54, k29_54)]
def k30_0 : List zI := [(.aload_n 0, 0, []), (.aload_n 1, 0, []), (.getfield 9, 64, []), (.putfield 9, 64, []), (.aload_n 0, 0, []), (.aload_n 1, 0, []), (.getfield 15, 65, []), (.putfield 15, 65, []), (.aload_n 0, 0, []), (.aload_n 1, 0, []), (.getfield 18, 66, []), (.putfield 18, 66, []), (.aload_n 0, 0, []), (.aload_n 1, 0, []), (.getfield 40, 73, []), (.putfield 40, 73, []), (.aload_n 1, 0, []), (.getfield 21, 67, []), (.iconst 0, 0, []), (.aload_n 0, 0, []), (.getfield 21, 67, []), (.iconst 0, 0, []), (.bipush 125, 0, []), (.invokestatic 43, 0, [(9, 5)]), (.aload_n 1, 0, []), (.getfield 25, 68, []), (.iconst 0, 0, []), (.aload_n 0, 0, []), (.getfield 25, 68, []), (.iconst 0, 0, []), (.bipush 20, 0, []), (.invokestatic 43, 0, [(9, 5)]), (.aload_n 1, 0, []), (.getfield 28, 69, []), (.iconst 0, 0, []), (.aload_n 0, 0, []), (.getfield 28, 69, []), (.iconst 0, 0, []), (.bipush 25, 0, []), (.invokestatic 43, 0, [(9, 5)]), (.aload_n 1, 0, []), (.getfield 31, 70, []), (.iconst 0, 0, []), (.aload_n 0, 0, []), (.getfield 31, 70, []), (.iconst 0, 0, []), (.iconst 5, 0, []), (.invokestatic 43, 0, [(9, 5)]), (.aload_n 1, 0, []), (.getfield 34, 71, []), (.iconst 0, 0, []), (.aload_n 0, 0, []), (.getfield 34, 71, []), (.iconst 0, 0, []), (.bipush 8, 0, []), (.invokestatic 43, 0, [(9, 5)]), (.aload_n 1, 0, []), (.getfield 37, 72, []), (.iconst 0, 0, []), (.aload_n 0, 0, []), (.getfield 37, 72, []), (.iconst 0, 0, []), (.bipush 8, 0, []), (.invokestatic 43, 0, [(9, 5)]), (.return_, 0, [])]
def zb30 : List (Nat × List zI) := [(0, k30_0)]
def k31_0 : List zI := [(.aload_n 2, 0, []), (.iconst 0, 0, []), (.aload_n 0, 0, []), (.getfield 29, 101, []), (.iconst 0, 0, []), (.bipush 125, 0, []), (.invokestatic 32, 0, [(9, 5)]), (.aload_n 0, 0, []), (.iconst 0, 0, []), (.putfield 26, 100, []), (.iconst 1, 0, []), (.istore_n 3, 0, []), (.nop, 19, [])]
def k31_19 : List zI := [(.iload_n 3, 0, []), (.bipush 60, 0, []), (.if_icmp .gt 67, 89, []), (.aload_n 0, 0, []), (.iload_n 1, 0, []), (.invokevirtual 38, 33, [(4, 2), (3, 0)]), (.ifCond .ne 11, 41, []), (.bipush (-100), 0, []), (.aload_n 0, 0, []), (.getfield 26, 100, []), (.isub, 0, []), (.ireturn, 1, [])]
def k31_41 : List zI := [(.aload_n 0, 0, []), (.getfield 26, 100, []), (.aload_n 0, 0, []), (.getfield 15, 97, []), (.if_icmp .lt 17, 66, []), (.aload_n 0, 0, []), (.getfield 29, 101, []), (.iconst 0, 0, []), (.aload_n 2, 0, []), (.iconst 0, 0, []), (.bipush 125, 0, []), (.invokestatic 32, 0, [(9, 5)]), (.iload_n 3, 0, []), (.ireturn, 1, [])]
def k31_66 : List zI := [(.aload_n 0, 0, []), (.bipush 59, 0, []), (.invokevirtual 42, 37, [(4, 2), (3, 0)]), (.ifCond .ne 11, 83, []), (.bipush (-100), 0, []), (.aload_n 0, 0, []), (.getfield 26, 100, []), (.isub, 0, []), (.ireturn, 1, [])]
def k31_83 : List zI := [(.iinc 3 1, 0, []), (.goto (-67), 19, [])]
def k31_89 : List zI := [(.bipush (-100), 0, []), (.aload_n 0, 0, []), (.getfield 26, 100, []), (.isub, 0, []), (.ireturn, 1, [])]
def zb31 : List (Nat × List zI) := [(0, k31_0), (19, k31_19), (41, k31_41), (66, k31_66), (83, k31_83), (89, k31_89)]
def k32_0 : List zI := [(.aload_n 0, 0, []), (.iconst 0, 0, []), (.putfield 26, 100, []), (.aload_n 0, 0, []), (.iload_n 1, 0, []), (.iconst 1, 0, []), (.iconst 3, 0, []), (.sipush 999, 0, []), (.invokevirtual 45, 34, [(4, 5), (3, 0)]), (.ifCond .eq 14, 29, []), (.aload_n 0, 0, []), (.getfield 26, 100, []), (.aload_n 0, 0, []), (.getfield 15, 97, []), (.if_icmp .ge 11, 37, []), (.nop, 29, [])]
def k32_29 : List zI := [(.bipush (-100), 0, []), (.aload_n 0, 0, []), (.getfield 26, 100, []), (.isub, 0, []), (.ireturn, 1, [])]
def k32_37 : List zI := [(.aload_n 0, 0, []), (.getfield 23, 99, []), (.ireturn, 1, [])]
def zb32 : List (Nat × List zI) := [(0, k32_0), (29, k32_29), (37, k32_37)]
def k33_0 : List zI := [(.aload_n 0, 0, []), (.iconst 1, 0, []), (.iload_n 1, 0, []), (.invokevirtual 49, 36, [(1, 3), (3, 0)]), (.istore_n 2, 0, []), (.iload_n 2, 0, []), (.iconst (-1), 0, []), (.if_icmp .eq 12, 21, []), (.aload_n 0, 0, []), (.bipush 42, 0, []), (.invokevirtual 42, 37, [(4, 2), (3, 0)]), (.ifCond .ne 5, 23, []), (.nop, 21, [])]
def k33_21 : List zI := [(.iconst 0, 0, []), (.ireturn, 4, [])]
def k33_23 : List zI := [(.aload_n 0, 0, []), (.iconst 1, 0, []), (.iload_n 1, 0, []), (.invokevirtual 49, 36, [(1, 3), (3, 0)]), (.istore_n 3, 0, []), (.iload_n 3, 0, []), (.iconst (-1), 0, []), (.if_icmp .eq 24, 56, []), (.aload_n 0, 0, []), (.bipush 61, 0, []), (.invokevirtual 42, 37, [(4, 2), (3, 0)]), (.ifCond .eq 15, 56, []), (.aload_n 0, 0, []), (.iload_n 1, 0, []), (.iconst 2, 0, []), (.iconst 1, 0, []), (.bipush 9, 0, []), (.invokevirtual 45, 34, [(4, 5), (3, 0)]), (.ifCond .ne 5, 58, []), (.nop, 56, [])]
def k33_56 : List zI := [(.iconst 0, 0, []), (.ireturn, 4, [])]
def k33_58 : List zI := [(.aload_n 0, 0, []), (.getfield 19, 98, []), (.iconst 0, 0, []), (.aload_n 0, 0, []), (.getfield 29, 101, []), (.iload_n 2, 0, []), (.bipush 25, 0, []), (.imul, 0, []), (.iload_n 3, 0, []), (.iconst 5, 0, []), (.imul, 0, []), (.iadd, 0, []), (.iconst 5, 0, []), (.invokestatic 32, 0, [(9, 5)]), (.aload_n 0, 0, []), (.getfield 19, 98, []), (.iconst 0, 0, []), (.aload_n 0, 0, []), (.getfield 29, 101, []), (.iload_n 3, 0, []), (.bipush 25, 0, []), (.imul, 0, []), (.iload_n 2, 0, []), (.iconst 5, 0, []), (.imul, 0, []), (.iadd, 0, []), (.iconst 5, 0, []), (.invokestatic 32, 0, [(9, 5)]), (.iconst 1, 0, []), (.ireturn, 4, [])]
def zb33 : List (Nat × List zI) := [(0, k33_0), (21, k33_21), (23, k33_23), (56, k33_56), (58, k33_58)]
def k34_0 : List zI := [(.aload_n 0, 0, []), (.getfield 19, 98, []), (.iconst 0, 0, []), (.invokestatic 53, 192, [(0, 2)]), (.aload_n 0, 0, []), (.iconst 0, 0, []), (.putfield 23, 99, []), (.aload_n 0, 0, []), (.bipush 48, 0, []), (.invokevirtual 42, 37, [(4, 2), (3, 0)]), (.ifCond .eq 5, 24, []), (.iconst 1, 0, []), (.ireturn, 4, [])]
def k34_24 : List zI := [(.iconst 0, 0, []), (.istore 5, 0, []), (.nop, 27, [])]
def k34_27 : List zI := [(.iload 5, 0, []), (.bipush 60, 0, []), (.if_icmp .ge 76, 107, []), (.aload_n 0, 0, []), (.iload_n 2, 0, []), (.iload_n 3, 0, []), (.invokevirtual 59, 35, [(1, 3), (3, 0)]), (.istore 6, 0, []), (.aload_n 0, 0, []), (.iconst 0, 0, []), (.iload_n 1, 0, []), (.invokevirtual 49, 36, [(1, 3), (3, 0)]), (.istore 7, 0, []), (.iload 7, 0, []), (.iconst (-1), 0, []), (.if_icmp .ne 5, 58, []), (.iconst 0, 0, []), (.ireturn, 4, [])]
def k34_58 : List zI := [(.aload_n 0, 0, []), (.getfield 19, 98, []), (.iload 7, 0, []), (.aload_n 0, 0, []), (.getfield 19, 98, []), (.iload 7, 0, []), (.iaload, 0, []), (.iload 6, 0, []), (.iadd, 0, []), (.iload 4, 0, []), (.invokestatic 62, 0, [(11, 2)]), (.iastore, 0, []), (.aload_n 0, 0, []), (.dup, 0, []), (.getfield 23, 99, []), (.iconst 1, 0, []), (.iadd, 0, []), (.putfield 23, 99, []), (.aload_n 0, 0, []), (.bipush 43, 0, []), (.invokevirtual 42, 37, [(4, 2), (3, 0)]), (.ifCond .ne 5, 101, []), (.iconst 1, 0, []), (.ireturn, 4, [])]
def k34_101 : List zI := [(.iinc 5 1, 0, []), (.goto (-77), 27, [])]
def k34_107 : List zI := [(.iconst 0, 0, []), (.ireturn, 4, [])]
def zb34 : List (Nat × List zI) := [(0, k34_0), (24, k34_24), (27, k34_27), (58, k34_58), (101, k34_101), (107, k34_107)]
def k35_0 : List zI := [(.aload_n 0, 0, []), (.invokevirtual 67, 38, [(1, 1), (3, 0)]), (.bipush 48, 0, []), (.isub, 0, []), (.istore_n 3, 0, []), (.iload_n 3, 0, []), (.iload_n 1, 0, []), (.if_icmp .lt 9, 19, []), (.iload_n 3, 0, []), (.bipush 9, 0, []), (.if_icmp .le 5, 21, []), (.nop, 19, [])]
def k35_19 : List zI := [(.iconst 1, 0, []), (.ireturn, 1, [])]
def k35_21 : List zI := [(.iconst 0, 0, []), (.istore 4, 0, []), (.iconst 0, 0, []), (.istore 5, 0, []), (.nop, 27, [])]
def k35_27 : List zI := [(.iload 5, 0, []), (.iload_n 2, 0, []), (.if_icmp .ge 46, 76, []), (.iload_n 3, 0, []), (.ifCond .lt 42, 76, []), (.iload_n 3, 0, []), (.bipush 9, 0, []), (.if_icmp .gt 36, 76, []), (.bipush 10, 0, []), (.iload 4, 0, []), (.imul, 0, []), (.iload_n 3, 0, []), (.iadd, 0, []), (.istore 4, 0, []), (.aload_n 0, 0, []), (.dup, 0, []), (.getfield 26, 100, []), (.iconst 1, 0, []), (.iadd, 0, []), (.putfield 26, 100, []), (.aload_n 0, 0, []), (.invokevirtual 67, 38, [(1, 1), (3, 0)]), (.bipush 48, 0, []), (.isub, 0, []), (.istore_n 3, 0, []), (.iinc 5 1, 0, []), (.goto (-46), 27, [])]
def k35_76 : List zI := [(.iload 4, 0, []), (.ireturn, 1, [])]
def zb35 : List (Nat × List zI) := [(0, k35_0), (19, k35_19), (21, k35_21), (27, k35_27), (76, k35_76)]
def k36_0 : List zI := [(.aload_n 0, 0, []), (.invokevirtual 67, 38, [(1, 1), (3, 0)]), (.bipush 97, 0, []), (.isub, 0, []), (.istore_n 3, 0, []), (.iload_n 3, 0, []), (.iload_n 1, 0, []), (.if_icmp .lt 13, 23, []), (.iload_n 3, 0, []), (.iload_n 2, 0, []), (.if_icmp .ge 8, 23, []), (.iload_n 3, 0, []), (.iconst 5, 0, []), (.if_icmp .lt 5, 25, []), (.nop, 23, [])]
def k36_23 : List zI := [(.iconst (-1), 0, []), (.ireturn, 1, [])]
def k36_25 : List zI := [(.aload_n 0, 0, []), (.dup, 0, []), (.getfield 26, 100, []), (.iconst 1, 0, []), (.iadd, 0, []), (.putfield 26, 100, []), (.iload_n 3, 0, []), (.ireturn, 1, [])]
def zb36 : List (Nat × List zI) := [(0, k36_0), (23, k36_23), (25, k36_25)]
def k37_0 : List zI := [(.aload_n 0, 0, []), (.invokevirtual 67, 38, [(1, 1), (3, 0)]), (.iload_n 1, 0, []), (.if_icmp .eq 5, 10, []), (.iconst 0, 0, []), (.ireturn, 4, [])]
def k37_10 : List zI := [(.aload_n 0, 0, []), (.dup, 0, []), (.getfield 26, 100, []), (.iconst 1, 0, []), (.iadd, 0, []), (.putfield 26, 100, []), (.iconst 1, 0, []), (.ireturn, 4, [])]
def zb37 : List (Nat × List zI) := [(0, k37_0), (10, k37_10)]
def k38_0 : List zI := [(.aload_n 0, 0, []), (.getfield 26, 100, []), (.ifCond .lt 35, 39, []), (.aload_n 0, 0, []), (.getfield 26, 100, []), (.aload_n 0, 0, []), (.getfield 15, 97, []), (.if_icmp .ge 24, 39, []), (.aload_n 0, 0, []), (.getfield 26, 100, []), (.bipush 60, 0, []), (.if_icmp .ge 15, 39, []), (.aload_n 0, 0, []), (.getfield 9, 96, []), (.aload_n 0, 0, []), (.getfield 26, 100, []), (.baload, 0, []), (.goto 4, 40, [])]
def k38_39 : List zI := [(.iconst 0, 0, []), (.nop, 40, [])]
def k38_40 : List zI := [(.ireturn, 1, [])]
def zb38 : List (Nat × List zI) := [(0, k38_0), (39, k38_39), (40, k38_40)]
def k39_0 : List zI := [(.aload_n 1, 0, []), (.iconst 0, 0, []), (.aload_n 0, 0, []), (.getfield 18, 130, []), (.iconst 0, 0, []), (.bipush 25, 0, []), (.invokestatic 24, 0, [(9, 5)]), (.aload_n 0, 0, []), (.getfield 9, 128, []), (.iconst 0, 0, []), (.invokestatic 30, 192, [(0, 2)]), (.iconst 0, 0, []), (.istore_n 3, 0, []), (.nop, 22, [])]
def k39_22 : List zI := [(.iload_n 3, 0, []), (.iload_n 2, 0, []), (.if_icmp .ge 20, 44, []), (.aload_n 0, 0, []), (.getfield 9, 128, []), (.iload_n 3, 0, []), (.iconst 5, 0, []), (.imul, 0, []), (.iload_n 3, 0, []), (.iadd, 0, []), (.iconst 1, 0, []), (.iastore, 0, []), (.iinc 3 1, 0, []), (.goto (-19), 22, [])]
def k39_44 : List zI := [(.iconst 0, 0, []), (.istore_n 3, 0, []), (.nop, 46, [])]
def k39_46 : List zI := [(.iload_n 3, 0, []), (.iload_n 2, 0, []), (.if_icmp .ge 51, 99, []), (.aload_n 0, 0, []), (.iload_n 3, 0, []), (.iload_n 2, 0, []), (.invokevirtual 36, 40, [(1, 3), (4, 0)]), (.istore 4, 0, []), (.iload 4, 0, []), (.iload_n 2, 0, []), (.if_icmp .lt 5, 67, []), (.iconst 0, 0, []), (.ireturn, 4, [])]
def k39_67 : List zI := [(.aload_n 0, 0, []), (.getfield 18, 130, []), (.iload 4, 0, []), (.iload_n 3, 0, []), (.invokestatic 40, 41, [(0, 3)]), (.aload_n 0, 0, []), (.getfield 9, 128, []), (.iload 4, 0, []), (.iload_n 3, 0, []), (.invokestatic 40, 41, [(0, 3)]), (.aload_n 0, 0, []), (.iload_n 3, 0, []), (.iload_n 2, 0, []), (.invokevirtual 44, 42, [(0, 3), (4, 0)]), (.iinc 3 1, 0, []), (.goto (-50), 46, [])]
def k39_99 : List zI := [(.iconst 1, 0, []), (.ireturn, 4, [])]
def zb39 : List (Nat × List zI) := [(0, k39_0), (22, k39_22), (44, k39_44), (46, k39_46), (67, k39_67), (99, k39_99)]
def k40_0 : List zI := [(.iload_n 1, 0, []), (.istore_n 3, 0, []), (.nop, 2, [])]
def k40_2 : List zI := [(.iload_n 3, 0, []), (.iload_n 2, 0, []), (.if_icmp .ge 22, 26, []), (.aload_n 0, 0, []), (.getfield 18, 130, []), (.iload_n 3, 0, []), (.iconst 5, 0, []), (.imul, 0, []), (.iload_n 1, 0, []), (.iadd, 0, []), (.iaload, 0, []), (.ifCond .ne 9, 26, []), (.iinc 3 1, 0, []), (.goto (-21), 2, [])]
def k40_26 : List zI := [(.iload_n 3, 0, []), (.ireturn, 1, [])]
def zb40 : List (Nat × List zI) := [(0, k40_0), (2, k40_2), (26, k40_26)]
def k41_0 : List zI := [(.iconst 0, 0, []), (.istore_n 3, 0, []), (.nop, 2, [])]
def k41_2 : List zI := [(.iload_n 3, 0, []), (.iconst 5, 0, []), (.if_icmp .ge 41, 45, []), (.aload_n 0, 0, []), (.iload_n 1, 0, []), (.iconst 5, 0, []), (.imul, 0, []), (.iload_n 3, 0, []), (.iadd, 0, []), (.iaload, 0, []), (.istore 4, 0, []), (.aload_n 0, 0, []), (.iload_n 1, 0, []), (.iconst 5, 0, []), (.imul, 0, []), (.iload_n 3, 0, []), (.iadd, 0, []), (.aload_n 0, 0, []), (.iload_n 2, 0, []), (.iconst 5, 0, []), (.imul, 0, []), (.iload_n 3, 0, []), (.iadd, 0, []), (.iaload, 0, []), (.iastore, 0, []), (.aload_n 0, 0, []), (.iload_n 2, 0, []), (.iconst 5, 0, []), (.imul, 0, []), (.iload_n 3, 0, []), (.iadd, 0, []), (.iload 4, 0, []), (.iastore, 0, []), (.iinc 3 1, 0, []), (.goto (-40), 2, [])]
def k41_45 : List zI := [(.return_, 0, [])]
def zb41 : List (Nat × List zI) := [(0, k41_0), (2, k41_2), (45, k41_45)]
def k42_0 : List zI := [(.aload_n 0, 0, []), (.getfield 18, 130, []), (.iload_n 1, 0, []), (.iconst 5, 0, []), (.imul, 0, []), (.iload_n 1, 0, []), (.iadd, 0, []), (.iaload, 0, []), (.invokestatic 48, 107, [(1, 1)]), (.istore_n 3, 0, []), (.aload_n 0, 0, []), (.iload_n 1, 0, []), (.iload_n 1, 0, []), (.iload_n 3, 0, []), (.iconst 1, 0, []), (.isub, 0, []), (.invokevirtual 52, 43, [(0, 4), (4, 0)]), (.iconst 0, 0, []), (.istore 4, 0, []), (.nop, 26, [])]
def k42_26 : List zI := [(.iload 4, 0, []), (.iload_n 2, 0, []), (.if_icmp .ge 36, 65, []), (.iload 4, 0, []), (.iload_n 1, 0, []), (.if_icmp .eq 24, 59, []), (.aload_n 0, 0, []), (.iload 4, 0, []), (.iload_n 1, 0, []), (.bipush 31, 0, []), (.aload_n 0, 0, []), (.getfield 18, 130, []), (.iload 4, 0, []), (.iconst 5, 0, []), (.imul, 0, []), (.iload_n 1, 0, []), (.iadd, 0, []), (.iaload, 0, []), (.isub, 0, []), (.invokevirtual 52, 43, [(0, 4), (4, 0)]), (.nop, 59, [])]
def k42_59 : List zI := [(.iinc 4 1, 0, []), (.goto (-36), 26, [])]
def k42_65 : List zI := [(.return_, 0, [])]
def zb42 : List (Nat × List zI) := [(0, k42_0), (26, k42_26), (59, k42_59), (65, k42_65)]
def k43_0 : List zI := [(.iconst 0, 0, []), (.istore 4, 0, []), (.nop, 3, [])]
def k43_3 : List zI := [(.iload 4, 0, []), (.iconst 5, 0, []), (.if_icmp .ge 87, 93, []), (.aload_n 0, 0, []), (.getfield 18, 130, []), (.iload_n 1, 0, []), (.iconst 5, 0, []), (.imul, 0, []), (.iload 4, 0, []), (.iadd, 0, []), (.aload_n 0, 0, []), (.getfield 18, 130, []), (.iload_n 1, 0, []), (.iconst 5, 0, []), (.imul, 0, []), (.iload 4, 0, []), (.iadd, 0, []), (.iaload, 0, []), (.iload_n 3, 0, []), (.aload_n 0, 0, []), (.getfield 18, 130, []), (.iload_n 2, 0, []), (.iconst 5, 0, []), (.imul, 0, []), (.iload 4, 0, []), (.iadd, 0, []), (.iaload, 0, []), (.imul, 0, []), (.iadd, 0, []), (.bipush 31, 0, []), (.irem, 0, []), (.iastore, 0, []), (.aload_n 0, 0, []), (.getfield 9, 128, []), (.iload_n 1, 0, []), (.iconst 5, 0, []), (.imul, 0, []), (.iload 4, 0, []), (.iadd, 0, []), (.aload_n 0, 0, []), (.getfield 9, 128, []), (.iload_n 1, 0, []), (.iconst 5, 0, []), (.imul, 0, []), (.iload 4, 0, []), (.iadd, 0, []), (.iaload, 0, []), (.iload_n 3, 0, []), (.aload_n 0, 0, []), (.getfield 9, 128, []), (.iload_n 2, 0, []), (.iconst 5, 0, []), (.imul, 0, []), (.iload 4, 0, []), (.iadd, 0, []), (.iaload, 0, []), (.imul, 0, []), (.iadd, 0, []), (.bipush 31, 0, []), (.irem, 0, []), (.iastore, 0, []), (.iinc 4 1, 0, []), (.goto (-87), 3, [])]
def k43_93 : List zI := [(.return_, 0, [])]
def zb43 : List (Nat × List zI) := [(0, k43_0), (3, k43_3), (93, k43_93)]
def k44_0 : List zI := [(.iconst 0, 0, []), (.istore 4, 0, []), (.nop, 3, [])]
def k44_3 : List zI := [(.iload 4, 0, []), (.iload_n 3, 0, []), (.if_icmp .ge 80, 86, []), (.iconst 0, 0, []), (.istore 5, 0, []), (.nop, 12, [])]
def k44_12 : List zI := [(.iload 5, 0, []), (.iload_n 3, 0, []), (.if_icmp .ge 65, 80, []), (.iconst 0, 0, []), (.istore 6, 0, []), (.iconst 0, 0, []), (.istore 7, 0, []), (.nop, 24, [])]
def k44_24 : List zI := [(.iload 7, 0, []), (.iload_n 3, 0, []), (.if_icmp .ge 33, 60, []), (.iload 6, 0, []), (.aload_n 0, 0, []), (.iload 4, 0, []), (.iconst 5, 0, []), (.imul, 0, []), (.iload 7, 0, []), (.iadd, 0, []), (.iaload, 0, []), (.aload_n 1, 0, []), (.iload 7, 0, []), (.iconst 5, 0, []), (.imul, 0, []), (.iload 5, 0, []), (.iadd, 0, []), (.iaload, 0, []), (.imul, 0, []), (.iadd, 0, []), (.istore 6, 0, []), (.iinc 7 1, 0, []), (.goto (-33), 24, [])]
def k44_60 : List zI := [(.aload_n 2, 0, []), (.iload 4, 0, []), (.iconst 5, 0, []), (.imul, 0, []), (.iload 5, 0, []), (.iadd, 0, []), (.iload 6, 0, []), (.bipush 31, 0, []), (.irem, 0, []), (.iastore, 0, []), (.iinc 5 1, 0, []), (.goto (-65), 12, [])]
def k44_80 : List zI := [(.iinc 4 1, 0, []), (.goto (-80), 3, [])]
def k44_86 : List zI := [(.return_, 0, [])]
def zb44 : List (Nat × List zI) := [(0, k44_0), (3, k44_3), (12, k44_12), (24, k44_24), (60, k44_60), (80, k44_80), (86, k44_86)]
def k45_0 : List zI := [(.aload_n 1, 0, []), (.aload_n 1, 0, []), (.aload_n 0, 0, []), (.getfield 15, 129, []), (.iload_n 2, 0, []), (.invokestatic 56, 44, [(0, 4)]), (.iconst 0, 0, []), (.istore_n 3, 0, []), (.iconst 0, 0, []), (.istore 4, 0, []), (.iconst 0, 0, []), (.istore 5, 0, []), (.nop, 18, [])]
def k45_18 : List zI := [(.iload 5, 0, []), (.iload_n 2, 0, []), (.if_icmp .ge 74, 95, []), (.aload_n 0, 0, []), (.iload 5, 0, []), (.iload_n 2, 0, []), (.invokevirtual 60, 46, [(1, 3), (4, 0)]), (.istore 6, 0, []), (.iload 6, 0, []), (.ifCond .lt 13, 48, []), (.iload_n 3, 0, []), (.iload 6, 0, []), (.ishr, 0, []), (.iconst 1, 0, []), (.iand, 0, []), (.iconst 1, 0, []), (.if_icmp .ne 5, 50, []), (.nop, 48, [])]
def k45_48 : List zI := [(.iconst 0, 0, []), (.ireturn, 4, [])]
def k45_50 : List zI := [(.iload_n 3, 0, []), (.iconst 1, 0, []), (.iload 6, 0, []), (.ishl, 0, []), (.ior, 0, []), (.istore_n 3, 0, []), (.aload_n 0, 0, []), (.getfield 15, 129, []), (.iload 5, 0, []), (.iconst 5, 0, []), (.imul, 0, []), (.iload 6, 0, []), (.iadd, 0, []), (.iaload, 0, []), (.istore 7, 0, []), (.iload 5, 0, []), (.ifCond .le 12, 85, []), (.iload 7, 0, []), (.iload 4, 0, []), (.if_icmp .eq 5, 85, []), (.iconst 0, 0, []), (.ireturn, 4, [])]
def k45_85 : List zI := [(.iload 7, 0, []), (.istore 4, 0, []), (.iinc 5 1, 0, []), (.goto (-74), 18, [])]
def k45_95 : List zI := [(.iconst 1, 0, []), (.ireturn, 4, [])]
def zb45 : List (Nat × List zI) := [(0, k45_0), (18, k45_18), (48, k45_48), (50, k45_50), (85, k45_85), (95, k45_95)]
def k46_0 : List zI := [(.iconst (-1), 0, []), (.istore_n 3, 0, []), (.iconst 0, 0, []), (.istore 4, 0, []), (.nop, 5, [])]
def k46_5 : List zI := [(.iload 4, 0, []), (.iload_n 2, 0, []), (.if_icmp .ge 33, 41, []), (.aload_n 0, 0, []), (.getfield 15, 129, []), (.iload_n 1, 0, []), (.iconst 5, 0, []), (.imul, 0, []), (.iload 4, 0, []), (.iadd, 0, []), (.iaload, 0, []), (.ifCond .eq 13, 35, []), (.iload_n 3, 0, []), (.iconst (-1), 0, []), (.if_icmp .eq 5, 32, []), (.iconst (-1), 0, []), (.ireturn, 1, [])]
def k46_32 : List zI := [(.iload 4, 0, []), (.istore_n 3, 0, []), (.nop, 35, [])]
def k46_35 : List zI := [(.iinc 4 1, 0, []), (.goto (-33), 5, [])]
def k46_41 : List zI := [(.iload_n 3, 0, []), (.ireturn, 1, [])]
def zb46 : List (Nat × List zI) := [(0, k46_0), (5, k46_5), (32, k46_32), (35, k46_35), (41, k46_41)]
def k47_0 : List zI := [(.iconst 0, 0, []), (.istore 4, 0, []), (.nop, 3, [])]
def k47_3 : List zI := [(.iload 4, 0, []), (.iload_n 3, 0, []), (.if_icmp .ge 53, 59, []), (.iconst 0, 0, []), (.istore 5, 0, []), (.nop, 12, [])]
def k47_12 : List zI := [(.iload 5, 0, []), (.iload_n 3, 0, []), (.if_icmp .ge 38, 53, []), (.aload_n 0, 0, []), (.getfield 18, 130, []), (.iload 4, 0, []), (.iconst 5, 0, []), (.imul, 0, []), (.iload 5, 0, []), (.iadd, 0, []), (.aload_n 1, 0, []), (.iload 4, 0, []), (.iconst 5, 0, []), (.imul, 0, []), (.iload 5, 0, []), (.iadd, 0, []), (.iaload, 0, []), (.aload_n 2, 0, []), (.iload 5, 0, []), (.iaload, 0, []), (.imul, 0, []), (.bipush 31, 0, []), (.irem, 0, []), (.iastore, 0, []), (.iinc 5 1, 0, []), (.goto (-38), 12, [])]
def k47_53 : List zI := [(.iinc 4 1, 0, []), (.goto (-53), 3, [])]
def k47_59 : List zI := [(.aload_n 0, 0, []), (.getfield 18, 130, []), (.aload_n 0, 0, []), (.getfield 18, 130, []), (.aload_n 0, 0, []), (.getfield 15, 129, []), (.iload_n 3, 0, []), (.invokestatic 56, 44, [(0, 4)]), (.aload_n 0, 0, []), (.getfield 15, 129, []), (.aload_n 0, 0, []), (.getfield 18, 130, []), (.aload_n 0, 0, []), (.getfield 21, 131, []), (.iload_n 3, 0, []), (.invokestatic 56, 44, [(0, 4)]), (.aload_n 1, 0, []), (.aload_n 1, 0, []), (.aload_n 0, 0, []), (.getfield 15, 129, []), (.iload_n 3, 0, []), (.invokestatic 56, 44, [(0, 4)]), (.iconst 1, 0, []), (.istore 4, 0, []), (.nop, 104, [])]
def k47_104 : List zI := [(.iload 4, 0, []), (.bipush 31, 0, []), (.if_icmp .ge 33, 141, []), (.aload_n 0, 0, []), (.iload 4, 0, []), (.iload_n 3, 0, []), (.invokevirtual 63, 48, [(4, 3), (4, 0)]), (.ifCond .eq 17, 135, []), (.aload_n 0, 0, []), (.iload_n 3, 0, []), (.invokevirtual 67, 49, [(4, 2), (4, 0)]), (.ifCond .ne 7, 133, []), (.iconst 1, 0, []), (.goto 4, 134, [])]
def k47_133 : List zI := [(.iconst 0, 0, []), (.nop, 134, [])]
def k47_134 : List zI := [(.ireturn, 4, [])]
def k47_135 : List zI := [(.iinc 4 1, 0, []), (.goto (-34), 104, [])]
def k47_141 : List zI := [(.iconst 0, 0, []), (.ireturn, 4, [])]
def zb47 : List (Nat × List zI) := [(0, k47_0), (3, k47_3), (12, k47_12), (53, k47_53), (59, k47_59), (104, k47_104), (133, k47_133), (134, k47_134), (135, k47_135), (141, k47_141)]
def k48_0 : List zI := [(.iconst 0, 0, []), (.istore_n 3, 0, []), (.nop, 2, [])]
def k48_2 : List zI := [(.iload_n 3, 0, []), (.iload_n 2, 0, []), (.if_icmp .ge 56, 60, []), (.iconst 0, 0, []), (.istore 4, 0, []), (.nop, 10, [])]
def k48_10 : List zI := [(.iload 4, 0, []), (.iload_n 2, 0, []), (.if_icmp .ge 41, 54, []), (.aload_n 0, 0, []), (.getfield 21, 131, []), (.iload_n 3, 0, []), (.iconst 5, 0, []), (.imul, 0, []), (.iload 4, 0, []), (.iadd, 0, []), (.iaload, 0, []), (.iload_n 1, 0, []), (.aload_n 0, 0, []), (.getfield 15, 129, []), (.iload_n 3, 0, []), (.iconst 5, 0, []), (.imul, 0, []), (.iload 4, 0, []), (.iadd, 0, []), (.iaload, 0, []), (.imul, 0, []), (.bipush 31, 0, []), (.irem, 0, []), (.if_icmp .eq 5, 48, []), (.iconst 0, 0, []), (.ireturn, 4, [])]
def k48_48 : List zI := [(.iinc 4 1, 0, []), (.goto (-41), 10, [])]
def k48_54 : List zI := [(.iinc 3 1, 0, []), (.goto (-55), 2, [])]
def k48_60 : List zI := [(.iconst 1, 0, []), (.ireturn, 4, [])]
def zb48 : List (Nat × List zI) := [(0, k48_0), (2, k48_2), (10, k48_10), (48, k48_48), (54, k48_54), (60, k48_60)]
def k49_0 : List zI := [(.iconst 0, 0, []), (.istore_n 2, 0, []), (.nop, 2, [])]
def k49_2 : List zI := [(.iload_n 2, 0, []), (.iload_n 1, 0, []), (.if_icmp .ge 37, 41, []), (.iconst 0, 0, []), (.istore_n 3, 0, []), (.nop, 9, [])]
def k49_9 : List zI := [(.iload_n 3, 0, []), (.iload_n 1, 0, []), (.if_icmp .ge 24, 35, []), (.aload_n 0, 0, []), (.getfield 15, 129, []), (.iload_n 2, 0, []), (.iconst 5, 0, []), (.imul, 0, []), (.iload_n 3, 0, []), (.iadd, 0, []), (.iaload, 0, []), (.ifCond .eq 5, 29, []), (.iconst 0, 0, []), (.ireturn, 4, [])]
def k49_29 : List zI := [(.iinc 3 1, 0, []), (.goto (-23), 9, [])]
def k49_35 : List zI := [(.iinc 2 1, 0, []), (.goto (-36), 2, [])]
def k49_41 : List zI := [(.iconst 1, 0, []), (.ireturn, 4, [])]
def zb49 : List (Nat × List zI) := [(0, k49_0), (2, k49_2), (9, k49_9), (29, k49_29), (35, k49_35), (41, k49_41)]
def k50_0 : List zI := [(.aload_n 0, 0, []), (.iload_n 1, 0, []), (.invokevirtual 93, 51, [(1, 2), (5, 0)]), (.istore_n 3, 0, []), (.iload_n 3, 0, []), (.iconst (-1), 0, []), (.if_icmp .ne 5, 13, []), (.iconst (-1), 0, []), (.ireturn, 1, [])]
def k50_13 : List zI := [(.iload_n 1, 0, []), (.iload_n 2, 0, []), (.invokestatic 97, 92, [(4, 2)]), (.ifCond .ne 6, 24, []), (.bipush (-2), 0, []), (.ireturn, 1, [])]
def k50_24 : List zI := [(.iload_n 1, 0, []), (.ifCond .ne 14, 39, []), (.aload_n 0, 0, []), (.getfield 14, 160, []), (.iload_n 2, 0, []), (.putfield 101, 64, []), (.goto 27, 63, [])]
def k50_39 : List zI := [(.iload_n 1, 0, []), (.iconst 1, 0, []), (.if_icmp .ne 14, 55, []), (.aload_n 0, 0, []), (.getfield 14, 160, []), (.iload_n 2, 0, []), (.putfield 104, 65, []), (.goto 11, 63, [])]
def k50_55 : List zI := [(.aload_n 0, 0, []), (.getfield 14, 160, []), (.iload_n 2, 0, []), (.putfield 107, 66, []), (.nop, 63, [])]
def k50_63 : List zI := [(.aload_n 0, 0, []), (.invokevirtual 110, 96, [(0, 1), (5, 0)]), (.iload_n 3, 0, []), (.ireturn, 1, [])]
def zb50 : List (Nat × List zI) := [(0, k50_0), (13, k50_13), (24, k50_24), (39, k50_39), (55, k50_55), (63, k50_63)]
def k51_0 : List zI := [(.iload_n 1, 0, []), (.tableswitch 51 0 2 #[27, 35, 43], 52, [(0, 28), (1, 36), (2, 44)])]
def k51_28 : List zI := [(.aload_n 0, 0, []), (.getfield 14, 160, []), (.getfield 101, 64, []), (.ireturn, 1, [])]
def k51_36 : List zI := [(.aload_n 0, 0, []), (.getfield 14, 160, []), (.getfield 104, 65, []), (.ireturn, 1, [])]
def k51_44 : List zI := [(.aload_n 0, 0, []), (.getfield 14, 160, []), (.getfield 107, 66, []), (.ireturn, 1, [])]
def k51_52 : List zI := [(.iconst (-1), 0, []), (.ireturn, 1, [])]
def zb51 : List (Nat × List zI) := [(0, k51_0), (28, k51_28), (36, k51_36), (44, k51_44), (52, k51_52)]
def k52_0 : List zI := [(.iload_n 1, 0, []), (.iload_n 2, 0, []), (.iload_n 3, 0, []), (.invokestatic 113, 89, [(4, 3)]), (.ifCond .ne 5, 11, []), (.iconst (-1), 0, []), (.ireturn, 1, [])]
def k52_11 : List zI := [(.iload 4, 0, []), (.ifCond .lt 10, 23, []), (.iload 4, 0, []), (.bipush 9, 0, []), (.if_icmp .le 6, 26, []), (.nop, 23, [])]
def k52_23 : List zI := [(.bipush (-2), 0, []), (.ireturn, 1, [])]
def k52_26 : List zI := [(.aload_n 0, 0, []), (.getfield 14, 160, []), (.getfield 117, 67, []), (.iload_n 1, 0, []), (.iload_n 2, 0, []), (.iload_n 3, 0, []), (.invokestatic 120, 104, [(1, 3)]), (.iaload, 0, []), (.istore 5, 0, []), (.aload_n 0, 0, []), (.getfield 14, 160, []), (.getfield 117, 67, []), (.iload_n 1, 0, []), (.iload_n 2, 0, []), (.iload_n 3, 0, []), (.invokestatic 120, 104, [(1, 3)]), (.iload 4, 0, []), (.iastore, 0, []), (.aload_n 0, 0, []), (.invokevirtual 110, 96, [(0, 1), (5, 0)]), (.iload 5, 0, []), (.ireturn, 1, [])]
def zb52 : List (Nat × List zI) := [(0, k52_0), (11, k52_11), (23, k52_23), (26, k52_26)]
def k53_0 : List zI := [(.iload_n 1, 0, []), (.iconst 1, 0, []), (.if_icmp .lt 9, 11, []), (.iload_n 1, 0, []), (.bipush 127, 0, []), (.if_icmp .le 6, 14, []), (.nop, 11, [])]
def k53_11 : List zI := [(.bipush (-2), 0, []), (.ireturn, 1, [])]
def k53_14 : List zI := [(.aload_n 0, 0, []), (.getfield 58, 169, []), (.getfield 124, 97, []), (.bipush 60, 0, []), (.if_icmp .lt 6, 29, []), (.bipush (-4), 0, []), (.ireturn, 1, [])]
def k53_29 : List zI := [(.aload_n 0, 0, []), (.getfield 58, 169, []), (.getfield 127, 96, []), (.aload_n 0, 0, []), (.getfield 58, 169, []), (.getfield 124, 97, []), (.iload_n 1, 0, []), (.i2b, 0, []), (.bastore, 0, []), (.aload_n 0, 0, []), (.getfield 58, 169, []), (.dup, 0, []), (.getfield 124, 97, []), (.iconst 1, 0, []), (.iadd, 0, []), (.putfield 124, 97, []), (.aload_n 0, 0, []), (.getfield 58, 169, []), (.getfield 124, 97, []), (.ireturn, 1, [])]
def zb53 : List (Nat × List zI) := [(0, k53_0), (11, k53_11), (14, k53_14), (29, k53_29)]
def k54_0 : List zI := [(.aload_n 0, 0, []), (.getfield 58, 169, []), (.aload_n 0, 0, []), (.getfield 14, 160, []), (.getfield 104, 65, []), (.aload_n 0, 0, []), (.getfield 14, 160, []), (.getfield 117, 67, []), (.invokevirtual 130, 31, [(1, 3), (3, 0)]), (.istore_n 1, 0, []), (.aload_n 0, 0, []), (.getfield 58, 169, []), (.iconst 0, 0, []), (.putfield 124, 97, []), (.aload_n 0, 0, []), (.invokevirtual 110, 96, [(0, 1), (5, 0)]), (.iload_n 1, 0, []), (.ireturn, 1, [])]
def zb54 : List (Nat × List zI) := [(0, k54_0)]
def k55_0 : List zI := [(.aload_n 0, 0, []), (.iload_n 1, 0, []), (.iload_n 2, 0, []), (.iload_n 3, 0, []), (.invokevirtual 134, 94, [(4, 4), (5, 0)]), (.ifCond .eq 16, 23, []), (.aload_n 0, 0, []), (.invokevirtual 137, 97, [(3, 1), (5, 0)]), (.iload_n 1, 0, []), (.iload_n 2, 0, []), (.iload_n 3, 0, []), (.invokevirtual 141, 10, [(1, 4), (1, 0)]), (.goto 4, 24, [])]
def k55_23 : List zI := [(.iconst (-1), 0, []), (.nop, 24, [])]
def k55_24 : List zI := [(.ireturn, 1, [])]
def zb55 : List (Nat × List zI) := [(0, k55_0), (23, k55_23), (24, k55_24)]
def k56_0 : List zI := [(.iload_n 1, 0, []), (.lookupswitch 43 #[(0, 27), (1, 35)], 44, [(0, 28), (1, 36)])]
def k56_28 : List zI := [(.aload_n 0, 0, []), (.invokevirtual 137, 97, [(3, 1), (5, 0)]), (.invokevirtual 144, 19, [(1, 1), (1, 0)]), (.ireturn, 1, [])]
def k56_36 : List zI := [(.aload_n 0, 0, []), (.invokevirtual 137, 97, [(3, 1), (5, 0)]), (.invokevirtual 148, 21, [(1, 1), (1, 0)]), (.ireturn, 1, [])]
def k56_44 : List zI := [(.iconst (-1), 0, []), (.ireturn, 1, [])]
def zb56 : List (Nat × List zI) := [(0, k56_0), (28, k56_28), (36, k56_36), (44, k56_44)]
def k57_0 : List zI := [(.aload_n 0, 0, []), (.iload_n 1, 0, []), (.invokevirtual 151, 93, [(4, 2), (5, 0)]), (.ifCond .eq 14, 19, []), (.aload_n 0, 0, []), (.invokevirtual 137, 97, [(3, 1), (5, 0)]), (.iload_n 1, 0, []), (.invokevirtual 155, 22, [(1, 2), (1, 0)]), (.goto 4, 20, [])]
def k57_19 : List zI := [(.iconst (-1), 0, []), (.nop, 20, [])]
def k57_20 : List zI := [(.ireturn, 1, [])]
def zb57 : List (Nat × List zI) := [(0, k57_0), (19, k57_19), (20, k57_20)]
def k58_0 : List zI := [(.aload_n 0, 0, []), (.iload_n 1, 0, []), (.invokevirtual 151, 93, [(4, 2), (5, 0)]), (.ifCond .eq 21, 26, []), (.aload_n 0, 0, []), (.iload_n 3, 0, []), (.invokevirtual 151, 93, [(4, 2), (5, 0)]), (.ifCond .eq 13, 26, []), (.iload_n 2, 0, []), (.ifCond .lt 9, 26, []), (.iload_n 2, 0, []), (.bipush 8, 0, []), (.if_icmp .le 7, 30, []), (.nop, 26, [])]
def k58_26 : List zI := [(.ldc2_w 158, 0, [(-9223372036854775808, 0)]), (.lreturn, 2, [])]
def k58_30 : List zI := [(.aload_n 0, 0, []), (.aload_n 0, 0, []), (.getfield 78, 174, []), (.iconst 0, 0, []), (.invokevirtual 160, 99, [(0, 3), (5, 0)]), (.aload_n 0, 0, []), (.aload_n 0, 0, []), (.getfield 81, 175, []), (.iload_n 1, 0, []), (.invokevirtual 160, 99, [(0, 3), (5, 0)]), (.iconst 0, 0, []), (.istore 4, 0, []), (.nop, 51, [])]
def k58_51 : List zI := [(.iload 4, 0, []), (.iload_n 2, 0, []), (.if_icmp .ge 42, 96, []), (.aload_n 0, 0, []), (.invokevirtual 137, 97, [(3, 1), (5, 0)]), (.aload_n 0, 0, []), (.getfield 78, 174, []), (.aload_n 0, 0, []), (.getfield 81, 175, []), (.aload_n 0, 0, []), (.getfield 84, 176, []), (.invokevirtual 164, 23, [(0, 4), (1, 0)]), (.aload_n 0, 0, []), (.getfield 84, 176, []), (.iconst 0, 0, []), (.aload_n 0, 0, []), (.getfield 78, 174, []), (.iconst 0, 0, []), (.iconst 5, 0, []), (.invokestatic 168, 0, [(9, 5)]), (.iinc 4 1, 0, []), (.goto (-42), 51, [])]
def k58_96 : List zI := [(.aload_n 0, 0, []), (.getfield 78, 174, []), (.iload_n 3, 0, []), (.laload, 0, []), (.lreturn, 2, [])]
def zb58 : List (Nat × List zI) := [(0, k58_0), (26, k58_26), (30, k58_30), (51, k58_51), (96, k58_96)]
def k59_0 : List zI := [(.iload_n 1, 0, []), (.invokestatic 174, 90, [(4, 1)]), (.ifCond .ne 5, 9, []), (.iconst (-1), 0, []), (.ireturn, 1, [])]
def k59_9 : List zI := [(.aload_n 0, 0, []), (.getfield 58, 169, []), (.aload_n 0, 0, []), (.getfield 14, 160, []), (.getfield 104, 65, []), (.invokevirtual 177, 32, [(1, 2), (3, 0)]), (.istore_n 2, 0, []), (.aload_n 0, 0, []), (.getfield 58, 169, []), (.iconst 0, 0, []), (.putfield 124, 97, []), (.iload_n 2, 0, []), (.ifCond .lt 31, 64, []), (.aload_n 0, 0, []), (.getfield 58, 169, []), (.getfield 180, 98, []), (.iconst 0, 0, []), (.aload_n 0, 0, []), (.getfield 14, 160, []), (.getfield 183, 68, []), (.iload_n 1, 0, []), (.iconst 5, 0, []), (.imul, 0, []), (.aload_n 0, 0, []), (.getfield 14, 160, []), (.getfield 104, 65, []), (.invokestatic 168, 0, [(9, 5)]), (.nop, 64, [])]
def k59_64 : List zI := [(.iload_n 2, 0, []), (.ireturn, 1, [])]
def zb59 : List (Nat × List zI) := [(0, k59_0), (9, k59_9), (64, k59_64)]
def k60_0 : List zI := [(.iload_n 1, 0, []), (.invokestatic 174, 90, [(4, 1)]), (.ifCond .eq 27, 31, []), (.aload_n 0, 0, []), (.iload_n 2, 0, []), (.invokevirtual 151, 93, [(4, 2), (5, 0)]), (.ifCond .eq 19, 31, []), (.aload_n 0, 0, []), (.getfield 14, 160, []), (.getfield 183, 68, []), (.iload_n 1, 0, []), (.iconst 5, 0, []), (.imul, 0, []), (.iload_n 2, 0, []), (.iadd, 0, []), (.iaload, 0, []), (.goto 4, 32, [])]
def k60_31 : List zI := [(.iconst (-1), 0, []), (.nop, 32, [])]
def k60_32 : List zI := [(.ireturn, 1, [])]
def zb60 : List (Nat × List zI) := [(0, k60_0), (31, k60_31), (32, k60_32)]
def k61_0 : List zI := [(.aload_n 0, 0, []), (.iload_n 1, 0, []), (.iload_n 2, 0, []), (.invokevirtual 186, 60, [(1, 3), (5, 0)]), (.istore 4, 0, []), (.iload 4, 0, []), (.iconst (-1), 0, []), (.if_icmp .ne 5, 16, []), (.iconst (-1), 0, []), (.ireturn, 1, [])]
def k61_16 : List zI := [(.iload_n 3, 0, []), (.ifCond .lt 10, 27, []), (.iload_n 3, 0, []), (.sipush 999, 0, []), (.if_icmp .le 6, 30, []), (.nop, 27, [])]
def k61_27 : List zI := [(.bipush (-2), 0, []), (.ireturn, 1, [])]
def k61_30 : List zI := [(.aload_n 0, 0, []), (.getfield 14, 160, []), (.getfield 183, 68, []), (.iload_n 1, 0, []), (.iconst 5, 0, []), (.imul, 0, []), (.iload_n 2, 0, []), (.iadd, 0, []), (.iload_n 3, 0, []), (.iastore, 0, []), (.iload 4, 0, []), (.ireturn, 1, [])]
def zb61 : List (Nat × List zI) := [(0, k61_0), (16, k61_16), (27, k61_27), (30, k61_30)]
def k62_0 : List zI := [(.iload_n 1, 0, []), (.invokestatic 174, 90, [(4, 1)]), (.ifCond .eq 10, 14, []), (.iload_n 2, 0, []), (.invokestatic 174, 90, [(4, 1)]), (.ifCond .ne 5, 16, []), (.nop, 14, [])]
def k62_14 : List zI := [(.iconst (-1), 0, []), (.ireturn, 1, [])]
def k62_16 : List zI := [(.aload_n 0, 0, []), (.aload_n 0, 0, []), (.getfield 78, 174, []), (.iload_n 1, 0, []), (.invokevirtual 190, 100, [(0, 3), (5, 0)]), (.aload_n 0, 0, []), (.aload_n 0, 0, []), (.getfield 81, 175, []), (.iload_n 2, 0, []), (.invokevirtual 190, 100, [(0, 3), (5, 0)]), (.aload_n 0, 0, []), (.invokevirtual 137, 97, [(3, 1), (5, 0)]), (.aload_n 0, 0, []), (.getfield 78, 174, []), (.aload_n 0, 0, []), (.getfield 81, 175, []), (.aload_n 0, 0, []), (.getfield 84, 176, []), (.invokevirtual 164, 23, [(0, 4), (1, 0)]), (.iconst 0, 0, []), (.istore_n 3, 0, []), (.nop, 55, [])]
def k62_55 : List zI := [(.iload_n 3, 0, []), (.aload_n 0, 0, []), (.getfield 14, 160, []), (.getfield 104, 65, []), (.if_icmp .ge 25, 88, []), (.aload_n 0, 0, []), (.getfield 84, 176, []), (.iload_n 3, 0, []), (.laload, 0, []), (.ldc2_w 193, 0, [(999, 0)]), (.lcmp, 0, []), (.ifCond .le 6, 82, []), (.bipush (-3), 0, []), (.ireturn, 1, [])]
def k62_82 : List zI := [(.iinc 3 1, 0, []), (.goto (-30), 55, [])]
def k62_88 : List zI := [(.iconst 0, 0, []), (.istore_n 3, 0, []), (.iconst 0, 0, []), (.istore 4, 0, []), (.nop, 93, [])]
def k62_93 : List zI := [(.iload 4, 0, []), (.aload_n 0, 0, []), (.getfield 14, 160, []), (.getfield 104, 65, []), (.if_icmp .ge 42, 144, []), (.aload_n 0, 0, []), (.getfield 14, 160, []), (.getfield 183, 68, []), (.iload_n 1, 0, []), (.iconst 5, 0, []), (.imul, 0, []), (.iload 4, 0, []), (.iadd, 0, []), (.aload_n 0, 0, []), (.getfield 84, 176, []), (.iload 4, 0, []), (.laload, 0, []), (.l2i, 0, []), (.iastore, 0, []), (.iload_n 3, 0, []), (.aload_n 0, 0, []), (.getfield 84, 176, []), (.iload 4, 0, []), (.laload, 0, []), (.l2i, 0, []), (.iadd, 0, []), (.istore_n 3, 0, []), (.iinc 4 1, 0, []), (.goto (-48), 93, [])]
def k62_144 : List zI := [(.iload_n 3, 0, []), (.ireturn, 1, [])]
def zb62 : List (Nat × List zI) := [(0, k62_0), (14, k62_14), (16, k62_16), (55, k62_55), (82, k62_82), (88, k62_88), (93, k62_93), (144, k62_144)]
def k63_0 : List zI := [(.aload_n 0, 0, []), (.iload_n 1, 0, []), (.invokevirtual 195, 95, [(4, 2), (5, 0)]), (.ifCond .ne 6, 11, []), (.bipush (-2), 0, []), (.ireturn, 1, [])]
def k63_11 : List zI := [(.aload_n 0, 0, []), (.invokevirtual 137, 97, [(3, 1), (5, 0)]), (.iload_n 1, 0, []), (.invokevirtual 198, 27, [(4, 2), (1, 0)]), (.ifCond .eq 7, 26, []), (.iconst 1, 0, []), (.goto 4, 27, [])]
def k63_26 : List zI := [(.iconst 0, 0, []), (.nop, 27, [])]
def k63_27 : List zI := [(.ireturn, 1, [])]
def zb63 : List (Nat × List zI) := [(0, k63_0), (11, k63_11), (26, k63_26), (27, k63_27)]
def k64_0 : List zI := [(.iconst 0, 0, []), (.istore_n 2, 0, []), (.iconst 0, 0, []), (.istore_n 3, 0, []), (.nop, 4, [])]
def k64_4 : List zI := [(.iload_n 3, 0, []), (.iconst 1, 0, []), (.aload_n 0, 0, []), (.getfield 14, 160, []), (.getfield 104, 65, []), (.ishl, 0, []), (.if_icmp .ge 30, 44, []), (.aload_n 0, 0, []), (.invokevirtual 137, 97, [(3, 1), (5, 0)]), (.iload_n 3, 0, []), (.invokevirtual 198, 27, [(4, 2), (1, 0)]), (.ifCond .eq 13, 38, []), (.iload_n 2, 0, []), (.iload_n 1, 0, []), (.if_icmp .ne 5, 35, []), (.iload_n 3, 0, []), (.ireturn, 1, [])]
def k64_35 : List zI := [(.iinc 2 1, 0, []), (.nop, 38, [])]
def k64_38 : List zI := [(.iinc 3 1, 0, []), (.goto (-37), 4, [])]
def k64_44 : List zI := [(.iload_n 1, 0, []), (.iconst (-1), 0, []), (.if_icmp .ne 7, 53, []), (.iload_n 2, 0, []), (.goto 5, 55, [])]
def k64_53 : List zI := [(.bipush (-5), 0, []), (.nop, 55, [])]
def k64_55 : List zI := [(.ireturn, 1, [])]
def zb64 : List (Nat × List zI) := [(0, k64_0), (4, k64_4), (35, k64_35), (38, k64_38), (44, k64_44), (53, k64_53), (55, k64_55)]
def k65_0 : List zI := [(.aload_n 0, 0, []), (.iload_n 1, 0, []), (.invokevirtual 195, 95, [(4, 2), (5, 0)]), (.ifCond .eq 14, 19, []), (.aload_n 0, 0, []), (.invokevirtual 137, 97, [(3, 1), (5, 0)]), (.iload_n 1, 0, []), (.invokevirtual 201, 28, [(1, 2), (1, 0)]), (.goto 5, 21, [])]
def k65_19 : List zI := [(.bipush (-2), 0, []), (.nop, 21, [])]
def k65_21 : List zI := [(.ireturn, 1, [])]
def zb65 : List (Nat × List zI) := [(0, k65_0), (19, k65_19), (21, k65_21)]
def k66_0 : List zI := [(.iload_n 1, 0, []), (.iconst (-1), 0, []), (.if_icmp .ne 11, 13, []), (.aload_n 0, 0, []), (.invokevirtual 204, 98, [(3, 1), (5, 0)]), (.getfield 208, 0, []), (.ireturn, 1, [])]
def k66_13 : List zI := [(.iload_n 1, 0, []), (.ifCond .lt 13, 27, []), (.aload_n 0, 0, []), (.iload_n 2, 0, []), (.invokevirtual 151, 93, [(4, 2), (5, 0)]), (.ifCond .ne 5, 27, []), (.iconst (-1), 0, []), (.ireturn, 1, [])]
def k66_27 : List zI := [(.aload_n 0, 0, []), (.invokevirtual 204, 98, [(3, 1), (5, 0)]), (.astore_n 3, 0, []), (.aload_n 3, 0, []), (.iload_n 1, 0, []), (.invokevirtual 211, 0, [(4, 2), (0, 0)]), (.ifCond .eq 12, 49, []), (.aload_n 3, 0, []), (.iload_n 1, 0, []), (.iload_n 2, 0, []), (.invokevirtual 214, 1, [(1, 3), (0, 0)]), (.goto 5, 51, [])]
def k66_49 : List zI := [(.bipush (-5), 0, []), (.nop, 51, [])]
def k66_51 : List zI := [(.ireturn, 1, [])]
def zb66 : List (Nat × List zI) := [(0, k66_0), (13, k66_13), (27, k66_27), (49, k66_49), (51, k66_51)]
def k67_0 : List zI := [(.aload_n 0, 0, []), (.invokevirtual 204, 98, [(3, 1), (5, 0)]), (.astore_n 2, 0, []), (.aload_n 2, 0, []), (.iload_n 1, 0, []), (.invokevirtual 211, 0, [(4, 2), (0, 0)]), (.ifCond .ne 6, 16, []), (.bipush (-5), 0, []), (.ireturn, 1, [])]
def k67_16 : List zI := [(.iconst 0, 0, []), (.istore_n 3, 0, []), (.iconst 0, 0, []), (.istore 4, 0, []), (.nop, 21, [])]
def k67_21 : List zI := [(.iload 4, 0, []), (.aload_n 0, 0, []), (.getfield 14, 160, []), (.getfield 104, 65, []), (.if_icmp .ge 26, 56, []), (.aload_n 2, 0, []), (.iload_n 1, 0, []), (.iload 4, 0, []), (.invokevirtual 214, 1, [(1, 3), (0, 0)]), (.istore 5, 0, []), (.iload_n 3, 0, []), (.iload 5, 0, []), (.iload 5, 0, []), (.imul, 0, []), (.iadd, 0, []), (.istore_n 3, 0, []), (.iinc 4 1, 0, []), (.goto (-32), 21, [])]
def k67_56 : List zI := [(.iload_n 3, 0, []), (.bipush 31, 0, []), (.irem, 0, []), (.ireturn, 1, [])]
def zb67 : List (Nat × List zI) := [(0, k67_0), (16, k67_16), (21, k67_21), (56, k67_56)]
def k68_0 : List zI := [(.aload_n 0, 0, []), (.iload_n 1, 0, []), (.iload_n 2, 0, []), (.iload_n 3, 0, []), (.invokevirtual 134, 94, [(4, 4), (5, 0)]), (.ifCond .ne 5, 12, []), (.iconst (-1), 0, []), (.ireturn, 1, [])]
def k68_12 : List zI := [(.aload_n 0, 0, []), (.invokevirtual 204, 98, [(3, 1), (5, 0)]), (.astore 4, 0, []), (.aload 4, 0, []), (.getfield 208, 0, []), (.aload_n 0, 0, []), (.getfield 14, 160, []), (.getfield 104, 65, []), (.if_icmp .eq 6, 36, []), (.bipush (-3), 0, []), (.ireturn, 1, [])]
def k68_36 : List zI := [(.aload_n 0, 0, []), (.getfield 45, 166, []), (.getfield 217, 129, []), (.astore 5, 0, []), (.aload 4, 0, []), (.aload 5, 0, []), (.aload_n 0, 0, []), (.getfield 14, 160, []), (.getfield 104, 65, []), (.invokevirtual 220, 2, [(0, 3), (0, 0)]), (.aload_n 0, 0, []), (.getfield 45, 166, []), (.aload 5, 0, []), (.aload_n 0, 0, []), (.getfield 14, 160, []), (.getfield 104, 65, []), (.invokevirtual 223, 39, [(4, 3), (4, 0)]), (.ifCond .ne 6, 81, []), (.bipush (-3), 0, []), (.ireturn, 1, [])]
def k68_81 : List zI := [(.iconst 0, 0, []), (.istore 6, 0, []), (.iconst 0, 0, []), (.istore 7, 0, []), (.nop, 87, [])]
def k68_87 : List zI := [(.iload 7, 0, []), (.aload_n 0, 0, []), (.getfield 14, 160, []), (.getfield 104, 65, []), (.if_icmp .ge 48, 144, []), (.iload 6, 0, []), (.aload 5, 0, []), (.iload_n 1, 0, []), (.iconst 5, 0, []), (.imul, 0, []), (.iload 7, 0, []), (.iadd, 0, []), (.iaload, 0, []), (.aload 5, 0, []), (.iload_n 2, 0, []), (.iconst 5, 0, []), (.imul, 0, []), (.iload 7, 0, []), (.iadd, 0, []), (.iaload, 0, []), (.imul, 0, []), (.aload_n 0, 0, []), (.getfield 45, 166, []), (.getfield 227, 128, []), (.iload 7, 0, []), (.iconst 5, 0, []), (.imul, 0, []), (.iload_n 3, 0, []), (.iadd, 0, []), (.iaload, 0, []), (.imul, 0, []), (.iadd, 0, []), (.istore 6, 0, []), (.iinc 7 1, 0, []), (.goto (-54), 87, [])]
def k68_144 : List zI := [(.iload 6, 0, []), (.bipush 31, 0, []), (.irem, 0, []), (.ireturn, 1, [])]
def zb68 : List (Nat × List zI) := [(0, k68_0), (12, k68_12), (36, k68_36), (81, k68_81), (87, k68_87), (144, k68_144)]
def k69_0 : List zI := [(.iload_n 1, 0, []), (.invokestatic 230, 88, [(4, 1)]), (.ifCond .eq 10, 14, []), (.iload_n 2, 0, []), (.invokestatic 230, 88, [(4, 1)]), (.ifCond .ne 5, 16, []), (.nop, 14, [])]
def k69_14 : List zI := [(.iconst (-1), 0, []), (.ireturn, 1, [])]
def k69_16 : List zI := [(.iload_n 3, 0, []), (.ifCond .lt 9, 26, []), (.iload_n 3, 0, []), (.bipush 31, 0, []), (.if_icmp .lt 6, 29, []), (.nop, 26, [])]
def k69_26 : List zI := [(.bipush (-2), 0, []), (.ireturn, 1, [])]
def k69_29 : List zI := [(.aload_n 0, 0, []), (.getfield 14, 160, []), (.getfield 233, 69, []), (.iload_n 1, 0, []), (.iconst 5, 0, []), (.imul, 0, []), (.iload_n 2, 0, []), (.iadd, 0, []), (.iaload, 0, []), (.istore 4, 0, []), (.aload_n 0, 0, []), (.getfield 14, 160, []), (.getfield 233, 69, []), (.iload_n 1, 0, []), (.iconst 5, 0, []), (.imul, 0, []), (.iload_n 2, 0, []), (.iadd, 0, []), (.iload_n 3, 0, []), (.iastore, 0, []), (.iload 4, 0, []), (.ireturn, 1, [])]
def zb69 : List (Nat × List zI) := [(0, k69_0), (14, k69_14), (16, k69_16), (26, k69_26), (29, k69_29)]
def k70_0 : List zI := [(.iload_n 1, 0, []), (.invokestatic 230, 88, [(4, 1)]), (.ifCond .ne 5, 9, []), (.iconst (-1), 0, []), (.ireturn, 1, [])]
def k70_9 : List zI := [(.iload_n 2, 0, []), (.ifCond .lt 9, 19, []), (.iload_n 2, 0, []), (.bipush 31, 0, []), (.if_icmp .lt 6, 22, []), (.nop, 19, [])]
def k70_19 : List zI := [(.bipush (-2), 0, []), (.ireturn, 1, [])]
def k70_22 : List zI := [(.aload_n 0, 0, []), (.getfield 14, 160, []), (.getfield 236, 70, []), (.iload_n 1, 0, []), (.iaload, 0, []), (.istore_n 3, 0, []), (.aload_n 0, 0, []), (.getfield 14, 160, []), (.getfield 236, 70, []), (.iload_n 1, 0, []), (.iload_n 2, 0, []), (.iastore, 0, []), (.iload_n 3, 0, []), (.ireturn, 1, [])]
def zb70 : List (Nat × List zI) := [(0, k70_0), (9, k70_9), (19, k70_19), (22, k70_22)]
def k71_0 : List zI := [(.aload_n 0, 0, []), (.invokevirtual 204, 98, [(3, 1), (5, 0)]), (.astore_n 1, 0, []), (.aload_n 1, 0, []), (.getfield 208, 0, []), (.aload_n 0, 0, []), (.getfield 14, 160, []), (.getfield 104, 65, []), (.if_icmp .eq 6, 22, []), (.bipush (-3), 0, []), (.ireturn, 1, [])]
def k71_22 : List zI := [(.aload_n 1, 0, []), (.aload_n 0, 0, []), (.getfield 14, 160, []), (.getfield 233, 69, []), (.aload_n 0, 0, []), (.getfield 14, 160, []), (.getfield 104, 65, []), (.invokevirtual 220, 2, [(0, 3), (0, 0)]), (.aload_n 0, 0, []), (.getfield 14, 160, []), (.getfield 104, 65, []), (.ireturn, 1, [])]
def zb71 : List (Nat × List zI) := [(0, k71_0), (22, k71_22)]
def k72_0 : List zI := [(.aload_n 0, 0, []), (.iload_n 1, 0, []), (.iload_n 2, 0, []), (.iload_n 3, 0, []), (.invokevirtual 134, 94, [(4, 4), (5, 0)]), (.ifCond .ne 5, 12, []), (.iconst (-1), 0, []), (.ireturn, 1, [])]
def k72_12 : List zI := [(.aload_n 0, 0, []), (.getfield 14, 160, []), (.getfield 233, 69, []), (.astore 4, 0, []), (.aload_n 0, 0, []), (.getfield 45, 166, []), (.aload 4, 0, []), (.aload_n 0, 0, []), (.getfield 14, 160, []), (.getfield 104, 65, []), (.invokevirtual 223, 39, [(4, 3), (4, 0)]), (.ifCond .ne 6, 43, []), (.bipush (-3), 0, []), (.ireturn, 1, [])]
def k72_43 : List zI := [(.iconst 0, 0, []), (.istore 5, 0, []), (.iconst 0, 0, []), (.istore 6, 0, []), (.nop, 49, [])]
def k72_49 : List zI := [(.iload 6, 0, []), (.aload_n 0, 0, []), (.getfield 14, 160, []), (.getfield 104, 65, []), (.if_icmp .ge 76, 134, []), (.aload 4, 0, []), (.iload 6, 0, []), (.iaload, 0, []), (.invokestatic 239, 107, [(1, 1)]), (.istore 7, 0, []), (.iload 7, 0, []), (.ifCond .ne 6, 79, []), (.bipush (-3), 0, []), (.ireturn, 1, [])]
def k72_79 : List zI := [(.aload 4, 0, []), (.iload_n 1, 0, []), (.iconst 5, 0, []), (.imul, 0, []), (.iload 6, 0, []), (.iadd, 0, []), (.iaload, 0, []), (.aload 4, 0, []), (.iload_n 2, 0, []), (.iconst 5, 0, []), (.imul, 0, []), (.iload 6, 0, []), (.iadd, 0, []), (.iaload, 0, []), (.imul, 0, []), (.aload_n 0, 0, []), (.getfield 45, 166, []), (.getfield 227, 128, []), (.iload 6, 0, []), (.iconst 5, 0, []), (.imul, 0, []), (.iload_n 3, 0, []), (.iadd, 0, []), (.iaload, 0, []), (.imul, 0, []), (.istore 8, 0, []), (.iload 5, 0, []), (.iload 8, 0, []), (.bipush 31, 0, []), (.irem, 0, []), (.iload 7, 0, []), (.imul, 0, []), (.iadd, 0, []), (.istore 5, 0, []), (.iinc 6 1, 0, []), (.goto (-82), 49, [])]
def k72_134 : List zI := [(.iload 5, 0, []), (.bipush 31, 0, []), (.irem, 0, []), (.ireturn, 1, [])]
def zb72 : List (Nat × List zI) := [(0, k72_0), (12, k72_12), (43, k72_43), (49, k72_49), (79, k72_79), (134, k72_134)]
def k73_0 : List zI := [(.iload_n 1, 0, []), (.lookupswitch 94 #[(0, 27), (1, 57)], 95, [(0, 28), (1, 58)])]
def k73_28 : List zI := [(.aload_n 0, 0, []), (.getfield 45, 166, []), (.aload_n 0, 0, []), (.getfield 14, 160, []), (.getfield 233, 69, []), (.aload_n 0, 0, []), (.getfield 14, 160, []), (.getfield 104, 65, []), (.invokevirtual 242, 45, [(4, 3), (4, 0)]), (.ifCond .eq 7, 56, []), (.iconst 1, 0, []), (.goto 4, 57, [])]
def k73_56 : List zI := [(.iconst 0, 0, []), (.nop, 57, [])]
def k73_57 : List zI := [(.ireturn, 1, [])]
def k73_58 : List zI := [(.aload_n 0, 0, []), (.getfield 45, 166, []), (.aload_n 0, 0, []), (.getfield 14, 160, []), (.getfield 233, 69, []), (.aload_n 0, 0, []), (.getfield 14, 160, []), (.getfield 236, 70, []), (.aload_n 0, 0, []), (.getfield 14, 160, []), (.getfield 104, 65, []), (.invokevirtual 245, 47, [(4, 4), (4, 0)]), (.ifCond .eq 7, 93, []), (.iconst 1, 0, []), (.goto 4, 94, [])]
def k73_93 : List zI := [(.iconst 0, 0, []), (.nop, 94, [])]
def k73_94 : List zI := [(.ireturn, 1, [])]
def k73_95 : List zI := [(.iconst (-1), 0, []), (.ireturn, 1, [])]
def zb73 : List (Nat × List zI) := [(0, k73_0), (28, k73_28), (56, k73_56), (57, k73_57), (58, k73_58), (93, k73_93), (94, k73_94), (95, k73_95)]
def k74_0 : List zI := [(.iload_n 1, 0, []), (.ifCond .lt 8, 9, []), (.iload_n 1, 0, []), (.iconst 3, 0, []), (.if_icmp .le 6, 12, []), (.nop, 9, [])]
def k74_9 : List zI := [(.bipush (-2), 0, []), (.ireturn, 1, [])]
def k74_12 : List zI := [(.iconst 0, 0, []), (.istore_n 3, 0, []), (.iload_n 1, 0, []), (.iconst 1, 0, []), (.iadd, 0, []), (.istore 4, 0, []), (.iconst 0, 0, []), (.istore 5, 0, []), (.nop, 22, [])]
def k74_22 : List zI := [(.iload 5, 0, []), (.iload 4, 0, []), (.iload 4, 0, []), (.imul, 0, []), (.iload 4, 0, []), (.imul, 0, []), (.iload 4, 0, []), (.imul, 0, []), (.if_icmp .ge 109, 144, []), (.iload 5, 0, []), (.iload 4, 0, []), (.irem, 0, []), (.istore 6, 0, []), (.iload 5, 0, []), (.iload 4, 0, []), (.idiv, 0, []), (.iload 4, 0, []), (.irem, 0, []), (.istore 7, 0, []), (.iload 5, 0, []), (.iload 4, 0, []), (.idiv, 0, []), (.iload 4, 0, []), (.idiv, 0, []), (.iload 4, 0, []), (.irem, 0, []), (.istore 8, 0, []), (.iload 5, 0, []), (.iload 4, 0, []), (.idiv, 0, []), (.iload 4, 0, []), (.idiv, 0, []), (.iload 4, 0, []), (.idiv, 0, []), (.istore 9, 0, []), (.aload_n 0, 0, []), (.getfield 32, 164, []), (.iload 9, 0, []), (.iload 8, 0, []), (.iload 7, 0, []), (.iload 6, 0, []), (.invokevirtual 249, 17, [(0, 5), (1, 0)]), (.aload_n 0, 0, []), (.getfield 32, 164, []), (.invokevirtual 144, 19, [(1, 1), (1, 0)]), (.bipush (-5), 0, []), (.if_icmp .ne 33, 138, []), (.iload_n 3, 0, []), (.iload_n 2, 0, []), (.if_icmp .ne 25, 135, []), (.sipush 1000, 0, []), (.iload 9, 0, []), (.imul, 0, []), (.bipush 100, 0, []), (.iload 8, 0, []), (.imul, 0, []), (.iadd, 0, []), (.bipush 10, 0, []), (.iload 7, 0, []), (.imul, 0, []), (.iadd, 0, []), (.iload 6, 0, []), (.iadd, 0, []), (.ireturn, 1, [])]
def k74_135 : List zI := [(.iinc 3 1, 0, []), (.nop, 138, [])]
def k74_138 : List zI := [(.iinc 5 1, 0, []), (.goto (-119), 22, [])]
def k74_144 : List zI := [(.iload_n 2, 0, []), (.iconst (-1), 0, []), (.if_icmp .ne 7, 153, []), (.iload_n 3, 0, []), (.goto 5, 155, [])]
def k74_153 : List zI := [(.bipush (-5), 0, []), (.nop, 155, [])]
def k74_155 : List zI := [(.ireturn, 1, [])]
def zb74 : List (Nat × List zI) := [(0, k74_0), (9, k74_9), (12, k74_12), (22, k74_22), (135, k74_135), (138, k74_138), (144, k74_144), (153, k74_153), (155, k74_155)]
def k75_0 : List zI := [(.iload_n 1, 0, []), (.iload_n 2, 0, []), (.iload_n 3, 0, []), (.invokestatic 113, 89, [(4, 3)]), (.ifCond .ne 5, 11, []), (.iconst (-1), 0, []), (.ireturn, 1, [])]
def k75_11 : List zI := [(.aload_n 0, 0, []), (.getfield 32, 164, []), (.aload_n 0, 0, []), (.getfield 14, 160, []), (.invokevirtual 253, 11, [(0, 2), (1, 0)]), (.aload_n 0, 0, []), (.getfield 14, 160, []), (.getfield 101, 64, []), (.ifCond .ne 17, 46, []), (.aload_n 0, 0, []), (.iload_n 1, 0, []), (.iload_n 2, 0, []), (.iload_n 3, 0, []), (.invokevirtual 134, 94, [(4, 4), (5, 0)]), (.ifCond .eq 7, 46, []), (.iconst 1, 0, []), (.goto 4, 47, [])]
def k75_46 : List zI := [(.iconst 0, 0, []), (.nop, 47, [])]
def k75_47 : List zI := [(.istore 4, 0, []), (.iconst 0, 0, []), (.istore 5, 0, []), (.iconst 0, 0, []), (.istore 6, 0, []), (.nop, 55, [])]
def k75_55 : List zI := [(.iload 6, 0, []), (.bipush 9, 0, []), (.if_icmp .gt 77, 136, []), (.iload 4, 0, []), (.ifCond .eq 35, 99, []), (.aload_n 0, 0, []), (.getfield 32, 164, []), (.getfield 257, 33, []), (.iload_n 1, 0, []), (.iload_n 2, 0, []), (.iload_n 3, 0, []), (.invokestatic 120, 104, [(1, 3)]), (.iload 6, 0, []), (.iastore, 0, []), (.aload_n 0, 0, []), (.getfield 32, 164, []), (.getfield 257, 33, []), (.iload_n 2, 0, []), (.iload_n 1, 0, []), (.iload_n 3, 0, []), (.invokestatic 120, 104, [(1, 3)]), (.iload 6, 0, []), (.iastore, 0, []), (.nop, 99, [])]
def k75_99 : List zI := [(.aload_n 0, 0, []), (.getfield 32, 164, []), (.invokevirtual 144, 19, [(1, 1), (1, 0)]), (.bipush (-5), 0, []), (.if_icmp .ne 15, 123, []), (.iload 5, 0, []), (.iconst 1, 0, []), (.iload 6, 0, []), (.ishl, 0, []), (.ior, 0, []), (.istore 5, 0, []), (.goto 10, 130, [])]
def k75_123 : List zI := [(.iload 4, 0, []), (.ifCond .ne 5, 130, []), (.iconst 0, 0, []), (.ireturn, 1, [])]
def k75_130 : List zI := [(.iinc 6 1, 0, []), (.goto (-78), 55, [])]
def k75_136 : List zI := [(.iload 5, 0, []), (.ireturn, 1, [])]
def zb75 : List (Nat × List zI) := [(0, k75_0), (11, k75_11), (46, k75_46), (47, k75_47), (55, k75_55), (99, k75_99), (123, k75_123), (130, k75_130), (136, k75_136)]
def k76_0 : List zI := [(.aload_n 0, 0, []), (.iload_n 1, 0, []), (.invokevirtual 151, 93, [(4, 2), (5, 0)]), (.ifCond .eq 38, 43, []), (.iload_n 2, 0, []), (.iconst 1, 0, []), (.if_icmp .lt 33, 43, []), (.iload_n 2, 0, []), (.bipush 12, 0, []), (.if_icmp .gt 27, 43, []), (.iload 4, 0, []), (.iconst 1, 0, []), (.if_icmp .lt 21, 43, []), (.iload 4, 0, []), (.bipush 30, 0, []), (.if_icmp .gt 14, 43, []), (.iload 5, 0, []), (.ifCond .lt 9, 43, []), (.iload 5, 0, []), (.iconst 1, 0, []), (.if_icmp .le 7, 47, []), (.nop, 43, [])]
def k76_43 : List zI := [(.ldc2_w 158, 0, [(-9223372036854775808, 0)]), (.lreturn, 2, [])]
def k76_47 : List zI := [(.iconst 0, 0, []), (.istore 6, 0, []), (.iconst 0, 0, []), (.istore 7, 0, []), (.nop, 53, [])]
def k76_53 : List zI := [(.iload 7, 0, []), (.iload 4, 0, []), (.if_icmp .ge 30, 87, []), (.iload 6, 0, []), (.aload_n 0, 0, []), (.invokevirtual 137, 97, [(3, 1), (5, 0)]), (.iload_n 3, 0, []), (.iload 7, 0, []), (.iadd, 0, []), (.iload_n 2, 0, []), (.invokevirtual 260, 29, [(1, 3), (1, 0)]), (.iload_n 1, 0, []), (.ishr, 0, []), (.iconst 1, 0, []), (.iand, 0, []), (.iadd, 0, []), (.istore 6, 0, []), (.iinc 7 1, 0, []), (.goto (-31), 53, [])]
def k76_87 : List zI := [(.iload 6, 0, []), (.iload 4, 0, []), (.invokestatic 263, 106, [(1, 2)]), (.istore 7, 0, []), (.iload 7, 0, []), (.iconst 1, 0, []), (.if_icmp .ge 7, 106, []), (.ldc2_w 158, 0, [(-9223372036854775808, 0)]), (.lreturn, 2, [])]
def k76_106 : List zI := [(.iload 5, 0, []), (.ifCond .ne 12, 120, []), (.iload 6, 0, []), (.iload 7, 0, []), (.idiv, 0, []), (.i2l, 0, []), (.goto 9, 126, [])]
def k76_120 : List zI := [(.iload 4, 0, []), (.iload 7, 0, []), (.idiv, 0, []), (.i2l, 0, []), (.nop, 126, [])]
def k76_126 : List zI := [(.lreturn, 2, [])]
def zb76 : List (Nat × List zI) := [(0, k76_0), (43, k76_43), (47, k76_47), (53, k76_53), (87, k76_87), (106, k76_106), (120, k76_120), (126, k76_126)]
def k77_0 : List zI := [(.iload_n 1, 0, []), (.iconst (-1), 0, []), (.if_icmp .ne 13, 15, []), (.aload_n 0, 0, []), (.getfield 14, 160, []), (.iconst 0, 0, []), (.putfield 266, 73, []), (.iconst 0, 0, []), (.ireturn, 1, [])]
def k77_15 : List zI := [(.iload_n 1, 0, []), (.ifCond .lt 8, 24, []), (.iload_n 1, 0, []), (.iconst 2, 0, []), (.if_icmp .le 5, 26, []), (.nop, 24, [])]
def k77_24 : List zI := [(.iconst (-1), 0, []), (.ireturn, 1, [])]
def k77_26 : List zI := [(.iload_n 2, 0, []), (.ifCond .lt 18, 45, []), (.iload_n 2, 0, []), (.iload_n 1, 0, []), (.iconst 2, 0, []), (.if_icmp .ne 8, 41, []), (.bipush 9, 0, []), (.goto 4, 42, [])]
def k77_41 : List zI := [(.iconst 4, 0, []), (.nop, 42, [])]
def k77_42 : List zI := [(.if_icmp .le 6, 48, []), (.nop, 45, [])]
def k77_45 : List zI := [(.bipush (-2), 0, []), (.ireturn, 1, [])]
def k77_48 : List zI := [(.aload_n 0, 0, []), (.getfield 14, 160, []), (.getfield 266, 73, []), (.bipush 8, 0, []), (.if_icmp .lt 6, 63, []), (.bipush (-4), 0, []), (.ireturn, 1, [])]
def k77_63 : List zI := [(.aload_n 0, 0, []), (.getfield 14, 160, []), (.getfield 269, 71, []), (.aload_n 0, 0, []), (.getfield 14, 160, []), (.getfield 266, 73, []), (.iload_n 1, 0, []), (.iastore, 0, []), (.aload_n 0, 0, []), (.getfield 14, 160, []), (.getfield 272, 72, []), (.aload_n 0, 0, []), (.getfield 14, 160, []), (.getfield 266, 73, []), (.iload_n 2, 0, []), (.iastore, 0, []), (.aload_n 0, 0, []), (.getfield 14, 160, []), (.dup, 0, []), (.getfield 266, 73, []), (.iconst 1, 0, []), (.iadd, 0, []), (.putfield 266, 73, []), (.aload_n 0, 0, []), (.getfield 14, 160, []), (.getfield 266, 73, []), (.ireturn, 1, [])]
def zb77 : List (Nat × List zI) := [(0, k77_0), (15, k77_15), (24, k77_24), (26, k77_26), (41, k77_41), (42, k77_42), (45, k77_45), (48, k77_48), (63, k77_63)]
def k78_0 : List zI := [(.iload_n 1, 0, []), (.invokestatic 174, 90, [(4, 1)]), (.ifCond .eq 11, 15, []), (.aload_n 0, 0, []), (.iload_n 2, 0, []), (.invokevirtual 151, 93, [(4, 2), (5, 0)]), (.ifCond .ne 5, 17, []), (.nop, 15, [])]
def k78_15 : List zI := [(.iconst (-1), 0, []), (.ireturn, 1, [])]
def k78_17 : List zI := [(.aload_n 0, 0, []), (.aload_n 0, 0, []), (.getfield 78, 174, []), (.iload_n 1, 0, []), (.invokevirtual 190, 100, [(0, 3), (5, 0)]), (.iconst 0, 0, []), (.istore_n 3, 0, []), (.nop, 28, [])]
def k78_28 : List zI := [(.iload_n 3, 0, []), (.aload_n 0, 0, []), (.getfield 14, 160, []), (.getfield 266, 73, []), (.if_icmp .ge 31, 67, []), (.aload_n 0, 0, []), (.aload_n 0, 0, []), (.getfield 14, 160, []), (.getfield 269, 71, []), (.iload_n 3, 0, []), (.iaload, 0, []), (.aload_n 0, 0, []), (.getfield 14, 160, []), (.getfield 272, 72, []), (.iload_n 3, 0, []), (.iaload, 0, []), (.invokevirtual 275, 101, [(0, 3), (5, 0)]), (.iinc 3 1, 0, []), (.goto (-36), 28, [])]
def k78_67 : List zI := [(.aload_n 0, 0, []), (.getfield 78, 174, []), (.iload_n 2, 0, []), (.laload, 0, []), (.l2i, 0, []), (.ireturn, 1, [])]
def zb78 : List (Nat × List zI) := [(0, k78_0), (15, k78_15), (17, k78_17), (28, k78_28), (67, k78_67)]
def k79_0 : List zI := [(.iload_n 1, 0, []), (.invokestatic 174, 90, [(4, 1)]), (.ifCond .ne 5, 9, []), (.iconst (-1), 0, []), (.ireturn, 1, [])]
def k79_9 : List zI := [(.aload_n 0, 0, []), (.iconst 0, 0, []), (.putfield 66, 171, []), (.iconst 0, 0, []), (.istore_n 2, 0, []), (.nop, 16, [])]
def k79_16 : List zI := [(.iload_n 2, 0, []), (.aload_n 0, 0, []), (.getfield 14, 160, []), (.getfield 104, 65, []), (.if_icmp .ge 33, 57, []), (.aload_n 0, 0, []), (.getfield 14, 160, []), (.getfield 183, 68, []), (.iload_n 1, 0, []), (.iconst 5, 0, []), (.imul, 0, []), (.iload_n 2, 0, []), (.iadd, 0, []), (.iaload, 0, []), (.istore_n 3, 0, []), (.iload_n 3, 0, []), (.ifCond .le 9, 51, []), (.aload_n 0, 0, []), (.iload_n 3, 0, []), (.iload_n 2, 0, []), (.invokevirtual 279, 102, [(0, 3), (5, 0)]), (.nop, 51, [])]
def k79_51 : List zI := [(.iinc 2 1, 0, []), (.goto (-38), 16, [])]
def k79_57 : List zI := [(.aload_n 0, 0, []), (.getfield 66, 171, []), (.ifCond .ne 9, 70, []), (.aload_n 0, 0, []), (.bipush 48, 0, []), (.invokevirtual 282, 103, [(0, 2), (5, 0)]), (.nop, 70, [])]
def k79_70 : List zI := [(.aload_n 0, 0, []), (.getfield 66, 171, []), (.ireturn, 1, [])]
def zb79 : List (Nat × List zI) := [(0, k79_0), (9, k79_9), (16, k79_16), (51, k79_51), (57, k79_57), (70, k79_70)]
def k80_0 : List zI := [(.iload_n 1, 0, []), (.ifCond .lt 20, 21, []), (.iload_n 1, 0, []), (.aload_n 0, 0, []), (.getfield 66, 171, []), (.if_icmp .ge 12, 21, []), (.aload_n 0, 0, []), (.getfield 62, 170, []), (.iload_n 1, 0, []), (.baload, 0, []), (.goto 4, 22, [])]
def k80_21 : List zI := [(.iconst (-1), 0, []), (.nop, 22, [])]
def k80_22 : List zI := [(.ireturn, 1, [])]
def zb80 : List (Nat × List zI) := [(0, k80_0), (21, k80_21), (22, k80_22)]
def k81_0 : List zI := [(.iload_n 1, 0, []), (.invokestatic 286, 91, [(4, 1)]), (.ifCond .eq 19, 23, []), (.aload_n 0, 0, []), (.iload_n 2, 0, []), (.invokevirtual 151, 93, [(4, 2), (5, 0)]), (.ifCond .eq 11, 23, []), (.aload_n 0, 0, []), (.iload_n 3, 0, []), (.invokevirtual 151, 93, [(4, 2), (5, 0)]), (.ifCond .ne 5, 25, []), (.nop, 23, [])]
def k81_23 : List zI := [(.iconst (-1), 0, []), (.ireturn, 1, [])]
def k81_25 : List zI := [(.aload_n 0, 0, []), (.getfield 74, 173, []), (.iload_n 1, 0, []), (.iaload, 0, []), (.ifCond .ge 6, 37, []), (.bipush (-11), 0, []), (.ireturn, 1, [])]
def k81_37 : List zI := [(.iconst 0, 0, []), (.istore 4, 0, []), (.nop, 40, [])]
def k81_40 : List zI := [(.iload 4, 0, []), (.aload_n 0, 0, []), (.getfield 74, 173, []), (.iload_n 1, 0, []), (.iaload, 0, []), (.if_icmp .ge 57, 105, []), (.aload_n 0, 0, []), (.iload 4, 0, []), (.invokevirtual 151, 93, [(4, 2), (5, 0)]), (.ifCond .eq 17, 74, []), (.aload_n 0, 0, []), (.invokevirtual 137, 97, [(3, 1), (5, 0)]), (.iload_n 2, 0, []), (.iload_n 3, 0, []), (.iload 4, 0, []), (.invokevirtual 141, 10, [(1, 4), (1, 0)]), (.goto 4, 75, [])]
def k81_74 : List zI := [(.iconst 0, 0, []), (.nop, 75, [])]
def k81_75 : List zI := [(.istore 5, 0, []), (.aload_n 0, 0, []), (.getfield 70, 172, []), (.iload_n 1, 0, []), (.bipush 12, 0, []), (.imul, 0, []), (.iload 4, 0, []), (.iadd, 0, []), (.laload, 0, []), (.iload 5, 0, []), (.i2l, 0, []), (.lcmp, 0, []), (.ifCond .eq 6, 99, []), (.iload 4, 0, []), (.ireturn, 1, [])]
def k81_99 : List zI := [(.iinc 4 1, 0, []), (.goto (-62), 40, [])]
def k81_105 : List zI := [(.bipush (-5), 0, []), (.ireturn, 1, [])]
def zb81 : List (Nat × List zI) := [(0, k81_0), (23, k81_23), (25, k81_25), (37, k81_37), (40, k81_40), (74, k81_74), (75, k81_75), (99, k81_99), (105, k81_105)]
def k82_0 : List zI := [(.iload_n 1, 0, []), (.invokestatic 286, 91, [(4, 1)]), (.ifCond .ne 5, 9, []), (.iconst (-1), 0, []), (.ireturn, 1, [])]
def k82_9 : List zI := [(.iload_n 2, 0, []), (.bipush 12, 0, []), (.if_icmp .le 6, 18, []), (.bipush (-2), 0, []), (.ireturn, 1, [])]
def k82_18 : List zI := [(.iload_n 2, 0, []), (.ifCond .ge 6, 25, []), (.bipush (-14), 0, []), (.ireturn, 1, [])]
def k82_25 : List zI := [(.aload_n 0, 0, []), (.getfield 74, 173, []), (.iload_n 1, 0, []), (.iload_n 2, 0, []), (.iastore, 0, []), (.iconst 0, 0, []), (.istore_n 3, 0, []), (.nop, 34, [])]
def k82_34 : List zI := [(.iload_n 3, 0, []), (.iload_n 2, 0, []), (.if_icmp .ge 21, 57, []), (.aload_n 0, 0, []), (.getfield 70, 172, []), (.iload_n 1, 0, []), (.bipush 12, 0, []), (.imul, 0, []), (.iload_n 3, 0, []), (.iadd, 0, []), (.lconst 0, 0, []), (.lastore, 0, []), (.iinc 3 1, 0, []), (.goto (-20), 34, [])]
def k82_57 : List zI := [(.iconst 1, 0, []), (.ireturn, 1, [])]
def zb82 : List (Nat × List zI) := [(0, k82_0), (9, k82_9), (18, k82_18), (25, k82_25), (34, k82_34), (57, k82_57)]
def k83_0 : List zI := [(.iload_n 1, 0, []), (.invokestatic 286, 91, [(4, 1)]), (.ifCond .ne 5, 9, []), (.iconst (-1), 0, []), (.ireturn, 1, [])]
def k83_9 : List zI := [(.aload_n 0, 0, []), (.getfield 74, 173, []), (.iload_n 1, 0, []), (.iaload, 0, []), (.ifCond .ge 6, 21, []), (.bipush (-11), 0, []), (.ireturn, 1, [])]
def k83_21 : List zI := [(.iload_n 2, 0, []), (.ifCond .lt 13, 35, []), (.iload_n 2, 0, []), (.aload_n 0, 0, []), (.getfield 74, 173, []), (.iload_n 1, 0, []), (.iaload, 0, []), (.if_icmp .lt 6, 38, []), (.nop, 35, [])]
def k83_35 : List zI := [(.bipush (-13), 0, []), (.ireturn, 1, [])]
def k83_38 : List zI := [(.aload_n 0, 0, []), (.getfield 70, 172, []), (.iload_n 1, 0, []), (.bipush 12, 0, []), (.imul, 0, []), (.iload_n 2, 0, []), (.iadd, 0, []), (.lload_n 3, 0, []), (.lastore, 0, []), (.iconst 1, 0, []), (.ireturn, 1, [])]
def zb83 : List (Nat × List zI) := [(0, k83_0), (9, k83_9), (21, k83_21), (35, k83_35), (38, k83_38)]
def k84_0 : List zI := [(.iload_n 1, 0, []), (.invokestatic 286, 91, [(4, 1)]), (.ifCond .eq 17, 21, []), (.iload_n 2, 0, []), (.ifCond .lt 13, 21, []), (.iload_n 2, 0, []), (.aload_n 0, 0, []), (.getfield 74, 173, []), (.iload_n 1, 0, []), (.iaload, 0, []), (.if_icmp .lt 7, 25, []), (.nop, 21, [])]
def k84_21 : List zI := [(.ldc2_w 158, 0, [(-9223372036854775808, 0)]), (.lreturn, 2, [])]
def k84_25 : List zI := [(.aload_n 0, 0, []), (.getfield 70, 172, []), (.iload_n 1, 0, []), (.bipush 12, 0, []), (.imul, 0, []), (.iload_n 2, 0, []), (.iadd, 0, []), (.laload, 0, []), (.lreturn, 2, [])]
def zb84 : List (Nat × List zI) := [(0, k84_0), (21, k84_21), (25, k84_25)]
def k85_0 : List zI := [(.aload_n 0, 0, []), (.getfield 18, 161, []), (.aload_n 0, 0, []), (.getfield 14, 160, []), (.invokevirtual 289, 30, [(0, 2), (2, 0)]), (.aload_n 0, 0, []), (.iconst 1, 0, []), (.putfield 21, 162, []), (.aload_n 0, 0, []), (.getfield 14, 160, []), (.getfield 104, 65, []), (.ireturn, 1, [])]
def zb85 : List (Nat × List zI) := [(0, k85_0)]
def k86_0 : List zI := [(.aload_n 0, 0, []), (.getfield 21, 162, []), (.ifCond .ne 6, 10, []), (.bipush (-3), 0, []), (.ireturn, 1, [])]
def k86_10 : List zI := [(.aload_n 0, 0, []), (.getfield 14, 160, []), (.aload_n 0, 0, []), (.getfield 18, 161, []), (.invokevirtual 289, 30, [(0, 2), (2, 0)]), (.aload_n 0, 0, []), (.invokevirtual 110, 96, [(0, 1), (5, 0)]), (.aload_n 0, 0, []), (.getfield 14, 160, []), (.getfield 104, 65, []), (.ireturn, 1, [])]
def zb86 : List (Nat × List zI) := [(0, k86_0), (10, k86_10)]
def k87_0 : List zI := [(.iload_n 1, 0, []), (.tableswitch 78 0 4 #[35, 46, 57, 65, 70], 79, [(0, 36), (1, 47), (2, 58), (3, 66), (4, 71)])]
def k87_36 : List zI := [(.aload_n 0, 0, []), (.getfield 14, 160, []), (.getfield 117, 67, []), (.invokestatic 292, 105, [(1, 1)]), (.ireturn, 1, [])]
def k87_47 : List zI := [(.aload_n 0, 0, []), (.getfield 14, 160, []), (.getfield 183, 68, []), (.invokestatic 292, 105, [(1, 1)]), (.ireturn, 1, [])]
def k87_58 : List zI := [(.aload_n 0, 0, []), (.getfield 58, 169, []), (.getfield 124, 97, []), (.ireturn, 1, [])]
def k87_66 : List zI := [(.aload_n 0, 0, []), (.getfield 66, 171, []), (.ireturn, 1, [])]
def k87_71 : List zI := [(.aload_n 0, 0, []), (.getfield 14, 160, []), (.getfield 266, 73, []), (.ireturn, 1, [])]
def k87_79 : List zI := [(.bipush (-2), 0, []), (.ireturn, 1, [])]
def zb87 : List (Nat × List zI) := [(0, k87_0), (36, k87_36), (47, k87_47), (58, k87_58), (66, k87_66), (71, k87_71), (79, k87_79)]
def k88_0 : List zI := [(.iload_n 0, 0, []), (.ifCond .lt 12, 13, []), (.iload_n 0, 0, []), (.iconst 5, 0, []), (.if_icmp .ge 7, 13, []), (.iconst 1, 0, []), (.goto 4, 14, [])]
def k88_13 : List zI := [(.iconst 0, 0, []), (.nop, 14, [])]
def k88_14 : List zI := [(.ireturn, 4, [])]
def zb88 : List (Nat × List zI) := [(0, k88_0), (13, k88_13), (14, k88_14)]
def k89_0 : List zI := [(.iload_n 0, 0, []), (.ifCond .le 32, 33, []), (.iload_n 1, 0, []), (.ifCond .le 28, 33, []), (.iload_n 0, 0, []), (.invokestatic 230, 88, [(4, 1)]), (.ifCond .eq 21, 33, []), (.iload_n 1, 0, []), (.invokestatic 230, 88, [(4, 1)]), (.ifCond .eq 14, 33, []), (.iload_n 2, 0, []), (.invokestatic 230, 88, [(4, 1)]), (.ifCond .eq 7, 33, []), (.iconst 1, 0, []), (.goto 4, 34, [])]
def k89_33 : List zI := [(.iconst 0, 0, []), (.nop, 34, [])]
def k89_34 : List zI := [(.ireturn, 4, [])]
def zb89 : List (Nat × List zI) := [(0, k89_0), (33, k89_33), (34, k89_34)]
def k90_0 : List zI := [(.iload_n 0, 0, []), (.ifCond .lt 12, 13, []), (.iload_n 0, 0, []), (.iconst 4, 0, []), (.if_icmp .ge 7, 13, []), (.iconst 1, 0, []), (.goto 4, 14, [])]
def k90_13 : List zI := [(.iconst 0, 0, []), (.nop, 14, [])]
def k90_14 : List zI := [(.ireturn, 4, [])]
def zb90 : List (Nat × List zI) := [(0, k90_0), (13, k90_13), (14, k90_14)]
def k91_0 : List zI := [(.iload_n 0, 0, []), (.ifCond .lt 12, 13, []), (.iload_n 0, 0, []), (.iconst 4, 0, []), (.if_icmp .ge 7, 13, []), (.iconst 1, 0, []), (.goto 4, 14, [])]
def k91_13 : List zI := [(.iconst 0, 0, []), (.nop, 14, [])]
def k91_14 : List zI := [(.ireturn, 4, [])]
def zb91 : List (Nat × List zI) := [(0, k91_0), (13, k91_13), (14, k91_14)]
def k92_0 : List zI := [(.iload_n 0, 0, []), (.lookupswitch 58 #[(0, 27), (1, 42)], 59, [(0, 28), (1, 43)])]
def k92_28 : List zI := [(.iload_n 1, 0, []), (.ifCond .lt 12, 41, []), (.iload_n 1, 0, []), (.iconst 4, 0, []), (.if_icmp .gt 7, 41, []), (.iconst 1, 0, []), (.goto 4, 42, [])]
def k92_41 : List zI := [(.iconst 0, 0, []), (.nop, 42, [])]
def k92_42 : List zI := [(.ireturn, 4, [])]
def k92_43 : List zI := [(.iload_n 1, 0, []), (.iconst 1, 0, []), (.if_icmp .lt 12, 57, []), (.iload_n 1, 0, []), (.iconst 5, 0, []), (.if_icmp .gt 7, 57, []), (.iconst 1, 0, []), (.goto 4, 58, [])]
def k92_57 : List zI := [(.iconst 0, 0, []), (.nop, 58, [])]
def k92_58 : List zI := [(.ireturn, 4, [])]
def k92_59 : List zI := [(.iload_n 1, 0, []), (.ifCond .lt 13, 73, []), (.iload_n 1, 0, []), (.bipush 9, 0, []), (.if_icmp .gt 7, 73, []), (.iconst 1, 0, []), (.goto 4, 74, [])]
def k92_73 : List zI := [(.iconst 0, 0, []), (.nop, 74, [])]
def k92_74 : List zI := [(.ireturn, 4, [])]
def zb92 : List (Nat × List zI) := [(0, k92_0), (28, k92_28), (41, k92_41), (42, k92_42), (43, k92_43), (57, k92_57), (58, k92_58), (59, k92_59), (73, k92_73), (74, k92_74)]
def k93_0 : List zI := [(.iload_n 1, 0, []), (.ifCond .lt 18, 19, []), (.iload_n 1, 0, []), (.aload_n 0, 0, []), (.getfield 14, 160, []), (.getfield 104, 65, []), (.if_icmp .ge 7, 19, []), (.iconst 1, 0, []), (.goto 4, 20, [])]
def k93_19 : List zI := [(.iconst 0, 0, []), (.nop, 20, [])]
def k93_20 : List zI := [(.ireturn, 4, [])]
def zb93 : List (Nat × List zI) := [(0, k93_0), (19, k93_19), (20, k93_20)]
def k94_0 : List zI := [(.aload_n 0, 0, []), (.iload_n 1, 0, []), (.invokevirtual 151, 93, [(4, 2), (5, 0)]), (.ifCond .eq 23, 28, []), (.aload_n 0, 0, []), (.iload_n 2, 0, []), (.invokevirtual 151, 93, [(4, 2), (5, 0)]), (.ifCond .eq 15, 28, []), (.aload_n 0, 0, []), (.iload_n 3, 0, []), (.invokevirtual 151, 93, [(4, 2), (5, 0)]), (.ifCond .eq 7, 28, []), (.iconst 1, 0, []), (.goto 4, 29, [])]
def k94_28 : List zI := [(.iconst 0, 0, []), (.nop, 29, [])]
def k94_29 : List zI := [(.ireturn, 4, [])]
def zb94 : List (Nat × List zI) := [(0, k94_0), (28, k94_28), (29, k94_29)]
def k95_0 : List zI := [(.iload_n 1, 0, []), (.ifCond .lt 20, 21, []), (.iload_n 1, 0, []), (.iconst 1, 0, []), (.aload_n 0, 0, []), (.getfield 14, 160, []), (.getfield 104, 65, []), (.ishl, 0, []), (.if_icmp .ge 7, 21, []), (.iconst 1, 0, []), (.goto 4, 22, [])]
def k95_21 : List zI := [(.iconst 0, 0, []), (.nop, 22, [])]
def k95_22 : List zI := [(.ireturn, 4, [])]
def zb95 : List (Nat × List zI) := [(0, k95_0), (21, k95_21), (22, k95_22)]
def k96_0 : List zI := [(.aload_n 0, 0, []), (.iconst 0, 0, []), (.putfield 49, 167, []), (.aload_n 0, 0, []), (.iconst 0, 0, []), (.putfield 52, 168, []), (.return_, 0, [])]
def zb96 : List (Nat × List zI) := [(0, k96_0)]
def k97_0 : List zI := [(.aload_n 0, 0, []), (.getfield 49, 167, []), (.ifCond .ne 19, 23, []), (.aload_n 0, 0, []), (.getfield 28, 163, []), (.aload_n 0, 0, []), (.getfield 14, 160, []), (.invokevirtual 253, 11, [(0, 2), (1, 0)]), (.aload_n 0, 0, []), (.iconst 1, 0, []), (.putfield 49, 167, []), (.nop, 23, [])]
def k97_23 : List zI := [(.aload_n 0, 0, []), (.getfield 28, 163, []), (.areturn, 3, [])]
def zb97 : List (Nat × List zI) := [(0, k97_0), (23, k97_23)]
def k98_0 : List zI := [(.aload_n 0, 0, []), (.getfield 52, 168, []), (.ifCond .ne 19, 23, []), (.aload_n 0, 0, []), (.getfield 38, 165, []), (.aload_n 0, 0, []), (.invokevirtual 137, 97, [(3, 1), (5, 0)]), (.invokevirtual 296, 3, [(0, 2), (0, 0)]), (.aload_n 0, 0, []), (.iconst 1, 0, []), (.putfield 52, 168, []), (.nop, 23, [])]
def k98_23 : List zI := [(.aload_n 0, 0, []), (.getfield 38, 165, []), (.areturn, 3, [])]
def zb98 : List (Nat × List zI) := [(0, k98_0), (23, k98_23)]
def k99_0 : List zI := [(.aload_n 1, 0, []), (.lconst 0, 0, []), (.invokestatic 300, 191, [(0, 2)]), (.aload_n 1, 0, []), (.iload_n 2, 0, []), (.lconst 1, 0, []), (.lastore, 0, []), (.return_, 0, [])]
def zb99 : List (Nat × List zI) := [(0, k99_0)]
def k100_0 : List zI := [(.aload_n 1, 0, []), (.lconst 0, 0, []), (.invokestatic 300, 191, [(0, 2)]), (.iconst 0, 0, []), (.istore_n 3, 0, []), (.nop, 7, [])]
def k100_7 : List zI := [(.iload_n 3, 0, []), (.aload_n 0, 0, []), (.getfield 14, 160, []), (.getfield 104, 65, []), (.if_icmp .ge 26, 41, []), (.aload_n 1, 0, []), (.iload_n 3, 0, []), (.aload_n 0, 0, []), (.getfield 14, 160, []), (.getfield 183, 68, []), (.iload_n 2, 0, []), (.iconst 5, 0, []), (.imul, 0, []), (.iload_n 3, 0, []), (.iadd, 0, []), (.iaload, 0, []), (.i2l, 0, []), (.lastore, 0, []), (.iinc 3 1, 0, []), (.goto (-31), 7, [])]
def k100_41 : List zI := [(.return_, 0, [])]
def zb100 : List (Nat × List zI) := [(0, k100_0), (7, k100_7), (41, k100_41)]
def k101_0 : List zI := [(.iload_n 1, 0, []), (.ifCond .ne 56, 57, []), (.aload_n 0, 0, []), (.iload_n 2, 0, []), (.invokevirtual 151, 93, [(4, 2), (5, 0)]), (.ifCond .eq 48, 57, []), (.aload_n 0, 0, []), (.aload_n 0, 0, []), (.getfield 81, 175, []), (.iload_n 2, 0, []), (.invokevirtual 160, 99, [(0, 3), (5, 0)]), (.aload_n 0, 0, []), (.invokevirtual 137, 97, [(3, 1), (5, 0)]), (.aload_n 0, 0, []), (.getfield 78, 174, []), (.aload_n 0, 0, []), (.getfield 81, 175, []), (.aload_n 0, 0, []), (.getfield 84, 176, []), (.invokevirtual 164, 23, [(0, 4), (1, 0)]), (.aload_n 0, 0, []), (.getfield 84, 176, []), (.iconst 0, 0, []), (.aload_n 0, 0, []), (.getfield 78, 174, []), (.iconst 0, 0, []), (.iconst 5, 0, []), (.invokestatic 168, 0, [(9, 5)]), (.goto 64, 118, [])]
def k101_57 : List zI := [(.iload_n 1, 0, []), (.iconst 1, 0, []), (.if_icmp .ne 24, 83, []), (.aload_n 0, 0, []), (.iload_n 2, 0, []), (.invokevirtual 151, 93, [(4, 2), (5, 0)]), (.ifCond .eq 16, 83, []), (.aload_n 0, 0, []), (.getfield 78, 174, []), (.iload_n 2, 0, []), (.dup2, 0, []), (.laload, 0, []), (.lconst 1, 0, []), (.ladd, 0, []), (.lastore, 0, []), (.goto 38, 118, [])]
def k101_83 : List zI := [(.iload_n 1, 0, []), (.iconst 2, 0, []), (.if_icmp .ne 33, 118, []), (.iconst 0, 0, []), (.istore_n 3, 0, []), (.nop, 90, [])]
def k101_90 : List zI := [(.iload_n 3, 0, []), (.aload_n 0, 0, []), (.getfield 14, 160, []), (.getfield 104, 65, []), (.if_icmp .ge 20, 118, []), (.aload_n 0, 0, []), (.getfield 78, 174, []), (.iload_n 3, 0, []), (.dup2, 0, []), (.laload, 0, []), (.iload_n 2, 0, []), (.i2l, 0, []), (.lmul, 0, []), (.lastore, 0, []), (.iinc 3 1, 0, []), (.goto (-25), 90, [])]
def k101_118 : List zI := [(.iconst 0, 0, []), (.istore_n 3, 0, []), (.nop, 120, [])]
def k101_120 : List zI := [(.iload_n 3, 0, []), (.aload_n 0, 0, []), (.getfield 14, 160, []), (.getfield 104, 65, []), (.if_icmp .ge 27, 155, []), (.aload_n 0, 0, []), (.getfield 78, 174, []), (.iload_n 3, 0, []), (.aload_n 0, 0, []), (.getfield 78, 174, []), (.iload_n 3, 0, []), (.laload, 0, []), (.ldc2_w 193, 0, [(999, 0)]), (.invokestatic 303, 0, [(12, 2)]), (.lastore, 0, []), (.iinc 3 1, 0, []), (.goto (-32), 120, [])]
def k101_155 : List zI := [(.return_, 0, [])]
def zb101 : List (Nat × List zI) := [(0, k101_0), (57, k101_57), (83, k101_83), (90, k101_90), (118, k101_118), (120, k101_120), (155, k101_155)]
def k102_0 : List zI := [(.aload_n 0, 0, []), (.getfield 66, 171, []), (.ifCond .le 9, 13, []), (.aload_n 0, 0, []), (.bipush 43, 0, []), (.invokevirtual 282, 103, [(0, 2), (5, 0)]), (.nop, 13, [])]
def k102_13 : List zI := [(.iload_n 1, 0, []), (.bipush 100, 0, []), (.if_icmp .lt 14, 30, []), (.aload_n 0, 0, []), (.bipush 48, 0, []), (.iload_n 1, 0, []), (.bipush 100, 0, []), (.idiv, 0, []), (.iadd, 0, []), (.invokevirtual 282, 103, [(0, 2), (5, 0)]), (.nop, 30, [])]
def k102_30 : List zI := [(.iload_n 1, 0, []), (.bipush 10, 0, []), (.if_icmp .lt 17, 50, []), (.aload_n 0, 0, []), (.bipush 48, 0, []), (.iload_n 1, 0, []), (.bipush 10, 0, []), (.idiv, 0, []), (.bipush 10, 0, []), (.irem, 0, []), (.iadd, 0, []), (.invokevirtual 282, 103, [(0, 2), (5, 0)]), (.nop, 50, [])]
def k102_50 : List zI := [(.iload_n 1, 0, []), (.iconst 1, 0, []), (.if_icmp .le 14, 66, []), (.aload_n 0, 0, []), (.bipush 48, 0, []), (.iload_n 1, 0, []), (.bipush 10, 0, []), (.irem, 0, []), (.iadd, 0, []), (.invokevirtual 282, 103, [(0, 2), (5, 0)]), (.nop, 66, [])]
def k102_66 : List zI := [(.aload_n 0, 0, []), (.bipush 97, 0, []), (.iload_n 2, 0, []), (.iadd, 0, []), (.invokevirtual 282, 103, [(0, 2), (5, 0)]), (.return_, 0, [])]
def zb102 : List (Nat × List zI) := [(0, k102_0), (13, k102_13), (30, k102_30), (50, k102_50), (66, k102_66)]
def k103_0 : List zI := [(.aload_n 0, 0, []), (.getfield 66, 171, []), (.bipush 24, 0, []), (.if_icmp .ge 24, 30, []), (.aload_n 0, 0, []), (.getfield 62, 170, []), (.aload_n 0, 0, []), (.getfield 66, 171, []), (.iload_n 1, 0, []), (.i2b, 0, []), (.bastore, 0, []), (.aload_n 0, 0, []), (.dup, 0, []), (.getfield 66, 171, []), (.iconst 1, 0, []), (.iadd, 0, []), (.putfield 66, 171, []), (.nop, 30, [])]
def k103_30 : List zI := [(.return_, 0, [])]
def zb103 : List (Nat × List zI) := [(0, k103_0), (30, k103_30)]
def k104_0 : List zI := [(.iload_n 0, 0, []), (.bipush 25, 0, []), (.imul, 0, []), (.iload_n 1, 0, []), (.iconst 5, 0, []), (.imul, 0, []), (.iadd, 0, []), (.iload_n 2, 0, []), (.iadd, 0, []), (.ireturn, 1, [])]
def zb104 : List (Nat × List zI) := [(0, k104_0)]
def k105_0 : List zI := [(.iconst 0, 0, []), (.istore_n 1, 0, []), (.aload_n 0, 0, []), (.astore_n 2, 0, []), (.aload_n 2, 0, []), (.arraylength, 0, []), (.istore_n 3, 0, []), (.iconst 0, 0, []), (.istore 4, 0, []), (.nop, 10, [])]
def k105_10 : List zI := [(.iload 4, 0, []), (.iload_n 3, 0, []), (.if_icmp .ge 23, 36, []), (.aload_n 2, 0, []), (.iload 4, 0, []), (.iaload, 0, []), (.istore 5, 0, []), (.iload 5, 0, []), (.ifCond .eq 6, 30, []), (.iinc 1 1, 0, []), (.nop, 30, [])]
def k105_30 : List zI := [(.iinc 4 1, 0, []), (.goto (-23), 10, [])]
def k105_36 : List zI := [(.iload_n 1, 0, []), (.ireturn, 1, [])]
def zb105 : List (Nat × List zI) := [(0, k105_0), (10, k105_10), (30, k105_30), (36, k105_36)]
def k106_0 : List zI := [(.iload_n 0, 0, []), (.istore_n 2, 0, []), (.iload_n 1, 0, []), (.istore_n 3, 0, []), (.iconst 0, 0, []), (.istore 4, 0, []), (.nop, 7, [])]
def k106_7 : List zI := [(.iload 4, 0, []), (.iload_n 1, 0, []), (.if_icmp .gt 23, 33, []), (.iload_n 3, 0, []), (.ifCond .le 19, 33, []), (.iload_n 2, 0, []), (.iload_n 3, 0, []), (.irem, 0, []), (.istore 5, 0, []), (.iload_n 3, 0, []), (.istore_n 2, 0, []), (.iload 5, 0, []), (.istore_n 3, 0, []), (.iinc 4 1, 0, []), (.goto (-23), 7, [])]
def k106_33 : List zI := [(.iload_n 2, 0, []), (.ireturn, 1, [])]
def zb106 : List (Nat × List zI) := [(0, k106_0), (7, k106_7), (33, k106_33)]
def k107_0 : List zI := [(.iconst 1, 0, []), (.istore_n 1, 0, []), (.nop, 2, [])]
def k107_2 : List zI := [(.iload_n 1, 0, []), (.bipush 31, 0, []), (.if_icmp .ge 21, 26, []), (.iload_n 0, 0, []), (.iload_n 1, 0, []), (.imul, 0, []), (.bipush 31, 0, []), (.irem, 0, []), (.iconst 1, 0, []), (.if_icmp .ne 5, 20, []), (.iload_n 1, 0, []), (.ireturn, 1, [])]
def k107_20 : List zI := [(.iinc 1 1, 0, []), (.goto (-21), 2, [])]
def k107_26 : List zI := [(.iconst 0, 0, []), (.ireturn, 1, [])]
def zb107 : List (Nat × List zI) := [(0, k107_0), (2, k107_2), (20, k107_20), (26, k107_26)]
def k108_0 : List zI := [(.lload_n 0, 0, []), (.lload_n 2, 0, []), (.lcmp, 0, []), (.ifCond .lt 14, 17, []), (.lload_n 0, 0, []), (.lload 4, 0, []), (.lcmp, 0, []), (.ifCond .gt 7, 17, []), (.iconst 1, 0, []), (.goto 4, 18, [])]
def k108_17 : List zI := [(.iconst 0, 0, []), (.nop, 18, [])]
def k108_18 : List zI := [(.ireturn, 4, [])]
def zb108 : List (Nat × List zI) := [(0, k108_0), (17, k108_17), (18, k108_18)]
def k109_0 : List zI := [(.iload_n 0, 0, []), (.ifCond .eq 7, 8, []), (.iconst 1, 0, []), (.goto 4, 9, [])]
def k109_8 : List zI := [(.iconst 0, 0, []), (.nop, 9, [])]
def k109_9 : List zI := [(.ireturn, 1, [])]
def zb109 : List (Nat × List zI) := [(0, k109_0), (8, k109_8), (9, k109_9)]
def k110_0 : List zI := [(.iload_n 1, 0, []), (.i2l, 0, []), (.lconst 0, 0, []), (.aload_n 0, 0, []), (.getfield 11, 192, []), (.iconst 1, 0, []), (.iaload, 0, []), (.iconst 1, 0, []), (.isub, 0, []), (.i2l, 0, []), (.invokestatic 67, 108, [(4, 3)]), (.ireturn, 4, [])]
def zb110 : List (Nat × List zI) := [(0, k110_0)]
def k111_0 : List zI := [(.iconst 3, 0, []), (.bipush 25, 0, []), (.iload_n 0, 0, []), (.imul, 0, []), (.iadd, 0, []), (.iconst 5, 0, []), (.iload_n 1, 0, []), (.imul, 0, []), (.iadd, 0, []), (.iload_n 2, 0, []), (.iadd, 0, []), (.ireturn, 1, [])]
def zb111 : List (Nat × List zI) := [(0, k111_0)]
def k112_0 : List zI := [(.iload_n 1, 0, []), (.i2l, 0, []), (.lconst 0, 0, []), (.ldc2_w 71, 0, [(2, 0)]), (.invokestatic 67, 108, [(4, 3)]), (.ifCond .ne 5, 14, []), (.iconst (-1), 0, []), (.ireturn, 1, [])]
def k112_14 : List zI := [(.iload_n 1, 0, []), (.ifCond .ne 18, 33, []), (.iload_n 2, 0, []), (.i2l, 0, []), (.lconst 0, 0, []), (.ldc2_w 73, 0, [(4, 0)]), (.invokestatic 67, 108, [(4, 3)]), (.ifCond .eq 38, 65, []), (.goto 38, 68, [])]
def k112_33 : List zI := [(.iload_n 1, 0, []), (.iconst 1, 0, []), (.if_icmp .ne 18, 53, []), (.iload_n 2, 0, []), (.i2l, 0, []), (.lconst 1, 0, []), (.ldc2_w 75, 0, [(5, 0)]), (.invokestatic 67, 108, [(4, 3)]), (.ifCond .eq 18, 65, []), (.goto 18, 68, [])]
def k112_53 : List zI := [(.iload_n 2, 0, []), (.i2l, 0, []), (.lconst 0, 0, []), (.ldc2_w 77, 0, [(9, 0)]), (.invokestatic 67, 108, [(4, 3)]), (.ifCond .ne 6, 68, []), (.nop, 65, [])]
def k112_65 : List zI := [(.bipush (-2), 0, []), (.ireturn, 1, [])]
def k112_68 : List zI := [(.aload_n 0, 0, []), (.getfield 11, 192, []), (.iload_n 1, 0, []), (.iaload, 0, []), (.istore_n 3, 0, []), (.aload_n 0, 0, []), (.getfield 11, 192, []), (.iload_n 1, 0, []), (.iload_n 2, 0, []), (.iastore, 0, []), (.iload_n 3, 0, []), (.ireturn, 1, [])]
def zb112 : List (Nat × List zI) := [(0, k112_0), (14, k112_14), (33, k112_33), (53, k112_53), (65, k112_65), (68, k112_68)]
def k113_0 : List zI := [(.iload_n 1, 0, []), (.i2l, 0, []), (.lconst 0, 0, []), (.ldc2_w 71, 0, [(2, 0)]), (.invokestatic 67, 108, [(4, 3)]), (.ifCond .eq 12, 21, []), (.aload_n 0, 0, []), (.getfield 11, 192, []), (.iload_n 1, 0, []), (.iaload, 0, []), (.goto 4, 22, [])]
def k113_21 : List zI := [(.iconst (-1), 0, []), (.nop, 22, [])]
def k113_22 : List zI := [(.ireturn, 1, [])]
def zb113 : List (Nat × List zI) := [(0, k113_0), (21, k113_21), (22, k113_22)]
def k114_0 : List zI := [(.iload_n 1, 0, []), (.i2l, 0, []), (.lconst 1, 0, []), (.ldc2_w 73, 0, [(4, 0)]), (.invokestatic 67, 108, [(4, 3)]), (.ifCond .eq 27, 36, []), (.iload_n 2, 0, []), (.i2l, 0, []), (.lconst 1, 0, []), (.ldc2_w 73, 0, [(4, 0)]), (.invokestatic 67, 108, [(4, 3)]), (.ifCond .eq 15, 36, []), (.iload_n 3, 0, []), (.i2l, 0, []), (.lconst 0, 0, []), (.ldc2_w 73, 0, [(4, 0)]), (.invokestatic 67, 108, [(4, 3)]), (.ifCond .ne 5, 38, []), (.nop, 36, [])]
def k114_36 : List zI := [(.iconst (-1), 0, []), (.ireturn, 1, [])]
def k114_38 : List zI := [(.iload 4, 0, []), (.i2l, 0, []), (.lconst 0, 0, []), (.ldc2_w 77, 0, [(9, 0)]), (.invokestatic 67, 108, [(4, 3)]), (.ifCond .ne 6, 54, []), (.bipush (-2), 0, []), (.ireturn, 1, [])]
def k114_54 : List zI := [(.aload_n 0, 0, []), (.getfield 11, 192, []), (.iload_n 1, 0, []), (.iload_n 2, 0, []), (.iload_n 3, 0, []), (.invokestatic 79, 111, [(1, 3)]), (.iaload, 0, []), (.istore 5, 0, []), (.aload_n 0, 0, []), (.getfield 11, 192, []), (.iload_n 1, 0, []), (.iload_n 2, 0, []), (.iload_n 3, 0, []), (.invokestatic 79, 111, [(1, 3)]), (.iload 4, 0, []), (.iastore, 0, []), (.iload 5, 0, []), (.ireturn, 1, [])]
def zb114 : List (Nat × List zI) := [(0, k114_0), (36, k114_36), (38, k114_38), (54, k114_54)]
def k115_0 : List zI := [(.aload_n 0, 0, []), (.getfield 11, 192, []), (.iconst 1, 0, []), (.iaload, 0, []), (.istore 4, 0, []), (.iload_n 1, 0, []), (.iload_n 2, 0, []), (.if_icmp .ge 9, 19, []), (.iload_n 2, 0, []), (.iload_n 1, 0, []), (.isub, 0, []), (.goto 6, 22, [])]
def k115_19 : List zI := [(.iload_n 1, 0, []), (.iload_n 2, 0, []), (.isub, 0, []), (.nop, 22, [])]
def k115_22 : List zI := [(.istore 5, 0, []), (.iload_n 1, 0, []), (.iload_n 2, 0, []), (.iadd, 0, []), (.iconst 2, 0, []), (.iload 4, 0, []), (.imul, 0, []), (.iconst 2, 0, []), (.isub, 0, []), (.iload_n 1, 0, []), (.isub, 0, []), (.iload_n 2, 0, []), (.isub, 0, []), (.if_icmp .ge 9, 46, []), (.iload_n 1, 0, []), (.iload_n 2, 0, []), (.iadd, 0, []), (.goto 13, 56, [])]
def k115_46 : List zI := [(.iconst 2, 0, []), (.iload 4, 0, []), (.imul, 0, []), (.iconst 2, 0, []), (.isub, 0, []), (.iload_n 1, 0, []), (.isub, 0, []), (.iload_n 2, 0, []), (.isub, 0, []), (.nop, 56, [])]
def k115_56 : List zI := [(.istore 6, 0, []), (.iload_n 3, 0, []), (.i2l, 0, []), (.iload 5, 0, []), (.i2l, 0, []), (.iload 6, 0, []), (.i2l, 0, []), (.invokestatic 67, 108, [(4, 3)]), (.ifCond .eq 16, 85, []), (.iload_n 3, 0, []), (.iload 5, 0, []), (.isub, 0, []), (.iconst 2, 0, []), (.irem, 0, []), (.ifCond .ne 7, 85, []), (.iconst 1, 0, []), (.goto 4, 86, [])]
def k115_85 : List zI := [(.iconst 0, 0, []), (.nop, 86, [])]
def k115_86 : List zI := [(.invokestatic 83, 109, [(1, 1)]), (.ireturn, 1, [])]
def zb115 : List (Nat × List zI) := [(0, k115_0), (19, k115_19), (22, k115_22), (46, k115_46), (56, k115_56), (85, k115_85), (86, k115_86)]
def k116_0 : List zI := [(.aload_n 0, 0, []), (.getfield 11, 192, []), (.iconst 1, 0, []), (.iaload, 0, []), (.iconst 1, 0, []), (.isub, 0, []), (.istore 4, 0, []), (.iload_n 1, 0, []), (.iload 4, 0, []), (.if_icmp .ne 40, 53, []), (.iload_n 2, 0, []), (.iload 4, 0, []), (.if_icmp .ne 34, 53, []), (.iload_n 3, 0, []), (.iload 4, 0, []), (.if_icmp .eq 7, 32, []), (.iconst 1, 0, []), (.goto 23, 52, [])]
def k116_32 : List zI := [(.aload_n 0, 0, []), (.getfield 11, 192, []), (.iconst 0, 0, []), (.iaload, 0, []), (.iconst 4, 0, []), (.if_icmp .ne 12, 51, []), (.aload_n 0, 0, []), (.getfield 11, 192, []), (.iconst 2, 0, []), (.iaload, 0, []), (.goto 4, 52, [])]
def k116_51 : List zI := [(.iconst 0, 0, []), (.nop, 52, [])]
def k116_52 : List zI := [(.ireturn, 1, [])]
def k116_53 : List zI := [(.iload_n 3, 0, []), (.iload_n 1, 0, []), (.iload 4, 0, []), (.if_icmp .eq 9, 66, []), (.iload_n 2, 0, []), (.iload 4, 0, []), (.if_icmp .ne 8, 71, []), (.nop, 66, [])]
def k116_66 : List zI := [(.iload 4, 0, []), (.goto 9, 77, [])]
def k116_71 : List zI := [(.iload_n 1, 0, []), (.iload_n 2, 0, []), (.iadd, 0, []), (.iload 4, 0, []), (.irem, 0, []), (.nop, 77, [])]
def k116_77 : List zI := [(.if_icmp .ne 7, 84, []), (.iconst 1, 0, []), (.goto 4, 85, [])]
def k116_84 : List zI := [(.iconst 0, 0, []), (.nop, 85, [])]
def k116_85 : List zI := [(.invokestatic 83, 109, [(1, 1)]), (.ireturn, 1, [])]
def zb116 : List (Nat × List zI) := [(0, k116_0), (32, k116_32), (51, k116_51), (52, k116_52), (53, k116_53), (66, k116_66), (71, k116_71), (77, k116_77), (84, k116_84), (85, k116_85)]
def k117_0 : List zI := [(.iload_n 1, 0, []), (.ifCond .eq 7, 8, []), (.iload_n 2, 0, []), (.ifCond .ne 19, 24, []), (.nop, 8, [])]
def k117_8 : List zI := [(.iload_n 3, 0, []), (.iload_n 1, 0, []), (.iload_n 2, 0, []), (.iadd, 0, []), (.if_icmp .ne 7, 19, []), (.iconst 1, 0, []), (.goto 4, 20, [])]
def k117_19 : List zI := [(.iconst 0, 0, []), (.nop, 20, [])]
def k117_20 : List zI := [(.invokestatic 83, 109, [(1, 1)]), (.ireturn, 1, [])]
def k117_24 : List zI := [(.aload_n 0, 0, []), (.getfield 11, 192, []), (.iconst 0, 0, []), (.iaload, 0, []), (.tableswitch 69 1 4 #[30, 53, 61, 61], 99, [(1, 60), (2, 83), (3, 91), (4, 91)])]
def k117_60 : List zI := [(.iload_n 3, 0, []), (.iload_n 1, 0, []), (.iload_n 2, 0, []), (.iadd, 0, []), (.aload_n 0, 0, []), (.getfield 11, 192, []), (.iconst 1, 0, []), (.iaload, 0, []), (.irem, 0, []), (.if_icmp .ne 7, 78, []), (.iconst 1, 0, []), (.goto 4, 79, [])]
def k117_78 : List zI := [(.iconst 0, 0, []), (.nop, 79, [])]
def k117_79 : List zI := [(.invokestatic 83, 109, [(1, 1)]), (.ireturn, 1, [])]
def k117_83 : List zI := [(.aload_n 0, 0, []), (.iload_n 1, 0, []), (.iload_n 2, 0, []), (.iload_n 3, 0, []), (.invokevirtual 87, 115, [(1, 4), (6, 0)]), (.ireturn, 1, [])]
def k117_91 : List zI := [(.aload_n 0, 0, []), (.iload_n 1, 0, []), (.iload_n 2, 0, []), (.iload_n 3, 0, []), (.invokevirtual 90, 116, [(1, 4), (6, 0)]), (.ireturn, 1, [])]
def k117_99 : List zI := [(.aload_n 0, 0, []), (.getfield 11, 192, []), (.iload_n 1, 0, []), (.iload_n 2, 0, []), (.iload_n 3, 0, []), (.invokestatic 79, 111, [(1, 3)]), (.iaload, 0, []), (.ireturn, 1, [])]
def zb117 : List (Nat × List zI) := [(0, k117_0), (8, k117_8), (19, k117_19), (20, k117_20), (24, k117_24), (60, k117_60), (78, k117_78), (79, k117_79), (83, k117_83), (91, k117_91), (99, k117_99)]
def k118_0 : List zI := [(.aload_n 0, 0, []), (.iload_n 1, 0, []), (.invokevirtual 93, 110, [(4, 2), (6, 0)]), (.ifCond .eq 29, 34, []), (.aload_n 0, 0, []), (.iload_n 2, 0, []), (.invokevirtual 93, 110, [(4, 2), (6, 0)]), (.ifCond .eq 21, 34, []), (.aload_n 0, 0, []), (.iload_n 3, 0, []), (.invokevirtual 93, 110, [(4, 2), (6, 0)]), (.ifCond .eq 13, 34, []), (.aload_n 0, 0, []), (.iload_n 1, 0, []), (.iload_n 2, 0, []), (.iload_n 3, 0, []), (.invokevirtual 97, 117, [(1, 4), (6, 0)]), (.goto 4, 35, [])]
def k118_34 : List zI := [(.iconst (-1), 0, []), (.nop, 35, [])]
def k118_35 : List zI := [(.ireturn, 1, [])]
def zb118 : List (Nat × List zI) := [(0, k118_0), (34, k118_34), (35, k118_35)]
def k119_0 : List zI := [(.aload_n 0, 0, []), (.getfield 11, 192, []), (.iconst 1, 0, []), (.iaload, 0, []), (.istore_n 1, 0, []), (.iconst 0, 0, []), (.istore_n 2, 0, []), (.nop, 9, [])]
def k119_9 : List zI := [(.iload_n 2, 0, []), (.iload_n 1, 0, []), (.if_icmp .ge 148, 159, []), (.iconst 0, 0, []), (.istore_n 3, 0, []), (.nop, 16, [])]
def k119_16 : List zI := [(.iload_n 3, 0, []), (.iload_n 1, 0, []), (.if_icmp .ge 135, 153, []), (.iconst 0, 0, []), (.istore 4, 0, []), (.nop, 24, [])]
def k119_24 : List zI := [(.iload 4, 0, []), (.iload_n 1, 0, []), (.if_icmp .ge 120, 147, []), (.iconst 0, 0, []), (.istore 5, 0, []), (.nop, 33, [])]
def k119_33 : List zI := [(.iload 5, 0, []), (.iload_n 1, 0, []), (.if_icmp .ge 105, 141, []), (.iconst 0, 0, []), (.istore 6, 0, []), (.iconst 0, 0, []), (.istore 7, 0, []), (.iconst 0, 0, []), (.istore 8, 0, []), (.nop, 48, [])]
def k119_48 : List zI := [(.iload 8, 0, []), (.iload_n 1, 0, []), (.if_icmp .ge 57, 108, []), (.iload 6, 0, []), (.aload_n 0, 0, []), (.iload_n 2, 0, []), (.iload_n 3, 0, []), (.iload 8, 0, []), (.invokevirtual 97, 117, [(1, 4), (6, 0)]), (.aload_n 0, 0, []), (.iload 8, 0, []), (.iload 4, 0, []), (.iload 5, 0, []), (.invokevirtual 97, 117, [(1, 4), (6, 0)]), (.imul, 0, []), (.iadd, 0, []), (.istore 6, 0, []), (.iload 7, 0, []), (.aload_n 0, 0, []), (.iload_n 3, 0, []), (.iload 4, 0, []), (.iload 8, 0, []), (.invokevirtual 97, 117, [(1, 4), (6, 0)]), (.aload_n 0, 0, []), (.iload_n 2, 0, []), (.iload 8, 0, []), (.iload 5, 0, []), (.invokevirtual 97, 117, [(1, 4), (6, 0)]), (.imul, 0, []), (.iadd, 0, []), (.istore 7, 0, []), (.iinc 8 1, 0, []), (.goto (-57), 48, [])]
def k119_108 : List zI := [(.iload 6, 0, []), (.iload 7, 0, []), (.if_icmp .eq 23, 135, []), (.sipush 1000, 0, []), (.iload_n 2, 0, []), (.imul, 0, []), (.bipush 100, 0, []), (.iload_n 3, 0, []), (.imul, 0, []), (.iadd, 0, []), (.bipush 10, 0, []), (.iload 4, 0, []), (.imul, 0, []), (.iadd, 0, []), (.iload 5, 0, []), (.iadd, 0, []), (.ireturn, 1, [])]
def k119_135 : List zI := [(.iinc 5 1, 0, []), (.goto (-105), 33, [])]
def k119_141 : List zI := [(.iinc 4 1, 0, []), (.goto (-120), 24, [])]
def k119_147 : List zI := [(.iinc 3 1, 0, []), (.goto (-134), 16, [])]
def k119_153 : List zI := [(.iinc 2 1, 0, []), (.goto (-147), 9, [])]
def k119_159 : List zI := [(.bipush (-5), 0, []), (.ireturn, 1, [])]
def zb119 : List (Nat × List zI) := [(0, k119_0), (9, k119_9), (16, k119_16), (24, k119_24), (33, k119_33), (48, k119_48), (108, k119_108), (135, k119_135), (141, k119_141), (147, k119_147), (153, k119_153), (159, k119_159)]
def k120_0 : List zI := [(.iconst 0, 0, []), (.istore_n 1, 0, []), (.nop, 2, [])]
def k120_2 : List zI := [(.iload_n 1, 0, []), (.aload_n 0, 0, []), (.getfield 11, 192, []), (.iconst 1, 0, []), (.iaload, 0, []), (.if_icmp .ge 69, 78, []), (.iconst 0, 0, []), (.istore_n 2, 0, []), (.nop, 14, [])]
def k120_14 : List zI := [(.iload_n 2, 0, []), (.aload_n 0, 0, []), (.getfield 11, 192, []), (.iconst 1, 0, []), (.iaload, 0, []), (.if_icmp .ge 51, 72, []), (.iconst 0, 0, []), (.istore_n 3, 0, []), (.nop, 26, [])]
def k120_26 : List zI := [(.iload_n 3, 0, []), (.aload_n 0, 0, []), (.getfield 11, 192, []), (.iconst 1, 0, []), (.iaload, 0, []), (.if_icmp .ge 33, 66, []), (.aload_n 0, 0, []), (.iload_n 1, 0, []), (.iload_n 2, 0, []), (.iload_n 3, 0, []), (.invokevirtual 97, 117, [(1, 4), (6, 0)]), (.aload_n 0, 0, []), (.iload_n 2, 0, []), (.iload_n 1, 0, []), (.iload_n 3, 0, []), (.invokevirtual 97, 117, [(1, 4), (6, 0)]), (.if_icmp .eq 10, 60, []), (.bipush 10, 0, []), (.iload_n 1, 0, []), (.imul, 0, []), (.iload_n 2, 0, []), (.iadd, 0, []), (.ireturn, 1, [])]
def k120_60 : List zI := [(.iinc 3 1, 0, []), (.goto (-37), 26, [])]
def k120_66 : List zI := [(.iinc 2 1, 0, []), (.goto (-55), 14, [])]
def k120_72 : List zI := [(.iinc 1 1, 0, []), (.goto (-73), 2, [])]
def k120_78 : List zI := [(.bipush (-5), 0, []), (.ireturn, 1, [])]
def zb120 : List (Nat × List zI) := [(0, k120_0), (2, k120_2), (14, k120_14), (26, k120_26), (60, k120_60), (66, k120_66), (72, k120_72), (78, k120_78)]
def k121_0 : List zI := [(.iload_n 1, 0, []), (.ifCond .ne 10, 11, []), (.aload_n 0, 0, []), (.invokevirtual 100, 119, [(1, 1), (6, 0)]), (.goto 16, 24, [])]
def k121_11 : List zI := [(.iload_n 1, 0, []), (.iconst 1, 0, []), (.if_icmp .ne 10, 23, []), (.aload_n 0, 0, []), (.invokevirtual 104, 120, [(1, 1), (6, 0)]), (.goto 4, 24, [])]
def k121_23 : List zI := [(.iconst (-1), 0, []), (.nop, 24, [])]
def k121_24 : List zI := [(.ireturn, 1, [])]
def zb121 : List (Nat × List zI) := [(0, k121_0), (11, k121_11), (23, k121_23), (24, k121_24)]
def k122_0 : List zI := [(.aload_n 0, 0, []), (.iload_n 1, 0, []), (.invokevirtual 93, 110, [(4, 2), (6, 0)]), (.ifCond .ne 5, 10, []), (.iconst (-1), 0, []), (.ireturn, 1, [])]
def k122_10 : List zI := [(.bipush (-5), 0, []), (.istore_n 2, 0, []), (.iconst 0, 0, []), (.istore_n 3, 0, []), (.iconst 0, 0, []), (.istore 4, 0, []), (.nop, 18, [])]
def k122_18 : List zI := [(.iload 4, 0, []), (.aload_n 0, 0, []), (.getfield 11, 192, []), (.iconst 1, 0, []), (.iaload, 0, []), (.if_icmp .ge 43, 69, []), (.aload_n 0, 0, []), (.iload_n 1, 0, []), (.iload 4, 0, []), (.iconst 0, 0, []), (.invokevirtual 97, 117, [(1, 4), (6, 0)]), (.ifCond .le 26, 63, []), (.aload_n 0, 0, []), (.iload_n 1, 0, []), (.iload 4, 0, []), (.iconst 0, 0, []), (.invokevirtual 97, 117, [(1, 4), (6, 0)]), (.iconst 1, 0, []), (.if_icmp .ne 8, 57, []), (.iload 4, 0, []), (.goto 5, 59, [])]
def k122_57 : List zI := [(.bipush (-5), 0, []), (.nop, 59, [])]
def k122_59 : List zI := [(.istore_n 2, 0, []), (.iinc 3 1, 0, []), (.nop, 63, [])]
def k122_63 : List zI := [(.iinc 4 1, 0, []), (.goto (-48), 18, [])]
def k122_69 : List zI := [(.iload_n 3, 0, []), (.iconst 1, 0, []), (.if_icmp .ne 7, 78, []), (.iload_n 2, 0, []), (.goto 5, 80, [])]
def k122_78 : List zI := [(.bipush (-5), 0, []), (.nop, 80, [])]
def k122_80 : List zI := [(.ireturn, 1, [])]
def zb122 : List (Nat × List zI) := [(0, k122_0), (10, k122_10), (18, k122_18), (57, k122_57), (59, k122_59), (63, k122_63), (69, k122_69), (78, k122_78), (80, k122_80)]
def k123_0 : List zI := [(.iconst 0, 0, []), (.istore_n 2, 0, []), (.nop, 2, [])]
def k123_2 : List zI := [(.iload_n 2, 0, []), (.iconst 5, 0, []), (.if_icmp .ge 29, 33, []), (.aload_n 0, 0, []), (.getfield 18, 195, []), (.iload_n 2, 0, []), (.iload_n 2, 0, []), (.iload_n 1, 0, []), (.if_icmp .ne 7, 21, []), (.iconst 1, 0, []), (.goto 4, 22, [])]
def k123_21 : List zI := [(.iconst 0, 0, []), (.nop, 22, [])]
def k123_22 : List zI := [(.invokestatic 83, 109, [(1, 1)]), (.i2l, 0, []), (.lastore, 0, []), (.iinc 2 1, 0, []), (.goto (-28), 2, [])]
def k123_33 : List zI := [(.return_, 0, [])]
def zb123 : List (Nat × List zI) := [(0, k123_0), (2, k123_2), (21, k123_21), (22, k123_22), (33, k123_33)]
def k124_0 : List zI := [(.iconst 0, 0, []), (.istore_n 2, 0, []), (.nop, 2, [])]
def k124_2 : List zI := [(.iload_n 2, 0, []), (.aload_n 0, 0, []), (.getfield 11, 192, []), (.iconst 1, 0, []), (.iaload, 0, []), (.if_icmp .ge 58, 67, []), (.aload_n 0, 0, []), (.getfield 22, 196, []), (.iload_n 2, 0, []), (.lconst 0, 0, []), (.lastore, 0, []), (.iconst 0, 0, []), (.istore_n 3, 0, []), (.nop, 21, [])]
def k124_21 : List zI := [(.iload_n 3, 0, []), (.aload_n 0, 0, []), (.getfield 11, 192, []), (.iconst 1, 0, []), (.iaload, 0, []), (.if_icmp .ge 33, 61, []), (.aload_n 0, 0, []), (.getfield 22, 196, []), (.iload_n 2, 0, []), (.dup2, 0, []), (.laload, 0, []), (.aload_n 0, 0, []), (.getfield 18, 195, []), (.iload_n 3, 0, []), (.laload, 0, []), (.aload_n 0, 0, []), (.iload_n 3, 0, []), (.iload_n 1, 0, []), (.iload_n 2, 0, []), (.invokevirtual 97, 117, [(1, 4), (6, 0)]), (.i2l, 0, []), (.lmul, 0, []), (.ladd, 0, []), (.lastore, 0, []), (.iinc 3 1, 0, []), (.goto (-37), 21, [])]
def k124_61 : List zI := [(.iinc 2 1, 0, []), (.goto (-62), 2, [])]
def k124_67 : List zI := [(.aload_n 0, 0, []), (.getfield 22, 196, []), (.iconst 0, 0, []), (.aload_n 0, 0, []), (.getfield 18, 195, []), (.iconst 0, 0, []), (.aload_n 0, 0, []), (.getfield 11, 192, []), (.iconst 1, 0, []), (.iaload, 0, []), (.invokestatic 107, 0, [(9, 5)]), (.return_, 0, [])]
def zb124 : List (Nat × List zI) := [(0, k124_0), (2, k124_2), (21, k124_21), (61, k124_61), (67, k124_67)]
def k125_0 : List zI := [(.aload_n 0, 0, []), (.iload_n 1, 0, []), (.invokevirtual 93, 110, [(4, 2), (6, 0)]), (.ifCond .eq 23, 28, []), (.aload_n 0, 0, []), (.iload_n 3, 0, []), (.invokevirtual 93, 110, [(4, 2), (6, 0)]), (.ifCond .eq 15, 28, []), (.iload_n 2, 0, []), (.i2l, 0, []), (.lconst 0, 0, []), (.ldc2_w 113, 0, [(8, 0)]), (.invokestatic 67, 108, [(4, 3)]), (.ifCond .ne 7, 32, []), (.nop, 28, [])]
def k125_28 : List zI := [(.ldc2_w 115, 0, [(-9223372036854775808, 0)]), (.lreturn, 2, [])]
def k125_32 : List zI := [(.aload_n 0, 0, []), (.iconst 0, 0, []), (.invokevirtual 117, 123, [(0, 2), (6, 0)]), (.iconst 0, 0, []), (.istore 4, 0, []), (.nop, 40, [])]
def k125_40 : List zI := [(.iload 4, 0, []), (.iload_n 2, 0, []), (.if_icmp .ge 14, 57, []), (.aload_n 0, 0, []), (.iload_n 1, 0, []), (.invokevirtual 121, 124, [(0, 2), (6, 0)]), (.iinc 4 1, 0, []), (.goto (-14), 40, [])]
def k125_57 : List zI := [(.aload_n 0, 0, []), (.getfield 18, 195, []), (.iload_n 3, 0, []), (.laload, 0, []), (.lreturn, 2, [])]
def zb125 : List (Nat × List zI) := [(0, k125_0), (28, k125_28), (32, k125_32), (40, k125_40), (57, k125_57)]
def k126_0 : List zI := [(.iload_n 1, 0, []), (.i2l, 0, []), (.lconst 1, 0, []), (.ldc2_w 124, 0, [(127, 0)]), (.invokestatic 67, 108, [(4, 3)]), (.ifCond .ne 6, 15, []), (.bipush (-2), 0, []), (.ireturn, 1, [])]
def k126_15 : List zI := [(.aload_n 0, 0, []), (.getfield 126, 198, []), (.bipush 60, 0, []), (.if_icmp .ne 6, 27, []), (.bipush (-4), 0, []), (.ireturn, 1, [])]
def k126_27 : List zI := [(.aload_n 0, 0, []), (.getfield 25, 197, []), (.aload_n 0, 0, []), (.getfield 126, 198, []), (.iload_n 1, 0, []), (.iastore, 0, []), (.aload_n 0, 0, []), (.dup, 0, []), (.getfield 126, 198, []), (.iconst 1, 0, []), (.iadd, 0, []), (.putfield 126, 198, []), (.aload_n 0, 0, []), (.getfield 126, 198, []), (.ireturn, 1, [])]
def zb126 : List (Nat × List zI) := [(0, k126_0), (15, k126_15), (27, k126_27)]
def k127_0 : List zI := [(.aload_n 0, 0, []), (.getfield 130, 199, []), (.aload_n 0, 0, []), (.getfield 126, 198, []), (.if_icmp .ge 27, 35, []), (.aload_n 0, 0, []), (.getfield 25, 197, []), (.aload_n 0, 0, []), (.getfield 130, 199, []), (.iaload, 0, []), (.i2l, 0, []), (.iload_n 1, 0, []), (.i2l, 0, []), (.iload_n 2, 0, []), (.i2l, 0, []), (.invokestatic 67, 108, [(4, 3)]), (.ifCond .eq 7, 35, []), (.iconst 1, 0, []), (.goto 4, 36, [])]
def k127_35 : List zI := [(.iconst 0, 0, []), (.nop, 36, [])]
def k127_36 : List zI := [(.ireturn, 4, [])]
def zb127 : List (Nat × List zI) := [(0, k127_0), (35, k127_35), (36, k127_36)]
def k128_0 : List zI := [(.aload_n 0, 0, []), (.aload_n 0, 0, []), (.getfield 133, 200, []), (.ifCond .ge 10, 15, []), (.aload_n 0, 0, []), (.getfield 130, 199, []), (.goto 7, 19, [])]
def k128_15 : List zI := [(.aload_n 0, 0, []), (.getfield 133, 200, []), (.nop, 19, [])]
def k128_19 : List zI := [(.putfield 133, 200, []), (.return_, 0, [])]
def zb128 : List (Nat × List zI) := [(0, k128_0), (15, k128_15), (19, k128_19)]
def k129_0 : List zI := [(.aload_n 0, 0, []), (.getfield 133, 200, []), (.ifCond .ge 25, 29, []), (.aload_n 0, 0, []), (.bipush 97, 0, []), (.iload_n 1, 0, []), (.iadd, 0, []), (.bipush 97, 0, []), (.aload_n 0, 0, []), (.getfield 11, 192, []), (.iconst 1, 0, []), (.iaload, 0, []), (.iadd, 0, []), (.iconst 1, 0, []), (.isub, 0, []), (.invokevirtual 136, 127, [(4, 3), (6, 0)]), (.ifCond .ne 9, 35, []), (.nop, 29, [])]
def k129_29 : List zI := [(.aload_n 0, 0, []), (.invokevirtual 140, 128, [(0, 1), (6, 0)]), (.iconst 0, 0, []), (.ireturn, 1, [])]
def k129_35 : List zI := [(.aload_n 0, 0, []), (.dup, 0, []), (.getfield 130, 199, []), (.iconst 1, 0, []), (.iadd, 0, []), (.putfield 130, 199, []), (.aload_n 0, 0, []), (.getfield 25, 197, []), (.aload_n 0, 0, []), (.getfield 130, 199, []), (.iconst 1, 0, []), (.isub, 0, []), (.iaload, 0, []), (.bipush 97, 0, []), (.isub, 0, []), (.ireturn, 1, [])]
def zb129 : List (Nat × List zI) := [(0, k129_0), (29, k129_29), (35, k129_35)]
def k130_0 : List zI := [(.aload_n 0, 0, []), (.getfield 133, 200, []), (.ifCond .ge 25, 29, []), (.aload_n 0, 0, []), (.iload_n 1, 0, []), (.iload_n 1, 0, []), (.invokevirtual 136, 127, [(4, 3), (6, 0)]), (.ifCond .eq 16, 29, []), (.aload_n 0, 0, []), (.dup, 0, []), (.getfield 130, 199, []), (.iconst 1, 0, []), (.iadd, 0, []), (.putfield 130, 199, []), (.goto 7, 33, [])]
def k130_29 : List zI := [(.aload_n 0, 0, []), (.invokevirtual 140, 128, [(0, 1), (6, 0)]), (.nop, 33, [])]
def k130_33 : List zI := [(.return_, 0, [])]
def zb130 : List (Nat × List zI) := [(0, k130_0), (29, k130_29), (33, k130_33)]
def k131_0 : List zI := [(.iconst 1, 0, []), (.istore 4, 0, []), (.aload_n 0, 0, []), (.bipush 48, 0, []), (.iload_n 1, 0, []), (.iadd, 0, []), (.bipush 57, 0, []), (.invokevirtual 136, 127, [(4, 3), (6, 0)]), (.ifCond .eq 83, 96, []), (.aload_n 0, 0, []), (.getfield 25, 197, []), (.aload_n 0, 0, []), (.getfield 130, 199, []), (.iaload, 0, []), (.bipush 48, 0, []), (.isub, 0, []), (.istore 4, 0, []), (.aload_n 0, 0, []), (.dup, 0, []), (.getfield 130, 199, []), (.iconst 1, 0, []), (.iadd, 0, []), (.putfield 130, 199, []), (.iconst 1, 0, []), (.istore 5, 0, []), (.nop, 43, [])]
def k131_43 : List zI := [(.iload 5, 0, []), (.iload_n 2, 0, []), (.if_icmp .ge 50, 96, []), (.aload_n 0, 0, []), (.bipush 48, 0, []), (.bipush 57, 0, []), (.invokevirtual 136, 127, [(4, 3), (6, 0)]), (.ifCond .eq 39, 96, []), (.bipush 10, 0, []), (.iload 4, 0, []), (.imul, 0, []), (.aload_n 0, 0, []), (.getfield 25, 197, []), (.aload_n 0, 0, []), (.getfield 130, 199, []), (.iaload, 0, []), (.iadd, 0, []), (.bipush 48, 0, []), (.isub, 0, []), (.istore 4, 0, []), (.aload_n 0, 0, []), (.dup, 0, []), (.getfield 130, 199, []), (.iconst 1, 0, []), (.iadd, 0, []), (.putfield 130, 199, []), (.iinc 5 1, 0, []), (.goto (-50), 43, [])]
def k131_96 : List zI := [(.aload_n 0, 0, []), (.iconst 0, 0, []), (.invokevirtual 143, 129, [(1, 2), (6, 0)]), (.istore 5, 0, []), (.aload_n 0, 0, []), (.getfield 28, 201, []), (.iload 5, 0, []), (.aload_n 0, 0, []), (.getfield 28, 201, []), (.iload 5, 0, []), (.iaload, 0, []), (.iload 4, 0, []), (.iadd, 0, []), (.iload_n 3, 0, []), (.if_icmp .le 7, 127, []), (.iload_n 3, 0, []), (.goto 13, 137, [])]
def k131_127 : List zI := [(.aload_n 0, 0, []), (.getfield 28, 201, []), (.iload 5, 0, []), (.iaload, 0, []), (.iload 4, 0, []), (.iadd, 0, []), (.nop, 137, [])]
def k131_137 : List zI := [(.iastore, 0, []), (.aload_n 0, 0, []), (.dup, 0, []), (.getfield 147, 202, []), (.iconst 1, 0, []), (.iadd, 0, []), (.putfield 147, 202, []), (.return_, 0, [])]
def zb131 : List (Nat × List zI) := [(0, k131_0), (43, k131_43), (96, k131_96), (127, k131_127), (137, k131_137)]
def k132_0 : List zI := [(.iconst 0, 0, []), (.istore 4, 0, []), (.nop, 3, [])]
def k132_3 : List zI := [(.iload 4, 0, []), (.iconst 5, 0, []), (.if_icmp .ge 17, 23, []), (.aload_n 0, 0, []), (.getfield 28, 201, []), (.iload 4, 0, []), (.iconst 0, 0, []), (.iastore, 0, []), (.iinc 4 1, 0, []), (.goto (-17), 3, [])]
def k132_23 : List zI := [(.aload_n 0, 0, []), (.iconst 0, 0, []), (.putfield 147, 202, []), (.aload_n 0, 0, []), (.getfield 133, 200, []), (.ifCond .ge 25, 57, []), (.aload_n 0, 0, []), (.bipush 48, 0, []), (.bipush 48, 0, []), (.invokevirtual 136, 127, [(4, 3), (6, 0)]), (.ifCond .eq 14, 57, []), (.aload_n 0, 0, []), (.dup, 0, []), (.getfield 130, 199, []), (.iconst 1, 0, []), (.iadd, 0, []), (.putfield 130, 199, []), (.return_, 0, [])]
def k132_57 : List zI := [(.aload_n 0, 0, []), (.getfield 133, 200, []), (.ifCond .ge 10, 71, []), (.aload_n 0, 0, []), (.iload_n 1, 0, []), (.iload_n 2, 0, []), (.iload_n 3, 0, []), (.invokevirtual 150, 131, [(0, 4), (6, 0)]), (.nop, 71, [])]
def k132_71 : List zI := [(.aload_n 0, 0, []), (.getfield 133, 200, []), (.ifCond .ge 34, 109, []), (.aload_n 0, 0, []), (.bipush 43, 0, []), (.bipush 43, 0, []), (.invokevirtual 136, 127, [(4, 3), (6, 0)]), (.ifCond .eq 23, 109, []), (.aload_n 0, 0, []), (.dup, 0, []), (.getfield 130, 199, []), (.iconst 1, 0, []), (.iadd, 0, []), (.putfield 130, 199, []), (.aload_n 0, 0, []), (.iload_n 1, 0, []), (.iload_n 2, 0, []), (.iload_n 3, 0, []), (.invokevirtual 150, 131, [(0, 4), (6, 0)]), (.goto (-35), 71, [])]
def k132_109 : List zI := [(.return_, 0, [])]
def zb132 : List (Nat × List zI) := [(0, k132_0), (3, k132_3), (23, k132_23), (57, k132_57), (71, k132_71), (109, k132_109)]
def k133_0 : List zI := [(.aload_n 0, 0, []), (.iconst 0, 0, []), (.putfield 130, 199, []), (.aload_n 0, 0, []), (.iconst (-1), 0, []), (.putfield 133, 200, []), (.iconst 0, 0, []), (.istore_n 2, 0, []), (.nop, 12, [])]
def k133_12 : List zI := [(.aload_n 0, 0, []), (.getfield 133, 200, []), (.ifCond .ge 126, 142, []), (.iload_n 2, 0, []), (.ifCond .eq 14, 34, []), (.aload_n 0, 0, []), (.getfield 130, 199, []), (.aload_n 0, 0, []), (.getfield 126, 198, []), (.if_icmp .ge 111, 142, []), (.nop, 34, [])]
def k133_34 : List zI := [(.iload_n 2, 0, []), (.ifCond .le 9, 44, []), (.aload_n 0, 0, []), (.bipush 59, 0, []), (.invokevirtual 154, 130, [(0, 2), (6, 0)]), (.nop, 44, [])]
def k133_44 : List zI := [(.aload_n 0, 0, []), (.iconst 1, 0, []), (.invokevirtual 143, 129, [(1, 2), (6, 0)]), (.istore_n 3, 0, []), (.aload_n 0, 0, []), (.bipush 42, 0, []), (.invokevirtual 154, 130, [(0, 2), (6, 0)]), (.aload_n 0, 0, []), (.iconst 1, 0, []), (.invokevirtual 143, 129, [(1, 2), (6, 0)]), (.istore 4, 0, []), (.aload_n 0, 0, []), (.bipush 61, 0, []), (.invokevirtual 154, 130, [(0, 2), (6, 0)]), (.aload_n 0, 0, []), (.iconst 2, 0, []), (.iconst 1, 0, []), (.bipush 9, 0, []), (.invokevirtual 157, 132, [(0, 4), (6, 0)]), (.iconst 0, 0, []), (.istore 5, 0, []), (.nop, 80, [])]
def k133_80 : List zI := [(.iload_n 1, 0, []), (.ifCond .eq 55, 136, []), (.iload 5, 0, []), (.iconst 5, 0, []), (.if_icmp .ge 49, 136, []), (.aload_n 0, 0, []), (.getfield 11, 192, []), (.iload_n 3, 0, []), (.iload 4, 0, []), (.iload 5, 0, []), (.invokestatic 79, 111, [(1, 3)]), (.aload_n 0, 0, []), (.getfield 28, 201, []), (.iload 5, 0, []), (.iaload, 0, []), (.iastore, 0, []), (.aload_n 0, 0, []), (.getfield 11, 192, []), (.iload 4, 0, []), (.iload_n 3, 0, []), (.iload 5, 0, []), (.invokestatic 79, 111, [(1, 3)]), (.aload_n 0, 0, []), (.getfield 28, 201, []), (.iload 5, 0, []), (.iaload, 0, []), (.iastore, 0, []), (.iinc 5 1, 0, []), (.goto (-53), 80, [])]
def k133_136 : List zI := [(.iinc 2 1, 0, []), (.goto (-127), 12, [])]
def k133_142 : List zI := [(.iload_n 2, 0, []), (.ireturn, 1, [])]
def zb133 : List (Nat × List zI) := [(0, k133_0), (12, k133_12), (34, k133_34), (44, k133_44), (80, k133_80), (136, k133_136), (142, k133_142)]
def k134_0 : List zI := [(.aload_n 0, 0, []), (.iconst 0, 0, []), (.invokevirtual 160, 133, [(1, 2), (6, 0)]), (.istore_n 1, 0, []), (.aload_n 0, 0, []), (.getfield 133, 200, []), (.ifCond .ge 9, 19, []), (.aload_n 0, 0, []), (.iconst 1, 0, []), (.invokevirtual 160, 133, [(1, 2), (6, 0)]), (.istore_n 1, 0, []), (.nop, 19, [])]
def k134_19 : List zI := [(.aload_n 0, 0, []), (.iconst 0, 0, []), (.putfield 126, 198, []), (.aload_n 0, 0, []), (.getfield 133, 200, []), (.ifCond .ge 7, 35, []), (.iload_n 1, 0, []), (.goto 10, 42, [])]
def k134_35 : List zI := [(.bipush (-100), 0, []), (.aload_n 0, 0, []), (.getfield 133, 200, []), (.isub, 0, []), (.nop, 42, [])]
def k134_42 : List zI := [(.ireturn, 1, [])]
def zb134 : List (Nat × List zI) := [(0, k134_0), (19, k134_19), (35, k134_35), (42, k134_42)]
def k135_0 : List zI := [(.iload_n 0, 0, []), (.i2l, 0, []), (.lconst 0, 0, []), (.ldc2_w 163, 0, [(3, 0)]), (.invokestatic 67, 108, [(4, 3)]), (.ireturn, 4, [])]
def zb135 : List (Nat × List zI) := [(0, k135_0)]
def k136_0 : List zI := [(.sipush 128, 0, []), (.iconst 5, 0, []), (.iload_n 0, 0, []), (.imul, 0, []), (.iadd, 0, []), (.iload_n 1, 0, []), (.iadd, 0, []), (.ireturn, 1, [])]
def zb136 : List (Nat × List zI) := [(0, k136_0)]
def k137_0 : List zI := [(.iload_n 1, 0, []), (.invokestatic 165, 135, [(4, 1)]), (.ifCond .ne 5, 9, []), (.iconst (-1), 0, []), (.ireturn, 1, [])]
def k137_9 : List zI := [(.aload_n 0, 0, []), (.iconst 0, 0, []), (.putfield 130, 199, []), (.aload_n 0, 0, []), (.iconst (-1), 0, []), (.putfield 133, 200, []), (.aload_n 0, 0, []), (.iconst 1, 0, []), (.iconst 3, 0, []), (.sipush 999, 0, []), (.invokevirtual 157, 132, [(0, 4), (6, 0)]), (.aload_n 0, 0, []), (.getfield 130, 199, []), (.aload_n 0, 0, []), (.getfield 126, 198, []), (.if_icmp .ge 7, 43, []), (.aload_n 0, 0, []), (.invokevirtual 140, 128, [(0, 1), (6, 0)]), (.nop, 43, [])]
def k137_43 : List zI := [(.aload_n 0, 0, []), (.iconst 0, 0, []), (.putfield 126, 198, []), (.aload_n 0, 0, []), (.getfield 133, 200, []), (.ifCond .lt 11, 63, []), (.bipush (-100), 0, []), (.aload_n 0, 0, []), (.getfield 133, 200, []), (.isub, 0, []), (.ireturn, 1, [])]
def k137_63 : List zI := [(.aload_n 0, 0, []), (.getfield 28, 201, []), (.iconst 0, 0, []), (.aload_n 0, 0, []), (.getfield 11, 192, []), (.iload_n 1, 0, []), (.iconst 0, 0, []), (.invokestatic 168, 136, [(1, 2)]), (.aload_n 0, 0, []), (.getfield 11, 192, []), (.iconst 1, 0, []), (.iaload, 0, []), (.invokestatic 107, 0, [(9, 5)]), (.aload_n 0, 0, []), (.getfield 147, 202, []), (.ireturn, 1, [])]
def zb137 : List (Nat × List zI) := [(0, k137_0), (9, k137_9), (43, k137_43), (63, k137_63)]
def k138_0 : List zI := [(.iload_n 1, 0, []), (.invokestatic 165, 135, [(4, 1)]), (.ifCond .eq 24, 28, []), (.aload_n 0, 0, []), (.iload_n 2, 0, []), (.invokevirtual 93, 110, [(4, 2), (6, 0)]), (.ifCond .eq 16, 28, []), (.aload_n 0, 0, []), (.getfield 11, 192, []), (.iload_n 1, 0, []), (.iload_n 2, 0, []), (.invokestatic 168, 136, [(1, 2)]), (.iaload, 0, []), (.goto 4, 29, [])]
def k138_28 : List zI := [(.iconst (-1), 0, []), (.nop, 29, [])]
def k138_29 : List zI := [(.ireturn, 1, [])]
def zb138 : List (Nat × List zI) := [(0, k138_0), (28, k138_28), (29, k138_29)]
def k139_0 : List zI := [(.iload_n 1, 0, []), (.invokestatic 165, 135, [(4, 1)]), (.ifCond .eq 11, 15, []), (.aload_n 0, 0, []), (.iload_n 2, 0, []), (.invokevirtual 93, 110, [(4, 2), (6, 0)]), (.ifCond .ne 5, 17, []), (.nop, 15, [])]
def k139_15 : List zI := [(.iconst (-1), 0, []), (.ireturn, 1, [])]
def k139_17 : List zI := [(.iload_n 3, 0, []), (.i2l, 0, []), (.lconst 0, 0, []), (.ldc2_w 172, 0, [(999, 0)]), (.invokestatic 67, 108, [(4, 3)]), (.ifCond .ne 6, 32, []), (.bipush (-2), 0, []), (.ireturn, 1, [])]
def k139_32 : List zI := [(.aload_n 0, 0, []), (.getfield 11, 192, []), (.iload_n 1, 0, []), (.iload_n 2, 0, []), (.invokestatic 168, 136, [(1, 2)]), (.iaload, 0, []), (.istore 4, 0, []), (.aload_n 0, 0, []), (.getfield 11, 192, []), (.iload_n 1, 0, []), (.iload_n 2, 0, []), (.invokestatic 168, 136, [(1, 2)]), (.iload_n 3, 0, []), (.iastore, 0, []), (.iload 4, 0, []), (.ireturn, 1, [])]
def zb139 : List (Nat × List zI) := [(0, k139_0), (15, k139_15), (17, k139_17), (32, k139_32)]
def k140_0 : List zI := [(.iload_n 1, 0, []), (.invokestatic 165, 135, [(4, 1)]), (.ifCond .eq 10, 14, []), (.iload_n 2, 0, []), (.invokestatic 165, 135, [(4, 1)]), (.ifCond .ne 5, 16, []), (.nop, 14, [])]
def k140_14 : List zI := [(.iconst (-1), 0, []), (.ireturn, 1, [])]
def k140_16 : List zI := [(.iconst 1, 0, []), (.istore_n 3, 0, []), (.iconst 0, 0, []), (.istore 4, 0, []), (.nop, 21, [])]
def k140_21 : List zI := [(.iload 4, 0, []), (.aload_n 0, 0, []), (.getfield 11, 192, []), (.iconst 1, 0, []), (.iaload, 0, []), (.if_icmp .ge 128, 157, []), (.aload_n 0, 0, []), (.getfield 22, 196, []), (.iload 4, 0, []), (.lconst 0, 0, []), (.lastore, 0, []), (.iconst 0, 0, []), (.istore 5, 0, []), (.nop, 43, [])]
def k140_43 : List zI := [(.iload 5, 0, []), (.aload_n 0, 0, []), (.getfield 11, 192, []), (.iconst 1, 0, []), (.iaload, 0, []), (.if_icmp .ge 76, 127, []), (.iconst 0, 0, []), (.istore 6, 0, []), (.nop, 57, [])]
def k140_57 : List zI := [(.iload 6, 0, []), (.aload_n 0, 0, []), (.getfield 11, 192, []), (.iconst 1, 0, []), (.iaload, 0, []), (.if_icmp .ge 56, 121, []), (.aload_n 0, 0, []), (.getfield 22, 196, []), (.iload 4, 0, []), (.dup2, 0, []), (.laload, 0, []), (.aload_n 0, 0, []), (.getfield 11, 192, []), (.iload_n 1, 0, []), (.iload 5, 0, []), (.invokestatic 168, 136, [(1, 2)]), (.iaload, 0, []), (.i2l, 0, []), (.aload_n 0, 0, []), (.getfield 11, 192, []), (.iload_n 2, 0, []), (.iload 6, 0, []), (.invokestatic 168, 136, [(1, 2)]), (.iaload, 0, []), (.i2l, 0, []), (.lmul, 0, []), (.aload_n 0, 0, []), (.iload 5, 0, []), (.iload 6, 0, []), (.iload 4, 0, []), (.invokevirtual 97, 117, [(1, 4), (6, 0)]), (.i2l, 0, []), (.lmul, 0, []), (.ladd, 0, []), (.lastore, 0, []), (.iinc 6 1, 0, []), (.goto (-61), 57, [])]
def k140_121 : List zI := [(.iinc 5 1, 0, []), (.goto (-81), 43, [])]
def k140_127 : List zI := [(.iload_n 3, 0, []), (.ifCond .eq 21, 149, []), (.aload_n 0, 0, []), (.getfield 22, 196, []), (.iload 4, 0, []), (.laload, 0, []), (.ldc2_w 172, 0, [(999, 0)]), (.lcmp, 0, []), (.ifCond .gt 7, 149, []), (.iconst 1, 0, []), (.goto 4, 150, [])]
def k140_149 : List zI := [(.iconst 0, 0, []), (.nop, 150, [])]
def k140_150 : List zI := [(.istore_n 3, 0, []), (.iinc 4 1, 0, []), (.goto (-133), 21, [])]
def k140_157 : List zI := [(.iconst 0, 0, []), (.istore 4, 0, []), (.iconst 0, 0, []), (.istore 5, 0, []), (.nop, 163, [])]
def k140_163 : List zI := [(.iload_n 3, 0, []), (.ifCond .eq 53, 217, []), (.iload 5, 0, []), (.aload_n 0, 0, []), (.getfield 11, 192, []), (.iconst 1, 0, []), (.iaload, 0, []), (.if_icmp .ge 42, 217, []), (.aload_n 0, 0, []), (.getfield 11, 192, []), (.iload_n 1, 0, []), (.iload 5, 0, []), (.invokestatic 168, 136, [(1, 2)]), (.aload_n 0, 0, []), (.getfield 22, 196, []), (.iload 5, 0, []), (.laload, 0, []), (.l2i, 0, []), (.iastore, 0, []), (.iload 4, 0, []), (.i2l, 0, []), (.aload_n 0, 0, []), (.getfield 22, 196, []), (.iload 5, 0, []), (.laload, 0, []), (.ladd, 0, []), (.l2i, 0, []), (.istore 4, 0, []), (.iinc 5 1, 0, []), (.goto (-51), 163, [])]
def k140_217 : List zI := [(.iload_n 3, 0, []), (.ifCond .eq 8, 226, []), (.iload 4, 0, []), (.goto 5, 228, [])]
def k140_226 : List zI := [(.bipush (-3), 0, []), (.nop, 228, [])]
def k140_228 : List zI := [(.ireturn, 1, [])]
def zb140 : List (Nat × List zI) := [(0, k140_0), (14, k140_14), (16, k140_16), (21, k140_21), (43, k140_43), (57, k140_57), (121, k140_121), (127, k140_127), (149, k140_149), (150, k140_150), (157, k140_157), (163, k140_163), (217, k140_217), (226, k140_226), (228, k140_228)]
def k141_0 : List zI := [(.iload_n 1, 0, []), (.i2l, 0, []), (.lconst 0, 0, []), (.iconst 1, 0, []), (.aload_n 0, 0, []), (.getfield 11, 192, []), (.iconst 1, 0, []), (.iaload, 0, []), (.ishl, 0, []), (.iconst 1, 0, []), (.isub, 0, []), (.i2l, 0, []), (.invokestatic 67, 108, [(4, 3)]), (.ireturn, 4, [])]
def zb141 : List (Nat × List zI) := [(0, k141_0)]
def k142_0 : List zI := [(.iconst 0, 0, []), (.istore_n 2, 0, []), (.iconst 0, 0, []), (.istore_n 3, 0, []), (.nop, 4, [])]
def k142_4 : List zI := [(.iload_n 3, 0, []), (.aload_n 0, 0, []), (.getfield 11, 192, []), (.iconst 1, 0, []), (.iaload, 0, []), (.if_icmp .ge 89, 100, []), (.iconst 0, 0, []), (.istore 4, 0, []), (.nop, 17, [])]
def k142_17 : List zI := [(.iload 4, 0, []), (.aload_n 0, 0, []), (.getfield 11, 192, []), (.iconst 1, 0, []), (.iaload, 0, []), (.if_icmp .ge 69, 94, []), (.iconst 0, 0, []), (.istore 5, 0, []), (.nop, 31, [])]
def k142_31 : List zI := [(.iload 5, 0, []), (.aload_n 0, 0, []), (.getfield 11, 192, []), (.iconst 1, 0, []), (.iaload, 0, []), (.if_icmp .ge 49, 88, []), (.iload_n 2, 0, []), (.iload_n 1, 0, []), (.iload_n 3, 0, []), (.ishr, 0, []), (.iload_n 1, 0, []), (.iload 4, 0, []), (.ishr, 0, []), (.iand, 0, []), (.iconst 1, 0, []), (.iand, 0, []), (.iconst 1, 0, []), (.if_icmp .ne 19, 73, []), (.aload_n 0, 0, []), (.iload_n 3, 0, []), (.iload 4, 0, []), (.iload 5, 0, []), (.invokevirtual 97, 117, [(1, 4), (6, 0)]), (.ifCond .le 7, 73, []), (.iconst 1, 0, []), (.goto 4, 74, [])]
def k142_73 : List zI := [(.iconst 0, 0, []), (.nop, 74, [])]
def k142_74 : List zI := [(.invokestatic 83, 109, [(1, 1)]), (.iload 5, 0, []), (.ishl, 0, []), (.ior, 0, []), (.istore_n 2, 0, []), (.iinc 5 1, 0, []), (.goto (-54), 31, [])]
def k142_88 : List zI := [(.iinc 4 1, 0, []), (.goto (-74), 17, [])]
def k142_94 : List zI := [(.iinc 3 1, 0, []), (.goto (-93), 4, [])]
def k142_100 : List zI := [(.iload_n 2, 0, []), (.ireturn, 1, [])]
def zb142 : List (Nat × List zI) := [(0, k142_0), (4, k142_4), (17, k142_17), (31, k142_31), (73, k142_73), (74, k142_74), (88, k142_88), (94, k142_94), (100, k142_100)]
def k143_0 : List zI := [(.iload_n 1, 0, []), (.iconst 1, 0, []), (.iand, 0, []), (.iconst 1, 0, []), (.if_icmp .ne 19, 23, []), (.aload_n 0, 0, []), (.iload_n 1, 0, []), (.invokevirtual 174, 142, [(1, 2), (6, 0)]), (.iload_n 1, 0, []), (.iconst (-1), 0, []), (.ixor, 0, []), (.iand, 0, []), (.ifCond .ne 7, 23, []), (.iconst 1, 0, []), (.goto 4, 24, [])]
def k143_23 : List zI := [(.iconst 0, 0, []), (.nop, 24, [])]
def k143_24 : List zI := [(.ireturn, 4, [])]
def zb143 : List (Nat × List zI) := [(0, k143_0), (23, k143_23), (24, k143_24)]
def k144_0 : List zI := [(.aload_n 0, 0, []), (.iload_n 1, 0, []), (.invokevirtual 177, 141, [(4, 2), (6, 0)]), (.ifCond .eq 14, 19, []), (.aload_n 0, 0, []), (.iload_n 1, 0, []), (.invokevirtual 180, 143, [(4, 2), (6, 0)]), (.invokestatic 83, 109, [(1, 1)]), (.goto 5, 21, [])]
def k144_19 : List zI := [(.bipush (-2), 0, []), (.nop, 21, [])]
def k144_21 : List zI := [(.ireturn, 1, [])]
def zb144 : List (Nat × List zI) := [(0, k144_0), (19, k144_19), (21, k144_21)]
def k145_0 : List zI := [(.iconst 0, 0, []), (.istore_n 2, 0, []), (.iconst 1, 0, []), (.istore_n 3, 0, []), (.nop, 4, [])]
def k145_4 : List zI := [(.aload_n 0, 0, []), (.iload_n 3, 0, []), (.invokevirtual 177, 141, [(4, 2), (6, 0)]), (.ifCond .eq 27, 36, []), (.aload_n 0, 0, []), (.iload_n 3, 0, []), (.invokevirtual 180, 143, [(4, 2), (6, 0)]), (.ifCond .eq 13, 30, []), (.iload_n 2, 0, []), (.iload_n 1, 0, []), (.if_icmp .ne 5, 27, []), (.iload_n 3, 0, []), (.ireturn, 1, [])]
def k145_27 : List zI := [(.iinc 2 1, 0, []), (.nop, 30, [])]
def k145_30 : List zI := [(.iinc 3 1, 0, []), (.goto (-29), 4, [])]
def k145_36 : List zI := [(.iload_n 1, 0, []), (.iconst (-1), 0, []), (.if_icmp .ne 7, 45, []), (.iload_n 2, 0, []), (.goto 5, 47, [])]
def k145_45 : List zI := [(.bipush (-5), 0, []), (.nop, 47, [])]
def k145_47 : List zI := [(.ireturn, 1, [])]
def zb145 : List (Nat × List zI) := [(0, k145_0), (4, k145_4), (27, k145_27), (30, k145_30), (36, k145_36), (45, k145_45), (47, k145_47)]
def k146_0 : List zI := [(.aload_n 0, 0, []), (.iload_n 1, 0, []), (.invokevirtual 177, 141, [(4, 2), (6, 0)]), (.ifCond .ne 6, 11, []), (.bipush (-2), 0, []), (.ireturn, 1, [])]
def k146_11 : List zI := [(.iload_n 1, 0, []), (.iconst 1, 0, []), (.ior, 0, []), (.istore_n 2, 0, []), (.iconst 0, 0, []), (.istore_n 3, 0, []), (.nop, 17, [])]
def k146_17 : List zI := [(.iload_n 3, 0, []), (.iload_n 2, 0, []), (.if_icmp .eq 16, 35, []), (.iload_n 2, 0, []), (.istore_n 3, 0, []), (.iload_n 2, 0, []), (.aload_n 0, 0, []), (.iload_n 2, 0, []), (.invokevirtual 174, 142, [(1, 2), (6, 0)]), (.ior, 0, []), (.istore_n 2, 0, []), (.goto (-15), 17, [])]
def k146_35 : List zI := [(.iload_n 2, 0, []), (.ireturn, 1, [])]
def zb146 : List (Nat × List zI) := [(0, k146_0), (11, k146_11), (17, k146_17), (35, k146_35)]
def k147_0 : List zI := [(.iconst 0, 0, []), (.istore 4, 0, []), (.iconst 0, 0, []), (.istore 5, 0, []), (.nop, 6, [])]
def k147_6 : List zI := [(.iload 5, 0, []), (.aload_n 0, 0, []), (.getfield 11, 192, []), (.iconst 1, 0, []), (.iaload, 0, []), (.if_icmp .ge 56, 70, []), (.aload_n 0, 0, []), (.iload_n 1, 0, []), (.iload_n 2, 0, []), (.iload 5, 0, []), (.invokevirtual 97, 117, [(1, 4), (6, 0)]), (.istore 6, 0, []), (.iload 6, 0, []), (.ifCond .le 11, 40, []), (.iload 5, 0, []), (.iload_n 3, 0, []), (.if_icmp .le 5, 40, []), (.iconst 1, 0, []), (.ireturn, 4, [])]
def k147_40 : List zI := [(.iload 4, 0, []), (.iload 6, 0, []), (.ifCond .le 16, 60, []), (.iload 6, 0, []), (.aload_n 0, 0, []), (.getfield 34, 205, []), (.iload 5, 0, []), (.iaload, 0, []), (.imul, 0, []), (.goto 4, 61, [])]
def k147_60 : List zI := [(.iconst 0, 0, []), (.nop, 61, [])]
def k147_61 : List zI := [(.iadd, 0, []), (.istore 4, 0, []), (.iinc 5 1, 0, []), (.goto (-61), 6, [])]
def k147_70 : List zI := [(.aload_n 0, 0, []), (.getfield 34, 205, []), (.iload_n 1, 0, []), (.iaload, 0, []), (.aload_n 0, 0, []), (.getfield 34, 205, []), (.iload_n 2, 0, []), (.iaload, 0, []), (.imul, 0, []), (.bipush 31, 0, []), (.irem, 0, []), (.iload 4, 0, []), (.bipush 31, 0, []), (.irem, 0, []), (.if_icmp .ne 7, 98, []), (.iconst 1, 0, []), (.goto 4, 99, [])]
def k147_98 : List zI := [(.iconst 0, 0, []), (.nop, 99, [])]
def k147_99 : List zI := [(.ireturn, 4, [])]
def zb147 : List (Nat × List zI) := [(0, k147_0), (6, k147_6), (40, k147_40), (60, k147_60), (61, k147_61), (70, k147_70), (98, k147_98), (99, k147_99)]
def k148_0 : List zI := [(.iconst 0, 0, []), (.istore_n 2, 0, []), (.nop, 2, [])]
def k148_2 : List zI := [(.iload_n 2, 0, []), (.iload_n 1, 0, []), (.if_icmp .gt 34, 38, []), (.iconst 0, 0, []), (.istore_n 3, 0, []), (.nop, 9, [])]
def k148_9 : List zI := [(.iload_n 3, 0, []), (.iload_n 1, 0, []), (.if_icmp .gt 21, 32, []), (.aload_n 0, 0, []), (.iload_n 2, 0, []), (.iload_n 3, 0, []), (.iload_n 1, 0, []), (.invokevirtual 183, 147, [(4, 4), (6, 0)]), (.ifCond .ne 5, 26, []), (.iconst 0, 0, []), (.ireturn, 4, [])]
def k148_26 : List zI := [(.iinc 3 1, 0, []), (.goto (-20), 9, [])]
def k148_32 : List zI := [(.iinc 2 1, 0, []), (.goto (-33), 2, [])]
def k148_38 : List zI := [(.iconst 1, 0, []), (.ireturn, 4, [])]
def zb148 : List (Nat × List zI) := [(0, k148_0), (2, k148_2), (9, k148_9), (26, k148_26), (32, k148_32), (38, k148_38)]
def k149_0 : List zI := [(.iload_n 1, 0, []), (.aload_n 0, 0, []), (.getfield 11, 192, []), (.iconst 1, 0, []), (.iaload, 0, []), (.if_icmp .ne 33, 40, []), (.aload_n 0, 0, []), (.getfield 34, 205, []), (.iconst 0, 0, []), (.aload_n 0, 0, []), (.getfield 31, 203, []), (.iconst 5, 0, []), (.aload_n 0, 0, []), (.getfield 187, 204, []), (.imul, 0, []), (.iconst 5, 0, []), (.invokestatic 107, 0, [(9, 5)]), (.aload_n 0, 0, []), (.dup, 0, []), (.getfield 187, 204, []), (.iconst 1, 0, []), (.iadd, 0, []), (.putfield 187, 204, []), (.return_, 0, [])]
def k149_40 : List zI := [(.iconst 0, 0, []), (.istore_n 2, 0, []), (.nop, 42, [])]
def k149_42 : List zI := [(.iload_n 2, 0, []), (.bipush 31, 0, []), (.if_icmp .ge 31, 76, []), (.aload_n 0, 0, []), (.getfield 34, 205, []), (.iload_n 1, 0, []), (.iload_n 2, 0, []), (.iastore, 0, []), (.aload_n 0, 0, []), (.iload_n 1, 0, []), (.invokevirtual 190, 148, [(4, 2), (6, 0)]), (.ifCond .eq 10, 70, []), (.aload_n 0, 0, []), (.iload_n 1, 0, []), (.iconst 1, 0, []), (.iadd, 0, []), (.invokevirtual 193, 149, [(0, 2), (6, 0)]), (.nop, 70, [])]
def k149_70 : List zI := [(.iinc 2 1, 0, []), (.goto (-31), 42, [])]
def k149_76 : List zI := [(.return_, 0, [])]
def zb149 : List (Nat × List zI) := [(0, k149_0), (40, k149_40), (42, k149_42), (70, k149_70), (76, k149_76)]
def k150_0 : List zI := [(.aload_n 0, 0, []), (.iconst 0, 0, []), (.putfield 187, 204, []), (.aload_n 0, 0, []), (.getfield 34, 205, []), (.iconst 0, 0, []), (.iconst 1, 0, []), (.iastore, 0, []), (.aload_n 0, 0, []), (.iconst 1, 0, []), (.invokevirtual 193, 149, [(0, 2), (6, 0)]), (.return_, 0, [])]
def zb150 : List (Nat × List zI) := [(0, k150_0)]
def k151_0 : List zI := [(.iload_n 1, 0, []), (.ifCond .lt 13, 14, []), (.aload_n 0, 0, []), (.iload_n 2, 0, []), (.invokevirtual 93, 110, [(4, 2), (6, 0)]), (.ifCond .ne 5, 14, []), (.iconst (-1), 0, []), (.ireturn, 1, [])]
def k151_14 : List zI := [(.aload_n 0, 0, []), (.invokevirtual 196, 150, [(0, 1), (6, 0)]), (.iload_n 1, 0, []), (.iconst (-1), 0, []), (.if_icmp .ne 10, 30, []), (.aload_n 0, 0, []), (.getfield 187, 204, []), (.goto 34, 61, [])]
def k151_30 : List zI := [(.iload_n 1, 0, []), (.i2l, 0, []), (.lconst 0, 0, []), (.aload_n 0, 0, []), (.getfield 187, 204, []), (.iconst 1, 0, []), (.isub, 0, []), (.i2l, 0, []), (.invokestatic 67, 108, [(4, 3)]), (.ifCond .eq 16, 59, []), (.aload_n 0, 0, []), (.getfield 31, 203, []), (.iconst 5, 0, []), (.iload_n 1, 0, []), (.imul, 0, []), (.iload_n 2, 0, []), (.iadd, 0, []), (.iaload, 0, []), (.goto 5, 61, [])]
def k151_59 : List zI := [(.bipush (-5), 0, []), (.nop, 61, [])]
def k151_61 : List zI := [(.ireturn, 1, [])]
def zb151 : List (Nat × List zI) := [(0, k151_0), (14, k151_14), (30, k151_30), (59, k151_59), (61, k151_61)]
def k152_0 : List zI := [(.aload_n 0, 0, []), (.invokevirtual 196, 150, [(0, 1), (6, 0)]), (.iload_n 1, 0, []), (.i2l, 0, []), (.lconst 0, 0, []), (.aload_n 0, 0, []), (.getfield 187, 204, []), (.iconst 1, 0, []), (.isub, 0, []), (.i2l, 0, []), (.invokestatic 67, 108, [(4, 3)]), (.ifCond .ne 6, 23, []), (.bipush (-5), 0, []), (.ireturn, 1, [])]
def k152_23 : List zI := [(.iconst 0, 0, []), (.istore_n 2, 0, []), (.iconst 0, 0, []), (.istore_n 3, 0, []), (.nop, 27, [])]
def k152_27 : List zI := [(.iload_n 3, 0, []), (.aload_n 0, 0, []), (.getfield 11, 192, []), (.iconst 1, 0, []), (.iaload, 0, []), (.if_icmp .ge 33, 67, []), (.iload_n 2, 0, []), (.aload_n 0, 0, []), (.getfield 31, 203, []), (.iconst 5, 0, []), (.iload_n 1, 0, []), (.imul, 0, []), (.iload_n 3, 0, []), (.iadd, 0, []), (.iaload, 0, []), (.aload_n 0, 0, []), (.getfield 31, 203, []), (.iconst 5, 0, []), (.iload_n 1, 0, []), (.imul, 0, []), (.iload_n 3, 0, []), (.iadd, 0, []), (.iaload, 0, []), (.imul, 0, []), (.iadd, 0, []), (.istore_n 2, 0, []), (.iinc 3 1, 0, []), (.goto (-37), 27, [])]
def k152_67 : List zI := [(.iload_n 2, 0, []), (.bipush 31, 0, []), (.irem, 0, []), (.ireturn, 1, [])]
def zb152 : List (Nat × List zI) := [(0, k152_0), (23, k152_23), (27, k152_27), (67, k152_67)]
def k153_0 : List zI := [(.iconst 1, 0, []), (.istore_n 1, 0, []), (.nop, 2, [])]
def k153_2 : List zI := [(.iload_n 1, 0, []), (.iload_n 0, 0, []), (.imul, 0, []), (.bipush 31, 0, []), (.irem, 0, []), (.iconst 1, 0, []), (.if_icmp .eq 9, 18, []), (.iinc 1 1, 0, []), (.goto (-13), 2, [])]
def k153_18 : List zI := [(.iload_n 1, 0, []), (.ireturn, 1, [])]
def zb153 : List (Nat × List zI) := [(0, k153_0), (2, k153_2), (18, k153_18)]
def k154_0 : List zI := [(.iconst 0, 0, []), (.istore_n 3, 0, []), (.nop, 2, [])]
def k154_2 : List zI := [(.iload_n 3, 0, []), (.iconst 5, 0, []), (.if_icmp .ge 41, 45, []), (.aload_n 0, 0, []), (.iconst 5, 0, []), (.iload_n 1, 0, []), (.imul, 0, []), (.iload_n 3, 0, []), (.iadd, 0, []), (.iaload, 0, []), (.istore 4, 0, []), (.aload_n 0, 0, []), (.iconst 5, 0, []), (.iload_n 1, 0, []), (.imul, 0, []), (.iload_n 3, 0, []), (.iadd, 0, []), (.aload_n 0, 0, []), (.iconst 5, 0, []), (.iload_n 2, 0, []), (.imul, 0, []), (.iload_n 3, 0, []), (.iadd, 0, []), (.iaload, 0, []), (.iastore, 0, []), (.aload_n 0, 0, []), (.iconst 5, 0, []), (.iload_n 2, 0, []), (.imul, 0, []), (.iload_n 3, 0, []), (.iadd, 0, []), (.iload 4, 0, []), (.iastore, 0, []), (.iinc 3 1, 0, []), (.goto (-40), 2, [])]
def k154_45 : List zI := [(.return_, 0, [])]
def zb154 : List (Nat × List zI) := [(0, k154_0), (2, k154_2), (45, k154_45)]
def k155_0 : List zI := [(.iconst 0, 0, []), (.istore 4, 0, []), (.nop, 3, [])]
def k155_3 : List zI := [(.iload 4, 0, []), (.aload_n 0, 0, []), (.getfield 11, 192, []), (.iconst 1, 0, []), (.iaload, 0, []), (.if_icmp .ge 30, 41, []), (.aload_n 1, 0, []), (.iconst 5, 0, []), (.iload_n 2, 0, []), (.imul, 0, []), (.iload 4, 0, []), (.iadd, 0, []), (.aload_n 1, 0, []), (.iconst 5, 0, []), (.iload_n 2, 0, []), (.imul, 0, []), (.iload 4, 0, []), (.iadd, 0, []), (.iaload, 0, []), (.iload_n 3, 0, []), (.imul, 0, []), (.bipush 31, 0, []), (.irem, 0, []), (.iastore, 0, []), (.iinc 4 1, 0, []), (.goto (-35), 3, [])]
def k155_41 : List zI := [(.return_, 0, [])]
def zb155 : List (Nat × List zI) := [(0, k155_0), (3, k155_3), (41, k155_41)]
def k156_0 : List zI := [(.iconst 0, 0, []), (.istore 5, 0, []), (.nop, 3, [])]
def k156_3 : List zI := [(.iload 5, 0, []), (.aload_n 0, 0, []), (.getfield 11, 192, []), (.iconst 1, 0, []), (.iaload, 0, []), (.if_icmp .ge 43, 54, []), (.aload_n 1, 0, []), (.iconst 5, 0, []), (.iload_n 2, 0, []), (.imul, 0, []), (.iload 5, 0, []), (.iadd, 0, []), (.aload_n 1, 0, []), (.iconst 5, 0, []), (.iload_n 2, 0, []), (.imul, 0, []), (.iload 5, 0, []), (.iadd, 0, []), (.iaload, 0, []), (.bipush 31, 0, []), (.iload 4, 0, []), (.isub, 0, []), (.aload_n 1, 0, []), (.iconst 5, 0, []), (.iload_n 3, 0, []), (.imul, 0, []), (.iload 5, 0, []), (.iadd, 0, []), (.iaload, 0, []), (.imul, 0, []), (.iadd, 0, []), (.bipush 31, 0, []), (.irem, 0, []), (.iastore, 0, []), (.iinc 5 1, 0, []), (.goto (-48), 3, [])]
def k156_54 : List zI := [(.return_, 0, [])]
def zb156 : List (Nat × List zI) := [(0, k156_0), (3, k156_3), (54, k156_54)]
def k157_0 : List zI := [(.aload_n 0, 0, []), (.getfield 11, 192, []), (.iconst 1, 0, []), (.iaload, 0, []), (.istore_n 1, 0, []), (.iconst 0, 0, []), (.istore_n 2, 0, []), (.nop, 9, [])]
def k157_9 : List zI := [(.iload_n 2, 0, []), (.bipush 25, 0, []), (.if_icmp .ge 32, 44, []), (.aload_n 0, 0, []), (.getfield 40, 207, []), (.iload_n 2, 0, []), (.iload_n 2, 0, []), (.iconst 5, 0, []), (.idiv, 0, []), (.iload_n 2, 0, []), (.iconst 5, 0, []), (.irem, 0, []), (.if_icmp .ne 7, 33, []), (.iconst 1, 0, []), (.goto 4, 34, [])]
def k157_33 : List zI := [(.iconst 0, 0, []), (.nop, 34, [])]
def k157_34 : List zI := [(.invokestatic 83, 109, [(1, 1)]), (.iastore, 0, []), (.iinc 2 1, 0, []), (.goto (-32), 9, [])]
def k157_44 : List zI := [(.iconst 0, 0, []), (.istore_n 2, 0, []), (.nop, 46, [])]
def k157_46 : List zI := [(.iload_n 2, 0, []), (.iload_n 1, 0, []), (.if_icmp .ge 162, 210, []), (.iload_n 2, 0, []), (.istore_n 3, 0, []), (.nop, 53, [])]
def k157_53 : List zI := [(.iload_n 3, 0, []), (.iload_n 1, 0, []), (.if_icmp .ge 22, 77, []), (.aload_n 0, 0, []), (.getfield 37, 206, []), (.iconst 5, 0, []), (.iload_n 3, 0, []), (.imul, 0, []), (.iload_n 2, 0, []), (.iadd, 0, []), (.iaload, 0, []), (.ifCond .ne 9, 77, []), (.iinc 3 1, 0, []), (.goto (-21), 53, [])]
def k157_77 : List zI := [(.iload_n 3, 0, []), (.iload_n 1, 0, []), (.if_icmp .ne 5, 84, []), (.iconst 0, 0, []), (.ireturn, 4, [])]
def k157_84 : List zI := [(.aload_n 0, 0, []), (.getfield 37, 206, []), (.iload_n 3, 0, []), (.iload_n 2, 0, []), (.invokestatic 199, 154, [(0, 3)]), (.aload_n 0, 0, []), (.getfield 40, 207, []), (.iload_n 3, 0, []), (.iload_n 2, 0, []), (.invokestatic 199, 154, [(0, 3)]), (.aload_n 0, 0, []), (.getfield 37, 206, []), (.iconst 5, 0, []), (.iload_n 2, 0, []), (.imul, 0, []), (.iload_n 2, 0, []), (.iadd, 0, []), (.iaload, 0, []), (.invokestatic 203, 153, [(1, 1)]), (.istore 4, 0, []), (.aload_n 0, 0, []), (.aload_n 0, 0, []), (.getfield 37, 206, []), (.iload_n 2, 0, []), (.iload 4, 0, []), (.invokevirtual 206, 155, [(0, 4), (6, 0)]), (.aload_n 0, 0, []), (.aload_n 0, 0, []), (.getfield 40, 207, []), (.iload_n 2, 0, []), (.iload 4, 0, []), (.invokevirtual 206, 155, [(0, 4), (6, 0)]), (.iconst 0, 0, []), (.istore 5, 0, []), (.nop, 142, [])]
def k157_142 : List zI := [(.iload 5, 0, []), (.iload_n 1, 0, []), (.if_icmp .ge 59, 204, []), (.aload_n 0, 0, []), (.getfield 37, 206, []), (.iconst 5, 0, []), (.iload 5, 0, []), (.imul, 0, []), (.iload_n 2, 0, []), (.iadd, 0, []), (.iaload, 0, []), (.istore 6, 0, []), (.iload 5, 0, []), (.iload_n 2, 0, []), (.if_icmp .eq 34, 198, []), (.iload 6, 0, []), (.ifCond .le 29, 198, []), (.aload_n 0, 0, []), (.aload_n 0, 0, []), (.getfield 37, 206, []), (.iload 5, 0, []), (.iload_n 2, 0, []), (.iload 6, 0, []), (.invokevirtual 209, 156, [(0, 5), (6, 0)]), (.aload_n 0, 0, []), (.aload_n 0, 0, []), (.getfield 40, 207, []), (.iload 5, 0, []), (.iload_n 2, 0, []), (.iload 6, 0, []), (.invokevirtual 209, 156, [(0, 5), (6, 0)]), (.nop, 198, [])]
def k157_198 : List zI := [(.iinc 5 1, 0, []), (.goto (-59), 142, [])]
def k157_204 : List zI := [(.iinc 2 1, 0, []), (.goto (-161), 46, [])]
def k157_210 : List zI := [(.iconst 1, 0, []), (.ireturn, 4, [])]
def zb157 : List (Nat × List zI) := [(0, k157_0), (9, k157_9), (33, k157_33), (34, k157_34), (44, k157_44), (46, k157_46), (53, k157_53), (77, k157_77), (84, k157_84), (142, k157_142), (198, k157_198), (204, k157_204), (210, k157_210)]
def k158_0 : List zI := [(.aload_n 0, 0, []), (.iload_n 1, 0, []), (.invokevirtual 93, 110, [(4, 2), (6, 0)]), (.ifCond .eq 19, 24, []), (.aload_n 0, 0, []), (.iload_n 2, 0, []), (.invokevirtual 93, 110, [(4, 2), (6, 0)]), (.ifCond .eq 11, 24, []), (.aload_n 0, 0, []), (.iload_n 3, 0, []), (.invokevirtual 93, 110, [(4, 2), (6, 0)]), (.ifCond .ne 5, 26, []), (.nop, 24, [])]
def k158_24 : List zI := [(.iconst (-1), 0, []), (.ireturn, 1, [])]
def k158_26 : List zI := [(.aload_n 0, 0, []), (.invokevirtual 196, 150, [(0, 1), (6, 0)]), (.aload_n 0, 0, []), (.getfield 187, 204, []), (.aload_n 0, 0, []), (.getfield 11, 192, []), (.iconst 1, 0, []), (.iaload, 0, []), (.if_icmp .eq 6, 46, []), (.bipush (-3), 0, []), (.ireturn, 1, [])]
def k158_46 : List zI := [(.iconst 0, 0, []), (.istore 4, 0, []), (.nop, 49, [])]
def k158_49 : List zI := [(.iload 4, 0, []), (.aload_n 0, 0, []), (.getfield 11, 192, []), (.iconst 1, 0, []), (.iaload, 0, []), (.if_icmp .ge 53, 110, []), (.iconst 0, 0, []), (.istore 5, 0, []), (.nop, 63, [])]
def k158_63 : List zI := [(.iload 5, 0, []), (.aload_n 0, 0, []), (.getfield 11, 192, []), (.iconst 1, 0, []), (.iaload, 0, []), (.if_icmp .ge 33, 104, []), (.aload_n 0, 0, []), (.getfield 37, 206, []), (.iconst 5, 0, []), (.iload 4, 0, []), (.imul, 0, []), (.iload 5, 0, []), (.iadd, 0, []), (.aload_n 0, 0, []), (.getfield 31, 203, []), (.iconst 5, 0, []), (.iload 5, 0, []), (.imul, 0, []), (.iload 4, 0, []), (.iadd, 0, []), (.iaload, 0, []), (.iastore, 0, []), (.iinc 5 1, 0, []), (.goto (-38), 63, [])]
def k158_104 : List zI := [(.iinc 4 1, 0, []), (.goto (-58), 49, [])]
def k158_110 : List zI := [(.aload_n 0, 0, []), (.invokevirtual 213, 157, [(4, 1), (6, 0)]), (.ifCond .ne 6, 120, []), (.bipush (-3), 0, []), (.ireturn, 1, [])]
def k158_120 : List zI := [(.iconst 0, 0, []), (.istore 4, 0, []), (.iconst 0, 0, []), (.istore 5, 0, []), (.nop, 126, [])]
def k158_126 : List zI := [(.iload 5, 0, []), (.aload_n 0, 0, []), (.getfield 11, 192, []), (.iconst 1, 0, []), (.iaload, 0, []), (.if_icmp .ge 52, 186, []), (.iload 4, 0, []), (.aload_n 0, 0, []), (.getfield 31, 203, []), (.iconst 5, 0, []), (.iload 5, 0, []), (.imul, 0, []), (.iload_n 1, 0, []), (.iadd, 0, []), (.iaload, 0, []), (.aload_n 0, 0, []), (.getfield 31, 203, []), (.iconst 5, 0, []), (.iload 5, 0, []), (.imul, 0, []), (.iload_n 2, 0, []), (.iadd, 0, []), (.iaload, 0, []), (.imul, 0, []), (.bipush 31, 0, []), (.irem, 0, []), (.aload_n 0, 0, []), (.getfield 40, 207, []), (.iconst 5, 0, []), (.iload 5, 0, []), (.imul, 0, []), (.iload_n 3, 0, []), (.iadd, 0, []), (.iaload, 0, []), (.imul, 0, []), (.iadd, 0, []), (.istore 4, 0, []), (.iinc 5 1, 0, []), (.goto (-57), 126, [])]
def k158_186 : List zI := [(.iload 4, 0, []), (.bipush 31, 0, []), (.irem, 0, []), (.ireturn, 1, [])]
def zb158 : List (Nat × List zI) := [(0, k158_0), (24, k158_24), (26, k158_26), (46, k158_46), (49, k158_49), (63, k158_63), (104, k158_104), (110, k158_110), (120, k158_120), (126, k158_126), (186, k158_186)]
def k159_0 : List zI := [(.iload_n 0, 0, []), (.i2l, 0, []), (.lconst 0, 0, []), (.ldc2_w 73, 0, [(4, 0)]), (.invokestatic 67, 108, [(4, 3)]), (.ireturn, 4, [])]
def zb159 : List (Nat × List zI) := [(0, k159_0)]
def k160_0 : List zI := [(.aload_n 0, 0, []), (.getfield 11, 192, []), (.sipush 148, 0, []), (.iconst 5, 0, []), (.iload_n 1, 0, []), (.imul, 0, []), (.iadd, 0, []), (.iload_n 2, 0, []), (.iadd, 0, []), (.iaload, 0, []), (.ireturn, 1, [])]
def zb160 : List (Nat × List zI) := [(0, k160_0)]
def k161_0 : List zI := [(.iload_n 1, 0, []), (.invokestatic 217, 159, [(4, 1)]), (.ifCond .eq 10, 14, []), (.iload_n 2, 0, []), (.invokestatic 217, 159, [(4, 1)]), (.ifCond .ne 5, 16, []), (.nop, 14, [])]
def k161_14 : List zI := [(.iconst (-1), 0, []), (.ireturn, 1, [])]
def k161_16 : List zI := [(.iload_n 3, 0, []), (.i2l, 0, []), (.lconst 0, 0, []), (.ldc2_w 220, 0, [(30, 0)]), (.invokestatic 67, 108, [(4, 3)]), (.ifCond .ne 6, 31, []), (.bipush (-2), 0, []), (.ireturn, 1, [])]
def k161_31 : List zI := [(.aload_n 0, 0, []), (.iload_n 1, 0, []), (.iload_n 2, 0, []), (.invokevirtual 222, 160, [(1, 3), (6, 0)]), (.istore 4, 0, []), (.aload_n 0, 0, []), (.getfield 11, 192, []), (.sipush 148, 0, []), (.iconst 5, 0, []), (.iload_n 1, 0, []), (.imul, 0, []), (.iadd, 0, []), (.iload_n 2, 0, []), (.iadd, 0, []), (.iload_n 3, 0, []), (.iastore, 0, []), (.iload 4, 0, []), (.ireturn, 1, [])]
def zb161 : List (Nat × List zI) := [(0, k161_0), (14, k161_14), (16, k161_16), (31, k161_31)]
def k162_0 : List zI := [(.iload_n 1, 0, []), (.invokestatic 217, 159, [(4, 1)]), (.ifCond .ne 5, 9, []), (.iconst (-1), 0, []), (.ireturn, 1, [])]
def k162_9 : List zI := [(.iload_n 2, 0, []), (.i2l, 0, []), (.lconst 0, 0, []), (.ldc2_w 220, 0, [(30, 0)]), (.invokestatic 67, 108, [(4, 3)]), (.ifCond .ne 6, 24, []), (.bipush (-2), 0, []), (.ireturn, 1, [])]
def k162_24 : List zI := [(.aload_n 0, 0, []), (.getfield 11, 192, []), (.sipush 173, 0, []), (.iload_n 1, 0, []), (.iadd, 0, []), (.iaload, 0, []), (.istore_n 3, 0, []), (.aload_n 0, 0, []), (.getfield 11, 192, []), (.sipush 173, 0, []), (.iload_n 1, 0, []), (.iadd, 0, []), (.iload_n 2, 0, []), (.iastore, 0, []), (.iload_n 3, 0, []), (.ireturn, 1, [])]
def zb162 : List (Nat × List zI) := [(0, k162_0), (9, k162_9), (24, k162_24)]
def k163_0 : List zI := [(.aload_n 0, 0, []), (.invokevirtual 196, 150, [(0, 1), (6, 0)]), (.aload_n 0, 0, []), (.getfield 187, 204, []), (.aload_n 0, 0, []), (.getfield 11, 192, []), (.iconst 1, 0, []), (.iaload, 0, []), (.if_icmp .eq 6, 20, []), (.bipush (-3), 0, []), (.ireturn, 1, [])]
def k163_20 : List zI := [(.iconst 0, 0, []), (.istore_n 1, 0, []), (.nop, 22, [])]
def k163_22 : List zI := [(.iload_n 1, 0, []), (.aload_n 0, 0, []), (.getfield 11, 192, []), (.iconst 1, 0, []), (.iaload, 0, []), (.if_icmp .ge 51, 80, []), (.iconst 0, 0, []), (.istore_n 2, 0, []), (.nop, 34, [])]
def k163_34 : List zI := [(.iload_n 2, 0, []), (.aload_n 0, 0, []), (.getfield 11, 192, []), (.iconst 1, 0, []), (.iaload, 0, []), (.if_icmp .ge 33, 74, []), (.aload_n 0, 0, []), (.getfield 11, 192, []), (.sipush 148, 0, []), (.iconst 5, 0, []), (.iload_n 1, 0, []), (.imul, 0, []), (.iadd, 0, []), (.iload_n 2, 0, []), (.iadd, 0, []), (.aload_n 0, 0, []), (.getfield 31, 203, []), (.iconst 5, 0, []), (.iload_n 2, 0, []), (.imul, 0, []), (.iload_n 1, 0, []), (.iadd, 0, []), (.iaload, 0, []), (.iastore, 0, []), (.iinc 2 1, 0, []), (.goto (-37), 34, [])]
def k163_74 : List zI := [(.iinc 1 1, 0, []), (.goto (-55), 22, [])]
def k163_80 : List zI := [(.aload_n 0, 0, []), (.getfield 187, 204, []), (.ireturn, 1, [])]
def zb163 : List (Nat × List zI) := [(0, k163_0), (20, k163_20), (22, k163_22), (34, k163_34), (74, k163_74), (80, k163_80)]
def k164_0 : List zI := [(.aload_n 0, 0, []), (.iload_n 1, 0, []), (.invokevirtual 93, 110, [(4, 2), (6, 0)]), (.ifCond .eq 19, 24, []), (.aload_n 0, 0, []), (.iload_n 2, 0, []), (.invokevirtual 93, 110, [(4, 2), (6, 0)]), (.ifCond .eq 11, 24, []), (.aload_n 0, 0, []), (.iload_n 3, 0, []), (.invokevirtual 93, 110, [(4, 2), (6, 0)]), (.ifCond .ne 5, 26, []), (.nop, 24, [])]
def k164_24 : List zI := [(.iconst (-1), 0, []), (.ireturn, 1, [])]
def k164_26 : List zI := [(.aload_n 0, 0, []), (.getfield 11, 192, []), (.sipush 148, 0, []), (.aload_n 0, 0, []), (.getfield 37, 206, []), (.iconst 0, 0, []), (.bipush 25, 0, []), (.invokestatic 107, 0, [(9, 5)]), (.aload_n 0, 0, []), (.invokevirtual 213, 157, [(4, 1), (6, 0)]), (.istore 4, 0, []), (.iconst 0, 0, []), (.istore 5, 0, []), (.nop, 52, [])]
def k164_52 : List zI := [(.iload 5, 0, []), (.aload_n 0, 0, []), (.getfield 11, 192, []), (.iconst 1, 0, []), (.iaload, 0, []), (.if_icmp .ge 31, 91, []), (.iload 4, 0, []), (.ifCond .eq 17, 82, []), (.aload_n 0, 0, []), (.iconst 0, 0, []), (.iload 5, 0, []), (.invokevirtual 222, 160, [(1, 3), (6, 0)]), (.ifCond .eq 7, 82, []), (.iconst 1, 0, []), (.goto 4, 83, [])]
def k164_82 : List zI := [(.iconst 0, 0, []), (.nop, 83, [])]
def k164_83 : List zI := [(.istore 4, 0, []), (.iinc 5 1, 0, []), (.goto (-36), 52, [])]
def k164_91 : List zI := [(.iload 4, 0, []), (.ifCond .ne 6, 99, []), (.bipush (-3), 0, []), (.ireturn, 1, [])]
def k164_99 : List zI := [(.iconst 0, 0, []), (.istore 5, 0, []), (.iconst 0, 0, []), (.istore 6, 0, []), (.nop, 105, [])]
def k164_105 : List zI := [(.iload 6, 0, []), (.aload_n 0, 0, []), (.getfield 11, 192, []), (.iconst 1, 0, []), (.iaload, 0, []), (.if_icmp .ge 61, 174, []), (.iload 5, 0, []), (.aload_n 0, 0, []), (.iload_n 1, 0, []), (.iload 6, 0, []), (.invokevirtual 222, 160, [(1, 3), (6, 0)]), (.aload_n 0, 0, []), (.iload_n 2, 0, []), (.iload 6, 0, []), (.invokevirtual 222, 160, [(1, 3), (6, 0)]), (.imul, 0, []), (.bipush 31, 0, []), (.irem, 0, []), (.aload_n 0, 0, []), (.getfield 40, 207, []), (.iconst 5, 0, []), (.iload 6, 0, []), (.imul, 0, []), (.iload_n 3, 0, []), (.iadd, 0, []), (.iaload, 0, []), (.imul, 0, []), (.bipush 31, 0, []), (.irem, 0, []), (.aload_n 0, 0, []), (.iconst 0, 0, []), (.iload 6, 0, []), (.invokevirtual 222, 160, [(1, 3), (6, 0)]), (.invokestatic 203, 153, [(1, 1)]), (.imul, 0, []), (.bipush 31, 0, []), (.irem, 0, []), (.iadd, 0, []), (.istore 5, 0, []), (.iinc 6 1, 0, []), (.goto (-66), 105, [])]
def k164_174 : List zI := [(.iload 5, 0, []), (.bipush 31, 0, []), (.irem, 0, []), (.ireturn, 1, [])]
def zb164 : List (Nat × List zI) := [(0, k164_0), (24, k164_24), (26, k164_26), (52, k164_52), (82, k164_82), (83, k164_83), (91, k164_91), (99, k164_99), (105, k164_105), (174, k164_174)]
def k165_0 : List zI := [(.iconst 0, 0, []), (.istore 6, 0, []), (.nop, 3, [])]
def k165_3 : List zI := [(.iload 6, 0, []), (.aload_n 0, 0, []), (.getfield 11, 192, []), (.iconst 1, 0, []), (.iaload, 0, []), (.if_icmp .ge 96, 107, []), (.iconst 0, 0, []), (.istore 7, 0, []), (.nop, 17, [])]
def k165_17 : List zI := [(.iload 7, 0, []), (.aload_n 0, 0, []), (.getfield 11, 192, []), (.iconst 1, 0, []), (.iaload, 0, []), (.if_icmp .ge 76, 101, []), (.iconst 0, 0, []), (.istore 8, 0, []), (.iconst 0, 0, []), (.istore 9, 0, []), (.nop, 34, [])]
def k165_34 : List zI := [(.iload 9, 0, []), (.aload_n 0, 0, []), (.getfield 11, 192, []), (.iconst 1, 0, []), (.iaload, 0, []), (.if_icmp .ge 39, 81, []), (.iload 8, 0, []), (.aload_n 2, 0, []), (.iload_n 3, 0, []), (.iconst 5, 0, []), (.iload 6, 0, []), (.imul, 0, []), (.iadd, 0, []), (.iload 9, 0, []), (.iadd, 0, []), (.iaload, 0, []), (.aload 4, 0, []), (.iload 5, 0, []), (.iconst 5, 0, []), (.iload 9, 0, []), (.imul, 0, []), (.iadd, 0, []), (.iload 7, 0, []), (.iadd, 0, []), (.iaload, 0, []), (.imul, 0, []), (.iadd, 0, []), (.istore 8, 0, []), (.iinc 9 1, 0, []), (.goto (-44), 34, [])]
def k165_81 : List zI := [(.aload_n 1, 0, []), (.iconst 5, 0, []), (.iload 6, 0, []), (.imul, 0, []), (.iload 7, 0, []), (.iadd, 0, []), (.iload 8, 0, []), (.bipush 31, 0, []), (.irem, 0, []), (.iastore, 0, []), (.iinc 7 1, 0, []), (.goto (-81), 17, [])]
def k165_101 : List zI := [(.iinc 6 1, 0, []), (.goto (-101), 3, [])]
def k165_107 : List zI := [(.return_, 0, [])]
def zb165 : List (Nat × List zI) := [(0, k165_0), (3, k165_3), (17, k165_17), (34, k165_34), (81, k165_81), (101, k165_101), (107, k165_107)]
def k166_0 : List zI := [(.iconst 0, 0, []), (.istore_n 1, 0, []), (.iconst 0, 0, []), (.istore_n 2, 0, []), (.iconst 0, 0, []), (.istore_n 3, 0, []), (.nop, 6, [])]
def k166_6 : List zI := [(.iload_n 3, 0, []), (.aload_n 0, 0, []), (.getfield 11, 192, []), (.iconst 1, 0, []), (.iaload, 0, []), (.if_icmp .ge 83, 96, []), (.iconst 0, 0, []), (.istore 4, 0, []), (.iconst 0, 0, []), (.istore 5, 0, []), (.nop, 22, [])]
def k166_22 : List zI := [(.iload 5, 0, []), (.aload_n 0, 0, []), (.getfield 11, 192, []), (.iconst 1, 0, []), (.iaload, 0, []), (.if_icmp .ge 52, 82, []), (.aload_n 0, 0, []), (.getfield 43, 208, []), (.iconst 5, 0, []), (.iload_n 3, 0, []), (.imul, 0, []), (.iload 5, 0, []), (.iadd, 0, []), (.iaload, 0, []), (.istore 6, 0, []), (.iload 6, 0, []), (.ifCond .eq 28, 76, []), (.iinc 4 1, 0, []), (.iload_n 2, 0, []), (.iconst 1, 0, []), (.iload 5, 0, []), (.ishl, 0, []), (.ior, 0, []), (.istore_n 2, 0, []), (.iload_n 1, 0, []), (.ifCond .eq 11, 73, []), (.iload 6, 0, []), (.iload_n 1, 0, []), (.if_icmp .eq 5, 73, []), (.iconst 0, 0, []), (.ireturn, 4, [])]
def k166_73 : List zI := [(.iload 6, 0, []), (.istore_n 1, 0, []), (.nop, 76, [])]
def k166_76 : List zI := [(.iinc 5 1, 0, []), (.goto (-57), 22, [])]
def k166_82 : List zI := [(.iload 4, 0, []), (.iconst 1, 0, []), (.if_icmp .eq 5, 90, []), (.iconst 0, 0, []), (.ireturn, 4, [])]
def k166_90 : List zI := [(.iinc 3 1, 0, []), (.goto (-87), 6, [])]
def k166_96 : List zI := [(.iload_n 2, 0, []), (.iconst 1, 0, []), (.aload_n 0, 0, []), (.getfield 11, 192, []), (.iconst 1, 0, []), (.iaload, 0, []), (.ishl, 0, []), (.iconst 1, 0, []), (.isub, 0, []), (.if_icmp .ne 7, 114, []), (.iconst 1, 0, []), (.goto 4, 115, [])]
def k166_114 : List zI := [(.iconst 0, 0, []), (.nop, 115, [])]
def k166_115 : List zI := [(.ireturn, 4, [])]
def zb166 : List (Nat × List zI) := [(0, k166_0), (6, k166_6), (22, k166_22), (73, k166_73), (76, k166_76), (82, k166_82), (90, k166_90), (96, k166_96), (114, k166_114), (115, k166_115)]
def k167_0 : List zI := [(.iconst 0, 0, []), (.istore_n 1, 0, []), (.nop, 2, [])]
def k167_2 : List zI := [(.iload_n 1, 0, []), (.aload_n 0, 0, []), (.getfield 11, 192, []), (.iconst 1, 0, []), (.iaload, 0, []), (.if_icmp .ge 57, 66, []), (.iconst 0, 0, []), (.istore_n 2, 0, []), (.nop, 14, [])]
def k167_14 : List zI := [(.iload_n 2, 0, []), (.aload_n 0, 0, []), (.getfield 11, 192, []), (.iconst 1, 0, []), (.iaload, 0, []), (.if_icmp .ge 39, 60, []), (.aload_n 0, 0, []), (.getfield 46, 209, []), (.iconst 5, 0, []), (.iload_n 1, 0, []), (.imul, 0, []), (.iload_n 2, 0, []), (.iadd, 0, []), (.aload_n 0, 0, []), (.iload_n 1, 0, []), (.iload_n 2, 0, []), (.invokevirtual 222, 160, [(1, 3), (6, 0)]), (.aload_n 0, 0, []), (.getfield 11, 192, []), (.sipush 173, 0, []), (.iload_n 2, 0, []), (.iadd, 0, []), (.iaload, 0, []), (.imul, 0, []), (.bipush 31, 0, []), (.irem, 0, []), (.iastore, 0, []), (.iinc 2 1, 0, []), (.goto (-43), 14, [])]
def k167_60 : List zI := [(.iinc 1 1, 0, []), (.goto (-61), 2, [])]
def k167_66 : List zI := [(.aload_n 0, 0, []), (.aload_n 0, 0, []), (.getfield 49, 210, []), (.aload_n 0, 0, []), (.getfield 46, 209, []), (.iconst 0, 0, []), (.aload_n 0, 0, []), (.getfield 46, 209, []), (.iconst 0, 0, []), (.invokevirtual 225, 165, [(0, 6), (6, 0)]), (.aload_n 0, 0, []), (.aload_n 0, 0, []), (.getfield 52, 211, []), (.aload_n 0, 0, []), (.getfield 49, 210, []), (.iconst 0, 0, []), (.aload_n 0, 0, []), (.getfield 46, 209, []), (.iconst 0, 0, []), (.invokevirtual 225, 165, [(0, 6), (6, 0)]), (.iconst 1, 0, []), (.istore_n 1, 0, []), (.nop, 104, [])]
def k167_104 : List zI := [(.iload_n 1, 0, []), (.bipush 31, 0, []), (.if_icmp .ge 130, 237, []), (.iconst 1, 0, []), (.istore_n 2, 0, []), (.iconst 0, 0, []), (.istore_n 3, 0, []), (.iconst 0, 0, []), (.istore 4, 0, []), (.nop, 117, [])]
def k167_117 : List zI := [(.iload 4, 0, []), (.aload_n 0, 0, []), (.getfield 11, 192, []), (.iconst 1, 0, []), (.iaload, 0, []), (.if_icmp .ge 96, 221, []), (.iconst 0, 0, []), (.istore 5, 0, []), (.nop, 131, [])]
def k167_131 : List zI := [(.iload 5, 0, []), (.aload_n 0, 0, []), (.getfield 11, 192, []), (.iconst 1, 0, []), (.iaload, 0, []), (.if_icmp .ge 76, 215, []), (.iload_n 3, 0, []), (.ifCond .ne 18, 161, []), (.aload_n 0, 0, []), (.getfield 43, 208, []), (.iconst 5, 0, []), (.iload 4, 0, []), (.imul, 0, []), (.iload 5, 0, []), (.iadd, 0, []), (.iaload, 0, []), (.ifCond .eq 7, 165, []), (.nop, 161, [])]
def k167_161 : List zI := [(.iconst 1, 0, []), (.goto 4, 166, [])]
def k167_165 : List zI := [(.iconst 0, 0, []), (.nop, 166, [])]
def k167_166 : List zI := [(.istore_n 3, 0, []), (.iload_n 2, 0, []), (.ifCond .eq 39, 207, []), (.aload_n 0, 0, []), (.getfield 52, 211, []), (.iconst 5, 0, []), (.iload 4, 0, []), (.imul, 0, []), (.iload 5, 0, []), (.iadd, 0, []), (.iaload, 0, []), (.iload_n 1, 0, []), (.aload_n 0, 0, []), (.getfield 43, 208, []), (.iconst 5, 0, []), (.iload 4, 0, []), (.imul, 0, []), (.iload 5, 0, []), (.iadd, 0, []), (.iaload, 0, []), (.imul, 0, []), (.bipush 31, 0, []), (.irem, 0, []), (.if_icmp .ne 7, 207, []), (.iconst 1, 0, []), (.goto 4, 208, [])]
def k167_207 : List zI := [(.iconst 0, 0, []), (.nop, 208, [])]
def k167_208 : List zI := [(.istore_n 2, 0, []), (.iinc 5 1, 0, []), (.goto (-81), 131, [])]
def k167_215 : List zI := [(.iinc 4 1, 0, []), (.goto (-101), 117, [])]
def k167_221 : List zI := [(.iload_n 2, 0, []), (.ifCond .eq 9, 231, []), (.iload_n 3, 0, []), (.ifCond .eq 5, 231, []), (.iconst 1, 0, []), (.ireturn, 4, [])]
def k167_231 : List zI := [(.iinc 1 1, 0, []), (.goto (-130), 104, [])]
def k167_237 : List zI := [(.iconst 0, 0, []), (.ireturn, 4, [])]
def zb167 : List (Nat × List zI) := [(0, k167_0), (2, k167_2), (14, k167_14), (60, k167_60), (66, k167_66), (104, k167_104), (117, k167_117), (131, k167_131), (161, k167_161), (165, k167_165), (166, k167_166), (207, k167_207), (208, k167_208), (215, k167_215), (221, k167_221), (231, k167_231), (237, k167_237)]
def k168_0 : List zI := [(.iload_n 1, 0, []), (.i2l, 0, []), (.lconst 0, 0, []), (.lconst 1, 0, []), (.invokestatic 67, 108, [(4, 3)]), (.ifCond .ne 5, 12, []), (.iconst (-1), 0, []), (.ireturn, 1, [])]
def k168_12 : List zI := [(.aload_n 0, 0, []), (.aload_n 0, 0, []), (.getfield 43, 208, []), (.aload_n 0, 0, []), (.getfield 11, 192, []), (.sipush 148, 0, []), (.aload_n 0, 0, []), (.getfield 11, 192, []), (.sipush 148, 0, []), (.invokevirtual 225, 165, [(0, 6), (6, 0)]), (.iload_n 1, 0, []), (.ifCond .ne 10, 45, []), (.aload_n 0, 0, []), (.invokevirtual 229, 166, [(4, 1), (6, 0)]), (.goto 7, 49, [])]
def k168_45 : List zI := [(.aload_n 0, 0, []), (.invokevirtual 232, 167, [(4, 1), (6, 0)]), (.nop, 49, [])]
def k168_49 : List zI := [(.invokestatic 83, 109, [(1, 1)]), (.ireturn, 1, [])]
def zb168 : List (Nat × List zI) := [(0, k168_0), (12, k168_12), (45, k168_45), (49, k168_49)]
def k169_0 : List zI := [(.aload_n 0, 0, []), (.getfield 11, 192, []), (.iconst 0, 0, []), (.aload_n 0, 0, []), (.getfield 55, 212, []), (.iconst 0, 0, []), (.sipush 195, 0, []), (.invokestatic 107, 0, [(9, 5)]), (.aload_n 0, 0, []), (.getfield 11, 192, []), (.iconst 0, 0, []), (.iconst 0, 0, []), (.iastore, 0, []), (.aload_n 0, 0, []), (.getfield 11, 192, []), (.iconst 1, 0, []), (.iconst 3, 0, []), (.iastore, 0, []), (.aload_n 0, 0, []), (.iconst 1, 0, []), (.iconst 1, 0, []), (.iconst 1, 0, []), (.iload_n 1, 0, []), (.iload_n 2, 0, []), (.invokevirtual 235, 170, [(0, 6), (6, 0)]), (.aload_n 0, 0, []), (.iconst 1, 0, []), (.iconst 2, 0, []), (.iconst 0, 0, []), (.iload_n 2, 0, []), (.iload_n 3, 0, []), (.invokevirtual 235, 170, [(0, 6), (6, 0)]), (.aload_n 0, 0, []), (.iconst 2, 0, []), (.iconst 1, 0, []), (.iconst 0, 0, []), (.iload_n 2, 0, []), (.iload_n 3, 0, []), (.invokevirtual 235, 170, [(0, 6), (6, 0)]), (.aload_n 0, 0, []), (.iconst 2, 0, []), (.iconst 2, 0, []), (.iconst 1, 0, []), (.iload_n 3, 0, []), (.iload 4, 0, []), (.invokevirtual 235, 170, [(0, 6), (6, 0)]), (.aload_n 0, 0, []), (.invokevirtual 100, 119, [(1, 1), (6, 0)]), (.bipush (-5), 0, []), (.if_icmp .ne 7, 80, []), (.iconst 1, 0, []), (.goto 4, 81, [])]
def k169_80 : List zI := [(.iconst 0, 0, []), (.nop, 81, [])]
def k169_81 : List zI := [(.istore 5, 0, []), (.aload_n 0, 0, []), (.getfield 55, 212, []), (.iconst 0, 0, []), (.aload_n 0, 0, []), (.getfield 11, 192, []), (.iconst 0, 0, []), (.sipush 195, 0, []), (.invokestatic 107, 0, [(9, 5)]), (.iload 5, 0, []), (.ireturn, 4, [])]
def zb169 : List (Nat × List zI) := [(0, k169_0), (80, k169_80), (81, k169_81)]
def k170_0 : List zI := [(.aload_n 0, 0, []), (.getfield 11, 192, []), (.iload_n 1, 0, []), (.iload_n 2, 0, []), (.iconst 0, 0, []), (.invokestatic 79, 111, [(1, 3)]), (.iload_n 3, 0, []), (.iastore, 0, []), (.aload_n 0, 0, []), (.getfield 11, 192, []), (.iload_n 1, 0, []), (.iload_n 2, 0, []), (.iconst 1, 0, []), (.invokestatic 79, 111, [(1, 3)]), (.iload 4, 0, []), (.iastore, 0, []), (.aload_n 0, 0, []), (.getfield 11, 192, []), (.iload_n 1, 0, []), (.iload_n 2, 0, []), (.iconst 2, 0, []), (.invokestatic 79, 111, [(1, 3)]), (.iload 5, 0, []), (.iastore, 0, []), (.return_, 0, [])]
def zb170 : List (Nat × List zI) := [(0, k170_0)]
def k171_0 : List zI := [(.iload_n 1, 0, []), (.i2l, 0, []), (.lconst 0, 0, []), (.ldc2_w 163, 0, [(3, 0)]), (.invokestatic 67, 108, [(4, 3)]), (.ifCond .ne 6, 15, []), (.bipush (-2), 0, []), (.ireturn, 1, [])]
def k171_15 : List zI := [(.iconst 0, 0, []), (.istore_n 3, 0, []), (.iload_n 1, 0, []), (.iconst 1, 0, []), (.iadd, 0, []), (.istore 4, 0, []), (.iconst 0, 0, []), (.istore 5, 0, []), (.nop, 25, [])]
def k171_25 : List zI := [(.iload 5, 0, []), (.iload 4, 0, []), (.iload 4, 0, []), (.imul, 0, []), (.iload 4, 0, []), (.imul, 0, []), (.iload 4, 0, []), (.imul, 0, []), (.if_icmp .ge 97, 135, []), (.iload 5, 0, []), (.iload 4, 0, []), (.iload 4, 0, []), (.imul, 0, []), (.iload 4, 0, []), (.imul, 0, []), (.idiv, 0, []), (.istore 6, 0, []), (.iload 5, 0, []), (.iload 4, 0, []), (.iload 4, 0, []), (.imul, 0, []), (.idiv, 0, []), (.iload 4, 0, []), (.irem, 0, []), (.istore 7, 0, []), (.iload 5, 0, []), (.iload 4, 0, []), (.idiv, 0, []), (.iload 4, 0, []), (.irem, 0, []), (.istore 8, 0, []), (.iload 5, 0, []), (.iload 4, 0, []), (.irem, 0, []), (.istore 9, 0, []), (.aload_n 0, 0, []), (.iload 6, 0, []), (.iload 7, 0, []), (.iload 8, 0, []), (.iload 9, 0, []), (.invokevirtual 239, 169, [(4, 5), (6, 0)]), (.ifCond .eq 33, 129, []), (.iload_n 3, 0, []), (.iload_n 2, 0, []), (.if_icmp .ne 25, 126, []), (.sipush 1000, 0, []), (.iload 6, 0, []), (.imul, 0, []), (.bipush 100, 0, []), (.iload 7, 0, []), (.imul, 0, []), (.iadd, 0, []), (.bipush 10, 0, []), (.iload 8, 0, []), (.imul, 0, []), (.iadd, 0, []), (.iload 9, 0, []), (.iadd, 0, []), (.ireturn, 1, [])]
def k171_126 : List zI := [(.iinc 3 1, 0, []), (.nop, 129, [])]
def k171_129 : List zI := [(.iinc 5 1, 0, []), (.goto (-107), 25, [])]
def k171_135 : List zI := [(.iload_n 2, 0, []), (.iconst (-1), 0, []), (.if_icmp .ne 7, 144, []), (.iload_n 3, 0, []), (.goto 5, 146, [])]
def k171_144 : List zI := [(.bipush (-5), 0, []), (.nop, 146, [])]
def k171_146 : List zI := [(.ireturn, 1, [])]
def zb171 : List (Nat × List zI) := [(0, k171_0), (15, k171_15), (25, k171_25), (126, k171_126), (129, k171_129), (135, k171_135), (144, k171_144), (146, k171_146)]
def k172_0 : List zI := [(.iload_n 1, 0, []), (.i2l, 0, []), (.lconst 1, 0, []), (.ldc2_w 73, 0, [(4, 0)]), (.invokestatic 67, 108, [(4, 3)]), (.ifCond .eq 27, 36, []), (.iload_n 2, 0, []), (.i2l, 0, []), (.lconst 1, 0, []), (.ldc2_w 73, 0, [(4, 0)]), (.invokestatic 67, 108, [(4, 3)]), (.ifCond .eq 15, 36, []), (.iload_n 3, 0, []), (.i2l, 0, []), (.lconst 0, 0, []), (.ldc2_w 73, 0, [(4, 0)]), (.invokestatic 67, 108, [(4, 3)]), (.ifCond .ne 5, 38, []), (.nop, 36, [])]
def k172_36 : List zI := [(.iconst (-1), 0, []), (.ireturn, 1, [])]
def k172_38 : List zI := [(.aload_n 0, 0, []), (.getfield 11, 192, []), (.iload_n 1, 0, []), (.iload_n 2, 0, []), (.iload_n 3, 0, []), (.invokestatic 79, 111, [(1, 3)]), (.iaload, 0, []), (.istore 4, 0, []), (.aload_n 0, 0, []), (.getfield 11, 192, []), (.iload_n 2, 0, []), (.iload_n 1, 0, []), (.iload_n 3, 0, []), (.invokestatic 79, 111, [(1, 3)]), (.iaload, 0, []), (.istore 5, 0, []), (.iconst 0, 0, []), (.istore 6, 0, []), (.iconst 0, 0, []), (.istore 7, 0, []), (.nop, 70, [])]
def k172_70 : List zI := [(.iload 7, 0, []), (.bipush 10, 0, []), (.if_icmp .ge 60, 134, []), (.aload_n 0, 0, []), (.getfield 11, 192, []), (.iload_n 1, 0, []), (.iload_n 2, 0, []), (.iload_n 3, 0, []), (.invokestatic 79, 111, [(1, 3)]), (.iload 7, 0, []), (.iastore, 0, []), (.aload_n 0, 0, []), (.getfield 11, 192, []), (.iload_n 2, 0, []), (.iload_n 1, 0, []), (.iload_n 3, 0, []), (.invokestatic 79, 111, [(1, 3)]), (.iload 7, 0, []), (.iastore, 0, []), (.iload 6, 0, []), (.aload_n 0, 0, []), (.invokevirtual 100, 119, [(1, 1), (6, 0)]), (.bipush (-5), 0, []), (.if_icmp .ne 7, 118, []), (.iconst 1, 0, []), (.goto 4, 119, [])]
def k172_118 : List zI := [(.iconst 0, 0, []), (.nop, 119, [])]
def k172_119 : List zI := [(.invokestatic 83, 109, [(1, 1)]), (.iload 7, 0, []), (.ishl, 0, []), (.ior, 0, []), (.istore 6, 0, []), (.iinc 7 1, 0, []), (.goto (-61), 70, [])]
def k172_134 : List zI := [(.aload_n 0, 0, []), (.getfield 11, 192, []), (.iload_n 1, 0, []), (.iload_n 2, 0, []), (.iload_n 3, 0, []), (.invokestatic 79, 111, [(1, 3)]), (.iload 4, 0, []), (.iastore, 0, []), (.aload_n 0, 0, []), (.getfield 11, 192, []), (.iload_n 2, 0, []), (.iload_n 1, 0, []), (.iload_n 3, 0, []), (.invokestatic 79, 111, [(1, 3)]), (.iload 5, 0, []), (.iastore, 0, []), (.iload 6, 0, []), (.ireturn, 1, [])]
def zb172 : List (Nat × List zI) := [(0, k172_0), (36, k172_36), (38, k172_38), (70, k172_70), (118, k172_118), (119, k172_119), (134, k172_134)]
def k173_0 : List zI := [(.iload_n 2, 0, []), (.istore_n 3, 0, []), (.iconst 1, 0, []), (.istore 4, 0, []), (.iconst 0, 0, []), (.istore 5, 0, []), (.nop, 8, [])]
def k173_8 : List zI := [(.iload 5, 0, []), (.iload_n 1, 0, []), (.if_icmp .ge 118, 129, []), (.iload_n 3, 0, []), (.ldc 243, 0, [(1103515245, 0)]), (.imul, 0, []), (.sipush 12345, 0, []), (.iadd, 0, []), (.istore_n 3, 0, []), (.iload_n 3, 0, []), (.bipush 16, 0, []), (.iushr, 0, []), (.aload_n 0, 0, []), (.getfield 11, 192, []), (.iconst 1, 0, []), (.iaload, 0, []), (.irem, 0, []), (.istore 6, 0, []), (.iconst 0, 0, []), (.istore 7, 0, []), (.iconst 0, 0, []), (.istore 8, 0, []), (.nop, 42, [])]
def k173_42 : List zI := [(.iload 8, 0, []), (.aload_n 0, 0, []), (.getfield 11, 192, []), (.iconst 1, 0, []), (.iaload, 0, []), (.if_icmp .ge 69, 119, []), (.iconst 0, 0, []), (.istore 9, 0, []), (.nop, 56, [])]
def k173_56 : List zI := [(.iload 4, 0, []), (.iload 8, 0, []), (.ishr, 0, []), (.iconst 1, 0, []), (.iand, 0, []), (.iconst 1, 0, []), (.if_icmp .ne 49, 113, []), (.iload 9, 0, []), (.aload_n 0, 0, []), (.getfield 11, 192, []), (.iconst 1, 0, []), (.iaload, 0, []), (.if_icmp .ge 38, 113, []), (.iload 7, 0, []), (.aload_n 0, 0, []), (.iload 8, 0, []), (.iload 6, 0, []), (.iload 9, 0, []), (.invokevirtual 97, 117, [(1, 4), (6, 0)]), (.ifCond .le 7, 97, []), (.iconst 1, 0, []), (.goto 4, 98, [])]
def k173_97 : List zI := [(.iconst 0, 0, []), (.nop, 98, [])]
def k173_98 : List zI := [(.invokestatic 83, 109, [(1, 1)]), (.iload 9, 0, []), (.ishl, 0, []), (.ior, 0, []), (.istore 7, 0, []), (.iinc 9 1, 0, []), (.goto (-54), 56, [])]
def k173_113 : List zI := [(.iinc 8 1, 0, []), (.goto (-74), 42, [])]
def k173_119 : List zI := [(.iload 7, 0, []), (.istore 4, 0, []), (.iinc 5 1, 0, []), (.goto (-118), 8, [])]
def k173_129 : List zI := [(.iload 4, 0, []), (.ireturn, 1, [])]
def zb173 : List (Nat × List zI) := [(0, k173_0), (8, k173_8), (42, k173_42), (56, k173_56), (97, k173_97), (98, k173_98), (113, k173_113), (119, k173_119), (129, k173_129)]
def k174_0 : List zI := [(.aload_n 0, 0, []), (.iload_n 1, 0, []), (.invokevirtual 93, 110, [(4, 2), (6, 0)]), (.ifCond .eq 39, 44, []), (.iload_n 2, 0, []), (.i2l, 0, []), (.lconst 1, 0, []), (.ldc2_w 244, 0, [(12, 0)]), (.invokestatic 67, 108, [(4, 3)]), (.ifCond .eq 27, 44, []), (.iload 4, 0, []), (.i2l, 0, []), (.lconst 1, 0, []), (.ldc2_w 220, 0, [(30, 0)]), (.invokestatic 67, 108, [(4, 3)]), (.ifCond .eq 14, 44, []), (.iload 5, 0, []), (.i2l, 0, []), (.lconst 0, 0, []), (.lconst 1, 0, []), (.invokestatic 67, 108, [(4, 3)]), (.ifCond .ne 7, 48, []), (.nop, 44, [])]
def k174_44 : List zI := [(.ldc2_w 115, 0, [(-9223372036854775808, 0)]), (.lreturn, 2, [])]
def k174_48 : List zI := [(.iconst 0, 0, []), (.istore 6, 0, []), (.iconst 0, 0, []), (.istore 7, 0, []), (.nop, 54, [])]
def k174_54 : List zI := [(.iload 7, 0, []), (.iload 4, 0, []), (.if_icmp .ge 27, 85, []), (.iload 6, 0, []), (.aload_n 0, 0, []), (.iload_n 2, 0, []), (.iload_n 3, 0, []), (.iload 7, 0, []), (.iadd, 0, []), (.invokevirtual 246, 173, [(1, 3), (6, 0)]), (.iload_n 1, 0, []), (.ishr, 0, []), (.iconst 1, 0, []), (.iand, 0, []), (.iadd, 0, []), (.istore 6, 0, []), (.iinc 7 1, 0, []), (.goto (-28), 54, [])]
def k174_85 : List zI := [(.iload 6, 0, []), (.istore 7, 0, []), (.iload 4, 0, []), (.istore 8, 0, []), (.nop, 93, [])]
def k174_93 : List zI := [(.iload 8, 0, []), (.ifCond .eq 21, 116, []), (.iload 7, 0, []), (.iload 8, 0, []), (.irem, 0, []), (.istore 9, 0, []), (.iload 8, 0, []), (.istore 7, 0, []), (.iload 9, 0, []), (.istore 8, 0, []), (.goto (-20), 93, [])]
def k174_116 : List zI := [(.iload 5, 0, []), (.ifCond .ne 12, 130, []), (.iload 6, 0, []), (.iload 7, 0, []), (.idiv, 0, []), (.i2l, 0, []), (.goto 9, 136, [])]
def k174_130 : List zI := [(.iload 4, 0, []), (.iload 7, 0, []), (.idiv, 0, []), (.i2l, 0, []), (.nop, 136, [])]
def k174_136 : List zI := [(.lreturn, 2, [])]
def zb174 : List (Nat × List zI) := [(0, k174_0), (44, k174_44), (48, k174_48), (54, k174_54), (85, k174_85), (93, k174_93), (116, k174_116), (130, k174_130), (136, k174_136)]
def k175_0 : List zI := [(.iload_n 1, 0, []), (.iconst (-1), 0, []), (.if_icmp .ne 14, 16, []), (.aload_n 0, 0, []), (.getfield 11, 192, []), (.sipush 178, 0, []), (.iconst 0, 0, []), (.iastore, 0, []), (.iconst 0, 0, []), (.ireturn, 1, [])]
def k175_16 : List zI := [(.iload_n 1, 0, []), (.i2l, 0, []), (.lconst 0, 0, []), (.ldc2_w 71, 0, [(2, 0)]), (.invokestatic 67, 108, [(4, 3)]), (.ifCond .ne 5, 30, []), (.iconst (-1), 0, []), (.ireturn, 1, [])]
def k175_30 : List zI := [(.iload_n 2, 0, []), (.i2l, 0, []), (.lconst 0, 0, []), (.iload_n 1, 0, []), (.iconst 2, 0, []), (.if_icmp .ne 9, 44, []), (.ldc2_w 77, 0, [(9, 0)]), (.goto 6, 47, [])]
def k175_44 : List zI := [(.ldc2_w 73, 0, [(4, 0)]), (.nop, 47, [])]
def k175_47 : List zI := [(.invokestatic 67, 108, [(4, 3)]), (.ifCond .ne 6, 56, []), (.bipush (-2), 0, []), (.ireturn, 1, [])]
def k175_56 : List zI := [(.aload_n 0, 0, []), (.getfield 11, 192, []), (.sipush 178, 0, []), (.iaload, 0, []), (.bipush 8, 0, []), (.if_icmp .ne 6, 72, []), (.bipush (-4), 0, []), (.ireturn, 1, [])]
def k175_72 : List zI := [(.aload_n 0, 0, []), (.getfield 11, 192, []), (.sipush 179, 0, []), (.aload_n 0, 0, []), (.getfield 11, 192, []), (.sipush 178, 0, []), (.iaload, 0, []), (.iadd, 0, []), (.iload_n 1, 0, []), (.iastore, 0, []), (.aload_n 0, 0, []), (.getfield 11, 192, []), (.sipush 187, 0, []), (.aload_n 0, 0, []), (.getfield 11, 192, []), (.sipush 178, 0, []), (.iaload, 0, []), (.iadd, 0, []), (.iload_n 2, 0, []), (.iastore, 0, []), (.aload_n 0, 0, []), (.getfield 11, 192, []), (.sipush 178, 0, []), (.dup2, 0, []), (.iaload, 0, []), (.iconst 1, 0, []), (.iadd, 0, []), (.iastore, 0, []), (.aload_n 0, 0, []), (.getfield 11, 192, []), (.sipush 178, 0, []), (.iaload, 0, []), (.ireturn, 1, [])]
def zb175 : List (Nat × List zI) := [(0, k175_0), (16, k175_16), (30, k175_30), (44, k175_44), (47, k175_47), (56, k175_56), (72, k175_72)]
def k176_0 : List zI := [(.iload_n 1, 0, []), (.ifCond .ne 16, 17, []), (.aload_n 0, 0, []), (.iload_n 2, 0, []), (.invokevirtual 93, 110, [(4, 2), (6, 0)]), (.ifCond .eq 8, 17, []), (.aload_n 0, 0, []), (.iload_n 2, 0, []), (.invokevirtual 121, 124, [(0, 2), (6, 0)]), (.nop, 17, [])]
def k176_17 : List zI := [(.iload_n 1, 0, []), (.iconst 1, 0, []), (.if_icmp .ne 21, 40, []), (.aload_n 0, 0, []), (.iload_n 2, 0, []), (.invokevirtual 93, 110, [(4, 2), (6, 0)]), (.ifCond .eq 13, 40, []), (.aload_n 0, 0, []), (.getfield 18, 195, []), (.iload_n 2, 0, []), (.dup2, 0, []), (.laload, 0, []), (.lconst 1, 0, []), (.ladd, 0, []), (.lastore, 0, []), (.nop, 40, [])]
def k176_40 : List zI := [(.iconst 0, 0, []), (.istore_n 3, 0, []), (.nop, 42, [])]
def k176_42 : List zI := [(.iload_n 3, 0, []), (.aload_n 0, 0, []), (.getfield 11, 192, []), (.iconst 1, 0, []), (.iaload, 0, []), (.if_icmp .ge 69, 118, []), (.aload_n 0, 0, []), (.getfield 18, 195, []), (.iload_n 3, 0, []), (.iload_n 1, 0, []), (.iconst 2, 0, []), (.if_icmp .ne 15, 74, []), (.aload_n 0, 0, []), (.getfield 18, 195, []), (.iload_n 3, 0, []), (.laload, 0, []), (.iload_n 2, 0, []), (.i2l, 0, []), (.lmul, 0, []), (.goto 9, 80, [])]
def k176_74 : List zI := [(.aload_n 0, 0, []), (.getfield 18, 195, []), (.iload_n 3, 0, []), (.laload, 0, []), (.nop, 80, [])]
def k176_80 : List zI := [(.lastore, 0, []), (.aload_n 0, 0, []), (.getfield 18, 195, []), (.iload_n 3, 0, []), (.aload_n 0, 0, []), (.getfield 18, 195, []), (.iload_n 3, 0, []), (.laload, 0, []), (.ldc2_w 172, 0, [(999, 0)]), (.lcmp, 0, []), (.ifCond .le 9, 105, []), (.ldc2_w 172, 0, [(999, 0)]), (.goto 9, 111, [])]
def k176_105 : List zI := [(.aload_n 0, 0, []), (.getfield 18, 195, []), (.iload_n 3, 0, []), (.laload, 0, []), (.nop, 111, [])]
def k176_111 : List zI := [(.lastore, 0, []), (.iinc 3 1, 0, []), (.goto (-73), 42, [])]
def k176_118 : List zI := [(.return_, 0, [])]
def zb176 : List (Nat × List zI) := [(0, k176_0), (17, k176_17), (40, k176_40), (42, k176_42), (74, k176_74), (80, k176_80), (105, k176_105), (111, k176_111), (118, k176_118)]
def k177_0 : List zI := [(.iload_n 1, 0, []), (.invokestatic 165, 135, [(4, 1)]), (.ifCond .eq 11, 15, []), (.aload_n 0, 0, []), (.iload_n 2, 0, []), (.invokevirtual 93, 110, [(4, 2), (6, 0)]), (.ifCond .ne 5, 17, []), (.nop, 15, [])]
def k177_15 : List zI := [(.iconst (-1), 0, []), (.ireturn, 1, [])]
def k177_17 : List zI := [(.iconst 0, 0, []), (.istore_n 3, 0, []), (.nop, 19, [])]
def k177_19 : List zI := [(.iload_n 3, 0, []), (.aload_n 0, 0, []), (.getfield 11, 192, []), (.iconst 1, 0, []), (.iaload, 0, []), (.if_icmp .ge 26, 52, []), (.aload_n 0, 0, []), (.getfield 18, 195, []), (.iload_n 3, 0, []), (.aload_n 0, 0, []), (.getfield 11, 192, []), (.iload_n 1, 0, []), (.iload_n 3, 0, []), (.invokestatic 168, 136, [(1, 2)]), (.iaload, 0, []), (.i2l, 0, []), (.lastore, 0, []), (.iinc 3 1, 0, []), (.goto (-30), 19, [])]
def k177_52 : List zI := [(.iconst 0, 0, []), (.istore_n 3, 0, []), (.nop, 54, [])]
def k177_54 : List zI := [(.iload_n 3, 0, []), (.aload_n 0, 0, []), (.getfield 11, 192, []), (.sipush 178, 0, []), (.iaload, 0, []), (.if_icmp .ge 33, 96, []), (.aload_n 0, 0, []), (.aload_n 0, 0, []), (.getfield 11, 192, []), (.sipush 179, 0, []), (.iload_n 3, 0, []), (.iadd, 0, []), (.iaload, 0, []), (.aload_n 0, 0, []), (.getfield 11, 192, []), (.sipush 187, 0, []), (.iload_n 3, 0, []), (.iadd, 0, []), (.iaload, 0, []), (.invokevirtual 249, 176, [(0, 3), (6, 0)]), (.iinc 3 1, 0, []), (.goto (-39), 54, [])]
def k177_96 : List zI := [(.aload_n 0, 0, []), (.getfield 18, 195, []), (.iload_n 2, 0, []), (.laload, 0, []), (.l2i, 0, []), (.ireturn, 1, [])]
def zb177 : List (Nat × List zI) := [(0, k177_0), (15, k177_15), (17, k177_17), (19, k177_19), (52, k177_52), (54, k177_54), (96, k177_96)]
def k178_0 : List zI := [(.aload_n 0, 0, []), (.getfield 58, 213, []), (.aload_n 0, 0, []), (.getfield 253, 214, []), (.iload_n 1, 0, []), (.iastore, 0, []), (.aload_n 0, 0, []), (.dup, 0, []), (.getfield 253, 214, []), (.iconst 1, 0, []), (.iadd, 0, []), (.putfield 253, 214, []), (.return_, 0, [])]
def zb178 : List (Nat × List zI) := [(0, k178_0)]
def k179_0 : List zI := [(.iload_n 1, 0, []), (.bipush 9, 0, []), (.if_icmp .le 11, 14, []), (.aload_n 0, 0, []), (.iload_n 1, 0, []), (.bipush 10, 0, []), (.idiv, 0, []), (.invokevirtual 256, 179, [(0, 2), (6, 0)]), (.nop, 14, [])]
def k179_14 : List zI := [(.aload_n 0, 0, []), (.bipush 48, 0, []), (.iload_n 1, 0, []), (.bipush 10, 0, []), (.irem, 0, []), (.iadd, 0, []), (.invokevirtual 259, 178, [(0, 2), (6, 0)]), (.return_, 0, [])]
def zb179 : List (Nat × List zI) := [(0, k179_0), (14, k179_14)]
def k180_0 : List zI := [(.iload_n 1, 0, []), (.invokestatic 165, 135, [(4, 1)]), (.ifCond .ne 5, 9, []), (.iconst (-1), 0, []), (.ireturn, 1, [])]
def k180_9 : List zI := [(.aload_n 0, 0, []), (.iconst 0, 0, []), (.putfield 253, 214, []), (.iconst 0, 0, []), (.istore_n 2, 0, []), (.nop, 16, [])]
def k180_16 : List zI := [(.iload_n 2, 0, []), (.aload_n 0, 0, []), (.getfield 11, 192, []), (.iconst 1, 0, []), (.iaload, 0, []), (.if_icmp .ge 58, 81, []), (.aload_n 0, 0, []), (.getfield 11, 192, []), (.iload_n 1, 0, []), (.iload_n 2, 0, []), (.invokestatic 168, 136, [(1, 2)]), (.iaload, 0, []), (.istore_n 3, 0, []), (.iload_n 3, 0, []), (.ifCond .ne 6, 44, []), (.goto 34, 75, [])]
def k180_44 : List zI := [(.aload_n 0, 0, []), (.getfield 253, 214, []), (.ifCond .le 9, 57, []), (.aload_n 0, 0, []), (.bipush 43, 0, []), (.invokevirtual 259, 178, [(0, 2), (6, 0)]), (.nop, 57, [])]
def k180_57 : List zI := [(.iload_n 3, 0, []), (.iconst 1, 0, []), (.if_icmp .le 8, 67, []), (.aload_n 0, 0, []), (.iload_n 3, 0, []), (.invokevirtual 256, 179, [(0, 2), (6, 0)]), (.nop, 67, [])]
def k180_67 : List zI := [(.aload_n 0, 0, []), (.bipush 97, 0, []), (.iload_n 2, 0, []), (.iadd, 0, []), (.invokevirtual 259, 178, [(0, 2), (6, 0)]), (.nop, 75, [])]
def k180_75 : List zI := [(.iinc 2 1, 0, []), (.goto (-62), 16, [])]
def k180_81 : List zI := [(.aload_n 0, 0, []), (.getfield 253, 214, []), (.ifCond .ne 9, 94, []), (.aload_n 0, 0, []), (.bipush 48, 0, []), (.invokevirtual 259, 178, [(0, 2), (6, 0)]), (.nop, 94, [])]
def k180_94 : List zI := [(.aload_n 0, 0, []), (.getfield 253, 214, []), (.ireturn, 1, [])]
def zb180 : List (Nat × List zI) := [(0, k180_0), (9, k180_9), (16, k180_16), (44, k180_44), (57, k180_57), (67, k180_67), (75, k180_75), (81, k180_81), (94, k180_94)]
def k181_0 : List zI := [(.iload_n 1, 0, []), (.i2l, 0, []), (.lconst 0, 0, []), (.aload_n 0, 0, []), (.getfield 253, 214, []), (.iconst 1, 0, []), (.isub, 0, []), (.i2l, 0, []), (.invokestatic 67, 108, [(4, 3)]), (.ifCond .eq 12, 25, []), (.aload_n 0, 0, []), (.getfield 58, 213, []), (.iload_n 1, 0, []), (.iaload, 0, []), (.goto 4, 26, [])]
def k181_25 : List zI := [(.iconst (-1), 0, []), (.nop, 26, [])]
def k181_26 : List zI := [(.ireturn, 1, [])]
def zb181 : List (Nat × List zI) := [(0, k181_0), (25, k181_25), (26, k181_26)]
def k182_0 : List zI := [(.iload_n 0, 0, []), (.i2l, 0, []), (.lconst 0, 0, []), (.ldc2_w 163, 0, [(3, 0)]), (.invokestatic 67, 108, [(4, 3)]), (.ireturn, 4, [])]
def zb182 : List (Nat × List zI) := [(0, k182_0)]
def k183_0 : List zI := [(.iload_n 1, 0, []), (.invokestatic 262, 182, [(4, 1)]), (.ifCond .eq 19, 23, []), (.aload_n 0, 0, []), (.iload_n 2, 0, []), (.invokevirtual 93, 110, [(4, 2), (6, 0)]), (.ifCond .eq 11, 23, []), (.aload_n 0, 0, []), (.iload_n 3, 0, []), (.invokevirtual 93, 110, [(4, 2), (6, 0)]), (.ifCond .ne 5, 25, []), (.nop, 23, [])]
def k183_23 : List zI := [(.iconst (-1), 0, []), (.ireturn, 1, [])]
def k183_25 : List zI := [(.aload_n 0, 0, []), (.getfield 64, 216, []), (.iload_n 1, 0, []), (.iaload, 0, []), (.iconst (-1), 0, []), (.if_icmp .ne 6, 38, []), (.bipush (-11), 0, []), (.ireturn, 1, [])]
def k183_38 : List zI := [(.iconst 0, 0, []), (.istore 4, 0, []), (.nop, 41, [])]
def k183_41 : List zI := [(.iload 4, 0, []), (.aload_n 0, 0, []), (.getfield 64, 216, []), (.iload_n 1, 0, []), (.iaload, 0, []), (.if_icmp .ge 50, 99, []), (.aload_n 0, 0, []), (.getfield 61, 215, []), (.bipush 12, 0, []), (.iload_n 1, 0, []), (.imul, 0, []), (.iload 4, 0, []), (.iadd, 0, []), (.laload, 0, []), (.aload_n 0, 0, []), (.iload 4, 0, []), (.invokevirtual 93, 110, [(4, 2), (6, 0)]), (.ifCond .eq 14, 84, []), (.aload_n 0, 0, []), (.iload_n 2, 0, []), (.iload_n 3, 0, []), (.iload 4, 0, []), (.invokevirtual 97, 117, [(1, 4), (6, 0)]), (.goto 4, 85, [])]
def k183_84 : List zI := [(.iconst 0, 0, []), (.nop, 85, [])]
def k183_85 : List zI := [(.i2l, 0, []), (.lcmp, 0, []), (.ifCond .eq 6, 93, []), (.iload 4, 0, []), (.ireturn, 1, [])]
def k183_93 : List zI := [(.iinc 4 1, 0, []), (.goto (-55), 41, [])]
def k183_99 : List zI := [(.bipush (-5), 0, []), (.ireturn, 1, [])]
def zb183 : List (Nat × List zI) := [(0, k183_0), (23, k183_23), (25, k183_25), (38, k183_38), (41, k183_41), (84, k183_84), (85, k183_85), (93, k183_93), (99, k183_99)]
def k184_0 : List zI := [(.iload_n 1, 0, []), (.invokestatic 262, 182, [(4, 1)]), (.ifCond .ne 5, 9, []), (.iconst (-1), 0, []), (.ireturn, 1, [])]
def k184_9 : List zI := [(.iload_n 2, 0, []), (.bipush 12, 0, []), (.if_icmp .le 6, 18, []), (.bipush (-2), 0, []), (.ireturn, 1, [])]
def k184_18 : List zI := [(.iload_n 2, 0, []), (.ifCond .ge 6, 25, []), (.bipush (-14), 0, []), (.ireturn, 1, [])]
def k184_25 : List zI := [(.aload_n 0, 0, []), (.getfield 64, 216, []), (.iload_n 1, 0, []), (.iload_n 2, 0, []), (.iastore, 0, []), (.iconst 0, 0, []), (.istore_n 3, 0, []), (.nop, 34, [])]
def k184_34 : List zI := [(.iload_n 3, 0, []), (.bipush 12, 0, []), (.if_icmp .ge 21, 58, []), (.aload_n 0, 0, []), (.getfield 61, 215, []), (.bipush 12, 0, []), (.iload_n 1, 0, []), (.imul, 0, []), (.iload_n 3, 0, []), (.iadd, 0, []), (.lconst 0, 0, []), (.lastore, 0, []), (.iinc 3 1, 0, []), (.goto (-21), 34, [])]
def k184_58 : List zI := [(.iconst 1, 0, []), (.ireturn, 1, [])]
def zb184 : List (Nat × List zI) := [(0, k184_0), (9, k184_9), (18, k184_18), (25, k184_25), (34, k184_34), (58, k184_58)]
def k185_0 : List zI := [(.iload_n 1, 0, []), (.invokestatic 262, 182, [(4, 1)]), (.ifCond .ne 5, 9, []), (.iconst (-1), 0, []), (.ireturn, 1, [])]
def k185_9 : List zI := [(.aload_n 0, 0, []), (.getfield 64, 216, []), (.iload_n 1, 0, []), (.iaload, 0, []), (.iconst (-1), 0, []), (.if_icmp .ne 6, 22, []), (.bipush (-11), 0, []), (.ireturn, 1, [])]
def k185_22 : List zI := [(.iload_n 2, 0, []), (.i2l, 0, []), (.lconst 0, 0, []), (.aload_n 0, 0, []), (.getfield 64, 216, []), (.iload_n 1, 0, []), (.iaload, 0, []), (.iconst 1, 0, []), (.isub, 0, []), (.i2l, 0, []), (.invokestatic 67, 108, [(4, 3)]), (.ifCond .ne 6, 43, []), (.bipush (-13), 0, []), (.ireturn, 1, [])]
def k185_43 : List zI := [(.aload_n 0, 0, []), (.getfield 61, 215, []), (.bipush 12, 0, []), (.iload_n 1, 0, []), (.imul, 0, []), (.iload_n 2, 0, []), (.iadd, 0, []), (.lload_n 3, 0, []), (.lastore, 0, []), (.iconst 1, 0, []), (.ireturn, 1, [])]
def zb185 : List (Nat × List zI) := [(0, k185_0), (9, k185_9), (22, k185_22), (43, k185_43)]
def k186_0 : List zI := [(.iload_n 1, 0, []), (.invokestatic 262, 182, [(4, 1)]), (.ifCond .eq 35, 39, []), (.iload_n 2, 0, []), (.i2l, 0, []), (.lconst 0, 0, []), (.aload_n 0, 0, []), (.getfield 64, 216, []), (.iload_n 1, 0, []), (.iaload, 0, []), (.iconst 1, 0, []), (.isub, 0, []), (.i2l, 0, []), (.invokestatic 67, 108, [(4, 3)]), (.ifCond .eq 17, 39, []), (.aload_n 0, 0, []), (.getfield 61, 215, []), (.bipush 12, 0, []), (.iload_n 1, 0, []), (.imul, 0, []), (.iload_n 2, 0, []), (.iadd, 0, []), (.laload, 0, []), (.goto 6, 42, [])]
def k186_39 : List zI := [(.ldc2_w 115, 0, [(-9223372036854775808, 0)]), (.nop, 42, [])]
def k186_42 : List zI := [(.lreturn, 2, [])]
def zb186 : List (Nat × List zI) := [(0, k186_0), (39, k186_39), (42, k186_42)]
def k187_0 : List zI := [(.aload_n 0, 0, []), (.getfield 11, 192, []), (.iconst 0, 0, []), (.aload_n 0, 0, []), (.getfield 15, 193, []), (.iconst 0, 0, []), (.sipush 195, 0, []), (.invokestatic 107, 0, [(9, 5)]), (.aload_n 0, 0, []), (.iconst 1, 0, []), (.putfield 265, 194, []), (.aload_n 0, 0, []), (.getfield 11, 192, []), (.iconst 1, 0, []), (.iaload, 0, []), (.ireturn, 1, [])]
def zb187 : List (Nat × List zI) := [(0, k187_0)]
def k188_0 : List zI := [(.aload_n 0, 0, []), (.getfield 265, 194, []), (.ifCond .ne 6, 10, []), (.bipush (-3), 0, []), (.ireturn, 1, [])]
def k188_10 : List zI := [(.aload_n 0, 0, []), (.getfield 15, 193, []), (.iconst 0, 0, []), (.aload_n 0, 0, []), (.getfield 11, 192, []), (.iconst 0, 0, []), (.sipush 195, 0, []), (.invokestatic 107, 0, [(9, 5)]), (.aload_n 0, 0, []), (.getfield 11, 192, []), (.iconst 1, 0, []), (.iaload, 0, []), (.ireturn, 1, [])]
def zb188 : List (Nat × List zI) := [(0, k188_0), (10, k188_10)]
def k189_0 : List zI := [(.iconst 0, 0, []), (.istore_n 3, 0, []), (.iload_n 1, 0, []), (.istore 4, 0, []), (.nop, 5, [])]
def k189_5 : List zI := [(.iload 4, 0, []), (.iload_n 2, 0, []), (.if_icmp .ge 30, 38, []), (.iload_n 3, 0, []), (.aload_n 0, 0, []), (.getfield 11, 192, []), (.iload 4, 0, []), (.iaload, 0, []), (.ifCond .eq 7, 26, []), (.iconst 1, 0, []), (.goto 4, 27, [])]
def k189_26 : List zI := [(.iconst 0, 0, []), (.nop, 27, [])]
def k189_27 : List zI := [(.invokestatic 83, 109, [(1, 1)]), (.iadd, 0, []), (.istore_n 3, 0, []), (.iinc 4 1, 0, []), (.goto (-30), 5, [])]
def k189_38 : List zI := [(.iload_n 3, 0, []), (.ireturn, 1, [])]
def zb189 : List (Nat × List zI) := [(0, k189_0), (5, k189_5), (26, k189_26), (27, k189_27), (38, k189_38)]
def k190_0 : List zI := [(.iload_n 1, 0, []), (.tableswitch 74 0 4 #[35, 44, 55, 60, 65], 75, [(0, 36), (1, 45), (2, 56), (3, 61), (4, 66)])]
def k190_36 : List zI := [(.aload_n 0, 0, []), (.iconst 3, 0, []), (.sipush 128, 0, []), (.invokevirtual 269, 189, [(1, 3), (6, 0)]), (.ireturn, 1, [])]
def k190_45 : List zI := [(.aload_n 0, 0, []), (.sipush 128, 0, []), (.sipush 148, 0, []), (.invokevirtual 269, 189, [(1, 3), (6, 0)]), (.ireturn, 1, [])]
def k190_56 : List zI := [(.aload_n 0, 0, []), (.getfield 126, 198, []), (.ireturn, 1, [])]
def k190_61 : List zI := [(.aload_n 0, 0, []), (.getfield 253, 214, []), (.ireturn, 1, [])]
def k190_66 : List zI := [(.aload_n 0, 0, []), (.getfield 11, 192, []), (.sipush 178, 0, []), (.iaload, 0, []), (.ireturn, 1, [])]
def k190_75 : List zI := [(.bipush (-2), 0, []), (.ireturn, 1, [])]
def zb190 : List (Nat × List zI) := [(0, k190_0), (36, k190_36), (45, k190_45), (56, k190_56), (61, k190_61), (66, k190_66), (75, k190_75)]
def k191_0 : List zI := [(.iconst 0, 0, []), (.istore_n 3, 0, []), (.aload_n 0, 0, []), (.arraylength, 0, []), (.istore 4, 0, []), (.nop, 6, [])]
def k191_6 : List zI := [(.iload_n 3, 0, []), (.iload 4, 0, []), (.if_icmp .ge 13, 22, []), (.aload_n 0, 0, []), (.iload_n 3, 0, []), (.lload_n 1, 0, []), (.lastore, 0, []), (.iinc 3 1, 0, []), (.goto (-13), 6, [])]
def k191_22 : List zI := [(.return_, 0, [])]
def zb191 : List (Nat × List zI) := [(0, k191_0), (6, k191_6), (22, k191_22)]
def k192_0 : List zI := [(.iconst 0, 0, []), (.istore_n 2, 0, []), (.aload_n 0, 0, []), (.arraylength, 0, []), (.istore_n 3, 0, []), (.nop, 5, [])]
def k192_5 : List zI := [(.iload_n 2, 0, []), (.iload_n 3, 0, []), (.if_icmp .ge 13, 20, []), (.aload_n 0, 0, []), (.iload_n 2, 0, []), (.iload_n 1, 0, []), (.iastore, 0, []), (.iinc 2 1, 0, []), (.goto (-12), 5, [])]
def k192_20 : List zI := [(.return_, 0, [])]
def zb192 : List (Nat × List zI) := [(0, k192_0), (5, k192_5), (20, k192_20)]
def k193_18 : List zI := [(.iload_n 3, 0, []), (.aload_n 0, 0, []), (.arraylength, 0, []), (.bipush 6, 0, []), (.isub, 0, []), (.if_icmp .gt 1399, 1423, []), (.aload_n 0, 0, []), (.iload_n 3, 0, []), (.iaload, 0, []), (.bipush 63, 0, []), (.iand, 0, []), (.tableswitch 1384 0 37 #[167, 200, 223, 276, 299, 312, 355, 378, 401, 445, 468, 501, 544, 577, 600, 623, 646, 679, 702, 745, 788, 821, 834, 877, 900, 933, 976, 1040, 1073, 1106, 1129, 1152, 1195, 1228, 1301, 1335, 1348, 1361], 1417, [(0, 200), (1, 233), (2, 256), (3, 309), (4, 332), (5, 345), (6, 388), (7, 411), (8, 434), (9, 478), (10, 501), (11, 534), (12, 577), (13, 610), (14, 633), (15, 656), (16, 679), (17, 712), (18, 735), (19, 778), (20, 821), (21, 854), (22, 867), (23, 910), (24, 933), (25, 966), (26, 1009), (27, 1073), (28, 1106), (29, 1139), (30, 1162), (31, 1185), (32, 1228), (33, 1261), (34, 1334), (35, 1368), (36, 1381), (37, 1394)])]
def k193_200 : List zI := [(.aload_n 1, 0, []), (.aload_n 0, 0, []), (.iload_n 3, 0, []), (.iconst 1, 0, []), (.iadd, 0, []), (.iaload, 0, []), (.aload_n 0, 0, []), (.iload_n 3, 0, []), (.iconst 2, 0, []), (.iadd, 0, []), (.iaload, 0, []), (.invokevirtual 13, 50, [(1, 3), (5, 0)]), (.aload_n 2, 0, []), (.aload_n 0, 0, []), (.iload_n 3, 0, []), (.iconst 1, 0, []), (.iadd, 0, []), (.iaload, 0, []), (.aload_n 0, 0, []), (.iload_n 3, 0, []), (.iconst 2, 0, []), (.iadd, 0, []), (.iaload, 0, []), (.invokevirtual 17, 112, [(1, 3), (6, 0)]), (.if_icmp .eq 1189, 1417, []), (.iconst 0, 0, []), (.ireturn, 4, [])]
def k193_233 : List zI := [(.aload_n 1, 0, []), (.aload_n 0, 0, []), (.iload_n 3, 0, []), (.iconst 1, 0, []), (.iadd, 0, []), (.iaload, 0, []), (.invokevirtual 18, 51, [(1, 2), (5, 0)]), (.aload_n 2, 0, []), (.aload_n 0, 0, []), (.iload_n 3, 0, []), (.iconst 1, 0, []), (.iadd, 0, []), (.iaload, 0, []), (.invokevirtual 22, 113, [(1, 2), (6, 0)]), (.if_icmp .eq 1166, 1417, []), (.iconst 0, 0, []), (.ireturn, 4, [])]
def k193_256 : List zI := [(.aload_n 1, 0, []), (.aload_n 0, 0, []), (.iload_n 3, 0, []), (.iconst 1, 0, []), (.iadd, 0, []), (.iaload, 0, []), (.aload_n 0, 0, []), (.iload_n 3, 0, []), (.iconst 2, 0, []), (.iadd, 0, []), (.iaload, 0, []), (.aload_n 0, 0, []), (.iload_n 3, 0, []), (.iconst 3, 0, []), (.iadd, 0, []), (.iaload, 0, []), (.aload_n 0, 0, []), (.iload_n 3, 0, []), (.iconst 4, 0, []), (.iadd, 0, []), (.iaload, 0, []), (.invokevirtual 23, 52, [(1, 5), (5, 0)]), (.aload_n 2, 0, []), (.aload_n 0, 0, []), (.iload_n 3, 0, []), (.iconst 1, 0, []), (.iadd, 0, []), (.iaload, 0, []), (.aload_n 0, 0, []), (.iload_n 3, 0, []), (.iconst 2, 0, []), (.iadd, 0, []), (.iaload, 0, []), (.aload_n 0, 0, []), (.iload_n 3, 0, []), (.iconst 3, 0, []), (.iadd, 0, []), (.iaload, 0, []), (.aload_n 0, 0, []), (.iload_n 3, 0, []), (.iconst 4, 0, []), (.iadd, 0, []), (.iaload, 0, []), (.invokevirtual 27, 114, [(1, 5), (6, 0)]), (.if_icmp .eq 1113, 1417, []), (.iconst 0, 0, []), (.ireturn, 4, [])]
def k193_309 : List zI := [(.aload_n 1, 0, []), (.aload_n 0, 0, []), (.iload_n 3, 0, []), (.iconst 1, 0, []), (.iadd, 0, []), (.iaload, 0, []), (.invokevirtual 28, 53, [(1, 2), (5, 0)]), (.aload_n 2, 0, []), (.aload_n 0, 0, []), (.iload_n 3, 0, []), (.iconst 1, 0, []), (.iadd, 0, []), (.iaload, 0, []), (.invokevirtual 31, 126, [(1, 2), (6, 0)]), (.if_icmp .eq 1090, 1417, []), (.iconst 0, 0, []), (.ireturn, 4, [])]
def k193_332 : List zI := [(.aload_n 1, 0, []), (.invokevirtual 32, 54, [(1, 1), (5, 0)]), (.aload_n 2, 0, []), (.invokevirtual 36, 134, [(1, 1), (6, 0)]), (.if_icmp .eq 1077, 1417, []), (.iconst 0, 0, []), (.ireturn, 4, [])]
def k193_345 : List zI := [(.aload_n 1, 0, []), (.aload_n 0, 0, []), (.iload_n 3, 0, []), (.iconst 1, 0, []), (.iadd, 0, []), (.iaload, 0, []), (.aload_n 0, 0, []), (.iload_n 3, 0, []), (.iconst 2, 0, []), (.iadd, 0, []), (.iaload, 0, []), (.aload_n 0, 0, []), (.iload_n 3, 0, []), (.iconst 3, 0, []), (.iadd, 0, []), (.iaload, 0, []), (.invokevirtual 37, 55, [(1, 4), (5, 0)]), (.aload_n 2, 0, []), (.aload_n 0, 0, []), (.iload_n 3, 0, []), (.iconst 1, 0, []), (.iadd, 0, []), (.iaload, 0, []), (.aload_n 0, 0, []), (.iload_n 3, 0, []), (.iconst 2, 0, []), (.iadd, 0, []), (.iaload, 0, []), (.aload_n 0, 0, []), (.iload_n 3, 0, []), (.iconst 3, 0, []), (.iadd, 0, []), (.iaload, 0, []), (.invokevirtual 41, 118, [(1, 4), (6, 0)]), (.if_icmp .eq 1034, 1417, []), (.iconst 0, 0, []), (.ireturn, 4, [])]
def k193_388 : List zI := [(.aload_n 1, 0, []), (.aload_n 0, 0, []), (.iload_n 3, 0, []), (.iconst 1, 0, []), (.iadd, 0, []), (.iaload, 0, []), (.invokevirtual 42, 56, [(1, 2), (5, 0)]), (.aload_n 2, 0, []), (.aload_n 0, 0, []), (.iload_n 3, 0, []), (.iconst 1, 0, []), (.iadd, 0, []), (.iaload, 0, []), (.invokevirtual 45, 121, [(1, 2), (6, 0)]), (.if_icmp .eq 1011, 1417, []), (.iconst 0, 0, []), (.ireturn, 4, [])]
def k193_411 : List zI := [(.aload_n 1, 0, []), (.aload_n 0, 0, []), (.iload_n 3, 0, []), (.iconst 1, 0, []), (.iadd, 0, []), (.iaload, 0, []), (.invokevirtual 46, 57, [(1, 2), (5, 0)]), (.aload_n 2, 0, []), (.aload_n 0, 0, []), (.iload_n 3, 0, []), (.iconst 1, 0, []), (.iadd, 0, []), (.iaload, 0, []), (.invokevirtual 49, 122, [(1, 2), (6, 0)]), (.if_icmp .eq 988, 1417, []), (.iconst 0, 0, []), (.ireturn, 4, [])]
def k193_434 : List zI := [(.aload_n 1, 0, []), (.aload_n 0, 0, []), (.iload_n 3, 0, []), (.iconst 1, 0, []), (.iadd, 0, []), (.iaload, 0, []), (.aload_n 0, 0, []), (.iload_n 3, 0, []), (.iconst 2, 0, []), (.iadd, 0, []), (.iaload, 0, []), (.aload_n 0, 0, []), (.iload_n 3, 0, []), (.iconst 3, 0, []), (.iadd, 0, []), (.iaload, 0, []), (.invokevirtual 50, 58, [(2, 4), (5, 0)]), (.aload_n 2, 0, []), (.aload_n 0, 0, []), (.iload_n 3, 0, []), (.iconst 1, 0, []), (.iadd, 0, []), (.iaload, 0, []), (.aload_n 0, 0, []), (.iload_n 3, 0, []), (.iconst 2, 0, []), (.iadd, 0, []), (.iaload, 0, []), (.aload_n 0, 0, []), (.iload_n 3, 0, []), (.iconst 3, 0, []), (.iadd, 0, []), (.iaload, 0, []), (.invokevirtual 54, 125, [(2, 4), (6, 0)]), (.lcmp, 0, []), (.ifCond .eq 944, 1417, []), (.iconst 0, 0, []), (.ireturn, 4, [])]
def k193_478 : List zI := [(.aload_n 1, 0, []), (.aload_n 0, 0, []), (.iload_n 3, 0, []), (.iconst 1, 0, []), (.iadd, 0, []), (.iaload, 0, []), (.invokevirtual 55, 59, [(1, 2), (5, 0)]), (.aload_n 2, 0, []), (.aload_n 0, 0, []), (.iload_n 3, 0, []), (.iconst 1, 0, []), (.iadd, 0, []), (.iaload, 0, []), (.invokevirtual 58, 137, [(1, 2), (6, 0)]), (.if_icmp .eq 921, 1417, []), (.iconst 0, 0, []), (.ireturn, 4, [])]
def k193_501 : List zI := [(.aload_n 1, 0, []), (.aload_n 0, 0, []), (.iload_n 3, 0, []), (.iconst 1, 0, []), (.iadd, 0, []), (.iaload, 0, []), (.aload_n 0, 0, []), (.iload_n 3, 0, []), (.iconst 2, 0, []), (.iadd, 0, []), (.iaload, 0, []), (.invokevirtual 59, 60, [(1, 3), (5, 0)]), (.aload_n 2, 0, []), (.aload_n 0, 0, []), (.iload_n 3, 0, []), (.iconst 1, 0, []), (.iadd, 0, []), (.iaload, 0, []), (.aload_n 0, 0, []), (.iload_n 3, 0, []), (.iconst 2, 0, []), (.iadd, 0, []), (.iaload, 0, []), (.invokevirtual 62, 138, [(1, 3), (6, 0)]), (.if_icmp .eq 888, 1417, []), (.iconst 0, 0, []), (.ireturn, 4, [])]
def k193_534 : List zI := [(.aload_n 1, 0, []), (.aload_n 0, 0, []), (.iload_n 3, 0, []), (.iconst 1, 0, []), (.iadd, 0, []), (.iaload, 0, []), (.aload_n 0, 0, []), (.iload_n 3, 0, []), (.iconst 2, 0, []), (.iadd, 0, []), (.iaload, 0, []), (.aload_n 0, 0, []), (.iload_n 3, 0, []), (.iconst 3, 0, []), (.iadd, 0, []), (.iaload, 0, []), (.invokevirtual 63, 61, [(1, 4), (5, 0)]), (.aload_n 2, 0, []), (.aload_n 0, 0, []), (.iload_n 3, 0, []), (.iconst 1, 0, []), (.iadd, 0, []), (.iaload, 0, []), (.aload_n 0, 0, []), (.iload_n 3, 0, []), (.iconst 2, 0, []), (.iadd, 0, []), (.iaload, 0, []), (.aload_n 0, 0, []), (.iload_n 3, 0, []), (.iconst 3, 0, []), (.iadd, 0, []), (.iaload, 0, []), (.invokevirtual 66, 139, [(1, 4), (6, 0)]), (.if_icmp .eq 845, 1417, []), (.iconst 0, 0, []), (.ireturn, 4, [])]
def k193_577 : List zI := [(.aload_n 1, 0, []), (.aload_n 0, 0, []), (.iload_n 3, 0, []), (.iconst 1, 0, []), (.iadd, 0, []), (.iaload, 0, []), (.aload_n 0, 0, []), (.iload_n 3, 0, []), (.iconst 2, 0, []), (.iadd, 0, []), (.iaload, 0, []), (.invokevirtual 67, 62, [(1, 3), (5, 0)]), (.aload_n 2, 0, []), (.aload_n 0, 0, []), (.iload_n 3, 0, []), (.iconst 1, 0, []), (.iadd, 0, []), (.iaload, 0, []), (.aload_n 0, 0, []), (.iload_n 3, 0, []), (.iconst 2, 0, []), (.iadd, 0, []), (.iaload, 0, []), (.invokevirtual 70, 140, [(1, 3), (6, 0)]), (.if_icmp .eq 812, 1417, []), (.iconst 0, 0, []), (.ireturn, 4, [])]
def k193_610 : List zI := [(.aload_n 1, 0, []), (.aload_n 0, 0, []), (.iload_n 3, 0, []), (.iconst 1, 0, []), (.iadd, 0, []), (.iaload, 0, []), (.invokevirtual 71, 63, [(1, 2), (5, 0)]), (.aload_n 2, 0, []), (.aload_n 0, 0, []), (.iload_n 3, 0, []), (.iconst 1, 0, []), (.iadd, 0, []), (.iaload, 0, []), (.invokevirtual 74, 144, [(1, 2), (6, 0)]), (.if_icmp .eq 789, 1417, []), (.iconst 0, 0, []), (.ireturn, 4, [])]
def k193_633 : List zI := [(.aload_n 1, 0, []), (.aload_n 0, 0, []), (.iload_n 3, 0, []), (.iconst 1, 0, []), (.iadd, 0, []), (.iaload, 0, []), (.invokevirtual 75, 64, [(1, 2), (5, 0)]), (.aload_n 2, 0, []), (.aload_n 0, 0, []), (.iload_n 3, 0, []), (.iconst 1, 0, []), (.iadd, 0, []), (.iaload, 0, []), (.invokevirtual 78, 145, [(1, 2), (6, 0)]), (.if_icmp .eq 766, 1417, []), (.iconst 0, 0, []), (.ireturn, 4, [])]
def k193_656 : List zI := [(.aload_n 1, 0, []), (.aload_n 0, 0, []), (.iload_n 3, 0, []), (.iconst 1, 0, []), (.iadd, 0, []), (.iaload, 0, []), (.invokevirtual 79, 65, [(1, 2), (5, 0)]), (.aload_n 2, 0, []), (.aload_n 0, 0, []), (.iload_n 3, 0, []), (.iconst 1, 0, []), (.iadd, 0, []), (.iaload, 0, []), (.invokevirtual 82, 146, [(1, 2), (6, 0)]), (.if_icmp .eq 743, 1417, []), (.iconst 0, 0, []), (.ireturn, 4, [])]
def k193_679 : List zI := [(.aload_n 1, 0, []), (.aload_n 0, 0, []), (.iload_n 3, 0, []), (.iconst 1, 0, []), (.iadd, 0, []), (.iaload, 0, []), (.aload_n 0, 0, []), (.iload_n 3, 0, []), (.iconst 2, 0, []), (.iadd, 0, []), (.iaload, 0, []), (.invokevirtual 83, 66, [(1, 3), (5, 0)]), (.aload_n 2, 0, []), (.aload_n 0, 0, []), (.iload_n 3, 0, []), (.iconst 1, 0, []), (.iadd, 0, []), (.iaload, 0, []), (.aload_n 0, 0, []), (.iload_n 3, 0, []), (.iconst 2, 0, []), (.iadd, 0, []), (.iaload, 0, []), (.invokevirtual 86, 151, [(1, 3), (6, 0)]), (.if_icmp .eq 710, 1417, []), (.iconst 0, 0, []), (.ireturn, 4, [])]
def k193_712 : List zI := [(.aload_n 1, 0, []), (.aload_n 0, 0, []), (.iload_n 3, 0, []), (.iconst 1, 0, []), (.iadd, 0, []), (.iaload, 0, []), (.invokevirtual 87, 67, [(1, 2), (5, 0)]), (.aload_n 2, 0, []), (.aload_n 0, 0, []), (.iload_n 3, 0, []), (.iconst 1, 0, []), (.iadd, 0, []), (.iaload, 0, []), (.invokevirtual 90, 152, [(1, 2), (6, 0)]), (.if_icmp .eq 687, 1417, []), (.iconst 0, 0, []), (.ireturn, 4, [])]
def k193_735 : List zI := [(.aload_n 1, 0, []), (.aload_n 0, 0, []), (.iload_n 3, 0, []), (.iconst 1, 0, []), (.iadd, 0, []), (.iaload, 0, []), (.aload_n 0, 0, []), (.iload_n 3, 0, []), (.iconst 2, 0, []), (.iadd, 0, []), (.iaload, 0, []), (.aload_n 0, 0, []), (.iload_n 3, 0, []), (.iconst 3, 0, []), (.iadd, 0, []), (.iaload, 0, []), (.invokevirtual 91, 68, [(1, 4), (5, 0)]), (.aload_n 2, 0, []), (.aload_n 0, 0, []), (.iload_n 3, 0, []), (.iconst 1, 0, []), (.iadd, 0, []), (.iaload, 0, []), (.aload_n 0, 0, []), (.iload_n 3, 0, []), (.iconst 2, 0, []), (.iadd, 0, []), (.iaload, 0, []), (.aload_n 0, 0, []), (.iload_n 3, 0, []), (.iconst 3, 0, []), (.iadd, 0, []), (.iaload, 0, []), (.invokevirtual 94, 158, [(1, 4), (6, 0)]), (.if_icmp .eq 644, 1417, []), (.iconst 0, 0, []), (.ireturn, 4, [])]
def k193_778 : List zI := [(.aload_n 1, 0, []), (.aload_n 0, 0, []), (.iload_n 3, 0, []), (.iconst 1, 0, []), (.iadd, 0, []), (.iaload, 0, []), (.aload_n 0, 0, []), (.iload_n 3, 0, []), (.iconst 2, 0, []), (.iadd, 0, []), (.iaload, 0, []), (.aload_n 0, 0, []), (.iload_n 3, 0, []), (.iconst 3, 0, []), (.iadd, 0, []), (.iaload, 0, []), (.invokevirtual 95, 69, [(1, 4), (5, 0)]), (.aload_n 2, 0, []), (.aload_n 0, 0, []), (.iload_n 3, 0, []), (.iconst 1, 0, []), (.iadd, 0, []), (.iaload, 0, []), (.aload_n 0, 0, []), (.iload_n 3, 0, []), (.iconst 2, 0, []), (.iadd, 0, []), (.iaload, 0, []), (.aload_n 0, 0, []), (.iload_n 3, 0, []), (.iconst 3, 0, []), (.iadd, 0, []), (.iaload, 0, []), (.invokevirtual 98, 161, [(1, 4), (6, 0)]), (.if_icmp .eq 601, 1417, []), (.iconst 0, 0, []), (.ireturn, 4, [])]
def k193_821 : List zI := [(.aload_n 1, 0, []), (.aload_n 0, 0, []), (.iload_n 3, 0, []), (.iconst 1, 0, []), (.iadd, 0, []), (.iaload, 0, []), (.aload_n 0, 0, []), (.iload_n 3, 0, []), (.iconst 2, 0, []), (.iadd, 0, []), (.iaload, 0, []), (.invokevirtual 99, 70, [(1, 3), (5, 0)]), (.aload_n 2, 0, []), (.aload_n 0, 0, []), (.iload_n 3, 0, []), (.iconst 1, 0, []), (.iadd, 0, []), (.iaload, 0, []), (.aload_n 0, 0, []), (.iload_n 3, 0, []), (.iconst 2, 0, []), (.iadd, 0, []), (.iaload, 0, []), (.invokevirtual 102, 162, [(1, 3), (6, 0)]), (.if_icmp .eq 568, 1417, []), (.iconst 0, 0, []), (.ireturn, 4, [])]
def k193_854 : List zI := [(.aload_n 1, 0, []), (.invokevirtual 103, 71, [(1, 1), (5, 0)]), (.aload_n 2, 0, []), (.invokevirtual 106, 163, [(1, 1), (6, 0)]), (.if_icmp .eq 555, 1417, []), (.iconst 0, 0, []), (.ireturn, 4, [])]
def k193_867 : List zI := [(.aload_n 1, 0, []), (.aload_n 0, 0, []), (.iload_n 3, 0, []), (.iconst 1, 0, []), (.iadd, 0, []), (.iaload, 0, []), (.aload_n 0, 0, []), (.iload_n 3, 0, []), (.iconst 2, 0, []), (.iadd, 0, []), (.iaload, 0, []), (.aload_n 0, 0, []), (.iload_n 3, 0, []), (.iconst 3, 0, []), (.iadd, 0, []), (.iaload, 0, []), (.invokevirtual 107, 72, [(1, 4), (5, 0)]), (.aload_n 2, 0, []), (.aload_n 0, 0, []), (.iload_n 3, 0, []), (.iconst 1, 0, []), (.iadd, 0, []), (.iaload, 0, []), (.aload_n 0, 0, []), (.iload_n 3, 0, []), (.iconst 2, 0, []), (.iadd, 0, []), (.iaload, 0, []), (.aload_n 0, 0, []), (.iload_n 3, 0, []), (.iconst 3, 0, []), (.iadd, 0, []), (.iaload, 0, []), (.invokevirtual 110, 164, [(1, 4), (6, 0)]), (.if_icmp .eq 512, 1417, []), (.iconst 0, 0, []), (.ireturn, 4, [])]
def k193_910 : List zI := [(.aload_n 1, 0, []), (.aload_n 0, 0, []), (.iload_n 3, 0, []), (.iconst 1, 0, []), (.iadd, 0, []), (.iaload, 0, []), (.invokevirtual 111, 73, [(1, 2), (5, 0)]), (.aload_n 2, 0, []), (.aload_n 0, 0, []), (.iload_n 3, 0, []), (.iconst 1, 0, []), (.iadd, 0, []), (.iaload, 0, []), (.invokevirtual 114, 168, [(1, 2), (6, 0)]), (.if_icmp .eq 489, 1417, []), (.iconst 0, 0, []), (.ireturn, 4, [])]
def k193_933 : List zI := [(.aload_n 1, 0, []), (.aload_n 0, 0, []), (.iload_n 3, 0, []), (.iconst 1, 0, []), (.iadd, 0, []), (.iaload, 0, []), (.aload_n 0, 0, []), (.iload_n 3, 0, []), (.iconst 2, 0, []), (.iadd, 0, []), (.iaload, 0, []), (.invokevirtual 115, 74, [(1, 3), (5, 0)]), (.aload_n 2, 0, []), (.aload_n 0, 0, []), (.iload_n 3, 0, []), (.iconst 1, 0, []), (.iadd, 0, []), (.iaload, 0, []), (.aload_n 0, 0, []), (.iload_n 3, 0, []), (.iconst 2, 0, []), (.iadd, 0, []), (.iaload, 0, []), (.invokevirtual 118, 171, [(1, 3), (6, 0)]), (.if_icmp .eq 456, 1417, []), (.iconst 0, 0, []), (.ireturn, 4, [])]
def k193_966 : List zI := [(.aload_n 1, 0, []), (.aload_n 0, 0, []), (.iload_n 3, 0, []), (.iconst 1, 0, []), (.iadd, 0, []), (.iaload, 0, []), (.aload_n 0, 0, []), (.iload_n 3, 0, []), (.iconst 2, 0, []), (.iadd, 0, []), (.iaload, 0, []), (.aload_n 0, 0, []), (.iload_n 3, 0, []), (.iconst 3, 0, []), (.iadd, 0, []), (.iaload, 0, []), (.invokevirtual 119, 75, [(1, 4), (5, 0)]), (.aload_n 2, 0, []), (.aload_n 0, 0, []), (.iload_n 3, 0, []), (.iconst 1, 0, []), (.iadd, 0, []), (.iaload, 0, []), (.aload_n 0, 0, []), (.iload_n 3, 0, []), (.iconst 2, 0, []), (.iadd, 0, []), (.iaload, 0, []), (.aload_n 0, 0, []), (.iload_n 3, 0, []), (.iconst 3, 0, []), (.iadd, 0, []), (.iaload, 0, []), (.invokevirtual 122, 172, [(1, 4), (6, 0)]), (.if_icmp .eq 413, 1417, []), (.iconst 0, 0, []), (.ireturn, 4, [])]
def k193_1009 : List zI := [(.aload_n 1, 0, []), (.aload_n 0, 0, []), (.iload_n 3, 0, []), (.iconst 1, 0, []), (.iadd, 0, []), (.iaload, 0, []), (.aload_n 0, 0, []), (.iload_n 3, 0, []), (.iconst 2, 0, []), (.iadd, 0, []), (.iaload, 0, []), (.aload_n 0, 0, []), (.iload_n 3, 0, []), (.iconst 3, 0, []), (.iadd, 0, []), (.iaload, 0, []), (.aload_n 0, 0, []), (.iload_n 3, 0, []), (.iconst 4, 0, []), (.iadd, 0, []), (.iaload, 0, []), (.aload_n 0, 0, []), (.iload_n 3, 0, []), (.iconst 5, 0, []), (.iadd, 0, []), (.iaload, 0, []), (.invokevirtual 123, 76, [(2, 6), (5, 0)]), (.aload_n 2, 0, []), (.aload_n 0, 0, []), (.iload_n 3, 0, []), (.iconst 1, 0, []), (.iadd, 0, []), (.iaload, 0, []), (.aload_n 0, 0, []), (.iload_n 3, 0, []), (.iconst 2, 0, []), (.iadd, 0, []), (.iaload, 0, []), (.aload_n 0, 0, []), (.iload_n 3, 0, []), (.iconst 3, 0, []), (.iadd, 0, []), (.iaload, 0, []), (.aload_n 0, 0, []), (.iload_n 3, 0, []), (.iconst 4, 0, []), (.iadd, 0, []), (.iaload, 0, []), (.aload_n 0, 0, []), (.iload_n 3, 0, []), (.iconst 5, 0, []), (.iadd, 0, []), (.iaload, 0, []), (.invokevirtual 127, 174, [(2, 6), (6, 0)]), (.lcmp, 0, []), (.ifCond .eq 349, 1417, []), (.iconst 0, 0, []), (.ireturn, 4, [])]
def k193_1073 : List zI := [(.aload_n 1, 0, []), (.aload_n 0, 0, []), (.iload_n 3, 0, []), (.iconst 1, 0, []), (.iadd, 0, []), (.iaload, 0, []), (.aload_n 0, 0, []), (.iload_n 3, 0, []), (.iconst 2, 0, []), (.iadd, 0, []), (.iaload, 0, []), (.invokevirtual 128, 77, [(1, 3), (5, 0)]), (.aload_n 2, 0, []), (.aload_n 0, 0, []), (.iload_n 3, 0, []), (.iconst 1, 0, []), (.iadd, 0, []), (.iaload, 0, []), (.aload_n 0, 0, []), (.iload_n 3, 0, []), (.iconst 2, 0, []), (.iadd, 0, []), (.iaload, 0, []), (.invokevirtual 131, 175, [(1, 3), (6, 0)]), (.if_icmp .eq 316, 1417, []), (.iconst 0, 0, []), (.ireturn, 4, [])]
def k193_1106 : List zI := [(.aload_n 1, 0, []), (.aload_n 0, 0, []), (.iload_n 3, 0, []), (.iconst 1, 0, []), (.iadd, 0, []), (.iaload, 0, []), (.aload_n 0, 0, []), (.iload_n 3, 0, []), (.iconst 2, 0, []), (.iadd, 0, []), (.iaload, 0, []), (.invokevirtual 132, 78, [(1, 3), (5, 0)]), (.aload_n 2, 0, []), (.aload_n 0, 0, []), (.iload_n 3, 0, []), (.iconst 1, 0, []), (.iadd, 0, []), (.iaload, 0, []), (.aload_n 0, 0, []), (.iload_n 3, 0, []), (.iconst 2, 0, []), (.iadd, 0, []), (.iaload, 0, []), (.invokevirtual 135, 177, [(1, 3), (6, 0)]), (.if_icmp .eq 283, 1417, []), (.iconst 0, 0, []), (.ireturn, 4, [])]
def k193_1139 : List zI := [(.aload_n 1, 0, []), (.aload_n 0, 0, []), (.iload_n 3, 0, []), (.iconst 1, 0, []), (.iadd, 0, []), (.iaload, 0, []), (.invokevirtual 136, 79, [(1, 2), (5, 0)]), (.aload_n 2, 0, []), (.aload_n 0, 0, []), (.iload_n 3, 0, []), (.iconst 1, 0, []), (.iadd, 0, []), (.iaload, 0, []), (.invokevirtual 139, 180, [(1, 2), (6, 0)]), (.if_icmp .eq 260, 1417, []), (.iconst 0, 0, []), (.ireturn, 4, [])]
def k193_1162 : List zI := [(.aload_n 1, 0, []), (.aload_n 0, 0, []), (.iload_n 3, 0, []), (.iconst 1, 0, []), (.iadd, 0, []), (.iaload, 0, []), (.invokevirtual 140, 80, [(1, 2), (5, 0)]), (.aload_n 2, 0, []), (.aload_n 0, 0, []), (.iload_n 3, 0, []), (.iconst 1, 0, []), (.iadd, 0, []), (.iaload, 0, []), (.invokevirtual 143, 181, [(1, 2), (6, 0)]), (.if_icmp .eq 237, 1417, []), (.iconst 0, 0, []), (.ireturn, 4, [])]
def k193_1185 : List zI := [(.aload_n 1, 0, []), (.aload_n 0, 0, []), (.iload_n 3, 0, []), (.iconst 1, 0, []), (.iadd, 0, []), (.iaload, 0, []), (.aload_n 0, 0, []), (.iload_n 3, 0, []), (.iconst 2, 0, []), (.iadd, 0, []), (.iaload, 0, []), (.aload_n 0, 0, []), (.iload_n 3, 0, []), (.iconst 3, 0, []), (.iadd, 0, []), (.iaload, 0, []), (.invokevirtual 144, 81, [(1, 4), (5, 0)]), (.aload_n 2, 0, []), (.aload_n 0, 0, []), (.iload_n 3, 0, []), (.iconst 1, 0, []), (.iadd, 0, []), (.iaload, 0, []), (.aload_n 0, 0, []), (.iload_n 3, 0, []), (.iconst 2, 0, []), (.iadd, 0, []), (.iaload, 0, []), (.aload_n 0, 0, []), (.iload_n 3, 0, []), (.iconst 3, 0, []), (.iadd, 0, []), (.iaload, 0, []), (.invokevirtual 147, 183, [(1, 4), (6, 0)]), (.if_icmp .eq 194, 1417, []), (.iconst 0, 0, []), (.ireturn, 4, [])]
def k193_1228 : List zI := [(.aload_n 1, 0, []), (.aload_n 0, 0, []), (.iload_n 3, 0, []), (.iconst 1, 0, []), (.iadd, 0, []), (.iaload, 0, []), (.aload_n 0, 0, []), (.iload_n 3, 0, []), (.iconst 2, 0, []), (.iadd, 0, []), (.iaload, 0, []), (.invokevirtual 148, 82, [(1, 3), (5, 0)]), (.aload_n 2, 0, []), (.aload_n 0, 0, []), (.iload_n 3, 0, []), (.iconst 1, 0, []), (.iadd, 0, []), (.iaload, 0, []), (.aload_n 0, 0, []), (.iload_n 3, 0, []), (.iconst 2, 0, []), (.iadd, 0, []), (.iaload, 0, []), (.invokevirtual 151, 184, [(1, 3), (6, 0)]), (.if_icmp .eq 161, 1417, []), (.iconst 0, 0, []), (.ireturn, 4, [])]
def k193_1261 : List zI := [(.aload_n 1, 0, []), (.aload_n 0, 0, []), (.iload_n 3, 0, []), (.iconst 1, 0, []), (.iadd, 0, []), (.iaload, 0, []), (.aload_n 0, 0, []), (.iload_n 3, 0, []), (.iconst 2, 0, []), (.iadd, 0, []), (.iaload, 0, []), (.aload_n 0, 0, []), (.iload_n 3, 0, []), (.iconst 3, 0, []), (.iadd, 0, []), (.iaload, 0, []), (.i2l, 0, []), (.bipush 32, 0, []), (.lshl, 0, []), (.aload_n 0, 0, []), (.iload_n 3, 0, []), (.iconst 4, 0, []), (.iadd, 0, []), (.iaload, 0, []), (.i2l, 0, []), (.ldc2_w 152, 0, [(4294967295, 0)]), (.land, 0, []), (.lor, 0, []), (.invokevirtual 154, 83, [(1, 4), (5, 0)]), (.aload_n 2, 0, []), (.aload_n 0, 0, []), (.iload_n 3, 0, []), (.iconst 1, 0, []), (.iadd, 0, []), (.iaload, 0, []), (.aload_n 0, 0, []), (.iload_n 3, 0, []), (.iconst 2, 0, []), (.iadd, 0, []), (.iaload, 0, []), (.aload_n 0, 0, []), (.iload_n 3, 0, []), (.iconst 3, 0, []), (.iadd, 0, []), (.iaload, 0, []), (.i2l, 0, []), (.bipush 32, 0, []), (.lshl, 0, []), (.aload_n 0, 0, []), (.iload_n 3, 0, []), (.iconst 4, 0, []), (.iadd, 0, []), (.iaload, 0, []), (.i2l, 0, []), (.ldc2_w 152, 0, [(4294967295, 0)]), (.land, 0, []), (.lor, 0, []), (.invokevirtual 158, 185, [(1, 4), (6, 0)]), (.if_icmp .eq 88, 1417, []), (.iconst 0, 0, []), (.ireturn, 4, [])]
def k193_1334 : List zI := [(.aload_n 1, 0, []), (.aload_n 0, 0, []), (.iload_n 3, 0, []), (.iconst 1, 0, []), (.iadd, 0, []), (.iaload, 0, []), (.aload_n 0, 0, []), (.iload_n 3, 0, []), (.iconst 2, 0, []), (.iadd, 0, []), (.iaload, 0, []), (.invokevirtual 159, 84, [(2, 3), (5, 0)]), (.aload_n 2, 0, []), (.aload_n 0, 0, []), (.iload_n 3, 0, []), (.iconst 1, 0, []), (.iadd, 0, []), (.iaload, 0, []), (.aload_n 0, 0, []), (.iload_n 3, 0, []), (.iconst 2, 0, []), (.iadd, 0, []), (.iaload, 0, []), (.invokevirtual 163, 186, [(2, 3), (6, 0)]), (.lcmp, 0, []), (.ifCond .eq 54, 1417, []), (.iconst 0, 0, []), (.ireturn, 4, [])]
def k193_1368 : List zI := [(.aload_n 1, 0, []), (.invokevirtual 164, 85, [(1, 1), (5, 0)]), (.aload_n 2, 0, []), (.invokevirtual 167, 187, [(1, 1), (6, 0)]), (.if_icmp .eq 41, 1417, []), (.iconst 0, 0, []), (.ireturn, 4, [])]
def k193_1381 : List zI := [(.aload_n 1, 0, []), (.invokevirtual 168, 86, [(1, 1), (5, 0)]), (.aload_n 2, 0, []), (.invokevirtual 171, 188, [(1, 1), (6, 0)]), (.if_icmp .eq 28, 1417, []), (.iconst 0, 0, []), (.ireturn, 4, [])]
def k193_1394 : List zI := [(.aload_n 1, 0, []), (.aload_n 0, 0, []), (.iload_n 3, 0, []), (.iconst 1, 0, []), (.iadd, 0, []), (.iaload, 0, []), (.invokevirtual 172, 87, [(1, 2), (5, 0)]), (.aload_n 2, 0, []), (.aload_n 0, 0, []), (.iload_n 3, 0, []), (.iconst 1, 0, []), (.iadd, 0, []), (.iaload, 0, []), (.invokevirtual 175, 190, [(1, 2), (6, 0)]), (.if_icmp .eq 5, 1417, []), (.iconst 0, 0, []), (.ireturn, 4, [])]
def k193_1417 : List zI := [(.iinc 3 6, 0, []), (.goto (-1402), 18, [])]
def k193_1423 : List zI := [(.iconst 1, 0, []), (.ireturn, 4, [])]
def zb193 : List (Nat × List zI) := [(18, k193_18), (200, k193_200), (233, k193_233), (256, k193_256), (309, k193_309), (332, k193_332), (345, k193_345), (388, k193_388), (411, k193_411), (434, k193_434), (478, k193_478), (501, k193_501), (534, k193_534), (577, k193_577), (610, k193_610), (633, k193_633), (656, k193_656), (679, k193_679), (712, k193_712), (735, k193_735), (778, k193_778), (821, k193_821), (854, k193_854), (867, k193_867), (910, k193_910), (933, k193_933), (966, k193_966), (1009, k193_1009), (1073, k193_1073), (1106, k193_1106), (1139, k193_1139), (1162, k193_1162), (1185, k193_1185), (1228, k193_1228), (1261, k193_1261), (1334, k193_1334), (1368, k193_1368), (1381, k193_1381), (1394, k193_1394), (1417, k193_1417), (1423, k193_1423)]
def zbs : List (List (Nat × List zI)) := [zb0, zb1, zb2, zb3, zb4, zb5, zb6, zb7, zb8, zb9, zb10, zb11, zb12, zb13, zb14, zb15, zb16, zb17, zb18, zb19, zb20, zb21, zb22, zb23, zb24, zb25, zb26, zb27, zb28, zb29, zb30, zb31, zb32, zb33, zb34, zb35, zb36, zb37, zb38, zb39, zb40, zb41, zb42, zb43, zb44, zb45, zb46, zb47, zb48, zb49, zb50, zb51, zb52, zb53, zb54, zb55, zb56, zb57, zb58, zb59, zb60, zb61, zb62, zb63, zb64, zb65, zb66, zb67, zb68, zb69, zb70, zb71, zb72, zb73, zb74, zb75, zb76, zb77, zb78, zb79, zb80, zb81, zb82, zb83, zb84, zb85, zb86, zb87, zb88, zb89, zb90, zb91, zb92, zb93, zb94, zb95, zb96, zb97, zb98, zb99, zb100, zb101, zb102, zb103, zb104, zb105, zb106, zb107, zb108, zb109, zb110, zb111, zb112, zb113, zb114, zb115, zb116, zb117, zb118, zb119, zb120, zb121, zb122, zb123, zb124, zb125, zb126, zb127, zb128, zb129, zb130, zb131, zb132, zb133, zb134, zb135, zb136, zb137, zb138, zb139, zb140, zb141, zb142, zb143, zb144, zb145, zb146, zb147, zb148, zb149, zb150, zb151, zb152, zb153, zb154, zb155, zb156, zb157, zb158, zb159, zb160, zb161, zb162, zb163, zb164, zb165, zb166, zb167, zb168, zb169, zb170, zb171, zb172, zb173, zb174, zb175, zb176, zb177, zb178, zb179, zb180, zb181, zb182, zb183, zb184, zb185, zb186, zb187, zb188, zb189, zb190, zb191, zb192, zb193]
def zblk (z L : Nat) : List zI := match (zbs.getD z []).find? (fun q => q.1 == L) with
  | some q => q.2
  | none => []
/-- field links: own class, pool index, class, field, place among the words -/
def zFL : List (Nat × Nat × Nat × Nat × Nat) := [(0, 9, 0, 0, 162), (0, 15, 0, 1, 164), (0, 19, 0, 2, 165), (0, 25, 0, 4, 167), (0, 42, 1, 0, 148), (0, 22, 0, 3, 166), (1, 15, 1, 1, 149), (1, 23, 2, 1, 100), (1, 9, 1, 0, 147), (1, 33, 2, 0, 97), (1, 46, 2, 2, 103), (1, 49, 2, 3, 106), (2, 9, 2, 0, 95), (2, 15, 2, 1, 98), (2, 18, 2, 2, 101), (2, 40, 2, 9, 117), (2, 21, 2, 3, 104), (2, 25, 2, 4, 107), (2, 28, 2, 5, 109), (2, 31, 2, 6, 111), (2, 34, 2, 7, 113), (2, 37, 2, 8, 115), (3, 29, 3, 5, 214), (3, 26, 3, 4, 213), (3, 15, 3, 1, 208), (3, 23, 3, 3, 212), (3, 19, 3, 2, 210), (3, 9, 3, 0, 206), (4, 18, 4, 2, 189), (4, 9, 4, 0, 185), (4, 15, 4, 1, 187), (4, 21, 4, 3, 190), (5, 14, 5, 0, 232), (5, 101, 2, 0, 96), (5, 104, 2, 1, 99), (5, 107, 2, 2, 102), (5, 117, 2, 3, 105), (5, 58, 5, 9, 241), (5, 124, 3, 1, 209), (5, 127, 3, 0, 207), (5, 78, 5, 14, 246), (5, 81, 5, 15, 247), (5, 84, 5, 16, 248), (5, 180, 3, 2, 211), (5, 183, 2, 4, 108), (5, 208, 0, 0, 163), (5, 45, 5, 6, 238), (5, 217, 4, 1, 188), (5, 227, 4, 0, 186), (5, 233, 2, 5, 110), (5, 236, 2, 6, 112), (5, 32, 5, 4, 236), (5, 257, 1, 1, 150), (5, 266, 2, 9, 118), (5, 269, 2, 7, 114), (5, 272, 2, 8, 116), (5, 66, 5, 11, 243), (5, 62, 5, 10, 242), (5, 74, 5, 13, 245), (5, 70, 5, 12, 244), (5, 18, 5, 1, 233), (5, 21, 5, 2, 234), (5, 49, 5, 7, 239), (5, 52, 5, 8, 240), (5, 28, 5, 3, 235), (5, 38, 5, 5, 237), (6, 11, 6, 0, 742), (6, 18, 6, 3, 745), (6, 22, 6, 4, 746), (6, 126, 6, 6, 748), (6, 25, 6, 5, 747), (6, 130, 6, 7, 749), (6, 133, 6, 8, 750), (6, 28, 6, 9, 751), (6, 147, 6, 10, 752), (6, 34, 6, 13, 755), (6, 31, 6, 11, 753), (6, 187, 6, 12, 754), (6, 40, 6, 15, 757), (6, 37, 6, 14, 756), (6, 43, 6, 16, 758), (6, 46, 6, 17, 759), (6, 49, 6, 18, 760), (6, 52, 6, 19, 761), (6, 55, 6, 20, 762), (6, 58, 6, 21, 763), (6, 253, 6, 22, 764), (6, 64, 6, 24, 766), (6, 61, 6, 23, 765), (6, 15, 6, 1, 743), (6, 265, 6, 2, 744)]
/-- method links: own class, pool index, method, place -/
def zCL : List (Nat × Nat × Nat × Nat) := [(0, 28, 1, 571), (0, 32, 192, 521), (0, 38, 4, 522), (0, 47, 5, 526), (0, 56, 6, 531), (0, 60, 8, 535), (0, 64, 7, 546), (0, 68, 10, 550), (0, 76, 9, 542), (1, 26, 12, 378), (1, 30, 13, 381), (1, 36, 14, 384), (1, 40, 15, 387), (1, 43, 16, 394), (1, 62, 18, 646), (1, 66, 20, 409), (1, 69, 10, 413), (1, 72, 191, 442), (1, 78, 24, 493), (1, 81, 25, 489), (1, 84, 26, 485), (3, 38, 33, 329), (3, 42, 37, 341), (3, 45, 34, 345), (3, 49, 36, 333), (3, 53, 192, 349), (3, 59, 35, 350), (3, 67, 38, 337), (4, 30, 192, 577), (4, 36, 40, 578), (4, 40, 41, 582), (4, 44, 42, 585), (4, 52, 43, 590), (4, 56, 44, 619), (4, 60, 46, 622), (4, 63, 48, 630), (4, 67, 49, 634), (5, 93, 51, 289), (5, 97, 92, 293), (5, 110, 96, 296), (5, 113, 89, 305), (5, 120, 104, 311), (5, 130, 31, 322), (5, 134, 94, 361), (5, 137, 97, 369), (5, 141, 10, 397), (5, 144, 19, 405), (5, 148, 21, 414), (5, 151, 93, 365), (5, 155, 22, 422), (5, 160, 99, 431), (5, 164, 23, 438), (5, 174, 90, 448), (5, 177, 32, 451), (5, 186, 60, 463), (5, 190, 100, 468), (5, 195, 95, 477), (5, 198, 27, 481), (5, 201, 28, 505), (5, 204, 98, 513), (5, 211, 0, 551), (5, 214, 1, 555), (5, 220, 2, 567), (5, 223, 39, 572), (5, 230, 88, 308), (5, 239, 107, 610), (5, 242, 45, 615), (5, 245, 47, 626), (5, 249, 17, 642), (5, 253, 11, 373), (5, 260, 29, 658), (5, 263, 106, 663), (5, 275, 101, 674), (5, 279, 102, 685), (5, 282, 103, 689), (5, 286, 91, 701), (5, 289, 30, 720), (5, 292, 105, 733), (5, 296, 3, 517), (5, 300, 191, 435), (6, 67, 108, 823), (6, 79, 111, 837), (6, 83, 109, 852), (6, 87, 115, 855), (6, 90, 116, 859), (6, 93, 110, 844), (6, 97, 117, 848), (6, 100, 119, 867), (6, 104, 120, 871), (6, 117, 123, 885), (6, 121, 124, 889), (6, 136, 127, 911), (6, 140, 128, 915), (6, 143, 129, 919), (6, 150, 131, 927), (6, 154, 130, 907), (6, 157, 132, 923), (6, 160, 133, 903), (6, 165, 135, 935), (6, 168, 136, 939), (6, 174, 142, 967), (6, 177, 141, 959), (6, 180, 143, 963), (6, 183, 147, 995), (6, 190, 148, 991), (6, 193, 149, 987), (6, 196, 150, 983), (6, 199, 154, 1011), (6, 203, 153, 1014), (6, 206, 155, 1017), (6, 209, 156, 1021), (6, 213, 157, 1007), (6, 217, 159, 1029), (6, 222, 160, 1033), (6, 225, 165, 1053), (6, 229, 166, 1057), (6, 232, 167, 1061), (6, 235, 170, 1073), (6, 239, 169, 1069), (6, 246, 173, 1086), (6, 249, 176, 1099), (6, 256, 179, 1111), (6, 259, 178, 1107), (6, 262, 182, 1123), (6, 269, 189, 1150), (9, 13, 50, 285), (9, 17, 112, 818), (9, 18, 51, 300), (9, 22, 113, 829), (9, 23, 52, 301), (9, 27, 114, 833), (9, 28, 53, 314), (9, 31, 126, 894), (9, 32, 54, 318), (9, 36, 134, 899), (9, 37, 55, 357), (9, 41, 118, 840), (9, 42, 56, 401), (9, 45, 121, 863), (9, 46, 57, 418), (9, 49, 122, 875), (9, 50, 58, 426), (9, 54, 125, 879), (9, 55, 59, 444), (9, 58, 137, 931), (9, 59, 60, 455), (9, 62, 138, 942), (9, 63, 61, 459), (9, 66, 139, 946), (9, 67, 62, 464), (9, 70, 140, 951), (9, 71, 63, 473), (9, 74, 144, 955), (9, 75, 64, 497), (9, 78, 145, 971), (9, 79, 65, 501), (9, 82, 146, 975), (9, 83, 66, 509), (9, 86, 151, 979), (9, 87, 67, 559), (9, 90, 152, 999), (9, 91, 68, 563), (9, 94, 158, 1003), (9, 95, 69, 594), (9, 98, 161, 1025), (9, 99, 70, 598), (9, 102, 162, 1037), (9, 103, 71, 602), (9, 106, 163, 1041), (9, 107, 72, 606), (9, 110, 164, 1045), (9, 111, 73, 611), (9, 114, 168, 1049), (9, 115, 74, 638), (9, 118, 171, 1065), (9, 119, 75, 650), (9, 122, 172, 1077), (9, 123, 76, 654), (9, 127, 174, 1081), (9, 128, 77, 666), (9, 131, 175, 1091), (9, 132, 78, 670), (9, 135, 177, 1095), (9, 136, 79, 681), (9, 139, 180, 1103), (9, 140, 80, 693), (9, 143, 181, 1115), (9, 144, 81, 697), (9, 147, 183, 1119), (9, 148, 82, 704), (9, 151, 184, 1126), (9, 154, 83, 708), (9, 158, 185, 1130), (9, 159, 84, 712), (9, 163, 186, 1134), (9, 164, 85, 716), (9, 167, 187, 1138), (9, 168, 86, 725), (9, 171, 188, 1142), (9, 172, 87, 729), (9, 175, 190, 1146)]
def zNL : List (Nat × Nat × Nat) := [(0, 72, 107), (1, 19, 104), (4, 48, 107)]
def zCP : List (Nat × Nat × Nat) := [(0, 50, 530), (2, 43, 724), (3, 32, 326), (4, 24, 576), (5, 168, 443), (6, 107, 893)]
def zML : List (Nat × Nat × Nat × Nat) := [(1, 52, 10, 390), (1, 58, 11, 393), (3, 62, 11, 354), (5, 303, 12, 678)]
def zMa : List (Nat × Nat × Nat) := [(391, 392, 80), (355, 356, 80), (679, 680, 80)]
def zKI : List (Nat × Nat × Int × Nat) := [(1, 87, 1103515245, 662), (6, 243, 1103515245, 1090)]
def zKL : List (Nat × Nat × Int × Nat) := [(5, 158, -9223372036854775808, 430), (5, 193, 999, 472), (6, 71, 2, 822), (6, 73, 4, 826), (6, 75, 5, 827), (6, 77, 9, 828), (6, 113, 8, 883), (6, 115, -9223372036854775808, 884), (6, 124, 127, 898), (6, 163, 3, 938), (6, 172, 999, 950), (6, 220, 30, 1032), (6, 244, 12, 1085), (9, 152, 4294967295, 1154)]
/-- places of each method's words: code, static or instance, selects, initialized -/
def zMW : List (Nat × Nat × Nat × Nat) := [(554, 552, 553, 74), (558, 556, 557, 74), (570, 568, 569, 74), (520, 518, 519, 74), (525, 524, 18, 74), (529, 528, 19, 74), (534, 533, 20, 74), (549, 548, 23, 74), (538, 537, 21, 74), (545, 544, 22, 74), (400, 398, 399, 73), (376, 374, 375, 73), (380, 379, 0, 73), (383, 382, 0, 73), (386, 385, 0, 73), (389, 388, 0, 73), (396, 395, 0, 73), (645, 643, 644, 73), (649, 648, 30, 73), (408, 406, 407, 73), (412, 411, 10, 73), (417, 415, 416, 73), (425, 423, 424, 73), (441, 439, 440, 73), (496, 495, 16, 73), (492, 491, 15, 73), (488, 487, 14, 73), (484, 482, 483, 73), (508, 506, 507, 73), (661, 659, 660, 73), (723, 721, 722, 72), (325, 323, 324, 76), (454, 452, 453, 76), (332, 331, 1, 76), (348, 347, 5, 76), (353, 352, 6, 76), (336, 335, 2, 76), (344, 343, 4, 76), (340, 339, 3, 76), (575, 573, 574, 75), (581, 580, 24, 75), (584, 583, 0, 75), (588, 587, 25, 75), (593, 592, 26, 75), (621, 620, 0, 75), (618, 616, 617, 75), (625, 624, 27, 75), (629, 627, 628, 75), (633, 632, 28, 75), (637, 636, 29, 75), (288, 286, 287, 71), (292, 290, 291, 71), (304, 302, 303, 71), (317, 315, 316, 71), (321, 319, 320, 71), (360, 358, 359, 71), (404, 402, 403, 71), (421, 419, 420, 71), (429, 427, 428, 71), (447, 445, 446, 71), (458, 456, 457, 71), (462, 460, 461, 71), (467, 465, 466, 71), (476, 474, 475, 71), (500, 498, 499, 71), (504, 502, 503, 71), (512, 510, 511, 71), (562, 560, 561, 71), (566, 564, 565, 71), (597, 595, 596, 71), (601, 599, 600, 71), (605, 603, 604, 71), (609, 607, 608, 71), (614, 612, 613, 71), (641, 639, 640, 71), (653, 651, 652, 71), (657, 655, 656, 71), (669, 667, 668, 71), (673, 671, 672, 71), (684, 682, 683, 71), (696, 694, 695, 71), (700, 698, 699, 71), (707, 705, 706, 71), (711, 709, 710, 71), (715, 713, 714, 71), (719, 717, 718, 71), (728, 726, 727, 71), (732, 730, 731, 71), (310, 309, 0, 71), (307, 306, 0, 71), (450, 449, 0, 71), (703, 702, 0, 71), (295, 294, 0, 71), (368, 367, 8, 71), (364, 363, 7, 71), (480, 479, 13, 71), (299, 298, 0, 71), (372, 371, 9, 71), (516, 515, 17, 71), (434, 433, 11, 71), (471, 470, 12, 71), (677, 676, 31, 71), (688, 687, 32, 71), (692, 691, 33, 71), (313, 312, 0, 71), (735, 734, 0, 71), (665, 664, 0, 71), (541, 540, 0, 71), (825, 824, 0, 78), (854, 853, 0, 78), (847, 846, 34, 78), (839, 838, 0, 78), (821, 819, 820, 78), (832, 830, 831, 78), (836, 834, 835, 78), (858, 857, 36, 78), (862, 861, 37, 78), (851, 850, 35, 78), (843, 841, 842, 78), (870, 869, 38, 78), (874, 873, 39, 78), (866, 864, 865, 78), (878, 876, 877, 78), (888, 887, 40, 78), (892, 891, 41, 78), (882, 880, 881, 78), (897, 895, 896, 78), (914, 913, 44, 78), (918, 917, 45, 78), (922, 921, 46, 78), (910, 909, 43, 78), (930, 929, 48, 78), (926, 925, 47, 78), (906, 905, 42, 78), (902, 900, 901, 78), (937, 936, 0, 78), (941, 940, 0, 78), (934, 932, 933, 78), (945, 943, 944, 78), (949, 947, 948, 78), (954, 952, 953, 78), (962, 961, 49, 78), (970, 969, 51, 78), (966, 965, 50, 78), (958, 956, 957, 78), (974, 972, 973, 78), (978, 976, 977, 78), (998, 997, 55, 78), (994, 993, 54, 78), (990, 989, 53, 78), (986, 985, 52, 78), (982, 980, 981, 78), (1002, 1000, 1001, 78), (1016, 1015, 0, 78), (1013, 1012, 0, 78), (1020, 1019, 57, 78), (1024, 1023, 58, 78), (1010, 1009, 56, 78), (1006, 1004, 1005, 78), (1031, 1030, 0, 78), (1036, 1035, 59, 78), (1028, 1026, 1027, 78), (1040, 1038, 1039, 78), (1044, 1042, 1043, 78), (1048, 1046, 1047, 78), (1056, 1055, 60, 78), (1060, 1059, 61, 78), (1064, 1063, 62, 78), (1052, 1050, 1051, 78), (1072, 1071, 63, 78), (1076, 1075, 64, 78), (1068, 1066, 1067, 78), (1080, 1078, 1079, 78), (1089, 1088, 65, 78), (1084, 1082, 1083, 78), (1094, 1092, 1093, 78), (1102, 1101, 66, 78), (1098, 1096, 1097, 78), (1110, 1109, 67, 78), (1114, 1113, 68, 78), (1106, 1104, 1105, 78), (1118, 1116, 1117, 78), (1125, 1124, 0, 78), (1122, 1120, 1121, 78), (1129, 1127, 1128, 78), (1133, 1131, 1132, 78), (1137, 1135, 1136, 78), (1141, 1139, 1140, 78), (1145, 1143, 1144, 78), (1153, 1152, 69, 78), (1149, 1147, 1148, 78), (437, 436, 0, 77), (231, 230, 0, 77), (0, 0, 0, 70)]
end
section
/-! what is checked of the data, by program -/
def zwG : List Cond := lw_tbl.filter goodWord
def zmN (z : Nat) : MethodName := zmn.getD z ⟨"", "", ""⟩
def zmC (z : Nat) : ByteArray := zmc.getD z ⟨#[]⟩
def zmO (z : Nat) : Nat := (zmi.getD z (0, 0, 0, 0, 0)).1
def zmL (z : Nat) : Nat := (zmi.getD z (0, 0, 0, 0, 0)).2.1
def zmA (z : Nat) : Nat := (zmi.getD z (0, 0, 0, 0, 0)).2.2.1
def zmS (z : Nat) : Nat := (zmi.getD z (0, 0, 0, 0, 0)).2.2.2.1
def zmK (z : Nat) : Nat := (zmi.getD z (0, 0, 0, 0, 0)).2.2.2.2
def zmR (z : Nat) : Option FieldType := zmr.getD z none
def zcN (k : Nat) : String := zcn.getD k ""
def zW (z : Nat) : List Cond := Cond.code (zmN z) (zmC z) (zmL z) (zmR z) :: zwG
/-- the length of an instruction that isn't a switch -/
def zlen : Instr → Nat
  | .goto _ | .ifCond _ _ | .if_icmp _ _ | .iinc _ _ | .sipush _ | .ldc2_w _ | .getfield _ | .putfield _ | .invokevirtual _ | .invokestatic _ => 3
  | .iload _ | .lload _ | .aload _ | .istore _ | .astore _ | .lstore _ | .bipush _ | .ldc _ => 2
  | _ => 1
def zsw : Instr → Bool
  | .tableswitch _ _ _ _ | .lookupswitch _ _ => true
  | _ => false
def zin (c : Int) : Bool := decide (-2147483648 ≤ c) && decide (c < 2147483648)
def zjmp (pc : Nat) (o : Int) (ex : Nat) : Bool := decide ((pc : Int) + o = (ex : Int))
def ztab (pc : Nat) (lo : Int) : List Int → List (Int × Nat) → Bool
  | [], [] => true
  | o :: os, (v, t) :: tb => decide (v = lo) && zjmp pc o t && ztab pc (lo + 1) os tb
  | _, _ => false
def zlkp (pc : Nat) : List (Int × Int) → List (Int × Nat) → Bool
  | [], [] => true
  | (k, o) :: os, (v, t) :: tb => decide (v = k) && zjmp pc o t && zlkp pc os tb
  | _, _ => false
def zchkO (z : Nat) (op : Instr) (ex : Nat) (tb : List (Int × Nat)) (pc : Nat) : Bool := match op with
  | .goto o => zjmp pc o ex
  | .ifCond _ o => zjmp pc o ex
  | .if_icmp _ o => zjmp pc o ex
  | .iconst c => zin c
  | .bipush c => zin c && decide ((Int8.ofInt c).toInt32 = Int32.ofInt c)
  | .sipush c => zin c && decide ((Int16.ofInt c).toInt32 = Int32.ofInt c)
  | .ldc i => match tb with
    | [(v, _)] => zin v && zKI.any (fun q => q.1 == zmO z && (q.2.1 == i && q.2.2.1 == v))
    | _ => false
  | .ldc2_w i => match tb with
    | [(v, _)] => decide (-9223372036854775808 ≤ v) && decide (v < 9223372036854775808) && zKL.any (fun q => q.1 == zmO z && (q.2.1 == i && q.2.2.1 == v))
    | _ => false
  | .getfield i => zFL.any (fun q => q.1 == zmO z && (q.2.1 == i && (32 * q.2.2.1 + q.2.2.2.1 == ex)))
  | .putfield i => zFL.any (fun q => q.1 == zmO z && (q.2.1 == i && (32 * q.2.2.1 + q.2.2.2.1 == ex)))
  | .invokevirtual i => zCL.any (fun q => q.1 == zmO z && (q.2.1 == i && q.2.2.1 == ex)) && (decide (tb = [(((zmK ex : Nat) : Int), zmA ex), (((zmO ex : Nat) : Int), 0)]) && (zmS ex == 0 && decide (ex < 193)))
  | .invokestatic i => if tb = [(9, 5)] then zCP.any (fun q => q.1 == zmO z && q.2.1 == i) else if tb = [(10, 1)] then zML.any (fun q => q.1 == zmO z && (q.2.1 == i && q.2.2.1 == 10)) else if tb = [(11, 2)] then zML.any (fun q => q.1 == zmO z && (q.2.1 == i && q.2.2.1 == 11)) else if tb = [(12, 2)] then zML.any (fun q => q.1 == zmO z && (q.2.1 == i && q.2.2.1 == 12)) else (zCL.any (fun q => q.1 == zmO z && (q.2.1 == i && q.2.2.1 == ex)) || zNL.any (fun q => q.1 == zmO z && (q.2.1 == i && q.2.2 == ex))) && (decide (tb = [(((zmK ex : Nat) : Int), zmA ex)]) && (zmS ex == 1 && decide (ex < 193)))
  | .ireturn => ex == zmK z && (ex == 1 || ex == 4)
  | .lreturn => zmK z == 2
  | .areturn => zmK z == 3
  | .return_ => zmK z == 0
  | .tableswitch d lo hi offs => zjmp pc d ex && (ztab pc lo offs.toList tb && decide (hi = lo + (offs.size : Int) - 1))
  | .lookupswitch d ps => zjmp pc d ex && (zlkp pc ps.toList tb && (ps.toList.zip (ps.toList.drop 1)).all (fun (a, next) => a.1 < next.1))
  | .nop => false
  | _ => true
def zchkB (z : Nat) : Nat → List zI → Bool
  | _, [] => true
  | pc, i :: is => match decide (i.1 = .nop) with
    | true => i.2.1 == pc
    | false => match decode (zmC z) pc with
      | .ok (op, len) => decide (op = i.1) && ((zsw op || zlen op == len) && (zchkO z i.1 i.2.1 i.2.2 pc && zchkB z (pc + len) is))
      | .error _ => false
def zchkM (z : Nat) : Bool := (zbs.getD z []).all (fun b => zchkB z b.1 b.2)
set_option maxRecDepth 100000 in
set_option maxHeartbeats 4000000 in
theorem zck_0 : (List.range' 0 14).all zchkM = true := by decide +kernel
set_option maxRecDepth 100000 in
set_option maxHeartbeats 4000000 in
theorem zck_14 : (List.range' 14 14).all zchkM = true := by decide +kernel
set_option maxRecDepth 100000 in
set_option maxHeartbeats 4000000 in
theorem zck_28 : (List.range' 28 14).all zchkM = true := by decide +kernel
set_option maxRecDepth 100000 in
set_option maxHeartbeats 4000000 in
theorem zck_42 : (List.range' 42 14).all zchkM = true := by decide +kernel
set_option maxRecDepth 100000 in
set_option maxHeartbeats 4000000 in
theorem zck_56 : (List.range' 56 14).all zchkM = true := by decide +kernel
set_option maxRecDepth 100000 in
set_option maxHeartbeats 4000000 in
theorem zck_70 : (List.range' 70 14).all zchkM = true := by decide +kernel
set_option maxRecDepth 100000 in
set_option maxHeartbeats 4000000 in
theorem zck_84 : (List.range' 84 14).all zchkM = true := by decide +kernel
set_option maxRecDepth 100000 in
set_option maxHeartbeats 4000000 in
theorem zck_98 : (List.range' 98 14).all zchkM = true := by decide +kernel
set_option maxRecDepth 100000 in
set_option maxHeartbeats 4000000 in
theorem zck_112 : (List.range' 112 14).all zchkM = true := by decide +kernel
set_option maxRecDepth 100000 in
set_option maxHeartbeats 4000000 in
theorem zck_126 : (List.range' 126 14).all zchkM = true := by decide +kernel
set_option maxRecDepth 100000 in
set_option maxHeartbeats 4000000 in
theorem zck_140 : (List.range' 140 14).all zchkM = true := by decide +kernel
set_option maxRecDepth 100000 in
set_option maxHeartbeats 4000000 in
theorem zck_154 : (List.range' 154 14).all zchkM = true := by decide +kernel
set_option maxRecDepth 100000 in
set_option maxHeartbeats 4000000 in
theorem zck_168 : (List.range' 168 14).all zchkM = true := by decide +kernel
set_option maxRecDepth 100000 in
set_option maxHeartbeats 4000000 in
theorem zck_182 : (List.range' 182 11).all zchkM = true := by decide +kernel
end
section
/-! the law's own blocks, checked -/
set_option maxRecDepth 100000 in
set_option maxHeartbeats 4000000 in
theorem zckL_0 : ((zb193.drop 0).take 8).all (fun b => zchkB 193 b.1 b.2) = true := by decide +kernel
set_option maxRecDepth 100000 in
set_option maxHeartbeats 4000000 in
theorem zckL_8 : ((zb193.drop 8).take 8).all (fun b => zchkB 193 b.1 b.2) = true := by decide +kernel
set_option maxRecDepth 100000 in
set_option maxHeartbeats 4000000 in
theorem zckL_16 : ((zb193.drop 16).take 8).all (fun b => zchkB 193 b.1 b.2) = true := by decide +kernel
set_option maxRecDepth 100000 in
set_option maxHeartbeats 4000000 in
theorem zckL_24 : ((zb193.drop 24).take 8).all (fun b => zchkB 193 b.1 b.2) = true := by decide +kernel
set_option maxRecDepth 100000 in
set_option maxHeartbeats 4000000 in
theorem zckL_32 : ((zb193.drop 32).take 8).all (fun b => zchkB 193 b.1 b.2) = true := by decide +kernel
set_option maxRecDepth 100000 in
set_option maxHeartbeats 4000000 in
theorem zckL_40 : ((zb193.drop 40).take 1).all (fun b => zchkB 193 b.1 b.2) = true := by decide +kernel
end
section
/-! the words of the tables, by their places -/
def zcl (ci : Nat) : vw_C := vwCl.getD ci ("", fun _ => ("", "", "", false), 0)
def zat (w : Cond) (p : Nat) : Bool := decide (lw_tbl[p]? = some w) && goodWord w
theorem zat_in {w : Cond} {p : Nat} (h : zat w p = true) : w ∈ zwG := by
  unfold zat at h
  rw [Bool.and_eq_true, decide_eq_true_eq] at h
  exact List.mem_filter.mpr ⟨List.mem_of_getElem? h.1, h.2⟩
theorem zwG_tbl {w : Cond} (h : w ∈ zwG) : w ∈ lw_tbl := (List.mem_filter.mp h).1
theorem zwG_good {w : Cond} (h : w ∈ zwG) : (w.onTables && w.keeps) = true ∨ ∃ ty, w = .arrayClass ty := good_of_word (List.mem_filter.mp h).2
def zfw (o i ci k : Nat) : Cond := .fieldLink (zcN o) i ((zcl ci).2.1 k).1 ((zcl ci).2.1 k).2.1 ((zcl ci).2.1 k).2.2.1
set_option maxRecDepth 100000 in
set_option maxHeartbeats 4000000 in
theorem zFL_c : zFL.all (fun q => zat (zfw q.1 q.2.1 q.2.2.1 q.2.2.2.1) q.2.2.2.2 && (decide (q.2.2.1 < 7) && decide (q.2.2.2.1 < 32))) = true := by decide +kernel
set_option maxRecDepth 100000 in
set_option maxHeartbeats 4000000 in
theorem zCL_c : zCL.all (fun q => zat (.methodLink (zcN q.1) q.2.1 (zmN q.2.2.1)) q.2.2.2) = true := by decide +kernel
set_option maxRecDepth 100000 in
set_option maxHeartbeats 4000000 in
theorem zKI_c : zKI.all (fun q => zat (.constant (zcN q.1) q.2.1 (Int32.ofInt q.2.2.1)) q.2.2.2) = true := by decide +kernel
set_option maxRecDepth 100000 in
set_option maxHeartbeats 4000000 in
theorem zKL_c : zKL.all (fun q => zat (.constantLong (zcN q.1) q.2.1 (Int64.ofInt q.2.2.1)) q.2.2.2) = true := by decide +kernel
set_option maxRecDepth 100000 in
set_option maxHeartbeats 4000000 in
theorem zCP_c : zCP.all (fun q => zat (.methodLink (zcN q.1) q.2.1 arraycopyName) q.2.2) = true := by decide +kernel
def zret (k : Nat) (r : Option FieldType) : Bool := match k, r with
  | 0, none => true
  | 1, some .int => true
  | 2, some .long => true
  | 3, some (.object _) => true
  | 4, some .boolean => true
  | _, _ => false
def zmw (z : Nat) : Bool := let q := zMW.getD z (0, 0, 0, 0)
  zat (.code (zmN z) (zmC z) (zmL z) (zmR z)) q.1 && ((if zmS z = 1 then zat (.static (zmN z)) q.2.1 else zat (.instanceMethod (zmN z)) q.2.1 && zat (.selects (zmN z).cls (zmN z) (zmN z)) q.2.2.1) && (zat (.initialized (zmN z).cls) q.2.2.2 && (decide ((zmN z).cls = zcN (zmO z)) && (decide ((parseMethodDescriptor (zmN z).desc).map (fun d => d.parameters.length) = some (zmA z + zmS z - 1)) && (decide ((zmN z).cls ≠ "java/lang/invoke/MethodHandle" ∧ (zmN z).cls ≠ "java/lang/invoke/VarHandle") && (plainName (zmN z).cls && (zret (zmK z) (zmR z) && (decide (zmL z ≤ 60) && (decide (zmO z < 7 ∨ zmS z = 1) && decide (0 < zmA z ∨ zmS z = 1))))))))))
end
section
/-! the methods' words -/
set_option maxRecDepth 100000 in
set_option maxHeartbeats 4000000 in
theorem zmw_0 : (List.range' 0 14).all zmw = true := by decide +kernel
end
section
/-! the methods' words -/
set_option maxRecDepth 100000 in
set_option maxHeartbeats 4000000 in
theorem zmw_14 : (List.range' 14 14).all zmw = true := by decide +kernel
end
section
/-! the methods' words -/
set_option maxRecDepth 100000 in
set_option maxHeartbeats 4000000 in
theorem zmw_28 : (List.range' 28 14).all zmw = true := by decide +kernel
end
section
/-! the methods' words -/
set_option maxRecDepth 100000 in
set_option maxHeartbeats 4000000 in
theorem zmw_42 : (List.range' 42 14).all zmw = true := by decide +kernel
end
section
/-! the methods' words -/
set_option maxRecDepth 100000 in
set_option maxHeartbeats 4000000 in
theorem zmw_56 : (List.range' 56 14).all zmw = true := by decide +kernel
end
section
/-! the methods' words -/
set_option maxRecDepth 100000 in
set_option maxHeartbeats 4000000 in
theorem zmw_70 : (List.range' 70 14).all zmw = true := by decide +kernel
end
section
/-! the methods' words -/
set_option maxRecDepth 100000 in
set_option maxHeartbeats 4000000 in
theorem zmw_84 : (List.range' 84 14).all zmw = true := by decide +kernel
end
section
/-! the methods' words -/
set_option maxRecDepth 100000 in
set_option maxHeartbeats 4000000 in
theorem zmw_98 : (List.range' 98 14).all zmw = true := by decide +kernel
end
section
/-! the methods' words -/
set_option maxRecDepth 100000 in
set_option maxHeartbeats 4000000 in
theorem zmw_112 : (List.range' 112 14).all zmw = true := by decide +kernel
end
section
/-! the methods' words -/
set_option maxRecDepth 100000 in
set_option maxHeartbeats 4000000 in
theorem zmw_126 : (List.range' 126 14).all zmw = true := by decide +kernel
end
section
/-! the methods' words -/
set_option maxRecDepth 100000 in
set_option maxHeartbeats 4000000 in
theorem zmw_140 : (List.range' 140 14).all zmw = true := by decide +kernel
end
section
/-! the methods' words -/
set_option maxRecDepth 100000 in
set_option maxHeartbeats 4000000 in
theorem zmw_154 : (List.range' 154 14).all zmw = true := by decide +kernel
end
section
/-! the methods' words -/
set_option maxRecDepth 100000 in
set_option maxHeartbeats 4000000 in
theorem zmw_168 : (List.range' 168 14).all zmw = true := by decide +kernel
end
section
/-! the methods' words -/
set_option maxRecDepth 100000 in
set_option maxHeartbeats 4000000 in
theorem zmw_182 : (List.range' 182 11).all zmw = true := by decide +kernel
end
section
/-! other words; the cells -/
def zmth (k : Nat) : MethodName := if k = 10 then Lib.Math.abs.name else if k = 11 then Lib.Math.min.name else Lib.MathLoose.min_long.x
set_option maxRecDepth 100000 in
set_option maxHeartbeats 4000000 in
theorem zML_c : zML.all (fun q => zat (.methodLink (zcN q.1) q.2.1 (zmth q.2.2.1)) q.2.2.2) = true := by decide +kernel
set_option maxRecDepth 100000 in
set_option maxHeartbeats 4000000 in
theorem zMa_c : zat (.static Lib.Math.abs.name) (zMa.getD 0 (0, 0, 0)).1 = true ∧ zat (.code Lib.Math.abs.name Lib.Math.abs.code 1 (some .int)) (zMa.getD 0 (0, 0, 0)).2.1 = true ∧ zat (.initialized "java/lang/Math") (zMa.getD 0 (0, 0, 0)).2.2 = true ∧ zat (.static Lib.Math.min.name) (zMa.getD 1 (0, 0, 0)).1 = true ∧ zat (.code Lib.Math.min.name Lib.Math.min.code 2 (some .int)) (zMa.getD 1 (0, 0, 0)).2.1 = true ∧ zat (.static Lib.MathLoose.min_long.x) (zMa.getD 2 (0, 0, 0)).1 = true ∧ zat (.code Lib.MathLoose.min_long.x Lib.MathLoose.min_long.code 4 (some .long)) (zMa.getD 2 (0, 0, 0)).2.1 = true := by decide +kernel
set_option maxRecDepth 100000 in
set_option maxHeartbeats 4000000 in
theorem zvw_c : vwCl.all (fun c => (u_ws c.1 c.2.1 c.2.2).all (fun w => decide (w ∈ lw_tbl) && goodWord w)) = true := by decide +kernel
def znw : List Cond := zNL.map (fun q => .methodLinkNest (zcN q.1) q.2.1 (zmN q.2.2) "FusionRules")
set_option maxRecDepth 100000 in
set_option maxHeartbeats 4000000 in
theorem znw_c : ∀ w ∈ znw, w ∈ lw_tbl := by decide +kernel
set_option maxRecDepth 100000 in
set_option maxHeartbeats 4000000 in
theorem zsy_c : ∀ w ∈ [Cond.native arraycopyName, Cond.static arraycopyName, Cond.initialized "java/lang/System"], w ∈ zwG := by decide +kernel
/-- the fields of an object's cell: as many as its class has, numbers where they are written -/
def zcok (c : Nat × Int × List Int) : Bool := if c.1 = 3 then decide (0 ≤ c.2.1 ∧ c.2.1 < 7) && (decide (c.2.2.length = (zcl c.2.1.toNat).2.2) && (List.range c.2.2.length).all (fun k => if c.2.2.getD k 0 = -1 then decide (((zcl c.2.1.toNat).2.1 k).2.2 = ("I", false)) else if c.2.2.getD k 0 = -2 then decide (((zcl c.2.1.toNat).2.1 k).2.2 = ("Z", false)) else decide (0 ≤ c.2.2.getD k 0))) else decide (c.1 < 3 ∧ 0 ≤ c.2.1 ∧ c.2.1 < 1000)
theorem zcok_c : zSH.all zcok = true := by decide +kernel
theorem zSH_len : zSH.length = 58 := rfl
end
section
/-! the machine: blocks of instructions over a memory of whole numbers -/
def zw (z : Int) : Int := (z + 2147483648) % 4294967296 - 2147483648
def zx (z : Int) : Int := (z + 9223372036854775808) % 18446744073709551616 - 9223372036854775808
def zb (z : Int) : Int := (z + 128) % 256 - 128
def zu (μ : zM) (a i v : Int) : zM := fun b j => if b = a ∧ j = i then v else μ b j
def zcp (μ : zM) (a b sp dp n : Int) : zM := fun c i => if c = b ∧ dp ≤ i ∧ i < dp + n then μ a (sp + (i - dp)) else μ c i
def zS (a : Int) : Nat × Int × List Int := if a = 99 then (4, 0, []) else if 0 ≤ a then zSH.getD a.toNat (9, 0, []) else (9, 0, [])
def zT (a : Int) : Nat := (zS a).1
def zN (a : Int) : Int := (zS a).2.1
def zG (ex : Nat) (a : Int) : Int := if (zS a).1 = 3 ∧ (zS a).2.1 = ((ex / 32 : Nat) : Int) then (zS a).2.2.getD (ex % 32) (-9) else -9
def zand (a b : Int) : Int := (Int32.ofInt a &&& Int32.ofInt b).toInt
def zor (a b : Int) : Int := (Int32.ofInt a ||| Int32.ofInt b).toInt
def zxor (a b : Int) : Int := (Int32.ofInt a ^^^ Int32.ofInt b).toInt
def zshl (a b : Int) : Int := (Int32.ofInt a <<< (Int32.ofInt b &&& 31)).toInt
def zshr (a b : Int) : Int := (Int32.ofInt a >>> (Int32.ofInt b &&& 31)).toInt
def zushr (a b : Int) : Int := ((Int32.ofInt a).toUInt32 >>> ((Int32.ofInt b).toUInt32 &&& Int32.toUInt32 31)).toInt32.toInt
def zlshl (a b : Int) : Int := (Int64.ofInt a <<< ((Int32.ofInt b).toInt64 &&& 63)).toInt
def zland (a b : Int) : Int := (Int64.ofInt a &&& Int64.ofInt b).toInt
def zlor (a b : Int) : Int := (Int64.ofInt a ||| Int64.ofInt b).toInt
def zcmp (a b : Int) : Int := if a < b then -1 else if a = b then 0 else 1
def zLd (t n : Nat) (lv : List zV) (k : zV → Prop) : Prop := (lv.getD n (9, 0)).1 = t ∧ k (lv.getD n (9, 0))
def zSt (t n : Nat) (lv st : List zV) (k : List zV → List zV → Prop) : Prop := match st with
  | (t', x) :: r => t' = t ∧ n < lv.length ∧ (lv.getD (n - 1) (9, 0)).1 ≠ 1 ∧ k (lv.set n (t, x)) r
  | _ => False
def zSt2 (n : Nat) (lv st : List zV) (k : List zV → List zV → Prop) : Prop := match st with
  | (t', x) :: r => t' = 1 ∧ n + 1 < lv.length ∧ (lv.getD (n - 1) (9, 0)).1 ≠ 1 ∧ k ((lv.set n (1, x)).set (n + 1) (9, 0)) r
  | _ => False
def zU (t : Nat) (st : List zV) (k : Int → List zV → Prop) : Prop := match st with
  | (t1, a) :: r => t1 = t ∧ k a r
  | _ => False
def zD (t1 t2 : Nat) (st : List zV) (k : Int → Int → List zV → Prop) : Prop := match st with
  | (s1, b) :: (s2, a) :: r => s1 = t1 ∧ s2 = t2 ∧ k a b r
  | _ => False
def zY (t1 : Nat) (st : List zV) (k : Int → Int → Int → List zV → Prop) : Prop := match st with
  | (s1, v) :: (s2, j) :: (s3, a) :: r => s1 = t1 ∧ s2 = 0 ∧ s3 = 2 ∧ k a j v r
  | _ => False
def zif (c : Prop) (p q : Prop) : Prop := (c → p) ∧ (¬ c → q)
def zSw (tb : List (Int × Nat)) (x : Int) (dflt : Nat) (k : Nat → Prop) : Prop := match tb with
  | [] => k dflt
  | (v, t) :: r => (x = v → k t) ∧ (¬ x = v → zSw r x dflt k)
def zP (k r : Int) (st : List zV) : List zV := if k = 0 then st else if k = 2 then (1, r) :: st else if k = 3 then (2, r) :: st else (0, r) :: st
def zCall (C : Nat → List zV → zM → (Int → zM → Prop) → Prop) (ex : Nat) (tb : List (Int × Nat)) (st : List zV) (μ : zM) (k : List zV → zM → Prop) : Prop := match tb with
  | [(q, n)] => n ≤ st.length ∧ (st.drop n).length ≤ 4 ∧ C ex (st.take n).reverse μ (fun r μ' => k (zP q r (st.drop n)) μ')
  | _ => False
/-- a call on an object: its class is the method's -/
def zVirt (C : Nat → List zV → zM → (Int → zM → Prop) → Prop) (ex : Nat) (tb : List (Int × Nat)) (st : List zV) (μ : zM) (k : List zV → zM → Prop) : Prop := match tb with
  | [(q, n), (ci, _)] => ((st.getD (n - 1) (9, 0)).1 = 2 ∧ zT (st.getD (n - 1) (9, 0)).2 = 3 ∧ zN (st.getD (n - 1) (9, 0)).2 = ci) ∧ 0 < n ∧ zCall C ex [(q, n)] st μ k
  | _ => False
def zCopy (st : List zV) (μ : zM) (k : List zV → zM → Prop) : Prop := match st with
  | (t1, n) :: (t2, dp) :: (t3, b) :: (t4, sp) :: (t5, a) :: r => (t1 = 0 ∧ t2 = 0 ∧ t3 = 2 ∧ t4 = 0 ∧ t5 = 2) ∧ zT a = zT b ∧ (zT a = 0 ∨ zT a = 2) ∧ 0 ≤ sp ∧ 0 ≤ dp ∧ 0 ≤ n ∧ sp + n ≤ zN a ∧ dp + n ≤ zN b ∧ r.length ≤ 4 ∧ k r (zcp μ a b sp dp n)
  | _ => False
def zGet (g a : Int) (ex : Nat) (μ : zM) (k : zV → Prop) : Prop := if 0 ≤ g then k (2, g) else ¬ g = -9 ∧ k (0, μ a ((ex % 32 : Nat) : Int))
def zPut (g a : Int) (ex : Nat) (v : Int) (μ : zM) (k : zM → Prop) : Prop := (g = -1 ∨ (g = -2 ∧ (v = 0 ∨ v = 1))) ∧ k (zu μ a ((ex % 32 : Nat) : Int) v)
def zAld (t : Nat) (a j : Int) (μ : zM) (k : Int → Prop) : Prop := if zT a = t then 0 ≤ j ∧ j < zN a ∧ k (μ a j) else t = 0 ∧ zT a = 4 ∧ 0 ≤ j ∧ j < μ 98 0 ∧ k (μ a j)
def zAst (t : Nat) (a j v : Int) (μ : zM) (k : zM → Prop) : Prop := zT a = t ∧ 0 ≤ j ∧ j < zN a ∧ k (zu μ a j v)
def zO (C : Nat → List zV → zM → (Int → zM → Prop) → Prop) (Q : Int → zM → Prop) (S : Nat → List zV → List zV → zM → Prop) (op : Instr) (ex : Nat) (tb : List (Int × Nat)) (lv st : List zV) (μ : zM) (K : List zV → List zV → zM → Prop) : Prop := match op with
  | .nop => S ex lv st μ
  | .goto _ => S ex lv st μ
  | .iload_n n => zLd 0 n.val lv (fun v => K lv (v :: st) μ)
  | .iload n => zLd 0 n lv (fun v => K lv (v :: st) μ)
  | .lload_n n => zLd 1 n.val lv (fun v => K lv (v :: st) μ)
  | .lload n => zLd 1 n lv (fun v => K lv (v :: st) μ)
  | .aload_n n => zLd 2 n.val lv (fun v => K lv (v :: st) μ)
  | .aload n => zLd 2 n lv (fun v => K lv (v :: st) μ)
  | .istore_n n => zSt 0 n.val lv st (fun lv st => K lv st μ)
  | .istore n => zSt 0 n lv st (fun lv st => K lv st μ)
  | .astore_n n => zSt 2 n.val lv st (fun lv st => K lv st μ)
  | .astore n => zSt 2 n lv st (fun lv st => K lv st μ)
  | .lstore n => zSt2 n lv st (fun lv st => K lv st μ)
  | .iinc n c => zLd 0 n lv (fun v => n < lv.length ∧ (lv.getD (n - 1) (9, 0)).1 ≠ 1 ∧ K (lv.set n (0, zw (v.2 + c))) st μ)
  | .iconst c => K lv ((0, c) :: st) μ
  | .bipush c => K lv ((0, c) :: st) μ
  | .sipush c => K lv ((0, c) :: st) μ
  | .lconst c => K lv ((1, (c.val : Int)) :: st) μ
  | .ldc _ => match tb with
    | [(v, _)] => K lv ((0, v) :: st) μ
    | _ => False
  | .ldc2_w _ => match tb with
    | [(v, _)] => K lv ((1, v) :: st) μ
    | _ => False
  | .iadd => zD 0 0 st (fun a b r => K lv ((0, zw (a + b)) :: r) μ)
  | .isub => zD 0 0 st (fun a b r => K lv ((0, zw (a - b)) :: r) μ)
  | .imul => zD 0 0 st (fun a b r => K lv ((0, zw (a * b)) :: r) μ)
  | .idiv => zD 0 0 st (fun a b r => ¬ b = 0 ∧ K lv ((0, zw (a.tdiv b)) :: r) μ)
  | .irem => zD 0 0 st (fun a b r => ¬ b = 0 ∧ K lv ((0, a.tmod b) :: r) μ)
  | .ineg => zU 0 st (fun a r => K lv ((0, zw (-a)) :: r) μ)
  | .iand => zD 0 0 st (fun a b r => K lv ((0, zand a b) :: r) μ)
  | .ior => zD 0 0 st (fun a b r => K lv ((0, zor a b) :: r) μ)
  | .ixor => zD 0 0 st (fun a b r => K lv ((0, zxor a b) :: r) μ)
  | .ishl => zD 0 0 st (fun a b r => K lv ((0, zshl a b) :: r) μ)
  | .ishr => zD 0 0 st (fun a b r => K lv ((0, zshr a b) :: r) μ)
  | .iushr => zD 0 0 st (fun a b r => K lv ((0, zushr a b) :: r) μ)
  | .ladd => zD 1 1 st (fun a b r => K lv ((1, zx (a + b)) :: r) μ)
  | .lmul => zD 1 1 st (fun a b r => K lv ((1, zx (a * b)) :: r) μ)
  | .land => zD 1 1 st (fun a b r => K lv ((1, zland a b) :: r) μ)
  | .lor => zD 1 1 st (fun a b r => K lv ((1, zlor a b) :: r) μ)
  | .lshl => zD 0 1 st (fun a b r => K lv ((1, zlshl a b) :: r) μ)
  | .lcmp => zD 1 1 st (fun a b r => K lv ((0, zcmp a b) :: r) μ)
  | .i2l => zU 0 st (fun a r => K lv ((1, a) :: r) μ)
  | .l2i => zU 1 st (fun a r => K lv ((0, zw a) :: r) μ)
  | .i2b => zU 0 st (fun a r => K lv ((0, zb a) :: r) μ)
  | .dup => match st with
    | (t, a) :: r => (t = 0 ∨ t = 2) ∧ K lv ((t, a) :: (t, a) :: r) μ
    | _ => False
  | .dup2 => match st with
    | (t, a) :: (t', b) :: r => (t = 0 ∨ t = 2) ∧ (t' = 0 ∨ t' = 2) ∧ K lv ((t, a) :: (t', b) :: (t, a) :: (t', b) :: r) μ
    | _ => False
  | .ifCond c _ => zU 0 st (fun a r => match c with
    | .eq => zif (a = 0) (S ex lv r μ) (K lv r μ)
    | .ne => zif (a = 0) (K lv r μ) (S ex lv r μ)
    | .lt => zif (a < 0) (S ex lv r μ) (K lv r μ)
    | .ge => zif (a < 0) (K lv r μ) (S ex lv r μ)
    | .gt => zif (0 < a) (S ex lv r μ) (K lv r μ)
    | .le => zif (0 < a) (K lv r μ) (S ex lv r μ))
  | .if_icmp c _ => zD 0 0 st (fun a b r => match c with
    | .eq => zif (a = b) (S ex lv r μ) (K lv r μ)
    | .ne => zif (a = b) (K lv r μ) (S ex lv r μ)
    | .lt => zif (a < b) (S ex lv r μ) (K lv r μ)
    | .ge => zif (a < b) (K lv r μ) (S ex lv r μ)
    | .gt => zif (b < a) (S ex lv r μ) (K lv r μ)
    | .le => zif (b < a) (K lv r μ) (S ex lv r μ))
  | .getfield _ => zU 2 st (fun a r => zGet (zG ex a) a ex μ (fun v => K lv (v :: r) μ))
  | .putfield _ => zD 0 2 st (fun a v r => zPut (zG ex a) a ex v μ (fun μ => K lv r μ))
  | .iaload => zD 0 2 st (fun a j r => zAld 0 a j μ (fun v => K lv ((0, v) :: r) μ))
  | .baload => zD 0 2 st (fun a j r => zAld 1 a j μ (fun v => K lv ((0, v) :: r) μ))
  | .laload => zD 0 2 st (fun a j r => zAld 2 a j μ (fun v => K lv ((1, v) :: r) μ))
  | .iastore => zY 0 st (fun a j v r => zAst 0 a j v μ (fun μ => K lv r μ))
  | .bastore => zY 0 st (fun a j v r => zAst 1 a j (zb v) μ (fun μ => K lv r μ))
  | .lastore => zY 1 st (fun a j v r => zAst 2 a j v μ (fun μ => K lv r μ))
  | .arraylength => zU 2 st (fun a r => if zT a < 3 then K lv ((0, zN a) :: r) μ else zT a = 4 ∧ K lv ((0, μ 98 0) :: r) μ)
  | .invokevirtual _ => zVirt C ex tb st μ (fun st μ => K lv st μ)
  | .invokestatic _ => zif (tb = [(9, 5)]) (zCopy st μ (fun st μ => K lv st μ)) (zif (tb = [(10, 1)]) (zU 0 st (fun a r => r.length ≤ 4 ∧ K lv ((0, if 0 ≤ a then a else zw (0 - a)) :: r) μ)) (zif (tb = [(11, 2)]) (zD 0 0 st (fun a b r => r.length ≤ 4 ∧ K lv ((0, if b < a then b else a) :: r) μ)) (zif (tb = [(12, 2)]) (zD 1 1 st (fun a b r => r.length ≤ 4 ∧ K lv ((1, if b < a then b else a) :: r) μ)) (zCall C ex tb st μ (fun st μ => K lv st μ)))))
  | .ireturn => zU 0 st (fun v r => r = [] ∧ (ex = 4 → v = 0 ∨ v = 1) ∧ Q v μ)
  | .lreturn => zU 1 st (fun v r => r = [] ∧ Q v μ)
  | .areturn => zU 2 st (fun v r => r = [] ∧ Q v μ)
  | .return_ => st = [] ∧ Q 0 μ
  | .tableswitch _ _ _ _ => zU 0 st (fun a r => zSw tb a ex (fun t => S t lv r μ))
  | .lookupswitch _ _ => zU 0 st (fun a r => zSw tb a ex (fun t => S t lv r μ))
  | _ => False
def zB (C : Nat → List zV → zM → (Int → zM → Prop) → Prop) (Q : Int → zM → Prop) (S : Nat → List zV → List zV → zM → Prop) : List zI → List zV → List zV → zM → Prop
  | [], _, _, _ => False
  | i :: is, lv, st, μ => zO C Q S i.1 i.2.1 i.2.2 lv st μ (fun lv st μ => zB C Q S is lv st μ)
def zLf (F : (Nat → List zV → List zV → zM → Prop) → Nat → List zV → List zV → zM → Prop) (L : Nat) (lv st : List zV) (μ : zM) : Prop := ∀ S : Nat → List zV → List zV → zM → Prop, (∀ L lv st μ, F S L lv st μ → S L lv st μ) → S L lv st μ
def zlay : List zV → List zV
  | [] => []
  | v :: r => if v.1 = 1 then v :: (9, 0) :: zlay r else v :: zlay r
def zent (z : Nat) (as : List zV) : List zV := zlay as ++ List.replicate (zmL z - (zlay as).length) (9, 0)
def zR : Nat → Nat → (Int → zM → Prop) → Nat → List zV → List zV → zM → Prop
  | 0, z, Q => zLf (fun S L lv st μ => zB (fun _ _ _ _ => False) Q S (zblk z L) lv st μ)
  | d + 1, z, Q => zLf (fun S L lv st μ => zB (fun z' as μ P => (zlay as).length ≤ zmL z' ∧ zR d z' P 0 (zent z' as) [] μ) Q S (zblk z L) lv st μ)
def zC : Nat → Nat → List zV → zM → (Int → zM → Prop) → Prop
  | 0, _, _, _, _ => False
  | d + 1, z, as, μ, P => (zlay as).length ≤ zmL z ∧ zR d z P 0 (zent z as) [] μ
theorem zR_eq (d z : Nat) (Q : Int → zM → Prop) : zR d z Q = zLf (fun S L lv st μ => zB (zC d) Q S (zblk z L) lv st μ) := by
  cases d with
  | zero =>
    have h : zC 0 = fun _ _ _ _ => False := by funext a b c e; rfl
    rw [h]; rfl
  | succ d => rfl
end
section
/-! the machine is monotone; a run is what its block says -/
theorem zLd_mono {t n : Nat} {lv : List zV} {k k' : zV → Prop} (h : zLd t n lv k) (hk : ∀ v, k v → k' v) : zLd t n lv k' := ⟨h.1, hk _ h.2⟩
theorem zSt_mono {t n : Nat} {lv st : List zV} {k k' : List zV → List zV → Prop} (h : zSt t n lv st k) (hk : ∀ a b, k a b → k' a b) : zSt t n lv st k' := by
  cases st with
  | nil => exact h
  | cons v r => exact ⟨h.1, h.2.1, h.2.2.1, hk _ _ h.2.2.2⟩
theorem zSt2_mono {n : Nat} {lv st : List zV} {k k' : List zV → List zV → Prop} (h : zSt2 n lv st k) (hk : ∀ a b, k a b → k' a b) : zSt2 n lv st k' := by
  cases st with
  | nil => exact h
  | cons v r => exact ⟨h.1, h.2.1, h.2.2.1, hk _ _ h.2.2.2⟩
theorem zU_mono {t : Nat} {st : List zV} {k k' : Int → List zV → Prop} (h : zU t st k) (hk : ∀ a b, k a b → k' a b) : zU t st k' := by
  cases st with
  | nil => exact h
  | cons v r => exact ⟨h.1, hk _ _ h.2⟩
theorem zD_mono {t1 t2 : Nat} {st : List zV} {k k' : Int → Int → List zV → Prop} (h : zD t1 t2 st k) (hk : ∀ a b c, k a b c → k' a b c) : zD t1 t2 st k' := by
  cases st with
  | nil => exact h
  | cons v r =>
    cases r with
    | nil => exact h
    | cons v2 r => exact ⟨h.1, h.2.1, hk _ _ _ h.2.2⟩
theorem zY_mono {t1 : Nat} {st : List zV} {k k' : Int → Int → Int → List zV → Prop} (h : zY t1 st k) (hk : ∀ a b c e, k a b c e → k' a b c e) : zY t1 st k' := by
  cases st with
  | nil => exact h
  | cons v r =>
    cases r with
    | nil => exact h
    | cons v2 r =>
      cases r with
      | nil => exact h
      | cons v3 r => exact ⟨h.1, h.2.1, h.2.2.1, hk _ _ _ _ h.2.2.2⟩
theorem zif_mono {c p p' q q' : Prop} (hp : p → p') (hq : q → q') (h : zif c p q) : zif c p' q' := ⟨fun c => hp (h.1 c), fun c => hq (h.2 c)⟩
theorem zSw_mono {k k' : Nat → Prop} (hk : ∀ t, k t → k' t) {x : Int} {d : Nat} : ∀ {tb : List (Int × Nat)}, zSw tb x d k → zSw tb x d k'
  | [], h => hk _ h
  | _ :: _, h => ⟨fun c => hk _ (h.1 c), fun c => zSw_mono hk (h.2 c)⟩
theorem zCall_mono {C C' : Nat → List zV → zM → (Int → zM → Prop) → Prop} (hC : ∀ z as μ P P', (∀ r μ, P r μ → P' r μ) → C z as μ P → C' z as μ P') {ex : Nat} {tb : List (Int × Nat)} {st : List zV} {μ : zM} {k k' : List zV → zM → Prop} (h : zCall C ex tb st μ k) (hk : ∀ a b, k a b → k' a b) : zCall C' ex tb st μ k' := by
  cases tb with
  | nil => exact h
  | cons v r =>
    cases r with
    | nil => exact ⟨h.1, h.2.1, hC _ _ _ _ _ (fun _ _ => hk _ _) h.2.2⟩
    | cons v2 r => exact h
theorem zVirt_mono {C C' : Nat → List zV → zM → (Int → zM → Prop) → Prop} (hC : ∀ z as μ P P', (∀ r μ, P r μ → P' r μ) → C z as μ P → C' z as μ P') {ex : Nat} {tb : List (Int × Nat)} {st : List zV} {μ : zM} {k k' : List zV → zM → Prop} (h : zVirt C ex tb st μ k) (hk : ∀ a b, k a b → k' a b) : zVirt C' ex tb st μ k' := by
  cases tb with
  | nil => exact h
  | cons v r =>
    cases r with
    | nil => exact h
    | cons v2 r =>
      cases r with
      | nil => exact ⟨h.1, h.2.1, zCall_mono hC h.2.2 hk⟩
      | cons v3 r => exact h
theorem zCopy_mono {st : List zV} {μ : zM} {k k' : List zV → zM → Prop} (h : zCopy st μ k) (hk : ∀ a b, k a b → k' a b) : zCopy st μ k' := by
  unfold zCopy at h ⊢
  split at h
  · obtain ⟨h1, h2, h3, h4, h5, h6, h7, h8, h9, h10⟩ := h
    exact ⟨h1, h2, h3, h4, h5, h6, h7, h8, h9, hk _ _ h10⟩
  · exact h.elim
theorem zGet_mono {g a : Int} {ex : Nat} {μ : zM} {k k' : zV → Prop} (h : zGet g a ex μ k) (hk : ∀ v, k v → k' v) : zGet g a ex μ k' := by
  unfold zGet at h ⊢
  split
  · rename_i q; rw [if_pos q] at h; exact hk _ h
  · rename_i q; rw [if_neg q] at h; exact ⟨h.1, hk _ h.2⟩
theorem zPut_mono {g a : Int} {ex : Nat} {v : Int} {μ : zM} {k k' : zM → Prop} (h : zPut g a ex v μ k) (hk : ∀ v, k v → k' v) : zPut g a ex v μ k' := ⟨h.1, hk _ h.2⟩
theorem zAld_mono {t : Nat} {a j : Int} {μ : zM} {k k' : Int → Prop} (h : zAld t a j μ k) (hk : ∀ v, k v → k' v) : zAld t a j μ k' := by
  unfold zAld at h ⊢
  split
  · rename_i q; rw [if_pos q] at h; exact ⟨h.1, h.2.1, hk _ h.2.2⟩
  · rename_i q; rw [if_neg q] at h; exact ⟨h.1, h.2.1, h.2.2.1, h.2.2.2.1, hk _ h.2.2.2.2⟩
theorem zAst_mono {t : Nat} {a j v : Int} {μ : zM} {k k' : zM → Prop} (h : zAst t a j v μ k) (hk : ∀ v, k v → k' v) : zAst t a j v μ k' := ⟨h.1, h.2.1, h.2.2.1, hk _ h.2.2.2⟩
set_option maxHeartbeats 4000000 in
theorem zO_mono {C C' : Nat → List zV → zM → (Int → zM → Prop) → Prop} {Q Q' : Int → zM → Prop} {S S' : Nat → List zV → List zV → zM → Prop} {K K' : List zV → List zV → zM → Prop} (hC : ∀ z as μ P P', (∀ r μ, P r μ → P' r μ) → C z as μ P → C' z as μ P') (hQ : ∀ r μ, Q r μ → Q' r μ) (hS : ∀ L lv st μ, S L lv st μ → S' L lv st μ) (hK : ∀ lv st μ, K lv st μ → K' lv st μ) (op : Instr) (ex : Nat) (tb : List (Int × Nat)) (lv st : List zV) (μ : zM) (h : zO C Q S op ex tb lv st μ K) : zO C' Q' S' op ex tb lv st μ K' := by
  cases op
  case nop => dsimp only [zO] at h ⊢; exact hS _ _ _ _ h
  case goto => dsimp only [zO] at h ⊢; exact hS _ _ _ _ h
  case iload_n => dsimp only [zO] at h ⊢; exact zLd_mono h (fun _ => hK _ _ _)
  case iload => dsimp only [zO] at h ⊢; exact zLd_mono h (fun _ => hK _ _ _)
  case lload_n => dsimp only [zO] at h ⊢; exact zLd_mono h (fun _ => hK _ _ _)
  case lload => dsimp only [zO] at h ⊢; exact zLd_mono h (fun _ => hK _ _ _)
  case aload_n => dsimp only [zO] at h ⊢; exact zLd_mono h (fun _ => hK _ _ _)
  case aload => dsimp only [zO] at h ⊢; exact zLd_mono h (fun _ => hK _ _ _)
  case istore_n => dsimp only [zO] at h ⊢; exact zSt_mono h (fun _ _ => hK _ _ _)
  case istore => dsimp only [zO] at h ⊢; exact zSt_mono h (fun _ _ => hK _ _ _)
  case astore_n => dsimp only [zO] at h ⊢; exact zSt_mono h (fun _ _ => hK _ _ _)
  case astore => dsimp only [zO] at h ⊢; exact zSt_mono h (fun _ _ => hK _ _ _)
  case lstore => dsimp only [zO] at h ⊢; exact zSt2_mono h (fun _ _ => hK _ _ _)
  case iinc => dsimp only [zO] at h ⊢; exact zLd_mono h (fun _ q => ⟨q.1, q.2.1, hK _ _ _ q.2.2⟩)
  case iconst => dsimp only [zO] at h ⊢; exact hK _ _ _ h
  case bipush => dsimp only [zO] at h ⊢; exact hK _ _ _ h
  case sipush => dsimp only [zO] at h ⊢; exact hK _ _ _ h
  case lconst => dsimp only [zO] at h ⊢; exact hK _ _ _ h
  case ldc =>
    cases tb with
    | nil => exact h
    | cons v r =>
      cases r with
      | nil => exact hK _ _ _ h
      | cons v2 r => exact h
  case ldc2_w =>
    cases tb with
    | nil => exact h
    | cons v r =>
      cases r with
      | nil => exact hK _ _ _ h
      | cons v2 r => exact h
  case iadd => dsimp only [zO] at h ⊢; exact zD_mono h (fun _ _ _ => hK _ _ _)
  case isub => dsimp only [zO] at h ⊢; exact zD_mono h (fun _ _ _ => hK _ _ _)
  case imul => dsimp only [zO] at h ⊢; exact zD_mono h (fun _ _ _ => hK _ _ _)
  case idiv => dsimp only [zO] at h ⊢; exact zD_mono h (fun _ _ _ q => ⟨q.1, hK _ _ _ q.2⟩)
  case irem => dsimp only [zO] at h ⊢; exact zD_mono h (fun _ _ _ q => ⟨q.1, hK _ _ _ q.2⟩)
  case ineg => dsimp only [zO] at h ⊢; exact zU_mono h (fun _ _ => hK _ _ _)
  case iand => dsimp only [zO] at h ⊢; exact zD_mono h (fun _ _ _ => hK _ _ _)
  case ior => dsimp only [zO] at h ⊢; exact zD_mono h (fun _ _ _ => hK _ _ _)
  case ixor => dsimp only [zO] at h ⊢; exact zD_mono h (fun _ _ _ => hK _ _ _)
  case ishl => dsimp only [zO] at h ⊢; exact zD_mono h (fun _ _ _ => hK _ _ _)
  case ishr => dsimp only [zO] at h ⊢; exact zD_mono h (fun _ _ _ => hK _ _ _)
  case iushr => dsimp only [zO] at h ⊢; exact zD_mono h (fun _ _ _ => hK _ _ _)
  case ladd => dsimp only [zO] at h ⊢; exact zD_mono h (fun _ _ _ => hK _ _ _)
  case lmul => dsimp only [zO] at h ⊢; exact zD_mono h (fun _ _ _ => hK _ _ _)
  case land => dsimp only [zO] at h ⊢; exact zD_mono h (fun _ _ _ => hK _ _ _)
  case lor => dsimp only [zO] at h ⊢; exact zD_mono h (fun _ _ _ => hK _ _ _)
  case lshl => dsimp only [zO] at h ⊢; exact zD_mono h (fun _ _ _ => hK _ _ _)
  case lcmp => dsimp only [zO] at h ⊢; exact zD_mono h (fun _ _ _ => hK _ _ _)
  case i2l => dsimp only [zO] at h ⊢; exact zU_mono h (fun _ _ => hK _ _ _)
  case l2i => dsimp only [zO] at h ⊢; exact zU_mono h (fun _ _ => hK _ _ _)
  case i2b => dsimp only [zO] at h ⊢; exact zU_mono h (fun _ _ => hK _ _ _)
  case dup =>
    cases st with
    | nil => exact h
    | cons v r => exact ⟨h.1, hK _ _ _ h.2⟩
  case dup2 =>
    cases st with
    | nil => exact h
    | cons v r =>
      cases r with
      | nil => exact h
      | cons v2 r => exact ⟨h.1, h.2.1, hK _ _ _ h.2.2⟩
  case ifCond c _ => cases c <;> dsimp only [zO] at h ⊢ <;> exact zU_mono h (fun _ _ w => ⟨fun c => by first | exact hS _ _ _ _ (w.1 c) | exact hK _ _ _ (w.1 c), fun c => by first | exact hS _ _ _ _ (w.2 c) | exact hK _ _ _ (w.2 c)⟩)
  case if_icmp c _ => cases c <;> dsimp only [zO] at h ⊢ <;> exact zD_mono h (fun _ _ _ w => ⟨fun c => by first | exact hS _ _ _ _ (w.1 c) | exact hK _ _ _ (w.1 c), fun c => by first | exact hS _ _ _ _ (w.2 c) | exact hK _ _ _ (w.2 c)⟩)
  case getfield => dsimp only [zO] at h ⊢; exact zU_mono h (fun _ _ w => zGet_mono w (fun _ => hK _ _ _))
  case putfield => dsimp only [zO] at h ⊢; exact zD_mono h (fun _ _ _ w => zPut_mono w (fun _ => hK _ _ _))
  case iaload => dsimp only [zO] at h ⊢; exact zD_mono h (fun _ _ _ w => zAld_mono w (fun _ => hK _ _ _))
  case baload => dsimp only [zO] at h ⊢; exact zD_mono h (fun _ _ _ w => zAld_mono w (fun _ => hK _ _ _))
  case laload => dsimp only [zO] at h ⊢; exact zD_mono h (fun _ _ _ w => zAld_mono w (fun _ => hK _ _ _))
  case iastore => dsimp only [zO] at h ⊢; exact zY_mono h (fun _ _ _ _ w => zAst_mono w (fun _ => hK _ _ _))
  case bastore => dsimp only [zO] at h ⊢; exact zY_mono h (fun _ _ _ _ w => zAst_mono w (fun _ => hK _ _ _))
  case lastore => dsimp only [zO] at h ⊢; exact zY_mono h (fun _ _ _ _ w => zAst_mono w (fun _ => hK _ _ _))
  case arraylength =>
    dsimp only [zO] at h ⊢
    refine zU_mono h (fun a r q => ?_)
    by_cases c : zT a < 3
    · rw [if_pos c] at q ⊢; exact hK _ _ _ q
    · rw [if_neg c] at q ⊢; exact ⟨q.1, hK _ _ _ q.2⟩
  case invokevirtual => dsimp only [zO] at h ⊢; exact zVirt_mono hC h (fun _ _ => hK _ _ _)
  case invokestatic => dsimp only [zO] at h ⊢; exact zif_mono (fun w => zCopy_mono w (fun _ _ => hK _ _ _)) (fun w => zif_mono (fun w => zU_mono w (fun _ _ q => ⟨q.1, hK _ _ _ q.2⟩)) (fun w => zif_mono (fun w => zD_mono w (fun _ _ _ q => ⟨q.1, hK _ _ _ q.2⟩)) (fun w => zif_mono (fun w => zD_mono w (fun _ _ _ q => ⟨q.1, hK _ _ _ q.2⟩)) (fun w => zCall_mono hC w (fun _ _ => hK _ _ _)) w) w) w) h
  case ireturn => dsimp only [zO] at h ⊢; exact zU_mono h (fun _ _ w => ⟨w.1, w.2.1, hQ _ _ w.2.2⟩)
  case lreturn => dsimp only [zO] at h ⊢; exact zU_mono h (fun _ _ w => ⟨w.1, hQ _ _ w.2⟩)
  case areturn => dsimp only [zO] at h ⊢; exact zU_mono h (fun _ _ w => ⟨w.1, hQ _ _ w.2⟩)
  case return_ => dsimp only [zO] at h ⊢; exact ⟨h.1, hQ _ _ h.2⟩
  case tableswitch => dsimp only [zO] at h ⊢; exact zU_mono h (fun _ _ w => zSw_mono (fun _ => hS _ _ _ _) w)
  case lookupswitch => dsimp only [zO] at h ⊢; exact zU_mono h (fun _ _ w => zSw_mono (fun _ => hS _ _ _ _) w)
  all_goals exact False.elim h
theorem zB_mono {C C' : Nat → List zV → zM → (Int → zM → Prop) → Prop} {Q Q' : Int → zM → Prop} {S S' : Nat → List zV → List zV → zM → Prop} (hC : ∀ z as μ P P', (∀ r μ, P r μ → P' r μ) → C z as μ P → C' z as μ P') (hQ : ∀ r μ, Q r μ → Q' r μ) (hS : ∀ L lv st μ, S L lv st μ → S' L lv st μ) : ∀ (is : List zI) (lv st : List zV) (μ : zM), zB C Q S is lv st μ → zB C' Q' S' is lv st μ
  | [], _, _, _, h => h
  | i :: is, lv, st, μ, h => zO_mono hC hQ hS (fun lv st μ => zB_mono hC hQ hS is lv st μ) i.1 i.2.1 i.2.2 lv st μ h
theorem zR_mono : ∀ (d z : Nat) {Q Q' : Int → zM → Prop}, (∀ r μ, Q r μ → Q' r μ) → ∀ L lv st μ, zR d z Q L lv st μ → zR d z Q' L lv st μ
  | 0, z, Q, Q', hQ, L, lv, st, μ, h => by
    intro S hS
    refine h S (fun L lv st μ q => hS L lv st μ (zB_mono (fun _ _ _ _ _ _ w => w) hQ (fun _ _ _ _ w => w) _ _ _ _ q))
  | d + 1, z, Q, Q', hQ, L, lv, st, μ, h => by
    intro S hS
    refine h S (fun L lv st μ q => hS L lv st μ (zB_mono (C := fun z' as μ P => (zlay as).length ≤ zmL z' ∧ zR d z' P 0 (zent z' as) [] μ) (fun z' as μ _ _ hP w => ⟨w.1, zR_mono d z' hP 0 (zent z' as) [] μ w.2⟩) hQ (fun _ _ _ _ w => w) _ _ _ _ q))
theorem zC_mono : ∀ (d z : Nat) (as : List zV) (μ : zM) (P P' : Int → zM → Prop), (∀ r μ, P r μ → P' r μ) → zC d z as μ P → zC d z as μ P'
  | 0, _, _, _, _, _, _, h => h
  | d + 1, z, _, _, _, _, hP, h => ⟨h.1, zR_mono d z hP _ _ _ _ h.2⟩
theorem zR_fold {d z : Nat} {Q : Int → zM → Prop} {L : Nat} {lv st : List zV} {μ : zM} (h : zB (zC d) Q (zR d z Q) (zblk z L) lv st μ) : zR d z Q L lv st μ := by
  rw [zR_eq]
  intro S hS
  refine hS L lv st μ (zB_mono (zC_mono d) (fun _ _ w => w) (fun L lv st μ w => ?_) _ _ _ _ h)
  rw [zR_eq] at w
  exact w S hS
theorem zR_iff {d z : Nat} {Q : Int → zM → Prop} {L : Nat} {lv st : List zV} {μ : zM} : zR d z Q L lv st μ ↔ zB (zC d) Q (zR d z Q) (zblk z L) lv st μ := by
  refine ⟨fun h => ?_, zR_fold⟩
  rw [zR_eq] at h
  exact h (fun L lv st μ => zB (zC d) Q (zR d z Q) (zblk z L) lv st μ) (fun L lv st μ w => zB_mono (zC_mono d) (fun _ _ w => w) (fun _ _ _ _ w => zR_fold w) _ _ _ _ w)
theorem zR_of {d z : Nat} {Q : Int → zM → Prop} {L : Nat} {is : List zI} {lv st : List zV} {μ : zM} (hb : zblk z L = is) : zR d z Q L lv st μ ↔ zB (zC d) Q (zR d z Q) is lv st μ := by
  rw [zR_iff, hb]
theorem zC_of {d z : Nat} {as : List zV} {P : Int → zM → Prop} {is : List zI} {lv : List zV} {μ : zM} (h1 : Nat.ble (zlay as).length (zmL z) = true) (h2 : zent z as = lv) (hb : zblk z 0 = is) : zC (d + 1) z as μ P ↔ zB (zC d) P (zR d z P) is lv [] μ := by
  rw [← h2, ← zR_of hb]
  exact ⟨fun h => h.2, fun h => ⟨Nat.le_of_ble_eq_true h1, h⟩⟩
end
section
/-! rules for reading a block -/
theorem zO_nop {C : Nat → List zV → zM → (Int → zM → Prop) → Prop} {Q : Int → zM → Prop} {S : Nat → List zV → List zV → zM → Prop} {K : List zV → List zV → zM → Prop} {ex : Nat} {tb : List (Int × Nat)} {lv st : List zV} {μ : zM} : zO C Q S .nop ex tb lv st μ K = (S ex lv st μ) := rfl
theorem zO_goto {C : Nat → List zV → zM → (Int → zM → Prop) → Prop} {Q : Int → zM → Prop} {S : Nat → List zV → List zV → zM → Prop} {K : List zV → List zV → zM → Prop} {ex : Nat} {tb : List (Int × Nat)} {lv st : List zV} {μ : zM} {q0 : Int} : zO C Q S (.goto q0) ex tb lv st μ K = (S ex lv st μ) := rfl
theorem zO_iload_n0 {C : Nat → List zV → zM → (Int → zM → Prop) → Prop} {Q : Int → zM → Prop} {S : Nat → List zV → List zV → zM → Prop} {K : List zV → List zV → zM → Prop} {ex : Nat} {tb : List (Int × Nat)} {lv st : List zV} {μ : zM} : zO C Q S (.iload_n 0) ex tb lv st μ K = (zLd 0 0 lv (fun v => K lv (v :: st) μ)) := rfl
theorem zO_iload_n1 {C : Nat → List zV → zM → (Int → zM → Prop) → Prop} {Q : Int → zM → Prop} {S : Nat → List zV → List zV → zM → Prop} {K : List zV → List zV → zM → Prop} {ex : Nat} {tb : List (Int × Nat)} {lv st : List zV} {μ : zM} : zO C Q S (.iload_n 1) ex tb lv st μ K = (zLd 0 1 lv (fun v => K lv (v :: st) μ)) := rfl
theorem zO_iload_n2 {C : Nat → List zV → zM → (Int → zM → Prop) → Prop} {Q : Int → zM → Prop} {S : Nat → List zV → List zV → zM → Prop} {K : List zV → List zV → zM → Prop} {ex : Nat} {tb : List (Int × Nat)} {lv st : List zV} {μ : zM} : zO C Q S (.iload_n 2) ex tb lv st μ K = (zLd 0 2 lv (fun v => K lv (v :: st) μ)) := rfl
theorem zO_iload_n3 {C : Nat → List zV → zM → (Int → zM → Prop) → Prop} {Q : Int → zM → Prop} {S : Nat → List zV → List zV → zM → Prop} {K : List zV → List zV → zM → Prop} {ex : Nat} {tb : List (Int × Nat)} {lv st : List zV} {μ : zM} : zO C Q S (.iload_n 3) ex tb lv st μ K = (zLd 0 3 lv (fun v => K lv (v :: st) μ)) := rfl
theorem zO_iload {C : Nat → List zV → zM → (Int → zM → Prop) → Prop} {Q : Int → zM → Prop} {S : Nat → List zV → List zV → zM → Prop} {K : List zV → List zV → zM → Prop} {ex : Nat} {tb : List (Int × Nat)} {lv st : List zV} {μ : zM} {n : Nat} : zO C Q S (.iload n) ex tb lv st μ K = (zLd 0 n lv (fun v => K lv (v :: st) μ)) := rfl
theorem zO_lload_n0 {C : Nat → List zV → zM → (Int → zM → Prop) → Prop} {Q : Int → zM → Prop} {S : Nat → List zV → List zV → zM → Prop} {K : List zV → List zV → zM → Prop} {ex : Nat} {tb : List (Int × Nat)} {lv st : List zV} {μ : zM} : zO C Q S (.lload_n 0) ex tb lv st μ K = (zLd 1 0 lv (fun v => K lv (v :: st) μ)) := rfl
theorem zO_lload_n1 {C : Nat → List zV → zM → (Int → zM → Prop) → Prop} {Q : Int → zM → Prop} {S : Nat → List zV → List zV → zM → Prop} {K : List zV → List zV → zM → Prop} {ex : Nat} {tb : List (Int × Nat)} {lv st : List zV} {μ : zM} : zO C Q S (.lload_n 1) ex tb lv st μ K = (zLd 1 1 lv (fun v => K lv (v :: st) μ)) := rfl
theorem zO_lload_n2 {C : Nat → List zV → zM → (Int → zM → Prop) → Prop} {Q : Int → zM → Prop} {S : Nat → List zV → List zV → zM → Prop} {K : List zV → List zV → zM → Prop} {ex : Nat} {tb : List (Int × Nat)} {lv st : List zV} {μ : zM} : zO C Q S (.lload_n 2) ex tb lv st μ K = (zLd 1 2 lv (fun v => K lv (v :: st) μ)) := rfl
theorem zO_lload_n3 {C : Nat → List zV → zM → (Int → zM → Prop) → Prop} {Q : Int → zM → Prop} {S : Nat → List zV → List zV → zM → Prop} {K : List zV → List zV → zM → Prop} {ex : Nat} {tb : List (Int × Nat)} {lv st : List zV} {μ : zM} : zO C Q S (.lload_n 3) ex tb lv st μ K = (zLd 1 3 lv (fun v => K lv (v :: st) μ)) := rfl
theorem zO_lload {C : Nat → List zV → zM → (Int → zM → Prop) → Prop} {Q : Int → zM → Prop} {S : Nat → List zV → List zV → zM → Prop} {K : List zV → List zV → zM → Prop} {ex : Nat} {tb : List (Int × Nat)} {lv st : List zV} {μ : zM} {n : Nat} : zO C Q S (.lload n) ex tb lv st μ K = (zLd 1 n lv (fun v => K lv (v :: st) μ)) := rfl
theorem zO_aload_n0 {C : Nat → List zV → zM → (Int → zM → Prop) → Prop} {Q : Int → zM → Prop} {S : Nat → List zV → List zV → zM → Prop} {K : List zV → List zV → zM → Prop} {ex : Nat} {tb : List (Int × Nat)} {lv st : List zV} {μ : zM} : zO C Q S (.aload_n 0) ex tb lv st μ K = (zLd 2 0 lv (fun v => K lv (v :: st) μ)) := rfl
theorem zO_aload_n1 {C : Nat → List zV → zM → (Int → zM → Prop) → Prop} {Q : Int → zM → Prop} {S : Nat → List zV → List zV → zM → Prop} {K : List zV → List zV → zM → Prop} {ex : Nat} {tb : List (Int × Nat)} {lv st : List zV} {μ : zM} : zO C Q S (.aload_n 1) ex tb lv st μ K = (zLd 2 1 lv (fun v => K lv (v :: st) μ)) := rfl
theorem zO_aload_n2 {C : Nat → List zV → zM → (Int → zM → Prop) → Prop} {Q : Int → zM → Prop} {S : Nat → List zV → List zV → zM → Prop} {K : List zV → List zV → zM → Prop} {ex : Nat} {tb : List (Int × Nat)} {lv st : List zV} {μ : zM} : zO C Q S (.aload_n 2) ex tb lv st μ K = (zLd 2 2 lv (fun v => K lv (v :: st) μ)) := rfl
theorem zO_aload_n3 {C : Nat → List zV → zM → (Int → zM → Prop) → Prop} {Q : Int → zM → Prop} {S : Nat → List zV → List zV → zM → Prop} {K : List zV → List zV → zM → Prop} {ex : Nat} {tb : List (Int × Nat)} {lv st : List zV} {μ : zM} : zO C Q S (.aload_n 3) ex tb lv st μ K = (zLd 2 3 lv (fun v => K lv (v :: st) μ)) := rfl
theorem zO_aload {C : Nat → List zV → zM → (Int → zM → Prop) → Prop} {Q : Int → zM → Prop} {S : Nat → List zV → List zV → zM → Prop} {K : List zV → List zV → zM → Prop} {ex : Nat} {tb : List (Int × Nat)} {lv st : List zV} {μ : zM} {n : Nat} : zO C Q S (.aload n) ex tb lv st μ K = (zLd 2 n lv (fun v => K lv (v :: st) μ)) := rfl
theorem zO_istore_n0 {C : Nat → List zV → zM → (Int → zM → Prop) → Prop} {Q : Int → zM → Prop} {S : Nat → List zV → List zV → zM → Prop} {K : List zV → List zV → zM → Prop} {ex : Nat} {tb : List (Int × Nat)} {lv st : List zV} {μ : zM} : zO C Q S (.istore_n 0) ex tb lv st μ K = (zSt 0 0 lv st (fun lv st => K lv st μ)) := rfl
theorem zO_istore_n1 {C : Nat → List zV → zM → (Int → zM → Prop) → Prop} {Q : Int → zM → Prop} {S : Nat → List zV → List zV → zM → Prop} {K : List zV → List zV → zM → Prop} {ex : Nat} {tb : List (Int × Nat)} {lv st : List zV} {μ : zM} : zO C Q S (.istore_n 1) ex tb lv st μ K = (zSt 0 1 lv st (fun lv st => K lv st μ)) := rfl
theorem zO_istore_n2 {C : Nat → List zV → zM → (Int → zM → Prop) → Prop} {Q : Int → zM → Prop} {S : Nat → List zV → List zV → zM → Prop} {K : List zV → List zV → zM → Prop} {ex : Nat} {tb : List (Int × Nat)} {lv st : List zV} {μ : zM} : zO C Q S (.istore_n 2) ex tb lv st μ K = (zSt 0 2 lv st (fun lv st => K lv st μ)) := rfl
theorem zO_istore_n3 {C : Nat → List zV → zM → (Int → zM → Prop) → Prop} {Q : Int → zM → Prop} {S : Nat → List zV → List zV → zM → Prop} {K : List zV → List zV → zM → Prop} {ex : Nat} {tb : List (Int × Nat)} {lv st : List zV} {μ : zM} : zO C Q S (.istore_n 3) ex tb lv st μ K = (zSt 0 3 lv st (fun lv st => K lv st μ)) := rfl
theorem zO_istore {C : Nat → List zV → zM → (Int → zM → Prop) → Prop} {Q : Int → zM → Prop} {S : Nat → List zV → List zV → zM → Prop} {K : List zV → List zV → zM → Prop} {ex : Nat} {tb : List (Int × Nat)} {lv st : List zV} {μ : zM} {n : Nat} : zO C Q S (.istore n) ex tb lv st μ K = (zSt 0 n lv st (fun lv st => K lv st μ)) := rfl
theorem zO_astore_n0 {C : Nat → List zV → zM → (Int → zM → Prop) → Prop} {Q : Int → zM → Prop} {S : Nat → List zV → List zV → zM → Prop} {K : List zV → List zV → zM → Prop} {ex : Nat} {tb : List (Int × Nat)} {lv st : List zV} {μ : zM} : zO C Q S (.astore_n 0) ex tb lv st μ K = (zSt 2 0 lv st (fun lv st => K lv st μ)) := rfl
theorem zO_astore_n1 {C : Nat → List zV → zM → (Int → zM → Prop) → Prop} {Q : Int → zM → Prop} {S : Nat → List zV → List zV → zM → Prop} {K : List zV → List zV → zM → Prop} {ex : Nat} {tb : List (Int × Nat)} {lv st : List zV} {μ : zM} : zO C Q S (.astore_n 1) ex tb lv st μ K = (zSt 2 1 lv st (fun lv st => K lv st μ)) := rfl
theorem zO_astore_n2 {C : Nat → List zV → zM → (Int → zM → Prop) → Prop} {Q : Int → zM → Prop} {S : Nat → List zV → List zV → zM → Prop} {K : List zV → List zV → zM → Prop} {ex : Nat} {tb : List (Int × Nat)} {lv st : List zV} {μ : zM} : zO C Q S (.astore_n 2) ex tb lv st μ K = (zSt 2 2 lv st (fun lv st => K lv st μ)) := rfl
theorem zO_astore_n3 {C : Nat → List zV → zM → (Int → zM → Prop) → Prop} {Q : Int → zM → Prop} {S : Nat → List zV → List zV → zM → Prop} {K : List zV → List zV → zM → Prop} {ex : Nat} {tb : List (Int × Nat)} {lv st : List zV} {μ : zM} : zO C Q S (.astore_n 3) ex tb lv st μ K = (zSt 2 3 lv st (fun lv st => K lv st μ)) := rfl
theorem zO_astore {C : Nat → List zV → zM → (Int → zM → Prop) → Prop} {Q : Int → zM → Prop} {S : Nat → List zV → List zV → zM → Prop} {K : List zV → List zV → zM → Prop} {ex : Nat} {tb : List (Int × Nat)} {lv st : List zV} {μ : zM} {n : Nat} : zO C Q S (.astore n) ex tb lv st μ K = (zSt 2 n lv st (fun lv st => K lv st μ)) := rfl
theorem zO_lstore {C : Nat → List zV → zM → (Int → zM → Prop) → Prop} {Q : Int → zM → Prop} {S : Nat → List zV → List zV → zM → Prop} {K : List zV → List zV → zM → Prop} {ex : Nat} {tb : List (Int × Nat)} {lv st : List zV} {μ : zM} {n : Nat} : zO C Q S (.lstore n) ex tb lv st μ K = (zSt2 n lv st (fun lv st => K lv st μ)) := rfl
theorem zO_iinc {C : Nat → List zV → zM → (Int → zM → Prop) → Prop} {Q : Int → zM → Prop} {S : Nat → List zV → List zV → zM → Prop} {K : List zV → List zV → zM → Prop} {ex : Nat} {tb : List (Int × Nat)} {lv st : List zV} {μ : zM} {n : Nat} {c : Int} : zO C Q S (.iinc n c) ex tb lv st μ K = (zLd 0 n lv (fun v => n < lv.length ∧ (lv.getD (n - 1) (9, 0)).1 ≠ 1 ∧ K (lv.set n (0, zw (v.2 + c))) st μ)) := rfl
theorem zO_iconst {C : Nat → List zV → zM → (Int → zM → Prop) → Prop} {Q : Int → zM → Prop} {S : Nat → List zV → List zV → zM → Prop} {K : List zV → List zV → zM → Prop} {ex : Nat} {tb : List (Int × Nat)} {lv st : List zV} {μ : zM} {c : Int} : zO C Q S (.iconst c) ex tb lv st μ K = (K lv ((0, c) :: st) μ) := rfl
theorem zO_bipush {C : Nat → List zV → zM → (Int → zM → Prop) → Prop} {Q : Int → zM → Prop} {S : Nat → List zV → List zV → zM → Prop} {K : List zV → List zV → zM → Prop} {ex : Nat} {tb : List (Int × Nat)} {lv st : List zV} {μ : zM} {c : Int} : zO C Q S (.bipush c) ex tb lv st μ K = (K lv ((0, c) :: st) μ) := rfl
theorem zO_sipush {C : Nat → List zV → zM → (Int → zM → Prop) → Prop} {Q : Int → zM → Prop} {S : Nat → List zV → List zV → zM → Prop} {K : List zV → List zV → zM → Prop} {ex : Nat} {tb : List (Int × Nat)} {lv st : List zV} {μ : zM} {c : Int} : zO C Q S (.sipush c) ex tb lv st μ K = (K lv ((0, c) :: st) μ) := rfl
theorem zO_lconst0 {C : Nat → List zV → zM → (Int → zM → Prop) → Prop} {Q : Int → zM → Prop} {S : Nat → List zV → List zV → zM → Prop} {K : List zV → List zV → zM → Prop} {ex : Nat} {tb : List (Int × Nat)} {lv st : List zV} {μ : zM} : zO C Q S (.lconst 0) ex tb lv st μ K = (K lv ((1, 0) :: st) μ) := rfl
theorem zO_lconst1 {C : Nat → List zV → zM → (Int → zM → Prop) → Prop} {Q : Int → zM → Prop} {S : Nat → List zV → List zV → zM → Prop} {K : List zV → List zV → zM → Prop} {ex : Nat} {tb : List (Int × Nat)} {lv st : List zV} {μ : zM} : zO C Q S (.lconst 1) ex tb lv st μ K = (K lv ((1, 1) :: st) μ) := rfl
theorem zO_ldc {C : Nat → List zV → zM → (Int → zM → Prop) → Prop} {Q : Int → zM → Prop} {S : Nat → List zV → List zV → zM → Prop} {K : List zV → List zV → zM → Prop} {ex : Nat} {lv st : List zV} {μ : zM} {i : Nat} {v : Int} {e : Nat} : zO C Q S (.ldc i) ex [(v, e)] lv st μ K = (K lv ((0, v) :: st) μ) := rfl
theorem zO_ldc2_w {C : Nat → List zV → zM → (Int → zM → Prop) → Prop} {Q : Int → zM → Prop} {S : Nat → List zV → List zV → zM → Prop} {K : List zV → List zV → zM → Prop} {ex : Nat} {lv st : List zV} {μ : zM} {i : Nat} {v : Int} {e : Nat} : zO C Q S (.ldc2_w i) ex [(v, e)] lv st μ K = (K lv ((1, v) :: st) μ) := rfl
theorem zO_iadd {C : Nat → List zV → zM → (Int → zM → Prop) → Prop} {Q : Int → zM → Prop} {S : Nat → List zV → List zV → zM → Prop} {K : List zV → List zV → zM → Prop} {ex : Nat} {tb : List (Int × Nat)} {lv st : List zV} {μ : zM} : zO C Q S .iadd ex tb lv st μ K = (zD 0 0 st (fun a b r => K lv ((0, zw (a + b)) :: r) μ)) := rfl
theorem zO_isub {C : Nat → List zV → zM → (Int → zM → Prop) → Prop} {Q : Int → zM → Prop} {S : Nat → List zV → List zV → zM → Prop} {K : List zV → List zV → zM → Prop} {ex : Nat} {tb : List (Int × Nat)} {lv st : List zV} {μ : zM} : zO C Q S .isub ex tb lv st μ K = (zD 0 0 st (fun a b r => K lv ((0, zw (a - b)) :: r) μ)) := rfl
theorem zO_imul {C : Nat → List zV → zM → (Int → zM → Prop) → Prop} {Q : Int → zM → Prop} {S : Nat → List zV → List zV → zM → Prop} {K : List zV → List zV → zM → Prop} {ex : Nat} {tb : List (Int × Nat)} {lv st : List zV} {μ : zM} : zO C Q S .imul ex tb lv st μ K = (zD 0 0 st (fun a b r => K lv ((0, zw (a * b)) :: r) μ)) := rfl
theorem zO_idiv {C : Nat → List zV → zM → (Int → zM → Prop) → Prop} {Q : Int → zM → Prop} {S : Nat → List zV → List zV → zM → Prop} {K : List zV → List zV → zM → Prop} {ex : Nat} {tb : List (Int × Nat)} {lv st : List zV} {μ : zM} : zO C Q S .idiv ex tb lv st μ K = (zD 0 0 st (fun a b r => ¬ b = 0 ∧ K lv ((0, zw (a.tdiv b)) :: r) μ)) := rfl
theorem zO_irem {C : Nat → List zV → zM → (Int → zM → Prop) → Prop} {Q : Int → zM → Prop} {S : Nat → List zV → List zV → zM → Prop} {K : List zV → List zV → zM → Prop} {ex : Nat} {tb : List (Int × Nat)} {lv st : List zV} {μ : zM} : zO C Q S .irem ex tb lv st μ K = (zD 0 0 st (fun a b r => ¬ b = 0 ∧ K lv ((0, a.tmod b) :: r) μ)) := rfl
theorem zO_ineg {C : Nat → List zV → zM → (Int → zM → Prop) → Prop} {Q : Int → zM → Prop} {S : Nat → List zV → List zV → zM → Prop} {K : List zV → List zV → zM → Prop} {ex : Nat} {tb : List (Int × Nat)} {lv st : List zV} {μ : zM} : zO C Q S .ineg ex tb lv st μ K = (zU 0 st (fun a r => K lv ((0, zw (-a)) :: r) μ)) := rfl
theorem zO_iand {C : Nat → List zV → zM → (Int → zM → Prop) → Prop} {Q : Int → zM → Prop} {S : Nat → List zV → List zV → zM → Prop} {K : List zV → List zV → zM → Prop} {ex : Nat} {tb : List (Int × Nat)} {lv st : List zV} {μ : zM} : zO C Q S .iand ex tb lv st μ K = (zD 0 0 st (fun a b r => K lv ((0, zand a b) :: r) μ)) := rfl
theorem zO_ior {C : Nat → List zV → zM → (Int → zM → Prop) → Prop} {Q : Int → zM → Prop} {S : Nat → List zV → List zV → zM → Prop} {K : List zV → List zV → zM → Prop} {ex : Nat} {tb : List (Int × Nat)} {lv st : List zV} {μ : zM} : zO C Q S .ior ex tb lv st μ K = (zD 0 0 st (fun a b r => K lv ((0, zor a b) :: r) μ)) := rfl
theorem zO_ixor {C : Nat → List zV → zM → (Int → zM → Prop) → Prop} {Q : Int → zM → Prop} {S : Nat → List zV → List zV → zM → Prop} {K : List zV → List zV → zM → Prop} {ex : Nat} {tb : List (Int × Nat)} {lv st : List zV} {μ : zM} : zO C Q S .ixor ex tb lv st μ K = (zD 0 0 st (fun a b r => K lv ((0, zxor a b) :: r) μ)) := rfl
theorem zO_ishl {C : Nat → List zV → zM → (Int → zM → Prop) → Prop} {Q : Int → zM → Prop} {S : Nat → List zV → List zV → zM → Prop} {K : List zV → List zV → zM → Prop} {ex : Nat} {tb : List (Int × Nat)} {lv st : List zV} {μ : zM} : zO C Q S .ishl ex tb lv st μ K = (zD 0 0 st (fun a b r => K lv ((0, zshl a b) :: r) μ)) := rfl
theorem zO_ishr {C : Nat → List zV → zM → (Int → zM → Prop) → Prop} {Q : Int → zM → Prop} {S : Nat → List zV → List zV → zM → Prop} {K : List zV → List zV → zM → Prop} {ex : Nat} {tb : List (Int × Nat)} {lv st : List zV} {μ : zM} : zO C Q S .ishr ex tb lv st μ K = (zD 0 0 st (fun a b r => K lv ((0, zshr a b) :: r) μ)) := rfl
theorem zO_iushr {C : Nat → List zV → zM → (Int → zM → Prop) → Prop} {Q : Int → zM → Prop} {S : Nat → List zV → List zV → zM → Prop} {K : List zV → List zV → zM → Prop} {ex : Nat} {tb : List (Int × Nat)} {lv st : List zV} {μ : zM} : zO C Q S .iushr ex tb lv st μ K = (zD 0 0 st (fun a b r => K lv ((0, zushr a b) :: r) μ)) := rfl
theorem zO_ladd {C : Nat → List zV → zM → (Int → zM → Prop) → Prop} {Q : Int → zM → Prop} {S : Nat → List zV → List zV → zM → Prop} {K : List zV → List zV → zM → Prop} {ex : Nat} {tb : List (Int × Nat)} {lv st : List zV} {μ : zM} : zO C Q S .ladd ex tb lv st μ K = (zD 1 1 st (fun a b r => K lv ((1, zx (a + b)) :: r) μ)) := rfl
theorem zO_lmul {C : Nat → List zV → zM → (Int → zM → Prop) → Prop} {Q : Int → zM → Prop} {S : Nat → List zV → List zV → zM → Prop} {K : List zV → List zV → zM → Prop} {ex : Nat} {tb : List (Int × Nat)} {lv st : List zV} {μ : zM} : zO C Q S .lmul ex tb lv st μ K = (zD 1 1 st (fun a b r => K lv ((1, zx (a * b)) :: r) μ)) := rfl
theorem zO_land {C : Nat → List zV → zM → (Int → zM → Prop) → Prop} {Q : Int → zM → Prop} {S : Nat → List zV → List zV → zM → Prop} {K : List zV → List zV → zM → Prop} {ex : Nat} {tb : List (Int × Nat)} {lv st : List zV} {μ : zM} : zO C Q S .land ex tb lv st μ K = (zD 1 1 st (fun a b r => K lv ((1, zland a b) :: r) μ)) := rfl
theorem zO_lor {C : Nat → List zV → zM → (Int → zM → Prop) → Prop} {Q : Int → zM → Prop} {S : Nat → List zV → List zV → zM → Prop} {K : List zV → List zV → zM → Prop} {ex : Nat} {tb : List (Int × Nat)} {lv st : List zV} {μ : zM} : zO C Q S .lor ex tb lv st μ K = (zD 1 1 st (fun a b r => K lv ((1, zlor a b) :: r) μ)) := rfl
theorem zO_lshl {C : Nat → List zV → zM → (Int → zM → Prop) → Prop} {Q : Int → zM → Prop} {S : Nat → List zV → List zV → zM → Prop} {K : List zV → List zV → zM → Prop} {ex : Nat} {tb : List (Int × Nat)} {lv st : List zV} {μ : zM} : zO C Q S .lshl ex tb lv st μ K = (zD 0 1 st (fun a b r => K lv ((1, zlshl a b) :: r) μ)) := rfl
theorem zO_lcmp {C : Nat → List zV → zM → (Int → zM → Prop) → Prop} {Q : Int → zM → Prop} {S : Nat → List zV → List zV → zM → Prop} {K : List zV → List zV → zM → Prop} {ex : Nat} {tb : List (Int × Nat)} {lv st : List zV} {μ : zM} : zO C Q S .lcmp ex tb lv st μ K = (zD 1 1 st (fun a b r => K lv ((0, zcmp a b) :: r) μ)) := rfl
theorem zO_i2l {C : Nat → List zV → zM → (Int → zM → Prop) → Prop} {Q : Int → zM → Prop} {S : Nat → List zV → List zV → zM → Prop} {K : List zV → List zV → zM → Prop} {ex : Nat} {tb : List (Int × Nat)} {lv st : List zV} {μ : zM} : zO C Q S .i2l ex tb lv st μ K = (zU 0 st (fun a r => K lv ((1, a) :: r) μ)) := rfl
theorem zO_l2i {C : Nat → List zV → zM → (Int → zM → Prop) → Prop} {Q : Int → zM → Prop} {S : Nat → List zV → List zV → zM → Prop} {K : List zV → List zV → zM → Prop} {ex : Nat} {tb : List (Int × Nat)} {lv st : List zV} {μ : zM} : zO C Q S .l2i ex tb lv st μ K = (zU 1 st (fun a r => K lv ((0, zw a) :: r) μ)) := rfl
theorem zO_i2b {C : Nat → List zV → zM → (Int → zM → Prop) → Prop} {Q : Int → zM → Prop} {S : Nat → List zV → List zV → zM → Prop} {K : List zV → List zV → zM → Prop} {ex : Nat} {tb : List (Int × Nat)} {lv st : List zV} {μ : zM} : zO C Q S .i2b ex tb lv st μ K = (zU 0 st (fun a r => K lv ((0, zb a) :: r) μ)) := rfl
theorem zO_dup0 {C : Nat → List zV → zM → (Int → zM → Prop) → Prop} {Q : Int → zM → Prop} {S : Nat → List zV → List zV → zM → Prop} {K : List zV → List zV → zM → Prop} {ex : Nat} {tb : List (Int × Nat)} {lv r : List zV} {μ : zM} {a : Int} : zO C Q S .dup ex tb lv ((0, a) :: r) μ K = K lv ((0, a) :: (0, a) :: r) μ := by simp [zO]
theorem zO_dup2 {C : Nat → List zV → zM → (Int → zM → Prop) → Prop} {Q : Int → zM → Prop} {S : Nat → List zV → List zV → zM → Prop} {K : List zV → List zV → zM → Prop} {ex : Nat} {tb : List (Int × Nat)} {lv r : List zV} {μ : zM} {a : Int} : zO C Q S .dup ex tb lv ((2, a) :: r) μ K = K lv ((2, a) :: (2, a) :: r) μ := by simp [zO]
theorem zO_dup200 {C : Nat → List zV → zM → (Int → zM → Prop) → Prop} {Q : Int → zM → Prop} {S : Nat → List zV → List zV → zM → Prop} {K : List zV → List zV → zM → Prop} {ex : Nat} {tb : List (Int × Nat)} {lv r : List zV} {μ : zM} {a b : Int} : zO C Q S .dup2 ex tb lv ((0, a) :: (0, b) :: r) μ K = K lv ((0, a) :: (0, b) :: (0, a) :: (0, b) :: r) μ := by simp [zO]
theorem zO_dup202 {C : Nat → List zV → zM → (Int → zM → Prop) → Prop} {Q : Int → zM → Prop} {S : Nat → List zV → List zV → zM → Prop} {K : List zV → List zV → zM → Prop} {ex : Nat} {tb : List (Int × Nat)} {lv r : List zV} {μ : zM} {a b : Int} : zO C Q S .dup2 ex tb lv ((0, a) :: (2, b) :: r) μ K = K lv ((0, a) :: (2, b) :: (0, a) :: (2, b) :: r) μ := by simp [zO]
theorem zO_dup220 {C : Nat → List zV → zM → (Int → zM → Prop) → Prop} {Q : Int → zM → Prop} {S : Nat → List zV → List zV → zM → Prop} {K : List zV → List zV → zM → Prop} {ex : Nat} {tb : List (Int × Nat)} {lv r : List zV} {μ : zM} {a b : Int} : zO C Q S .dup2 ex tb lv ((2, a) :: (0, b) :: r) μ K = K lv ((2, a) :: (0, b) :: (2, a) :: (0, b) :: r) μ := by simp [zO]
theorem zO_dup222 {C : Nat → List zV → zM → (Int → zM → Prop) → Prop} {Q : Int → zM → Prop} {S : Nat → List zV → List zV → zM → Prop} {K : List zV → List zV → zM → Prop} {ex : Nat} {tb : List (Int × Nat)} {lv r : List zV} {μ : zM} {a b : Int} : zO C Q S .dup2 ex tb lv ((2, a) :: (2, b) :: r) μ K = K lv ((2, a) :: (2, b) :: (2, a) :: (2, b) :: r) μ := by simp [zO]
theorem zO_ifCond_eq {C : Nat → List zV → zM → (Int → zM → Prop) → Prop} {Q : Int → zM → Prop} {S : Nat → List zV → List zV → zM → Prop} {K : List zV → List zV → zM → Prop} {ex : Nat} {tb : List (Int × Nat)} {lv st : List zV} {μ : zM} {o : Int} : zO C Q S (.ifCond .eq o) ex tb lv st μ K = (zU 0 st (fun a r => zif (a = 0) (S ex lv r μ) (K lv r μ))) := rfl
theorem zO_ifCond_ne {C : Nat → List zV → zM → (Int → zM → Prop) → Prop} {Q : Int → zM → Prop} {S : Nat → List zV → List zV → zM → Prop} {K : List zV → List zV → zM → Prop} {ex : Nat} {tb : List (Int × Nat)} {lv st : List zV} {μ : zM} {o : Int} : zO C Q S (.ifCond .ne o) ex tb lv st μ K = (zU 0 st (fun a r => zif (a = 0) (K lv r μ) (S ex lv r μ))) := rfl
theorem zO_ifCond_lt {C : Nat → List zV → zM → (Int → zM → Prop) → Prop} {Q : Int → zM → Prop} {S : Nat → List zV → List zV → zM → Prop} {K : List zV → List zV → zM → Prop} {ex : Nat} {tb : List (Int × Nat)} {lv st : List zV} {μ : zM} {o : Int} : zO C Q S (.ifCond .lt o) ex tb lv st μ K = (zU 0 st (fun a r => zif (a < 0) (S ex lv r μ) (K lv r μ))) := rfl
theorem zO_ifCond_ge {C : Nat → List zV → zM → (Int → zM → Prop) → Prop} {Q : Int → zM → Prop} {S : Nat → List zV → List zV → zM → Prop} {K : List zV → List zV → zM → Prop} {ex : Nat} {tb : List (Int × Nat)} {lv st : List zV} {μ : zM} {o : Int} : zO C Q S (.ifCond .ge o) ex tb lv st μ K = (zU 0 st (fun a r => zif (a < 0) (K lv r μ) (S ex lv r μ))) := rfl
theorem zO_ifCond_gt {C : Nat → List zV → zM → (Int → zM → Prop) → Prop} {Q : Int → zM → Prop} {S : Nat → List zV → List zV → zM → Prop} {K : List zV → List zV → zM → Prop} {ex : Nat} {tb : List (Int × Nat)} {lv st : List zV} {μ : zM} {o : Int} : zO C Q S (.ifCond .gt o) ex tb lv st μ K = (zU 0 st (fun a r => zif (0 < a) (S ex lv r μ) (K lv r μ))) := rfl
theorem zO_ifCond_le {C : Nat → List zV → zM → (Int → zM → Prop) → Prop} {Q : Int → zM → Prop} {S : Nat → List zV → List zV → zM → Prop} {K : List zV → List zV → zM → Prop} {ex : Nat} {tb : List (Int × Nat)} {lv st : List zV} {μ : zM} {o : Int} : zO C Q S (.ifCond .le o) ex tb lv st μ K = (zU 0 st (fun a r => zif (0 < a) (K lv r μ) (S ex lv r μ))) := rfl
theorem zO_if_icmp_eq {C : Nat → List zV → zM → (Int → zM → Prop) → Prop} {Q : Int → zM → Prop} {S : Nat → List zV → List zV → zM → Prop} {K : List zV → List zV → zM → Prop} {ex : Nat} {tb : List (Int × Nat)} {lv st : List zV} {μ : zM} {o : Int} : zO C Q S (.if_icmp .eq o) ex tb lv st μ K = (zD 0 0 st (fun a b r => zif (a = b) (S ex lv r μ) (K lv r μ))) := rfl
theorem zO_if_icmp_ne {C : Nat → List zV → zM → (Int → zM → Prop) → Prop} {Q : Int → zM → Prop} {S : Nat → List zV → List zV → zM → Prop} {K : List zV → List zV → zM → Prop} {ex : Nat} {tb : List (Int × Nat)} {lv st : List zV} {μ : zM} {o : Int} : zO C Q S (.if_icmp .ne o) ex tb lv st μ K = (zD 0 0 st (fun a b r => zif (a = b) (K lv r μ) (S ex lv r μ))) := rfl
theorem zO_if_icmp_lt {C : Nat → List zV → zM → (Int → zM → Prop) → Prop} {Q : Int → zM → Prop} {S : Nat → List zV → List zV → zM → Prop} {K : List zV → List zV → zM → Prop} {ex : Nat} {tb : List (Int × Nat)} {lv st : List zV} {μ : zM} {o : Int} : zO C Q S (.if_icmp .lt o) ex tb lv st μ K = (zD 0 0 st (fun a b r => zif (a < b) (S ex lv r μ) (K lv r μ))) := rfl
theorem zO_if_icmp_ge {C : Nat → List zV → zM → (Int → zM → Prop) → Prop} {Q : Int → zM → Prop} {S : Nat → List zV → List zV → zM → Prop} {K : List zV → List zV → zM → Prop} {ex : Nat} {tb : List (Int × Nat)} {lv st : List zV} {μ : zM} {o : Int} : zO C Q S (.if_icmp .ge o) ex tb lv st μ K = (zD 0 0 st (fun a b r => zif (a < b) (K lv r μ) (S ex lv r μ))) := rfl
theorem zO_if_icmp_gt {C : Nat → List zV → zM → (Int → zM → Prop) → Prop} {Q : Int → zM → Prop} {S : Nat → List zV → List zV → zM → Prop} {K : List zV → List zV → zM → Prop} {ex : Nat} {tb : List (Int × Nat)} {lv st : List zV} {μ : zM} {o : Int} : zO C Q S (.if_icmp .gt o) ex tb lv st μ K = (zD 0 0 st (fun a b r => zif (b < a) (S ex lv r μ) (K lv r μ))) := rfl
theorem zO_if_icmp_le {C : Nat → List zV → zM → (Int → zM → Prop) → Prop} {Q : Int → zM → Prop} {S : Nat → List zV → List zV → zM → Prop} {K : List zV → List zV → zM → Prop} {ex : Nat} {tb : List (Int × Nat)} {lv st : List zV} {μ : zM} {o : Int} : zO C Q S (.if_icmp .le o) ex tb lv st μ K = (zD 0 0 st (fun a b r => zif (b < a) (K lv r μ) (S ex lv r μ))) := rfl
theorem zO_getfield {C : Nat → List zV → zM → (Int → zM → Prop) → Prop} {Q : Int → zM → Prop} {S : Nat → List zV → List zV → zM → Prop} {K : List zV → List zV → zM → Prop} {ex : Nat} {tb : List (Int × Nat)} {lv st : List zV} {μ : zM} {q0 : Nat} : zO C Q S (.getfield q0) ex tb lv st μ K = (zU 2 st (fun a r => zGet (zG ex a) a ex μ (fun v => K lv (v :: r) μ))) := rfl
theorem zO_putfield {C : Nat → List zV → zM → (Int → zM → Prop) → Prop} {Q : Int → zM → Prop} {S : Nat → List zV → List zV → zM → Prop} {K : List zV → List zV → zM → Prop} {ex : Nat} {tb : List (Int × Nat)} {lv st : List zV} {μ : zM} {q0 : Nat} : zO C Q S (.putfield q0) ex tb lv st μ K = (zD 0 2 st (fun a v r => zPut (zG ex a) a ex v μ (fun μ => K lv r μ))) := rfl
theorem zO_iaload {C : Nat → List zV → zM → (Int → zM → Prop) → Prop} {Q : Int → zM → Prop} {S : Nat → List zV → List zV → zM → Prop} {K : List zV → List zV → zM → Prop} {ex : Nat} {tb : List (Int × Nat)} {lv st : List zV} {μ : zM} : zO C Q S .iaload ex tb lv st μ K = (zD 0 2 st (fun a j r => zAld 0 a j μ (fun v => K lv ((0, v) :: r) μ))) := rfl
theorem zO_baload {C : Nat → List zV → zM → (Int → zM → Prop) → Prop} {Q : Int → zM → Prop} {S : Nat → List zV → List zV → zM → Prop} {K : List zV → List zV → zM → Prop} {ex : Nat} {tb : List (Int × Nat)} {lv st : List zV} {μ : zM} : zO C Q S .baload ex tb lv st μ K = (zD 0 2 st (fun a j r => zAld 1 a j μ (fun v => K lv ((0, v) :: r) μ))) := rfl
theorem zO_laload {C : Nat → List zV → zM → (Int → zM → Prop) → Prop} {Q : Int → zM → Prop} {S : Nat → List zV → List zV → zM → Prop} {K : List zV → List zV → zM → Prop} {ex : Nat} {tb : List (Int × Nat)} {lv st : List zV} {μ : zM} : zO C Q S .laload ex tb lv st μ K = (zD 0 2 st (fun a j r => zAld 2 a j μ (fun v => K lv ((1, v) :: r) μ))) := rfl
theorem zO_iastore {C : Nat → List zV → zM → (Int → zM → Prop) → Prop} {Q : Int → zM → Prop} {S : Nat → List zV → List zV → zM → Prop} {K : List zV → List zV → zM → Prop} {ex : Nat} {tb : List (Int × Nat)} {lv st : List zV} {μ : zM} : zO C Q S .iastore ex tb lv st μ K = (zY 0 st (fun a j v r => zAst 0 a j v μ (fun μ => K lv r μ))) := rfl
theorem zO_bastore {C : Nat → List zV → zM → (Int → zM → Prop) → Prop} {Q : Int → zM → Prop} {S : Nat → List zV → List zV → zM → Prop} {K : List zV → List zV → zM → Prop} {ex : Nat} {tb : List (Int × Nat)} {lv st : List zV} {μ : zM} : zO C Q S .bastore ex tb lv st μ K = (zY 0 st (fun a j v r => zAst 1 a j (zb v) μ (fun μ => K lv r μ))) := rfl
theorem zO_lastore {C : Nat → List zV → zM → (Int → zM → Prop) → Prop} {Q : Int → zM → Prop} {S : Nat → List zV → List zV → zM → Prop} {K : List zV → List zV → zM → Prop} {ex : Nat} {tb : List (Int × Nat)} {lv st : List zV} {μ : zM} : zO C Q S .lastore ex tb lv st μ K = (zY 1 st (fun a j v r => zAst 2 a j v μ (fun μ => K lv r μ))) := rfl
theorem zO_arraylength {C : Nat → List zV → zM → (Int → zM → Prop) → Prop} {Q : Int → zM → Prop} {S : Nat → List zV → List zV → zM → Prop} {K : List zV → List zV → zM → Prop} {ex : Nat} {tb : List (Int × Nat)} {lv st : List zV} {μ : zM} : zO C Q S .arraylength ex tb lv st μ K = (zU 2 st (fun a r => if zT a < 3 then K lv ((0, zN a) :: r) μ else zT a = 4 ∧ K lv ((0, μ 98 0) :: r) μ)) := rfl
theorem zO_invokevirtual {C : Nat → List zV → zM → (Int → zM → Prop) → Prop} {Q : Int → zM → Prop} {S : Nat → List zV → List zV → zM → Prop} {K : List zV → List zV → zM → Prop} {ex : Nat} {tb : List (Int × Nat)} {lv st : List zV} {μ : zM} {q0 : Nat} : zO C Q S (.invokevirtual q0) ex tb lv st μ K = (zVirt C ex tb st μ (fun st μ => K lv st μ)) := rfl
theorem zO_invokestatic {C : Nat → List zV → zM → (Int → zM → Prop) → Prop} {Q : Int → zM → Prop} {S : Nat → List zV → List zV → zM → Prop} {K : List zV → List zV → zM → Prop} {ex : Nat} {tb : List (Int × Nat)} {lv st : List zV} {μ : zM} {q0 : Nat} : zO C Q S (.invokestatic q0) ex tb lv st μ K = (zif (tb = [(9, 5)]) (zCopy st μ (fun st μ => K lv st μ)) (zif (tb = [(10, 1)]) (zU 0 st (fun a r => r.length ≤ 4 ∧ K lv ((0, if 0 ≤ a then a else zw (0 - a)) :: r) μ)) (zif (tb = [(11, 2)]) (zD 0 0 st (fun a b r => r.length ≤ 4 ∧ K lv ((0, if b < a then b else a) :: r) μ)) (zif (tb = [(12, 2)]) (zD 1 1 st (fun a b r => r.length ≤ 4 ∧ K lv ((1, if b < a then b else a) :: r) μ)) (zCall C ex tb st μ (fun st μ => K lv st μ)))))) := rfl
theorem zO_ireturn {C : Nat → List zV → zM → (Int → zM → Prop) → Prop} {Q : Int → zM → Prop} {S : Nat → List zV → List zV → zM → Prop} {K : List zV → List zV → zM → Prop} {ex : Nat} {tb : List (Int × Nat)} {lv st : List zV} {μ : zM} : zO C Q S .ireturn ex tb lv st μ K = (zU 0 st (fun v r => r = [] ∧ (ex = 4 → v = 0 ∨ v = 1) ∧ Q v μ)) := rfl
theorem zO_lreturn {C : Nat → List zV → zM → (Int → zM → Prop) → Prop} {Q : Int → zM → Prop} {S : Nat → List zV → List zV → zM → Prop} {K : List zV → List zV → zM → Prop} {ex : Nat} {tb : List (Int × Nat)} {lv st : List zV} {μ : zM} : zO C Q S .lreturn ex tb lv st μ K = (zU 1 st (fun v r => r = [] ∧ Q v μ)) := rfl
theorem zO_areturn {C : Nat → List zV → zM → (Int → zM → Prop) → Prop} {Q : Int → zM → Prop} {S : Nat → List zV → List zV → zM → Prop} {K : List zV → List zV → zM → Prop} {ex : Nat} {tb : List (Int × Nat)} {lv st : List zV} {μ : zM} : zO C Q S .areturn ex tb lv st μ K = (zU 2 st (fun v r => r = [] ∧ Q v μ)) := rfl
theorem zO_return_ {C : Nat → List zV → zM → (Int → zM → Prop) → Prop} {Q : Int → zM → Prop} {S : Nat → List zV → List zV → zM → Prop} {K : List zV → List zV → zM → Prop} {ex : Nat} {tb : List (Int × Nat)} {lv st : List zV} {μ : zM} : zO C Q S .return_ ex tb lv st μ K = (st = [] ∧ Q 0 μ) := rfl
theorem zO_tableswitch {C : Nat → List zV → zM → (Int → zM → Prop) → Prop} {Q : Int → zM → Prop} {S : Nat → List zV → List zV → zM → Prop} {K : List zV → List zV → zM → Prop} {ex : Nat} {tb : List (Int × Nat)} {lv st : List zV} {μ : zM} {q0 : Int} {q1 : Int} {q2 : Int} {q3 : Array Int} : zO C Q S (.tableswitch q0 q1 q2 q3) ex tb lv st μ K = (zU 0 st (fun a r => zSw tb a ex (fun t => S t lv r μ))) := rfl
theorem zO_lookupswitch {C : Nat → List zV → zM → (Int → zM → Prop) → Prop} {Q : Int → zM → Prop} {S : Nat → List zV → List zV → zM → Prop} {K : List zV → List zV → zM → Prop} {ex : Nat} {tb : List (Int × Nat)} {lv st : List zV} {μ : zM} {q0 : Int} {q1 : Array (Int × Int)} : zO C Q S (.lookupswitch q0 q1) ex tb lv st μ K = (zU 0 st (fun a r => zSw tb a ex (fun t => S t lv r μ))) := rfl
theorem zB_c {C : Nat → List zV → zM → (Int → zM → Prop) → Prop} {Q : Int → zM → Prop} {S : Nat → List zV → List zV → zM → Prop} {op : Instr} {ex : Nat} {tb : List (Int × Nat)} {is : List zI} {lv st : List zV} {μ : zM} : zB C Q S ((op, ex, tb) :: is) lv st μ = zO C Q S op ex tb lv st μ (fun lv st μ => zB C Q S is lv st μ) := rfl
theorem zLd_0 {t : Nat} {x : Int} {r : List zV} {k : zV → Prop} : zLd t 0 ((t, x) :: r) k = k (t, x) := by simp [zLd]
theorem zLd_s {t n : Nat} {v : zV} {r : List zV} {k : zV → Prop} : zLd t (n + 1) (v :: r) k = zLd t n r k := by simp [zLd]
theorem zSt_c {t n : Nat} {lv : List zV} {x : Int} {r : List zV} {k : List zV → List zV → Prop} : zSt t n lv ((t, x) :: r) k = (n < lv.length ∧ (lv.getD (n - 1) (9, 0)).1 ≠ 1 ∧ k (lv.set n (t, x)) r) := by simp [zSt]
theorem zSt2_c {n : Nat} {lv : List zV} {x : Int} {r : List zV} {k : List zV → List zV → Prop} : zSt2 n lv ((1, x) :: r) k = (n + 1 < lv.length ∧ (lv.getD (n - 1) (9, 0)).1 ≠ 1 ∧ k ((lv.set n (1, x)).set (n + 1) (9, 0)) r) := by simp [zSt2]
theorem zU_c {t : Nat} {a : Int} {r : List zV} {k : Int → List zV → Prop} : zU t ((t, a) :: r) k = k a r := by simp [zU]
theorem zD_c {t1 t2 : Nat} {a b : Int} {r : List zV} {k : Int → Int → List zV → Prop} : zD t1 t2 ((t1, b) :: (t2, a) :: r) k = k a b r := by simp [zD]
theorem zY_c {t : Nat} {a j v : Int} {r : List zV} {k : Int → Int → Int → List zV → Prop} : zY t ((t, v) :: (0, j) :: (2, a) :: r) k = k a j v r := by simp [zY]
theorem zSw_n {x : Int} {d : Nat} {k : Nat → Prop} : zSw [] x d k = k d := rfl
theorem zSw_c {x v : Int} {t d : Nat} {tb : List (Int × Nat)} {k : Nat → Prop} : zSw ((v, t) :: tb) x d k = ((x = v → k t) ∧ (¬ x = v → zSw tb x d k)) := rfl
theorem zCall_c {C : Nat → List zV → zM → (Int → zM → Prop) → Prop} {ex n : Nat} {q : Int} {st : List zV} {μ : zM} {k : List zV → zM → Prop} : zCall C ex [(q, n)] st μ k = (n ≤ st.length ∧ (st.drop n).length ≤ 4 ∧ C ex (st.take n).reverse μ (fun r μ' => k (zP q r (st.drop n)) μ')) := rfl
theorem zVirt_c {C : Nat → List zV → zM → (Int → zM → Prop) → Prop} {ex n e : Nat} {q ci : Int} {st : List zV} {μ : zM} {k : List zV → zM → Prop} : zVirt C ex [(q, n), (ci, e)] st μ k = (((st.getD (n - 1) (9, 0)).1 = 2 ∧ zT (st.getD (n - 1) (9, 0)).2 = 3 ∧ zN (st.getD (n - 1) (9, 0)).2 = ci) ∧ 0 < n ∧ zCall C ex [(q, n)] st μ k) := rfl
theorem zP_0 {r : Int} {st : List zV} : zP 0 r st = st := rfl
theorem zP_1 {r : Int} {st : List zV} : zP 1 r st = (0, r) :: st := rfl
theorem zP_2 {r : Int} {st : List zV} : zP 2 r st = (1, r) :: st := rfl
theorem zP_3 {r : Int} {st : List zV} : zP 3 r st = (2, r) :: st := rfl
theorem zP_4 {r : Int} {st : List zV} : zP 4 r st = (0, r) :: st := rfl
theorem zC_s {d z : Nat} {as : List zV} {μ : zM} {P : Int → zM → Prop} : zC (d + 1) z as μ P = ((zlay as).length ≤ zmL z ∧ zR d z P 0 (zent z as) [] μ) := rfl
theorem zlay_n : zlay [] = [] := rfl
theorem zlay_0 {x : Int} {r : List zV} : zlay ((0, x) :: r) = (0, x) :: zlay r := rfl
theorem zlay_1 {x : Int} {r : List zV} : zlay ((1, x) :: r) = (1, x) :: (9, 0) :: zlay r := rfl
theorem zlay_2 {x : Int} {r : List zV} : zlay ((2, x) :: r) = (2, x) :: zlay r := rfl
theorem zGet_r {g a : Int} {ex : Nat} {μ : zM} {k : zV → Prop} (h : 0 ≤ g) : zGet g a ex μ k = k (2, g) := by simp [zGet, h]
theorem zGet_n {a : Int} {ex : Nat} {μ : zM} {k : zV → Prop} : zGet (-1) a ex μ k = k (0, μ a ((ex % 32 : Nat) : Int)) := by simp [zGet]
theorem zGet_z {a : Int} {ex : Nat} {μ : zM} {k : zV → Prop} : zGet (-2) a ex μ k = k (0, μ a ((ex % 32 : Nat) : Int)) := by simp [zGet]
theorem zPut_n {a : Int} {ex : Nat} {v : Int} {μ : zM} {k : zM → Prop} : zPut (-1) a ex v μ k = k (zu μ a ((ex % 32 : Nat) : Int) v) := by simp [zPut]
theorem zPut_z {a : Int} {ex : Nat} {v : Int} {μ : zM} {k : zM → Prop} : zPut (-2) a ex v μ k = ((v = 0 ∨ v = 1) ∧ k (zu μ a ((ex % 32 : Nat) : Int) v)) := by simp [zPut]
theorem zent_e {z : Nat} {as : List zV} : zent z as = zlay as ++ List.replicate (zmL z - (zlay as).length) (9, 0) := rfl
theorem zO_is0 {C : Nat → List zV → zM → (Int → zM → Prop) → Prop} {Q : Int → zM → Prop} {S : Nat → List zV → List zV → zM → Prop} {K : List zV → List zV → zM → Prop} {ex n i : Nat} {lv st : List zV} {μ : zM} : zO C Q S (.invokestatic i) ex [(0, n)] lv st μ K = zCall C ex [(0, n)] st μ (fun st μ => K lv st μ) := by simp [zO, zif]
theorem zO_is1 {C : Nat → List zV → zM → (Int → zM → Prop) → Prop} {Q : Int → zM → Prop} {S : Nat → List zV → List zV → zM → Prop} {K : List zV → List zV → zM → Prop} {ex n i : Nat} {lv st : List zV} {μ : zM} : zO C Q S (.invokestatic i) ex [(1, n)] lv st μ K = zCall C ex [(1, n)] st μ (fun st μ => K lv st μ) := by simp [zO, zif]
theorem zO_is2 {C : Nat → List zV → zM → (Int → zM → Prop) → Prop} {Q : Int → zM → Prop} {S : Nat → List zV → List zV → zM → Prop} {K : List zV → List zV → zM → Prop} {ex n i : Nat} {lv st : List zV} {μ : zM} : zO C Q S (.invokestatic i) ex [(2, n)] lv st μ K = zCall C ex [(2, n)] st μ (fun st μ => K lv st μ) := by simp [zO, zif]
theorem zO_is3 {C : Nat → List zV → zM → (Int → zM → Prop) → Prop} {Q : Int → zM → Prop} {S : Nat → List zV → List zV → zM → Prop} {K : List zV → List zV → zM → Prop} {ex n i : Nat} {lv st : List zV} {μ : zM} : zO C Q S (.invokestatic i) ex [(3, n)] lv st μ K = zCall C ex [(3, n)] st μ (fun st μ => K lv st μ) := by simp [zO, zif]
theorem zO_is4 {C : Nat → List zV → zM → (Int → zM → Prop) → Prop} {Q : Int → zM → Prop} {S : Nat → List zV → List zV → zM → Prop} {K : List zV → List zV → zM → Prop} {ex n i : Nat} {lv st : List zV} {μ : zM} : zO C Q S (.invokestatic i) ex [(4, n)] lv st μ K = zCall C ex [(4, n)] st μ (fun st μ => K lv st μ) := by simp [zO, zif]
theorem zO_is9 {C : Nat → List zV → zM → (Int → zM → Prop) → Prop} {Q : Int → zM → Prop} {S : Nat → List zV → List zV → zM → Prop} {K : List zV → List zV → zM → Prop} {ex i : Nat} {lv st : List zV} {μ : zM} : zO C Q S (.invokestatic i) ex [(9, 5)] lv st μ K = zCopy st μ (fun st μ => K lv st μ) := by simp [zO, zif]
theorem zO_ir1 {C : Nat → List zV → zM → (Int → zM → Prop) → Prop} {Q : Int → zM → Prop} {S : Nat → List zV → List zV → zM → Prop} {K : List zV → List zV → zM → Prop} {tb : List (Int × Nat)} {lv : List zV} {μ : zM} {v : Int} : zO C Q S .ireturn 1 tb lv [(0, v)] μ K = Q v μ := by simp [zO, zU]
theorem zO_ir4 {C : Nat → List zV → zM → (Int → zM → Prop) → Prop} {Q : Int → zM → Prop} {S : Nat → List zV → List zV → zM → Prop} {K : List zV → List zV → zM → Prop} {tb : List (Int × Nat)} {lv : List zV} {μ : zM} {v : Int} : zO C Q S .ireturn 4 tb lv [(0, v)] μ K = ((v = 0 ∨ v = 1) ∧ Q v μ) := by simp [zO, zU]
theorem zO_is10 {C : Nat → List zV → zM → (Int → zM → Prop) → Prop} {Q : Int → zM → Prop} {S : Nat → List zV → List zV → zM → Prop} {K : List zV → List zV → zM → Prop} {ex i : Nat} {lv st : List zV} {μ : zM} : zO C Q S (.invokestatic i) ex [(10, 1)] lv st μ K = zU 0 st (fun a r => r.length ≤ 4 ∧ K lv ((0, if 0 ≤ a then a else zw (0 - a)) :: r) μ) := by simp [zO, zif]
theorem zO_is11 {C : Nat → List zV → zM → (Int → zM → Prop) → Prop} {Q : Int → zM → Prop} {S : Nat → List zV → List zV → zM → Prop} {K : List zV → List zV → zM → Prop} {ex i : Nat} {lv st : List zV} {μ : zM} : zO C Q S (.invokestatic i) ex [(11, 2)] lv st μ K = zD 0 0 st (fun a b r => r.length ≤ 4 ∧ K lv ((0, if b < a then b else a) :: r) μ) := by simp [zO, zif]
theorem zO_is12 {C : Nat → List zV → zM → (Int → zM → Prop) → Prop} {Q : Int → zM → Prop} {S : Nat → List zV → List zV → zM → Prop} {K : List zV → List zV → zM → Prop} {ex i : Nat} {lv st : List zV} {μ : zM} : zO C Q S (.invokestatic i) ex [(12, 2)] lv st μ K = zD 1 1 st (fun a b r => r.length ≤ 4 ∧ K lv ((1, if b < a then b else a) :: r) μ) := by simp [zO, zif]
end
section
/-! each method: its entry, its blocks; each cell: its fields, its kind -/
theorem e0 {d : Nat} {a0 a1 : Int} {μ : zM} {P : Int → zM → Prop} : zC (d + 1) 0 [(2, a0), (0, a1)] μ P ↔ zB (zC d) P (zR d 0 P) k0_0 [(2, a0), (0, a1)] [] μ := zC_of rfl rfl rfl
theorem u0_16 {d : Nat} {Q : Int → zM → Prop} {lv st : List zV} {μ : zM} : zR d 0 Q 16 lv st μ ↔ zB (zC d) Q (zR d 0 Q) k0_16 lv st μ := zR_of rfl
theorem u0_17 {d : Nat} {Q : Int → zM → Prop} {lv st : List zV} {μ : zM} : zR d 0 Q 17 lv st μ ↔ zB (zC d) Q (zR d 0 Q) k0_17 lv st μ := zR_of rfl
theorem e1 {d : Nat} {a0 a1 a2 : Int} {μ : zM} {P : Int → zM → Prop} : zC (d + 1) 1 [(2, a0), (0, a1), (0, a2)] μ P ↔ zB (zC d) P (zR d 1 P) k1_0 [(2, a0), (0, a1), (0, a2)] [] μ := zC_of rfl rfl rfl
theorem e2 {d : Nat} {a0 a1 a2 : Int} {μ : zM} {P : Int → zM → Prop} : zC (d + 1) 2 [(2, a0), (2, a1), (0, a2)] μ P ↔ zB (zC d) P (zR d 2 P) k2_0 [(2, a0), (2, a1), (0, a2), (9, 0), (9, 0)] [] μ := zC_of rfl rfl rfl
theorem u2_2 {d : Nat} {Q : Int → zM → Prop} {lv st : List zV} {μ : zM} : zR d 2 Q 2 lv st μ ↔ zB (zC d) Q (zR d 2 Q) k2_2 lv st μ := zR_of rfl
theorem u2_10 {d : Nat} {Q : Int → zM → Prop} {lv st : List zV} {μ : zM} : zR d 2 Q 10 lv st μ ↔ zB (zC d) Q (zR d 2 Q) k2_10 lv st μ := zR_of rfl
theorem u2_37 {d : Nat} {Q : Int → zM → Prop} {lv st : List zV} {μ : zM} : zR d 2 Q 37 lv st μ ↔ zB (zC d) Q (zR d 2 Q) k2_37 lv st μ := zR_of rfl
theorem u2_43 {d : Nat} {Q : Int → zM → Prop} {lv st : List zV} {μ : zM} : zR d 2 Q 43 lv st μ ↔ zB (zC d) Q (zR d 2 Q) k2_43 lv st μ := zR_of rfl
theorem e3 {d : Nat} {a0 a1 : Int} {μ : zM} {P : Int → zM → Prop} : zC (d + 1) 3 [(2, a0), (2, a1)] μ P ↔ zB (zC d) P (zR d 3 P) k3_0 [(2, a0), (2, a1)] [] μ := zC_of rfl rfl rfl
theorem e4 {d : Nat} {a0 a1 a2 : Int} {μ : zM} {P : Int → zM → Prop} : zC (d + 1) 4 [(2, a0), (2, a1), (0, a2)] μ P ↔ zB (zC d) P (zR d 4 P) k4_0 [(2, a0), (2, a1), (0, a2), (9, 0)] [] μ := zC_of rfl rfl rfl
theorem u4_13 {d : Nat} {Q : Int → zM → Prop} {lv st : List zV} {μ : zM} : zR d 4 Q 13 lv st μ ↔ zB (zC d) Q (zR d 4 Q) k4_13 lv st μ := zR_of rfl
theorem u4_18 {d : Nat} {Q : Int → zM → Prop} {lv st : List zV} {μ : zM} : zR d 4 Q 18 lv st μ ↔ zB (zC d) Q (zR d 4 Q) k4_18 lv st μ := zR_of rfl
theorem u4_20 {d : Nat} {Q : Int → zM → Prop} {lv st : List zV} {μ : zM} : zR d 4 Q 20 lv st μ ↔ zB (zC d) Q (zR d 4 Q) k4_20 lv st μ := zR_of rfl
theorem u4_74 {d : Nat} {Q : Int → zM → Prop} {lv st : List zV} {μ : zM} : zR d 4 Q 74 lv st μ ↔ zB (zC d) Q (zR d 4 Q) k4_74 lv st μ := zR_of rfl
theorem u4_80 {d : Nat} {Q : Int → zM → Prop} {lv st : List zV} {μ : zM} : zR d 4 Q 80 lv st μ ↔ zB (zC d) Q (zR d 4 Q) k4_80 lv st μ := zR_of rfl
theorem e5 {d : Nat} {a0 : Int} {μ : zM} {P : Int → zM → Prop} : zC (d + 1) 5 [(2, a0)] μ P ↔ zB (zC d) P (zR d 5 P) k5_0 [(2, a0)] [] μ := zC_of rfl rfl rfl
theorem u5_37 {d : Nat} {Q : Int → zM → Prop} {lv st : List zV} {μ : zM} : zR d 5 Q 37 lv st μ ↔ zB (zC d) Q (zR d 5 Q) k5_37 lv st μ := zR_of rfl
theorem e6 {d : Nat} {a0 a1 a2 a3 : Int} {μ : zM} {P : Int → zM → Prop} : zC (d + 1) 6 [(2, a0), (2, a1), (0, a2), (0, a3)] μ P ↔ zB (zC d) P (zR d 6 P) k6_0 [(2, a0), (2, a1), (0, a2), (0, a3), (9, 0), (9, 0)] [] μ := zC_of rfl rfl rfl
theorem u6_38 {d : Nat} {Q : Int → zM → Prop} {lv st : List zV} {μ : zM} : zR d 6 Q 38 lv st μ ↔ zB (zC d) Q (zR d 6 Q) k6_38 lv st μ := zR_of rfl
theorem u6_74 {d : Nat} {Q : Int → zM → Prop} {lv st : List zV} {μ : zM} : zR d 6 Q 74 lv st μ ↔ zB (zC d) Q (zR d 6 Q) k6_74 lv st μ := zR_of rfl
theorem e7 {d : Nat} {a0 a1 a2 a3 a4 : Int} {μ : zM} {P : Int → zM → Prop} : zC (d + 1) 7 [(2, a0), (2, a1), (0, a2), (0, a3), (0, a4)] μ P ↔ zB (zC d) P (zR d 7 P) k7_0 [(2, a0), (2, a1), (0, a2), (0, a3), (0, a4), (9, 0)] [] μ := zC_of rfl rfl rfl
theorem u7_11 {d : Nat} {Q : Int → zM → Prop} {lv st : List zV} {μ : zM} : zR d 7 Q 11 lv st μ ↔ zB (zC d) Q (zR d 7 Q) k7_11 lv st μ := zR_of rfl
theorem u7_47 {d : Nat} {Q : Int → zM → Prop} {lv st : List zV} {μ : zM} : zR d 7 Q 47 lv st μ ↔ zB (zC d) Q (zR d 7 Q) k7_47 lv st μ := zR_of rfl
theorem e8 {d : Nat} {a0 a1 : Int} {μ : zM} {P : Int → zM → Prop} : zC (d + 1) 8 [(2, a0), (0, a1)] μ P ↔ zB (zC d) P (zR d 8 P) k8_0 [(2, a0), (0, a1), (9, 0), (9, 0), (9, 0), (9, 0)] [] μ := zC_of rfl rfl rfl
theorem u8_2 {d : Nat} {Q : Int → zM → Prop} {lv st : List zV} {μ : zM} : zR d 8 Q 2 lv st μ ↔ zB (zC d) Q (zR d 8 Q) k8_2 lv st μ := zR_of rfl
theorem u8_51 {d : Nat} {Q : Int → zM → Prop} {lv st : List zV} {μ : zM} : zR d 8 Q 51 lv st μ ↔ zB (zC d) Q (zR d 8 Q) k8_51 lv st μ := zR_of rfl
theorem u8_65 {d : Nat} {Q : Int → zM → Prop} {lv st : List zV} {μ : zM} : zR d 8 Q 65 lv st μ ↔ zB (zC d) Q (zR d 8 Q) k8_65 lv st μ := zR_of rfl
theorem u8_107 {d : Nat} {Q : Int → zM → Prop} {lv st : List zV} {μ : zM} : zR d 8 Q 107 lv st μ ↔ zB (zC d) Q (zR d 8 Q) k8_107 lv st μ := zR_of rfl
theorem u8_113 {d : Nat} {Q : Int → zM → Prop} {lv st : List zV} {μ : zM} : zR d 8 Q 113 lv st μ ↔ zB (zC d) Q (zR d 8 Q) k8_113 lv st μ := zR_of rfl
theorem u8_126 {d : Nat} {Q : Int → zM → Prop} {lv st : List zV} {μ : zM} : zR d 8 Q 126 lv st μ ↔ zB (zC d) Q (zR d 8 Q) k8_126 lv st μ := zR_of rfl
theorem u8_127 {d : Nat} {Q : Int → zM → Prop} {lv st : List zV} {μ : zM} : zR d 8 Q 127 lv st μ ↔ zB (zC d) Q (zR d 8 Q) k8_127 lv st μ := zR_of rfl
theorem e9 {d : Nat} {a0 a1 a2 : Int} {μ : zM} {P : Int → zM → Prop} : zC (d + 1) 9 [(2, a0), (0, a1), (0, a2)] μ P ↔ zB (zC d) P (zR d 9 P) k9_0 [(2, a0), (0, a1), (0, a2), (9, 0)] [] μ := zC_of rfl rfl rfl
theorem u9_2 {d : Nat} {Q : Int → zM → Prop} {lv st : List zV} {μ : zM} : zR d 9 Q 2 lv st μ ↔ zB (zC d) Q (zR d 9 Q) k9_2 lv st μ := zR_of rfl
theorem u9_32 {d : Nat} {Q : Int → zM → Prop} {lv st : List zV} {μ : zM} : zR d 9 Q 32 lv st μ ↔ zB (zC d) Q (zR d 9 Q) k9_32 lv st μ := zR_of rfl
theorem e10 {d : Nat} {a0 a1 a2 a3 : Int} {μ : zM} {P : Int → zM → Prop} : zC (d + 1) 10 [(2, a0), (0, a1), (0, a2), (0, a3)] μ P ↔ zB (zC d) P (zR d 10 P) k10_0 [(2, a0), (0, a1), (0, a2), (0, a3)] [] μ := zC_of rfl rfl rfl
theorem e11 {d : Nat} {a0 a1 : Int} {μ : zM} {P : Int → zM → Prop} : zC (d + 1) 11 [(2, a0), (2, a1)] μ P ↔ zB (zC d) P (zR d 11 P) k11_0 [(2, a0), (2, a1), (9, 0), (9, 0), (9, 0)] [] μ := zC_of rfl rfl rfl
theorem u11_10 {d : Nat} {Q : Int → zM → Prop} {lv st : List zV} {μ : zM} : zR d 11 Q 10 lv st μ ↔ zB (zC d) Q (zR d 11 Q) k11_10 lv st μ := zR_of rfl
theorem u11_20 {d : Nat} {Q : Int → zM → Prop} {lv st : List zV} {μ : zM} : zR d 11 Q 20 lv st μ ↔ zB (zC d) Q (zR d 11 Q) k11_20 lv st μ := zR_of rfl
theorem u11_31 {d : Nat} {Q : Int → zM → Prop} {lv st : List zV} {μ : zM} : zR d 11 Q 31 lv st μ ↔ zB (zC d) Q (zR d 11 Q) k11_31 lv st μ := zR_of rfl
theorem u11_66 {d : Nat} {Q : Int → zM → Prop} {lv st : List zV} {μ : zM} : zR d 11 Q 66 lv st μ ↔ zB (zC d) Q (zR d 11 Q) k11_66 lv st μ := zR_of rfl
theorem u11_72 {d : Nat} {Q : Int → zM → Prop} {lv st : List zV} {μ : zM} : zR d 11 Q 72 lv st μ ↔ zB (zC d) Q (zR d 11 Q) k11_72 lv st μ := zR_of rfl
theorem u11_78 {d : Nat} {Q : Int → zM → Prop} {lv st : List zV} {μ : zM} : zR d 11 Q 78 lv st μ ↔ zB (zC d) Q (zR d 11 Q) k11_78 lv st μ := zR_of rfl
theorem e12 {d : Nat} {a0 a1 a2 a3 : Int} {μ : zM} {P : Int → zM → Prop} : zC (d + 1) 12 [(2, a0), (0, a1), (0, a2), (0, a3)] μ P ↔ zB (zC d) P (zR d 12 P) k12_0 [(2, a0), (0, a1), (0, a2), (0, a3), (9, 0)] [] μ := zC_of rfl rfl rfl
theorem u12_8 {d : Nat} {Q : Int → zM → Prop} {lv st : List zV} {μ : zM} : zR d 12 Q 8 lv st μ ↔ zB (zC d) Q (zR d 12 Q) k12_8 lv st μ := zR_of rfl
theorem u12_15 {d : Nat} {Q : Int → zM → Prop} {lv st : List zV} {μ : zM} : zR d 12 Q 15 lv st μ ↔ zB (zC d) Q (zR d 12 Q) k12_15 lv st μ := zR_of rfl
theorem u12_56 {d : Nat} {Q : Int → zM → Prop} {lv st : List zV} {μ : zM} : zR d 12 Q 56 lv st μ ↔ zB (zC d) Q (zR d 12 Q) k12_56 lv st μ := zR_of rfl
theorem u12_67 {d : Nat} {Q : Int → zM → Prop} {lv st : List zV} {μ : zM} : zR d 12 Q 67 lv st μ ↔ zB (zC d) Q (zR d 12 Q) k12_67 lv st μ := zR_of rfl
theorem u12_76 {d : Nat} {Q : Int → zM → Prop} {lv st : List zV} {μ : zM} : zR d 12 Q 76 lv st μ ↔ zB (zC d) Q (zR d 12 Q) k12_76 lv st μ := zR_of rfl
theorem u12_85 {d : Nat} {Q : Int → zM → Prop} {lv st : List zV} {μ : zM} : zR d 12 Q 85 lv st μ ↔ zB (zC d) Q (zR d 12 Q) k12_85 lv st μ := zR_of rfl
theorem u12_110 {d : Nat} {Q : Int → zM → Prop} {lv st : List zV} {μ : zM} : zR d 12 Q 110 lv st μ ↔ zB (zC d) Q (zR d 12 Q) k12_110 lv st μ := zR_of rfl
theorem u12_118 {d : Nat} {Q : Int → zM → Prop} {lv st : List zV} {μ : zM} : zR d 12 Q 118 lv st μ ↔ zB (zC d) Q (zR d 12 Q) k12_118 lv st μ := zR_of rfl
theorem u12_119 {d : Nat} {Q : Int → zM → Prop} {lv st : List zV} {μ : zM} : zR d 12 Q 119 lv st μ ↔ zB (zC d) Q (zR d 12 Q) k12_119 lv st μ := zR_of rfl
theorem e13 {d : Nat} {a0 a1 a2 : Int} {μ : zM} {P : Int → zM → Prop} : zC (d + 1) 13 [(0, a0), (0, a1), (0, a2)] μ P ↔ zB (zC d) P (zR d 13 P) k13_0 [(0, a0), (0, a1), (0, a2)] [] μ := zC_of rfl rfl rfl
theorem u13_11 {d : Nat} {Q : Int → zM → Prop} {lv st : List zV} {μ : zM} : zR d 13 Q 11 lv st μ ↔ zB (zC d) Q (zR d 13 Q) k13_11 lv st μ := zR_of rfl
theorem u13_12 {d : Nat} {Q : Int → zM → Prop} {lv st : List zV} {μ : zM} : zR d 13 Q 12 lv st μ ↔ zB (zC d) Q (zR d 13 Q) k13_12 lv st μ := zR_of rfl
theorem e14 {d : Nat} {a0 a1 a2 a3 : Int} {μ : zM} {P : Int → zM → Prop} : zC (d + 1) 14 [(0, a0), (0, a1), (0, a2), (0, a3)] μ P ↔ zB (zC d) P (zR d 14 P) k14_0 [(0, a0), (0, a1), (0, a2), (0, a3), (9, 0)] [] μ := zC_of rfl rfl rfl
theorem u14_17 {d : Nat} {Q : Int → zM → Prop} {lv st : List zV} {μ : zM} : zR d 14 Q 17 lv st μ ↔ zB (zC d) Q (zR d 14 Q) k14_17 lv st μ := zR_of rfl
theorem u14_21 {d : Nat} {Q : Int → zM → Prop} {lv st : List zV} {μ : zM} : zR d 14 Q 21 lv st μ ↔ zB (zC d) Q (zR d 14 Q) k14_21 lv st μ := zR_of rfl
theorem u14_28 {d : Nat} {Q : Int → zM → Prop} {lv st : List zV} {μ : zM} : zR d 14 Q 28 lv st μ ↔ zB (zC d) Q (zR d 14 Q) k14_28 lv st μ := zR_of rfl
theorem u14_29 {d : Nat} {Q : Int → zM → Prop} {lv st : List zV} {μ : zM} : zR d 14 Q 29 lv st μ ↔ zB (zC d) Q (zR d 14 Q) k14_29 lv st μ := zR_of rfl
theorem e15 {d : Nat} {a0 a1 a2 a3 : Int} {μ : zM} {P : Int → zM → Prop} : zC (d + 1) 15 [(0, a0), (0, a1), (0, a2), (0, a3)] μ P ↔ zB (zC d) P (zR d 15 P) k15_0 [(0, a0), (0, a1), (0, a2), (0, a3), (9, 0), (9, 0)] [] μ := zC_of rfl rfl rfl
theorem u15_48 {d : Nat} {Q : Int → zM → Prop} {lv st : List zV} {μ : zM} : zR d 15 Q 48 lv st μ ↔ zB (zC d) Q (zR d 15 Q) k15_48 lv st μ := zR_of rfl
theorem u15_49 {d : Nat} {Q : Int → zM → Prop} {lv st : List zV} {μ : zM} : zR d 15 Q 49 lv st μ ↔ zB (zC d) Q (zR d 15 Q) k15_49 lv st μ := zR_of rfl
theorem e16 {d : Nat} {a0 a1 a2 a3 : Int} {μ : zM} {P : Int → zM → Prop} : zC (d + 1) 16 [(0, a0), (0, a1), (0, a2), (0, a3)] μ P ↔ zB (zC d) P (zR d 16 P) k16_0 [(0, a0), (0, a1), (0, a2), (0, a3)] [] μ := zC_of rfl rfl rfl
theorem u16_19 {d : Nat} {Q : Int → zM → Prop} {lv st : List zV} {μ : zM} : zR d 16 Q 19 lv st μ ↔ zB (zC d) Q (zR d 16 Q) k16_19 lv st μ := zR_of rfl
theorem u16_20 {d : Nat} {Q : Int → zM → Prop} {lv st : List zV} {μ : zM} : zR d 16 Q 20 lv st μ ↔ zB (zC d) Q (zR d 16 Q) k16_20 lv st μ := zR_of rfl
theorem u16_21 {d : Nat} {Q : Int → zM → Prop} {lv st : List zV} {μ : zM} : zR d 16 Q 21 lv st μ ↔ zB (zC d) Q (zR d 16 Q) k16_21 lv st μ := zR_of rfl
theorem u16_31 {d : Nat} {Q : Int → zM → Prop} {lv st : List zV} {μ : zM} : zR d 16 Q 31 lv st μ ↔ zB (zC d) Q (zR d 16 Q) k16_31 lv st μ := zR_of rfl
theorem u16_40 {d : Nat} {Q : Int → zM → Prop} {lv st : List zV} {μ : zM} : zR d 16 Q 40 lv st μ ↔ zB (zC d) Q (zR d 16 Q) k16_40 lv st μ := zR_of rfl
theorem u16_41 {d : Nat} {Q : Int → zM → Prop} {lv st : List zV} {μ : zM} : zR d 16 Q 41 lv st μ ↔ zB (zC d) Q (zR d 16 Q) k16_41 lv st μ := zR_of rfl
theorem u16_42 {d : Nat} {Q : Int → zM → Prop} {lv st : List zV} {μ : zM} : zR d 16 Q 42 lv st μ ↔ zB (zC d) Q (zR d 16 Q) k16_42 lv st μ := zR_of rfl
theorem e17 {d : Nat} {a0 a1 a2 a3 a4 : Int} {μ : zM} {P : Int → zM → Prop} : zC (d + 1) 17 [(2, a0), (0, a1), (0, a2), (0, a3), (0, a4)] μ P ↔ zB (zC d) P (zR d 17 P) k17_0 [(2, a0), (0, a1), (0, a2), (0, a3), (0, a4), (9, 0)] [] μ := zC_of rfl rfl rfl
theorem u17_8 {d : Nat} {Q : Int → zM → Prop} {lv st : List zV} {μ : zM} : zR d 17 Q 8 lv st μ ↔ zB (zC d) Q (zR d 17 Q) k17_8 lv st μ := zR_of rfl
theorem u17_51 {d : Nat} {Q : Int → zM → Prop} {lv st : List zV} {μ : zM} : zR d 17 Q 51 lv st μ ↔ zB (zC d) Q (zR d 17 Q) k17_51 lv st μ := zR_of rfl
theorem e18 {d : Nat} {a0 a1 a2 a3 a4 a5 : Int} {μ : zM} {P : Int → zM → Prop} : zC (d + 1) 18 [(2, a0), (0, a1), (0, a2), (0, a3), (0, a4), (0, a5)] μ P ↔ zB (zC d) P (zR d 18 P) k18_0 [(2, a0), (0, a1), (0, a2), (0, a3), (0, a4), (0, a5)] [] μ := zC_of rfl rfl rfl
theorem e19 {d : Nat} {a0 : Int} {μ : zM} {P : Int → zM → Prop} : zC (d + 1) 19 [(2, a0)] μ P ↔ zB (zC d) P (zR d 19 P) k19_0 [(2, a0), (9, 0), (9, 0), (9, 0), (9, 0)] [] μ := zC_of rfl rfl rfl
theorem u19_2 {d : Nat} {Q : Int → zM → Prop} {lv st : List zV} {μ : zM} : zR d 19 Q 2 lv st μ ↔ zB (zC d) Q (zR d 19 Q) k19_2 lv st μ := zR_of rfl
theorem u19_12 {d : Nat} {Q : Int → zM → Prop} {lv st : List zV} {μ : zM} : zR d 19 Q 12 lv st μ ↔ zB (zC d) Q (zR d 19 Q) k19_12 lv st μ := zR_of rfl
theorem u19_22 {d : Nat} {Q : Int → zM → Prop} {lv st : List zV} {μ : zM} : zR d 19 Q 22 lv st μ ↔ zB (zC d) Q (zR d 19 Q) k19_22 lv st μ := zR_of rfl
theorem u19_67 {d : Nat} {Q : Int → zM → Prop} {lv st : List zV} {μ : zM} : zR d 19 Q 67 lv st μ ↔ zB (zC d) Q (zR d 19 Q) k19_67 lv st μ := zR_of rfl
theorem u19_73 {d : Nat} {Q : Int → zM → Prop} {lv st : List zV} {μ : zM} : zR d 19 Q 73 lv st μ ↔ zB (zC d) Q (zR d 19 Q) k19_73 lv st μ := zR_of rfl
theorem u19_79 {d : Nat} {Q : Int → zM → Prop} {lv st : List zV} {μ : zM} : zR d 19 Q 79 lv st μ ↔ zB (zC d) Q (zR d 19 Q) k19_79 lv st μ := zR_of rfl
theorem u19_85 {d : Nat} {Q : Int → zM → Prop} {lv st : List zV} {μ : zM} : zR d 19 Q 85 lv st μ ↔ zB (zC d) Q (zR d 19 Q) k19_85 lv st μ := zR_of rfl
theorem e20 {d : Nat} {a0 a1 a2 a3 : Int} {μ : zM} {P : Int → zM → Prop} : zC (d + 1) 20 [(2, a0), (0, a1), (0, a2), (0, a3)] μ P ↔ zB (zC d) P (zR d 20 P) k20_0 [(2, a0), (0, a1), (0, a2), (0, a3), (9, 0), (9, 0), (9, 0), (9, 0)] [] μ := zC_of rfl rfl rfl
theorem u20_3 {d : Nat} {Q : Int → zM → Prop} {lv st : List zV} {μ : zM} : zR d 20 Q 3 lv st μ ↔ zB (zC d) Q (zR d 20 Q) k20_3 lv st μ := zR_of rfl
theorem u20_21 {d : Nat} {Q : Int → zM → Prop} {lv st : List zV} {μ : zM} : zR d 20 Q 21 lv st μ ↔ zB (zC d) Q (zR d 20 Q) k20_21 lv st μ := zR_of rfl
theorem u20_82 {d : Nat} {Q : Int → zM → Prop} {lv st : List zV} {μ : zM} : zR d 20 Q 82 lv st μ ↔ zB (zC d) Q (zR d 20 Q) k20_82 lv st μ := zR_of rfl
theorem u20_92 {d : Nat} {Q : Int → zM → Prop} {lv st : List zV} {μ : zM} : zR d 20 Q 92 lv st μ ↔ zB (zC d) Q (zR d 20 Q) k20_92 lv st μ := zR_of rfl
theorem u20_98 {d : Nat} {Q : Int → zM → Prop} {lv st : List zV} {μ : zM} : zR d 20 Q 98 lv st μ ↔ zB (zC d) Q (zR d 20 Q) k20_98 lv st μ := zR_of rfl
theorem e21 {d : Nat} {a0 : Int} {μ : zM} {P : Int → zM → Prop} : zC (d + 1) 21 [(2, a0)] μ P ↔ zB (zC d) P (zR d 21 P) k21_0 [(2, a0), (9, 0), (9, 0), (9, 0)] [] μ := zC_of rfl rfl rfl
theorem u21_2 {d : Nat} {Q : Int → zM → Prop} {lv st : List zV} {μ : zM} : zR d 21 Q 2 lv st μ ↔ zB (zC d) Q (zR d 21 Q) k21_2 lv st μ := zR_of rfl
theorem u21_12 {d : Nat} {Q : Int → zM → Prop} {lv st : List zV} {μ : zM} : zR d 21 Q 12 lv st μ ↔ zB (zC d) Q (zR d 21 Q) k21_12 lv st μ := zR_of rfl
theorem u21_22 {d : Nat} {Q : Int → zM → Prop} {lv st : List zV} {μ : zM} : zR d 21 Q 22 lv st μ ↔ zB (zC d) Q (zR d 21 Q) k21_22 lv st μ := zR_of rfl
theorem u21_54 {d : Nat} {Q : Int → zM → Prop} {lv st : List zV} {μ : zM} : zR d 21 Q 54 lv st μ ↔ zB (zC d) Q (zR d 21 Q) k21_54 lv st μ := zR_of rfl
theorem u21_60 {d : Nat} {Q : Int → zM → Prop} {lv st : List zV} {μ : zM} : zR d 21 Q 60 lv st μ ↔ zB (zC d) Q (zR d 21 Q) k21_60 lv st μ := zR_of rfl
theorem u21_66 {d : Nat} {Q : Int → zM → Prop} {lv st : List zV} {μ : zM} : zR d 21 Q 66 lv st μ ↔ zB (zC d) Q (zR d 21 Q) k21_66 lv st μ := zR_of rfl
theorem u21_72 {d : Nat} {Q : Int → zM → Prop} {lv st : List zV} {μ : zM} : zR d 21 Q 72 lv st μ ↔ zB (zC d) Q (zR d 21 Q) k21_72 lv st μ := zR_of rfl
theorem e22 {d : Nat} {a0 a1 : Int} {μ : zM} {P : Int → zM → Prop} : zC (d + 1) 22 [(2, a0), (0, a1)] μ P ↔ zB (zC d) P (zR d 22 P) k22_0 [(2, a0), (0, a1), (9, 0), (9, 0)] [] μ := zC_of rfl rfl rfl
theorem u22_5 {d : Nat} {Q : Int → zM → Prop} {lv st : List zV} {μ : zM} : zR d 22 Q 5 lv st μ ↔ zB (zC d) Q (zR d 22 Q) k22_5 lv st μ := zR_of rfl
theorem u22_40 {d : Nat} {Q : Int → zM → Prop} {lv st : List zV} {μ : zM} : zR d 22 Q 40 lv st μ ↔ zB (zC d) Q (zR d 22 Q) k22_40 lv st μ := zR_of rfl
theorem u22_43 {d : Nat} {Q : Int → zM → Prop} {lv st : List zV} {μ : zM} : zR d 22 Q 43 lv st μ ↔ zB (zC d) Q (zR d 22 Q) k22_43 lv st μ := zR_of rfl
theorem u22_45 {d : Nat} {Q : Int → zM → Prop} {lv st : List zV} {μ : zM} : zR d 22 Q 45 lv st μ ↔ zB (zC d) Q (zR d 22 Q) k22_45 lv st μ := zR_of rfl
theorem u22_51 {d : Nat} {Q : Int → zM → Prop} {lv st : List zV} {μ : zM} : zR d 22 Q 51 lv st μ ↔ zB (zC d) Q (zR d 22 Q) k22_51 lv st μ := zR_of rfl
theorem e23 {d : Nat} {a0 a1 a2 a3 : Int} {μ : zM} {P : Int → zM → Prop} : zC (d + 1) 23 [(2, a0), (2, a1), (2, a2), (2, a3)] μ P ↔ zB (zC d) P (zR d 23 P) k23_0 [(2, a0), (2, a1), (2, a2), (2, a3), (9, 0), (9, 0), (9, 0), (9, 0), (9, 0)] [] μ := zC_of rfl rfl rfl
theorem u23_8 {d : Nat} {Q : Int → zM → Prop} {lv st : List zV} {μ : zM} : zR d 23 Q 8 lv st μ ↔ zB (zC d) Q (zR d 23 Q) k23_8 lv st μ := zR_of rfl
theorem u23_20 {d : Nat} {Q : Int → zM → Prop} {lv st : List zV} {μ : zM} : zR d 23 Q 20 lv st μ ↔ zB (zC d) Q (zR d 23 Q) k23_20 lv st μ := zR_of rfl
theorem u23_43 {d : Nat} {Q : Int → zM → Prop} {lv st : List zV} {μ : zM} : zR d 23 Q 43 lv st μ ↔ zB (zC d) Q (zR d 23 Q) k23_43 lv st μ := zR_of rfl
theorem u23_86 {d : Nat} {Q : Int → zM → Prop} {lv st : List zV} {μ : zM} : zR d 23 Q 86 lv st μ ↔ zB (zC d) Q (zR d 23 Q) k23_86 lv st μ := zR_of rfl
theorem u23_92 {d : Nat} {Q : Int → zM → Prop} {lv st : List zV} {μ : zM} : zR d 23 Q 92 lv st μ ↔ zB (zC d) Q (zR d 23 Q) k23_92 lv st μ := zR_of rfl
theorem u23_98 {d : Nat} {Q : Int → zM → Prop} {lv st : List zV} {μ : zM} : zR d 23 Q 98 lv st μ ↔ zB (zC d) Q (zR d 23 Q) k23_98 lv st μ := zR_of rfl
theorem e24 {d : Nat} {a0 a1 a2 : Int} {μ : zM} {P : Int → zM → Prop} : zC (d + 1) 24 [(2, a0), (0, a1), (0, a2)] μ P ↔ zB (zC d) P (zR d 24 P) k24_0 [(2, a0), (0, a1), (0, a2), (9, 0), (9, 0)] [] μ := zC_of rfl rfl rfl
theorem u24_5 {d : Nat} {Q : Int → zM → Prop} {lv st : List zV} {μ : zM} : zR d 24 Q 5 lv st μ ↔ zB (zC d) Q (zR d 24 Q) k24_5 lv st μ := zR_of rfl
theorem u24_32 {d : Nat} {Q : Int → zM → Prop} {lv st : List zV} {μ : zM} : zR d 24 Q 32 lv st μ ↔ zB (zC d) Q (zR d 24 Q) k24_32 lv st μ := zR_of rfl
theorem u24_38 {d : Nat} {Q : Int → zM → Prop} {lv st : List zV} {μ : zM} : zR d 24 Q 38 lv st μ ↔ zB (zC d) Q (zR d 24 Q) k24_38 lv st μ := zR_of rfl
theorem e25 {d : Nat} {a0 a1 a2 : Int} {μ : zM} {P : Int → zM → Prop} : zC (d + 1) 25 [(2, a0), (0, a1), (0, a2)] μ P ↔ zB (zC d) P (zR d 25 P) k25_0 [(2, a0), (0, a1), (0, a2), (9, 0), (9, 0)] [] μ := zC_of rfl rfl rfl
theorem u25_5 {d : Nat} {Q : Int → zM → Prop} {lv st : List zV} {μ : zM} : zR d 25 Q 5 lv st μ ↔ zB (zC d) Q (zR d 25 Q) k25_5 lv st μ := zR_of rfl
theorem u25_34 {d : Nat} {Q : Int → zM → Prop} {lv st : List zV} {μ : zM} : zR d 25 Q 34 lv st μ ↔ zB (zC d) Q (zR d 25 Q) k25_34 lv st μ := zR_of rfl
theorem u25_40 {d : Nat} {Q : Int → zM → Prop} {lv st : List zV} {μ : zM} : zR d 25 Q 40 lv st μ ↔ zB (zC d) Q (zR d 25 Q) k25_40 lv st μ := zR_of rfl
theorem e26 {d : Nat} {a0 a1 : Int} {μ : zM} {P : Int → zM → Prop} : zC (d + 1) 26 [(2, a0), (0, a1)] μ P ↔ zB (zC d) P (zR d 26 P) k26_0 [(2, a0), (0, a1), (9, 0), (9, 0)] [] μ := zC_of rfl rfl rfl
theorem u26_4 {d : Nat} {Q : Int → zM → Prop} {lv st : List zV} {μ : zM} : zR d 26 Q 4 lv st μ ↔ zB (zC d) Q (zR d 26 Q) k26_4 lv st μ := zR_of rfl
theorem u26_30 {d : Nat} {Q : Int → zM → Prop} {lv st : List zV} {μ : zM} : zR d 26 Q 30 lv st μ ↔ zB (zC d) Q (zR d 26 Q) k26_30 lv st μ := zR_of rfl
theorem u26_36 {d : Nat} {Q : Int → zM → Prop} {lv st : List zV} {μ : zM} : zR d 26 Q 36 lv st μ ↔ zB (zC d) Q (zR d 26 Q) k26_36 lv st μ := zR_of rfl
theorem e27 {d : Nat} {a0 a1 : Int} {μ : zM} {P : Int → zM → Prop} : zC (d + 1) 27 [(2, a0), (0, a1)] μ P ↔ zB (zC d) P (zR d 27 P) k27_0 [(2, a0), (0, a1)] [] μ := zC_of rfl rfl rfl
theorem u27_20 {d : Nat} {Q : Int → zM → Prop} {lv st : List zV} {μ : zM} : zR d 27 Q 20 lv st μ ↔ zB (zC d) Q (zR d 27 Q) k27_20 lv st μ := zR_of rfl
theorem u27_21 {d : Nat} {Q : Int → zM → Prop} {lv st : List zV} {μ : zM} : zR d 27 Q 21 lv st μ ↔ zB (zC d) Q (zR d 27 Q) k27_21 lv st μ := zR_of rfl
theorem e28 {d : Nat} {a0 a1 : Int} {μ : zM} {P : Int → zM → Prop} : zC (d + 1) 28 [(2, a0), (0, a1)] μ P ↔ zB (zC d) P (zR d 28 P) k28_0 [(2, a0), (0, a1), (9, 0), (9, 0)] [] μ := zC_of rfl rfl rfl
theorem u28_6 {d : Nat} {Q : Int → zM → Prop} {lv st : List zV} {μ : zM} : zR d 28 Q 6 lv st μ ↔ zB (zC d) Q (zR d 28 Q) k28_6 lv st μ := zR_of rfl
theorem u28_23 {d : Nat} {Q : Int → zM → Prop} {lv st : List zV} {μ : zM} : zR d 28 Q 23 lv st μ ↔ zB (zC d) Q (zR d 28 Q) k28_23 lv st μ := zR_of rfl
theorem e29 {d : Nat} {a0 a1 a2 : Int} {μ : zM} {P : Int → zM → Prop} : zC (d + 1) 29 [(2, a0), (0, a1), (0, a2)] μ P ↔ zB (zC d) P (zR d 29 P) k29_0 [(2, a0), (0, a1), (0, a2), (9, 0), (9, 0), (9, 0)] [] μ := zC_of rfl rfl rfl
theorem u29_8 {d : Nat} {Q : Int → zM → Prop} {lv st : List zV} {μ : zM} : zR d 29 Q 8 lv st μ ↔ zB (zC d) Q (zR d 29 Q) k29_8 lv st μ := zR_of rfl
theorem u29_54 {d : Nat} {Q : Int → zM → Prop} {lv st : List zV} {μ : zM} : zR d 29 Q 54 lv st μ ↔ zB (zC d) Q (zR d 29 Q) k29_54 lv st μ := zR_of rfl
theorem e30 {d : Nat} {a0 a1 : Int} {μ : zM} {P : Int → zM → Prop} : zC (d + 1) 30 [(2, a0), (2, a1)] μ P ↔ zB (zC d) P (zR d 30 P) k30_0 [(2, a0), (2, a1)] [] μ := zC_of rfl rfl rfl
theorem e31 {d : Nat} {a0 a1 a2 : Int} {μ : zM} {P : Int → zM → Prop} : zC (d + 1) 31 [(2, a0), (0, a1), (2, a2)] μ P ↔ zB (zC d) P (zR d 31 P) k31_0 [(2, a0), (0, a1), (2, a2), (9, 0)] [] μ := zC_of rfl rfl rfl
theorem u31_19 {d : Nat} {Q : Int → zM → Prop} {lv st : List zV} {μ : zM} : zR d 31 Q 19 lv st μ ↔ zB (zC d) Q (zR d 31 Q) k31_19 lv st μ := zR_of rfl
theorem u31_41 {d : Nat} {Q : Int → zM → Prop} {lv st : List zV} {μ : zM} : zR d 31 Q 41 lv st μ ↔ zB (zC d) Q (zR d 31 Q) k31_41 lv st μ := zR_of rfl
theorem u31_66 {d : Nat} {Q : Int → zM → Prop} {lv st : List zV} {μ : zM} : zR d 31 Q 66 lv st μ ↔ zB (zC d) Q (zR d 31 Q) k31_66 lv st μ := zR_of rfl
theorem u31_83 {d : Nat} {Q : Int → zM → Prop} {lv st : List zV} {μ : zM} : zR d 31 Q 83 lv st μ ↔ zB (zC d) Q (zR d 31 Q) k31_83 lv st μ := zR_of rfl
theorem u31_89 {d : Nat} {Q : Int → zM → Prop} {lv st : List zV} {μ : zM} : zR d 31 Q 89 lv st μ ↔ zB (zC d) Q (zR d 31 Q) k31_89 lv st μ := zR_of rfl
theorem e32 {d : Nat} {a0 a1 : Int} {μ : zM} {P : Int → zM → Prop} : zC (d + 1) 32 [(2, a0), (0, a1)] μ P ↔ zB (zC d) P (zR d 32 P) k32_0 [(2, a0), (0, a1)] [] μ := zC_of rfl rfl rfl
theorem u32_29 {d : Nat} {Q : Int → zM → Prop} {lv st : List zV} {μ : zM} : zR d 32 Q 29 lv st μ ↔ zB (zC d) Q (zR d 32 Q) k32_29 lv st μ := zR_of rfl
theorem u32_37 {d : Nat} {Q : Int → zM → Prop} {lv st : List zV} {μ : zM} : zR d 32 Q 37 lv st μ ↔ zB (zC d) Q (zR d 32 Q) k32_37 lv st μ := zR_of rfl
theorem e33 {d : Nat} {a0 a1 : Int} {μ : zM} {P : Int → zM → Prop} : zC (d + 1) 33 [(2, a0), (0, a1)] μ P ↔ zB (zC d) P (zR d 33 P) k33_0 [(2, a0), (0, a1), (9, 0), (9, 0)] [] μ := zC_of rfl rfl rfl
theorem u33_21 {d : Nat} {Q : Int → zM → Prop} {lv st : List zV} {μ : zM} : zR d 33 Q 21 lv st μ ↔ zB (zC d) Q (zR d 33 Q) k33_21 lv st μ := zR_of rfl
theorem u33_23 {d : Nat} {Q : Int → zM → Prop} {lv st : List zV} {μ : zM} : zR d 33 Q 23 lv st μ ↔ zB (zC d) Q (zR d 33 Q) k33_23 lv st μ := zR_of rfl
theorem u33_56 {d : Nat} {Q : Int → zM → Prop} {lv st : List zV} {μ : zM} : zR d 33 Q 56 lv st μ ↔ zB (zC d) Q (zR d 33 Q) k33_56 lv st μ := zR_of rfl
theorem u33_58 {d : Nat} {Q : Int → zM → Prop} {lv st : List zV} {μ : zM} : zR d 33 Q 58 lv st μ ↔ zB (zC d) Q (zR d 33 Q) k33_58 lv st μ := zR_of rfl
theorem e34 {d : Nat} {a0 a1 a2 a3 a4 : Int} {μ : zM} {P : Int → zM → Prop} : zC (d + 1) 34 [(2, a0), (0, a1), (0, a2), (0, a3), (0, a4)] μ P ↔ zB (zC d) P (zR d 34 P) k34_0 [(2, a0), (0, a1), (0, a2), (0, a3), (0, a4), (9, 0), (9, 0), (9, 0)] [] μ := zC_of rfl rfl rfl
theorem u34_24 {d : Nat} {Q : Int → zM → Prop} {lv st : List zV} {μ : zM} : zR d 34 Q 24 lv st μ ↔ zB (zC d) Q (zR d 34 Q) k34_24 lv st μ := zR_of rfl
theorem u34_27 {d : Nat} {Q : Int → zM → Prop} {lv st : List zV} {μ : zM} : zR d 34 Q 27 lv st μ ↔ zB (zC d) Q (zR d 34 Q) k34_27 lv st μ := zR_of rfl
theorem u34_58 {d : Nat} {Q : Int → zM → Prop} {lv st : List zV} {μ : zM} : zR d 34 Q 58 lv st μ ↔ zB (zC d) Q (zR d 34 Q) k34_58 lv st μ := zR_of rfl
theorem u34_101 {d : Nat} {Q : Int → zM → Prop} {lv st : List zV} {μ : zM} : zR d 34 Q 101 lv st μ ↔ zB (zC d) Q (zR d 34 Q) k34_101 lv st μ := zR_of rfl
theorem u34_107 {d : Nat} {Q : Int → zM → Prop} {lv st : List zV} {μ : zM} : zR d 34 Q 107 lv st μ ↔ zB (zC d) Q (zR d 34 Q) k34_107 lv st μ := zR_of rfl
theorem e35 {d : Nat} {a0 a1 a2 : Int} {μ : zM} {P : Int → zM → Prop} : zC (d + 1) 35 [(2, a0), (0, a1), (0, a2)] μ P ↔ zB (zC d) P (zR d 35 P) k35_0 [(2, a0), (0, a1), (0, a2), (9, 0), (9, 0), (9, 0)] [] μ := zC_of rfl rfl rfl
theorem u35_19 {d : Nat} {Q : Int → zM → Prop} {lv st : List zV} {μ : zM} : zR d 35 Q 19 lv st μ ↔ zB (zC d) Q (zR d 35 Q) k35_19 lv st μ := zR_of rfl
theorem u35_21 {d : Nat} {Q : Int → zM → Prop} {lv st : List zV} {μ : zM} : zR d 35 Q 21 lv st μ ↔ zB (zC d) Q (zR d 35 Q) k35_21 lv st μ := zR_of rfl
theorem u35_27 {d : Nat} {Q : Int → zM → Prop} {lv st : List zV} {μ : zM} : zR d 35 Q 27 lv st μ ↔ zB (zC d) Q (zR d 35 Q) k35_27 lv st μ := zR_of rfl
theorem u35_76 {d : Nat} {Q : Int → zM → Prop} {lv st : List zV} {μ : zM} : zR d 35 Q 76 lv st μ ↔ zB (zC d) Q (zR d 35 Q) k35_76 lv st μ := zR_of rfl
theorem e36 {d : Nat} {a0 a1 a2 : Int} {μ : zM} {P : Int → zM → Prop} : zC (d + 1) 36 [(2, a0), (0, a1), (0, a2)] μ P ↔ zB (zC d) P (zR d 36 P) k36_0 [(2, a0), (0, a1), (0, a2), (9, 0)] [] μ := zC_of rfl rfl rfl
theorem u36_23 {d : Nat} {Q : Int → zM → Prop} {lv st : List zV} {μ : zM} : zR d 36 Q 23 lv st μ ↔ zB (zC d) Q (zR d 36 Q) k36_23 lv st μ := zR_of rfl
theorem u36_25 {d : Nat} {Q : Int → zM → Prop} {lv st : List zV} {μ : zM} : zR d 36 Q 25 lv st μ ↔ zB (zC d) Q (zR d 36 Q) k36_25 lv st μ := zR_of rfl
theorem e37 {d : Nat} {a0 a1 : Int} {μ : zM} {P : Int → zM → Prop} : zC (d + 1) 37 [(2, a0), (0, a1)] μ P ↔ zB (zC d) P (zR d 37 P) k37_0 [(2, a0), (0, a1)] [] μ := zC_of rfl rfl rfl
theorem u37_10 {d : Nat} {Q : Int → zM → Prop} {lv st : List zV} {μ : zM} : zR d 37 Q 10 lv st μ ↔ zB (zC d) Q (zR d 37 Q) k37_10 lv st μ := zR_of rfl
theorem e38 {d : Nat} {a0 : Int} {μ : zM} {P : Int → zM → Prop} : zC (d + 1) 38 [(2, a0)] μ P ↔ zB (zC d) P (zR d 38 P) k38_0 [(2, a0)] [] μ := zC_of rfl rfl rfl
theorem u38_39 {d : Nat} {Q : Int → zM → Prop} {lv st : List zV} {μ : zM} : zR d 38 Q 39 lv st μ ↔ zB (zC d) Q (zR d 38 Q) k38_39 lv st μ := zR_of rfl
theorem u38_40 {d : Nat} {Q : Int → zM → Prop} {lv st : List zV} {μ : zM} : zR d 38 Q 40 lv st μ ↔ zB (zC d) Q (zR d 38 Q) k38_40 lv st μ := zR_of rfl
theorem e39 {d : Nat} {a0 a1 a2 : Int} {μ : zM} {P : Int → zM → Prop} : zC (d + 1) 39 [(2, a0), (2, a1), (0, a2)] μ P ↔ zB (zC d) P (zR d 39 P) k39_0 [(2, a0), (2, a1), (0, a2), (9, 0), (9, 0)] [] μ := zC_of rfl rfl rfl
theorem u39_22 {d : Nat} {Q : Int → zM → Prop} {lv st : List zV} {μ : zM} : zR d 39 Q 22 lv st μ ↔ zB (zC d) Q (zR d 39 Q) k39_22 lv st μ := zR_of rfl
theorem u39_44 {d : Nat} {Q : Int → zM → Prop} {lv st : List zV} {μ : zM} : zR d 39 Q 44 lv st μ ↔ zB (zC d) Q (zR d 39 Q) k39_44 lv st μ := zR_of rfl
theorem u39_46 {d : Nat} {Q : Int → zM → Prop} {lv st : List zV} {μ : zM} : zR d 39 Q 46 lv st μ ↔ zB (zC d) Q (zR d 39 Q) k39_46 lv st μ := zR_of rfl
theorem u39_67 {d : Nat} {Q : Int → zM → Prop} {lv st : List zV} {μ : zM} : zR d 39 Q 67 lv st μ ↔ zB (zC d) Q (zR d 39 Q) k39_67 lv st μ := zR_of rfl
theorem u39_99 {d : Nat} {Q : Int → zM → Prop} {lv st : List zV} {μ : zM} : zR d 39 Q 99 lv st μ ↔ zB (zC d) Q (zR d 39 Q) k39_99 lv st μ := zR_of rfl
theorem e40 {d : Nat} {a0 a1 a2 : Int} {μ : zM} {P : Int → zM → Prop} : zC (d + 1) 40 [(2, a0), (0, a1), (0, a2)] μ P ↔ zB (zC d) P (zR d 40 P) k40_0 [(2, a0), (0, a1), (0, a2), (9, 0)] [] μ := zC_of rfl rfl rfl
theorem u40_2 {d : Nat} {Q : Int → zM → Prop} {lv st : List zV} {μ : zM} : zR d 40 Q 2 lv st μ ↔ zB (zC d) Q (zR d 40 Q) k40_2 lv st μ := zR_of rfl
theorem u40_26 {d : Nat} {Q : Int → zM → Prop} {lv st : List zV} {μ : zM} : zR d 40 Q 26 lv st μ ↔ zB (zC d) Q (zR d 40 Q) k40_26 lv st μ := zR_of rfl
theorem e41 {d : Nat} {a0 a1 a2 : Int} {μ : zM} {P : Int → zM → Prop} : zC (d + 1) 41 [(2, a0), (0, a1), (0, a2)] μ P ↔ zB (zC d) P (zR d 41 P) k41_0 [(2, a0), (0, a1), (0, a2), (9, 0), (9, 0)] [] μ := zC_of rfl rfl rfl
theorem u41_2 {d : Nat} {Q : Int → zM → Prop} {lv st : List zV} {μ : zM} : zR d 41 Q 2 lv st μ ↔ zB (zC d) Q (zR d 41 Q) k41_2 lv st μ := zR_of rfl
theorem u41_45 {d : Nat} {Q : Int → zM → Prop} {lv st : List zV} {μ : zM} : zR d 41 Q 45 lv st μ ↔ zB (zC d) Q (zR d 41 Q) k41_45 lv st μ := zR_of rfl
theorem e42 {d : Nat} {a0 a1 a2 : Int} {μ : zM} {P : Int → zM → Prop} : zC (d + 1) 42 [(2, a0), (0, a1), (0, a2)] μ P ↔ zB (zC d) P (zR d 42 P) k42_0 [(2, a0), (0, a1), (0, a2), (9, 0), (9, 0)] [] μ := zC_of rfl rfl rfl
theorem u42_26 {d : Nat} {Q : Int → zM → Prop} {lv st : List zV} {μ : zM} : zR d 42 Q 26 lv st μ ↔ zB (zC d) Q (zR d 42 Q) k42_26 lv st μ := zR_of rfl
theorem u42_59 {d : Nat} {Q : Int → zM → Prop} {lv st : List zV} {μ : zM} : zR d 42 Q 59 lv st μ ↔ zB (zC d) Q (zR d 42 Q) k42_59 lv st μ := zR_of rfl
theorem u42_65 {d : Nat} {Q : Int → zM → Prop} {lv st : List zV} {μ : zM} : zR d 42 Q 65 lv st μ ↔ zB (zC d) Q (zR d 42 Q) k42_65 lv st μ := zR_of rfl
theorem e43 {d : Nat} {a0 a1 a2 a3 : Int} {μ : zM} {P : Int → zM → Prop} : zC (d + 1) 43 [(2, a0), (0, a1), (0, a2), (0, a3)] μ P ↔ zB (zC d) P (zR d 43 P) k43_0 [(2, a0), (0, a1), (0, a2), (0, a3), (9, 0)] [] μ := zC_of rfl rfl rfl
theorem u43_3 {d : Nat} {Q : Int → zM → Prop} {lv st : List zV} {μ : zM} : zR d 43 Q 3 lv st μ ↔ zB (zC d) Q (zR d 43 Q) k43_3 lv st μ := zR_of rfl
theorem u43_93 {d : Nat} {Q : Int → zM → Prop} {lv st : List zV} {μ : zM} : zR d 43 Q 93 lv st μ ↔ zB (zC d) Q (zR d 43 Q) k43_93 lv st μ := zR_of rfl
theorem e44 {d : Nat} {a0 a1 a2 a3 : Int} {μ : zM} {P : Int → zM → Prop} : zC (d + 1) 44 [(2, a0), (2, a1), (2, a2), (0, a3)] μ P ↔ zB (zC d) P (zR d 44 P) k44_0 [(2, a0), (2, a1), (2, a2), (0, a3), (9, 0), (9, 0), (9, 0), (9, 0)] [] μ := zC_of rfl rfl rfl
theorem u44_3 {d : Nat} {Q : Int → zM → Prop} {lv st : List zV} {μ : zM} : zR d 44 Q 3 lv st μ ↔ zB (zC d) Q (zR d 44 Q) k44_3 lv st μ := zR_of rfl
theorem u44_12 {d : Nat} {Q : Int → zM → Prop} {lv st : List zV} {μ : zM} : zR d 44 Q 12 lv st μ ↔ zB (zC d) Q (zR d 44 Q) k44_12 lv st μ := zR_of rfl
theorem u44_24 {d : Nat} {Q : Int → zM → Prop} {lv st : List zV} {μ : zM} : zR d 44 Q 24 lv st μ ↔ zB (zC d) Q (zR d 44 Q) k44_24 lv st μ := zR_of rfl
theorem u44_60 {d : Nat} {Q : Int → zM → Prop} {lv st : List zV} {μ : zM} : zR d 44 Q 60 lv st μ ↔ zB (zC d) Q (zR d 44 Q) k44_60 lv st μ := zR_of rfl
theorem u44_80 {d : Nat} {Q : Int → zM → Prop} {lv st : List zV} {μ : zM} : zR d 44 Q 80 lv st μ ↔ zB (zC d) Q (zR d 44 Q) k44_80 lv st μ := zR_of rfl
theorem u44_86 {d : Nat} {Q : Int → zM → Prop} {lv st : List zV} {μ : zM} : zR d 44 Q 86 lv st μ ↔ zB (zC d) Q (zR d 44 Q) k44_86 lv st μ := zR_of rfl
theorem e45 {d : Nat} {a0 a1 a2 : Int} {μ : zM} {P : Int → zM → Prop} : zC (d + 1) 45 [(2, a0), (2, a1), (0, a2)] μ P ↔ zB (zC d) P (zR d 45 P) k45_0 [(2, a0), (2, a1), (0, a2), (9, 0), (9, 0), (9, 0), (9, 0), (9, 0)] [] μ := zC_of rfl rfl rfl
theorem u45_18 {d : Nat} {Q : Int → zM → Prop} {lv st : List zV} {μ : zM} : zR d 45 Q 18 lv st μ ↔ zB (zC d) Q (zR d 45 Q) k45_18 lv st μ := zR_of rfl
theorem u45_48 {d : Nat} {Q : Int → zM → Prop} {lv st : List zV} {μ : zM} : zR d 45 Q 48 lv st μ ↔ zB (zC d) Q (zR d 45 Q) k45_48 lv st μ := zR_of rfl
theorem u45_50 {d : Nat} {Q : Int → zM → Prop} {lv st : List zV} {μ : zM} : zR d 45 Q 50 lv st μ ↔ zB (zC d) Q (zR d 45 Q) k45_50 lv st μ := zR_of rfl
theorem u45_85 {d : Nat} {Q : Int → zM → Prop} {lv st : List zV} {μ : zM} : zR d 45 Q 85 lv st μ ↔ zB (zC d) Q (zR d 45 Q) k45_85 lv st μ := zR_of rfl
theorem u45_95 {d : Nat} {Q : Int → zM → Prop} {lv st : List zV} {μ : zM} : zR d 45 Q 95 lv st μ ↔ zB (zC d) Q (zR d 45 Q) k45_95 lv st μ := zR_of rfl
theorem e46 {d : Nat} {a0 a1 a2 : Int} {μ : zM} {P : Int → zM → Prop} : zC (d + 1) 46 [(2, a0), (0, a1), (0, a2)] μ P ↔ zB (zC d) P (zR d 46 P) k46_0 [(2, a0), (0, a1), (0, a2), (9, 0), (9, 0)] [] μ := zC_of rfl rfl rfl
theorem u46_5 {d : Nat} {Q : Int → zM → Prop} {lv st : List zV} {μ : zM} : zR d 46 Q 5 lv st μ ↔ zB (zC d) Q (zR d 46 Q) k46_5 lv st μ := zR_of rfl
theorem u46_32 {d : Nat} {Q : Int → zM → Prop} {lv st : List zV} {μ : zM} : zR d 46 Q 32 lv st μ ↔ zB (zC d) Q (zR d 46 Q) k46_32 lv st μ := zR_of rfl
theorem u46_35 {d : Nat} {Q : Int → zM → Prop} {lv st : List zV} {μ : zM} : zR d 46 Q 35 lv st μ ↔ zB (zC d) Q (zR d 46 Q) k46_35 lv st μ := zR_of rfl
theorem u46_41 {d : Nat} {Q : Int → zM → Prop} {lv st : List zV} {μ : zM} : zR d 46 Q 41 lv st μ ↔ zB (zC d) Q (zR d 46 Q) k46_41 lv st μ := zR_of rfl
theorem e47 {d : Nat} {a0 a1 a2 a3 : Int} {μ : zM} {P : Int → zM → Prop} : zC (d + 1) 47 [(2, a0), (2, a1), (2, a2), (0, a3)] μ P ↔ zB (zC d) P (zR d 47 P) k47_0 [(2, a0), (2, a1), (2, a2), (0, a3), (9, 0), (9, 0)] [] μ := zC_of rfl rfl rfl
theorem u47_3 {d : Nat} {Q : Int → zM → Prop} {lv st : List zV} {μ : zM} : zR d 47 Q 3 lv st μ ↔ zB (zC d) Q (zR d 47 Q) k47_3 lv st μ := zR_of rfl
theorem u47_12 {d : Nat} {Q : Int → zM → Prop} {lv st : List zV} {μ : zM} : zR d 47 Q 12 lv st μ ↔ zB (zC d) Q (zR d 47 Q) k47_12 lv st μ := zR_of rfl
theorem u47_53 {d : Nat} {Q : Int → zM → Prop} {lv st : List zV} {μ : zM} : zR d 47 Q 53 lv st μ ↔ zB (zC d) Q (zR d 47 Q) k47_53 lv st μ := zR_of rfl
theorem u47_59 {d : Nat} {Q : Int → zM → Prop} {lv st : List zV} {μ : zM} : zR d 47 Q 59 lv st μ ↔ zB (zC d) Q (zR d 47 Q) k47_59 lv st μ := zR_of rfl
theorem u47_104 {d : Nat} {Q : Int → zM → Prop} {lv st : List zV} {μ : zM} : zR d 47 Q 104 lv st μ ↔ zB (zC d) Q (zR d 47 Q) k47_104 lv st μ := zR_of rfl
theorem u47_133 {d : Nat} {Q : Int → zM → Prop} {lv st : List zV} {μ : zM} : zR d 47 Q 133 lv st μ ↔ zB (zC d) Q (zR d 47 Q) k47_133 lv st μ := zR_of rfl
theorem u47_134 {d : Nat} {Q : Int → zM → Prop} {lv st : List zV} {μ : zM} : zR d 47 Q 134 lv st μ ↔ zB (zC d) Q (zR d 47 Q) k47_134 lv st μ := zR_of rfl
theorem u47_135 {d : Nat} {Q : Int → zM → Prop} {lv st : List zV} {μ : zM} : zR d 47 Q 135 lv st μ ↔ zB (zC d) Q (zR d 47 Q) k47_135 lv st μ := zR_of rfl
theorem u47_141 {d : Nat} {Q : Int → zM → Prop} {lv st : List zV} {μ : zM} : zR d 47 Q 141 lv st μ ↔ zB (zC d) Q (zR d 47 Q) k47_141 lv st μ := zR_of rfl
theorem e48 {d : Nat} {a0 a1 a2 : Int} {μ : zM} {P : Int → zM → Prop} : zC (d + 1) 48 [(2, a0), (0, a1), (0, a2)] μ P ↔ zB (zC d) P (zR d 48 P) k48_0 [(2, a0), (0, a1), (0, a2), (9, 0), (9, 0)] [] μ := zC_of rfl rfl rfl
theorem u48_2 {d : Nat} {Q : Int → zM → Prop} {lv st : List zV} {μ : zM} : zR d 48 Q 2 lv st μ ↔ zB (zC d) Q (zR d 48 Q) k48_2 lv st μ := zR_of rfl
theorem u48_10 {d : Nat} {Q : Int → zM → Prop} {lv st : List zV} {μ : zM} : zR d 48 Q 10 lv st μ ↔ zB (zC d) Q (zR d 48 Q) k48_10 lv st μ := zR_of rfl
theorem u48_48 {d : Nat} {Q : Int → zM → Prop} {lv st : List zV} {μ : zM} : zR d 48 Q 48 lv st μ ↔ zB (zC d) Q (zR d 48 Q) k48_48 lv st μ := zR_of rfl
theorem u48_54 {d : Nat} {Q : Int → zM → Prop} {lv st : List zV} {μ : zM} : zR d 48 Q 54 lv st μ ↔ zB (zC d) Q (zR d 48 Q) k48_54 lv st μ := zR_of rfl
theorem u48_60 {d : Nat} {Q : Int → zM → Prop} {lv st : List zV} {μ : zM} : zR d 48 Q 60 lv st μ ↔ zB (zC d) Q (zR d 48 Q) k48_60 lv st μ := zR_of rfl
theorem e49 {d : Nat} {a0 a1 : Int} {μ : zM} {P : Int → zM → Prop} : zC (d + 1) 49 [(2, a0), (0, a1)] μ P ↔ zB (zC d) P (zR d 49 P) k49_0 [(2, a0), (0, a1), (9, 0), (9, 0)] [] μ := zC_of rfl rfl rfl
theorem u49_2 {d : Nat} {Q : Int → zM → Prop} {lv st : List zV} {μ : zM} : zR d 49 Q 2 lv st μ ↔ zB (zC d) Q (zR d 49 Q) k49_2 lv st μ := zR_of rfl
theorem u49_9 {d : Nat} {Q : Int → zM → Prop} {lv st : List zV} {μ : zM} : zR d 49 Q 9 lv st μ ↔ zB (zC d) Q (zR d 49 Q) k49_9 lv st μ := zR_of rfl
theorem u49_29 {d : Nat} {Q : Int → zM → Prop} {lv st : List zV} {μ : zM} : zR d 49 Q 29 lv st μ ↔ zB (zC d) Q (zR d 49 Q) k49_29 lv st μ := zR_of rfl
theorem u49_35 {d : Nat} {Q : Int → zM → Prop} {lv st : List zV} {μ : zM} : zR d 49 Q 35 lv st μ ↔ zB (zC d) Q (zR d 49 Q) k49_35 lv st μ := zR_of rfl
theorem u49_41 {d : Nat} {Q : Int → zM → Prop} {lv st : List zV} {μ : zM} : zR d 49 Q 41 lv st μ ↔ zB (zC d) Q (zR d 49 Q) k49_41 lv st μ := zR_of rfl
theorem e50 {d : Nat} {a0 a1 a2 : Int} {μ : zM} {P : Int → zM → Prop} : zC (d + 1) 50 [(2, a0), (0, a1), (0, a2)] μ P ↔ zB (zC d) P (zR d 50 P) k50_0 [(2, a0), (0, a1), (0, a2), (9, 0)] [] μ := zC_of rfl rfl rfl
theorem u50_13 {d : Nat} {Q : Int → zM → Prop} {lv st : List zV} {μ : zM} : zR d 50 Q 13 lv st μ ↔ zB (zC d) Q (zR d 50 Q) k50_13 lv st μ := zR_of rfl
theorem u50_24 {d : Nat} {Q : Int → zM → Prop} {lv st : List zV} {μ : zM} : zR d 50 Q 24 lv st μ ↔ zB (zC d) Q (zR d 50 Q) k50_24 lv st μ := zR_of rfl
theorem u50_39 {d : Nat} {Q : Int → zM → Prop} {lv st : List zV} {μ : zM} : zR d 50 Q 39 lv st μ ↔ zB (zC d) Q (zR d 50 Q) k50_39 lv st μ := zR_of rfl
theorem u50_55 {d : Nat} {Q : Int → zM → Prop} {lv st : List zV} {μ : zM} : zR d 50 Q 55 lv st μ ↔ zB (zC d) Q (zR d 50 Q) k50_55 lv st μ := zR_of rfl
theorem u50_63 {d : Nat} {Q : Int → zM → Prop} {lv st : List zV} {μ : zM} : zR d 50 Q 63 lv st μ ↔ zB (zC d) Q (zR d 50 Q) k50_63 lv st μ := zR_of rfl
theorem e51 {d : Nat} {a0 a1 : Int} {μ : zM} {P : Int → zM → Prop} : zC (d + 1) 51 [(2, a0), (0, a1)] μ P ↔ zB (zC d) P (zR d 51 P) k51_0 [(2, a0), (0, a1)] [] μ := zC_of rfl rfl rfl
theorem u51_28 {d : Nat} {Q : Int → zM → Prop} {lv st : List zV} {μ : zM} : zR d 51 Q 28 lv st μ ↔ zB (zC d) Q (zR d 51 Q) k51_28 lv st μ := zR_of rfl
theorem u51_36 {d : Nat} {Q : Int → zM → Prop} {lv st : List zV} {μ : zM} : zR d 51 Q 36 lv st μ ↔ zB (zC d) Q (zR d 51 Q) k51_36 lv st μ := zR_of rfl
theorem u51_44 {d : Nat} {Q : Int → zM → Prop} {lv st : List zV} {μ : zM} : zR d 51 Q 44 lv st μ ↔ zB (zC d) Q (zR d 51 Q) k51_44 lv st μ := zR_of rfl
theorem u51_52 {d : Nat} {Q : Int → zM → Prop} {lv st : List zV} {μ : zM} : zR d 51 Q 52 lv st μ ↔ zB (zC d) Q (zR d 51 Q) k51_52 lv st μ := zR_of rfl
theorem e52 {d : Nat} {a0 a1 a2 a3 a4 : Int} {μ : zM} {P : Int → zM → Prop} : zC (d + 1) 52 [(2, a0), (0, a1), (0, a2), (0, a3), (0, a4)] μ P ↔ zB (zC d) P (zR d 52 P) k52_0 [(2, a0), (0, a1), (0, a2), (0, a3), (0, a4), (9, 0)] [] μ := zC_of rfl rfl rfl
theorem u52_11 {d : Nat} {Q : Int → zM → Prop} {lv st : List zV} {μ : zM} : zR d 52 Q 11 lv st μ ↔ zB (zC d) Q (zR d 52 Q) k52_11 lv st μ := zR_of rfl
theorem u52_23 {d : Nat} {Q : Int → zM → Prop} {lv st : List zV} {μ : zM} : zR d 52 Q 23 lv st μ ↔ zB (zC d) Q (zR d 52 Q) k52_23 lv st μ := zR_of rfl
theorem u52_26 {d : Nat} {Q : Int → zM → Prop} {lv st : List zV} {μ : zM} : zR d 52 Q 26 lv st μ ↔ zB (zC d) Q (zR d 52 Q) k52_26 lv st μ := zR_of rfl
theorem e53 {d : Nat} {a0 a1 : Int} {μ : zM} {P : Int → zM → Prop} : zC (d + 1) 53 [(2, a0), (0, a1)] μ P ↔ zB (zC d) P (zR d 53 P) k53_0 [(2, a0), (0, a1)] [] μ := zC_of rfl rfl rfl
theorem u53_11 {d : Nat} {Q : Int → zM → Prop} {lv st : List zV} {μ : zM} : zR d 53 Q 11 lv st μ ↔ zB (zC d) Q (zR d 53 Q) k53_11 lv st μ := zR_of rfl
theorem u53_14 {d : Nat} {Q : Int → zM → Prop} {lv st : List zV} {μ : zM} : zR d 53 Q 14 lv st μ ↔ zB (zC d) Q (zR d 53 Q) k53_14 lv st μ := zR_of rfl
theorem u53_29 {d : Nat} {Q : Int → zM → Prop} {lv st : List zV} {μ : zM} : zR d 53 Q 29 lv st μ ↔ zB (zC d) Q (zR d 53 Q) k53_29 lv st μ := zR_of rfl
theorem e54 {d : Nat} {a0 : Int} {μ : zM} {P : Int → zM → Prop} : zC (d + 1) 54 [(2, a0)] μ P ↔ zB (zC d) P (zR d 54 P) k54_0 [(2, a0), (9, 0)] [] μ := zC_of rfl rfl rfl
theorem e55 {d : Nat} {a0 a1 a2 a3 : Int} {μ : zM} {P : Int → zM → Prop} : zC (d + 1) 55 [(2, a0), (0, a1), (0, a2), (0, a3)] μ P ↔ zB (zC d) P (zR d 55 P) k55_0 [(2, a0), (0, a1), (0, a2), (0, a3)] [] μ := zC_of rfl rfl rfl
theorem u55_23 {d : Nat} {Q : Int → zM → Prop} {lv st : List zV} {μ : zM} : zR d 55 Q 23 lv st μ ↔ zB (zC d) Q (zR d 55 Q) k55_23 lv st μ := zR_of rfl
theorem u55_24 {d : Nat} {Q : Int → zM → Prop} {lv st : List zV} {μ : zM} : zR d 55 Q 24 lv st μ ↔ zB (zC d) Q (zR d 55 Q) k55_24 lv st μ := zR_of rfl
theorem e56 {d : Nat} {a0 a1 : Int} {μ : zM} {P : Int → zM → Prop} : zC (d + 1) 56 [(2, a0), (0, a1)] μ P ↔ zB (zC d) P (zR d 56 P) k56_0 [(2, a0), (0, a1)] [] μ := zC_of rfl rfl rfl
theorem u56_28 {d : Nat} {Q : Int → zM → Prop} {lv st : List zV} {μ : zM} : zR d 56 Q 28 lv st μ ↔ zB (zC d) Q (zR d 56 Q) k56_28 lv st μ := zR_of rfl
theorem u56_36 {d : Nat} {Q : Int → zM → Prop} {lv st : List zV} {μ : zM} : zR d 56 Q 36 lv st μ ↔ zB (zC d) Q (zR d 56 Q) k56_36 lv st μ := zR_of rfl
theorem u56_44 {d : Nat} {Q : Int → zM → Prop} {lv st : List zV} {μ : zM} : zR d 56 Q 44 lv st μ ↔ zB (zC d) Q (zR d 56 Q) k56_44 lv st μ := zR_of rfl
theorem e57 {d : Nat} {a0 a1 : Int} {μ : zM} {P : Int → zM → Prop} : zC (d + 1) 57 [(2, a0), (0, a1)] μ P ↔ zB (zC d) P (zR d 57 P) k57_0 [(2, a0), (0, a1)] [] μ := zC_of rfl rfl rfl
theorem u57_19 {d : Nat} {Q : Int → zM → Prop} {lv st : List zV} {μ : zM} : zR d 57 Q 19 lv st μ ↔ zB (zC d) Q (zR d 57 Q) k57_19 lv st μ := zR_of rfl
theorem u57_20 {d : Nat} {Q : Int → zM → Prop} {lv st : List zV} {μ : zM} : zR d 57 Q 20 lv st μ ↔ zB (zC d) Q (zR d 57 Q) k57_20 lv st μ := zR_of rfl
theorem e58 {d : Nat} {a0 a1 a2 a3 : Int} {μ : zM} {P : Int → zM → Prop} : zC (d + 1) 58 [(2, a0), (0, a1), (0, a2), (0, a3)] μ P ↔ zB (zC d) P (zR d 58 P) k58_0 [(2, a0), (0, a1), (0, a2), (0, a3), (9, 0)] [] μ := zC_of rfl rfl rfl
theorem u58_26 {d : Nat} {Q : Int → zM → Prop} {lv st : List zV} {μ : zM} : zR d 58 Q 26 lv st μ ↔ zB (zC d) Q (zR d 58 Q) k58_26 lv st μ := zR_of rfl
theorem u58_30 {d : Nat} {Q : Int → zM → Prop} {lv st : List zV} {μ : zM} : zR d 58 Q 30 lv st μ ↔ zB (zC d) Q (zR d 58 Q) k58_30 lv st μ := zR_of rfl
theorem u58_51 {d : Nat} {Q : Int → zM → Prop} {lv st : List zV} {μ : zM} : zR d 58 Q 51 lv st μ ↔ zB (zC d) Q (zR d 58 Q) k58_51 lv st μ := zR_of rfl
theorem u58_96 {d : Nat} {Q : Int → zM → Prop} {lv st : List zV} {μ : zM} : zR d 58 Q 96 lv st μ ↔ zB (zC d) Q (zR d 58 Q) k58_96 lv st μ := zR_of rfl
theorem e59 {d : Nat} {a0 a1 : Int} {μ : zM} {P : Int → zM → Prop} : zC (d + 1) 59 [(2, a0), (0, a1)] μ P ↔ zB (zC d) P (zR d 59 P) k59_0 [(2, a0), (0, a1), (9, 0)] [] μ := zC_of rfl rfl rfl
theorem u59_9 {d : Nat} {Q : Int → zM → Prop} {lv st : List zV} {μ : zM} : zR d 59 Q 9 lv st μ ↔ zB (zC d) Q (zR d 59 Q) k59_9 lv st μ := zR_of rfl
theorem u59_64 {d : Nat} {Q : Int → zM → Prop} {lv st : List zV} {μ : zM} : zR d 59 Q 64 lv st μ ↔ zB (zC d) Q (zR d 59 Q) k59_64 lv st μ := zR_of rfl
theorem e60 {d : Nat} {a0 a1 a2 : Int} {μ : zM} {P : Int → zM → Prop} : zC (d + 1) 60 [(2, a0), (0, a1), (0, a2)] μ P ↔ zB (zC d) P (zR d 60 P) k60_0 [(2, a0), (0, a1), (0, a2)] [] μ := zC_of rfl rfl rfl
theorem u60_31 {d : Nat} {Q : Int → zM → Prop} {lv st : List zV} {μ : zM} : zR d 60 Q 31 lv st μ ↔ zB (zC d) Q (zR d 60 Q) k60_31 lv st μ := zR_of rfl
theorem u60_32 {d : Nat} {Q : Int → zM → Prop} {lv st : List zV} {μ : zM} : zR d 60 Q 32 lv st μ ↔ zB (zC d) Q (zR d 60 Q) k60_32 lv st μ := zR_of rfl
theorem e61 {d : Nat} {a0 a1 a2 a3 : Int} {μ : zM} {P : Int → zM → Prop} : zC (d + 1) 61 [(2, a0), (0, a1), (0, a2), (0, a3)] μ P ↔ zB (zC d) P (zR d 61 P) k61_0 [(2, a0), (0, a1), (0, a2), (0, a3), (9, 0)] [] μ := zC_of rfl rfl rfl
theorem u61_16 {d : Nat} {Q : Int → zM → Prop} {lv st : List zV} {μ : zM} : zR d 61 Q 16 lv st μ ↔ zB (zC d) Q (zR d 61 Q) k61_16 lv st μ := zR_of rfl
theorem u61_27 {d : Nat} {Q : Int → zM → Prop} {lv st : List zV} {μ : zM} : zR d 61 Q 27 lv st μ ↔ zB (zC d) Q (zR d 61 Q) k61_27 lv st μ := zR_of rfl
theorem u61_30 {d : Nat} {Q : Int → zM → Prop} {lv st : List zV} {μ : zM} : zR d 61 Q 30 lv st μ ↔ zB (zC d) Q (zR d 61 Q) k61_30 lv st μ := zR_of rfl
theorem e62 {d : Nat} {a0 a1 a2 : Int} {μ : zM} {P : Int → zM → Prop} : zC (d + 1) 62 [(2, a0), (0, a1), (0, a2)] μ P ↔ zB (zC d) P (zR d 62 P) k62_0 [(2, a0), (0, a1), (0, a2), (9, 0), (9, 0)] [] μ := zC_of rfl rfl rfl
theorem u62_14 {d : Nat} {Q : Int → zM → Prop} {lv st : List zV} {μ : zM} : zR d 62 Q 14 lv st μ ↔ zB (zC d) Q (zR d 62 Q) k62_14 lv st μ := zR_of rfl
theorem u62_16 {d : Nat} {Q : Int → zM → Prop} {lv st : List zV} {μ : zM} : zR d 62 Q 16 lv st μ ↔ zB (zC d) Q (zR d 62 Q) k62_16 lv st μ := zR_of rfl
theorem u62_55 {d : Nat} {Q : Int → zM → Prop} {lv st : List zV} {μ : zM} : zR d 62 Q 55 lv st μ ↔ zB (zC d) Q (zR d 62 Q) k62_55 lv st μ := zR_of rfl
theorem u62_82 {d : Nat} {Q : Int → zM → Prop} {lv st : List zV} {μ : zM} : zR d 62 Q 82 lv st μ ↔ zB (zC d) Q (zR d 62 Q) k62_82 lv st μ := zR_of rfl
theorem u62_88 {d : Nat} {Q : Int → zM → Prop} {lv st : List zV} {μ : zM} : zR d 62 Q 88 lv st μ ↔ zB (zC d) Q (zR d 62 Q) k62_88 lv st μ := zR_of rfl
theorem u62_93 {d : Nat} {Q : Int → zM → Prop} {lv st : List zV} {μ : zM} : zR d 62 Q 93 lv st μ ↔ zB (zC d) Q (zR d 62 Q) k62_93 lv st μ := zR_of rfl
theorem u62_144 {d : Nat} {Q : Int → zM → Prop} {lv st : List zV} {μ : zM} : zR d 62 Q 144 lv st μ ↔ zB (zC d) Q (zR d 62 Q) k62_144 lv st μ := zR_of rfl
theorem e63 {d : Nat} {a0 a1 : Int} {μ : zM} {P : Int → zM → Prop} : zC (d + 1) 63 [(2, a0), (0, a1)] μ P ↔ zB (zC d) P (zR d 63 P) k63_0 [(2, a0), (0, a1)] [] μ := zC_of rfl rfl rfl
theorem u63_11 {d : Nat} {Q : Int → zM → Prop} {lv st : List zV} {μ : zM} : zR d 63 Q 11 lv st μ ↔ zB (zC d) Q (zR d 63 Q) k63_11 lv st μ := zR_of rfl
theorem u63_26 {d : Nat} {Q : Int → zM → Prop} {lv st : List zV} {μ : zM} : zR d 63 Q 26 lv st μ ↔ zB (zC d) Q (zR d 63 Q) k63_26 lv st μ := zR_of rfl
theorem u63_27 {d : Nat} {Q : Int → zM → Prop} {lv st : List zV} {μ : zM} : zR d 63 Q 27 lv st μ ↔ zB (zC d) Q (zR d 63 Q) k63_27 lv st μ := zR_of rfl
theorem e64 {d : Nat} {a0 a1 : Int} {μ : zM} {P : Int → zM → Prop} : zC (d + 1) 64 [(2, a0), (0, a1)] μ P ↔ zB (zC d) P (zR d 64 P) k64_0 [(2, a0), (0, a1), (9, 0), (9, 0)] [] μ := zC_of rfl rfl rfl
theorem u64_4 {d : Nat} {Q : Int → zM → Prop} {lv st : List zV} {μ : zM} : zR d 64 Q 4 lv st μ ↔ zB (zC d) Q (zR d 64 Q) k64_4 lv st μ := zR_of rfl
theorem u64_35 {d : Nat} {Q : Int → zM → Prop} {lv st : List zV} {μ : zM} : zR d 64 Q 35 lv st μ ↔ zB (zC d) Q (zR d 64 Q) k64_35 lv st μ := zR_of rfl
theorem u64_38 {d : Nat} {Q : Int → zM → Prop} {lv st : List zV} {μ : zM} : zR d 64 Q 38 lv st μ ↔ zB (zC d) Q (zR d 64 Q) k64_38 lv st μ := zR_of rfl
theorem u64_44 {d : Nat} {Q : Int → zM → Prop} {lv st : List zV} {μ : zM} : zR d 64 Q 44 lv st μ ↔ zB (zC d) Q (zR d 64 Q) k64_44 lv st μ := zR_of rfl
theorem u64_53 {d : Nat} {Q : Int → zM → Prop} {lv st : List zV} {μ : zM} : zR d 64 Q 53 lv st μ ↔ zB (zC d) Q (zR d 64 Q) k64_53 lv st μ := zR_of rfl
theorem u64_55 {d : Nat} {Q : Int → zM → Prop} {lv st : List zV} {μ : zM} : zR d 64 Q 55 lv st μ ↔ zB (zC d) Q (zR d 64 Q) k64_55 lv st μ := zR_of rfl
theorem e65 {d : Nat} {a0 a1 : Int} {μ : zM} {P : Int → zM → Prop} : zC (d + 1) 65 [(2, a0), (0, a1)] μ P ↔ zB (zC d) P (zR d 65 P) k65_0 [(2, a0), (0, a1)] [] μ := zC_of rfl rfl rfl
theorem u65_19 {d : Nat} {Q : Int → zM → Prop} {lv st : List zV} {μ : zM} : zR d 65 Q 19 lv st μ ↔ zB (zC d) Q (zR d 65 Q) k65_19 lv st μ := zR_of rfl
theorem u65_21 {d : Nat} {Q : Int → zM → Prop} {lv st : List zV} {μ : zM} : zR d 65 Q 21 lv st μ ↔ zB (zC d) Q (zR d 65 Q) k65_21 lv st μ := zR_of rfl
theorem e66 {d : Nat} {a0 a1 a2 : Int} {μ : zM} {P : Int → zM → Prop} : zC (d + 1) 66 [(2, a0), (0, a1), (0, a2)] μ P ↔ zB (zC d) P (zR d 66 P) k66_0 [(2, a0), (0, a1), (0, a2), (9, 0)] [] μ := zC_of rfl rfl rfl
theorem u66_13 {d : Nat} {Q : Int → zM → Prop} {lv st : List zV} {μ : zM} : zR d 66 Q 13 lv st μ ↔ zB (zC d) Q (zR d 66 Q) k66_13 lv st μ := zR_of rfl
theorem u66_27 {d : Nat} {Q : Int → zM → Prop} {lv st : List zV} {μ : zM} : zR d 66 Q 27 lv st μ ↔ zB (zC d) Q (zR d 66 Q) k66_27 lv st μ := zR_of rfl
theorem u66_49 {d : Nat} {Q : Int → zM → Prop} {lv st : List zV} {μ : zM} : zR d 66 Q 49 lv st μ ↔ zB (zC d) Q (zR d 66 Q) k66_49 lv st μ := zR_of rfl
theorem u66_51 {d : Nat} {Q : Int → zM → Prop} {lv st : List zV} {μ : zM} : zR d 66 Q 51 lv st μ ↔ zB (zC d) Q (zR d 66 Q) k66_51 lv st μ := zR_of rfl
theorem e67 {d : Nat} {a0 a1 : Int} {μ : zM} {P : Int → zM → Prop} : zC (d + 1) 67 [(2, a0), (0, a1)] μ P ↔ zB (zC d) P (zR d 67 P) k67_0 [(2, a0), (0, a1), (9, 0), (9, 0), (9, 0), (9, 0)] [] μ := zC_of rfl rfl rfl
theorem u67_16 {d : Nat} {Q : Int → zM → Prop} {lv st : List zV} {μ : zM} : zR d 67 Q 16 lv st μ ↔ zB (zC d) Q (zR d 67 Q) k67_16 lv st μ := zR_of rfl
theorem u67_21 {d : Nat} {Q : Int → zM → Prop} {lv st : List zV} {μ : zM} : zR d 67 Q 21 lv st μ ↔ zB (zC d) Q (zR d 67 Q) k67_21 lv st μ := zR_of rfl
theorem u67_56 {d : Nat} {Q : Int → zM → Prop} {lv st : List zV} {μ : zM} : zR d 67 Q 56 lv st μ ↔ zB (zC d) Q (zR d 67 Q) k67_56 lv st μ := zR_of rfl
theorem e68 {d : Nat} {a0 a1 a2 a3 : Int} {μ : zM} {P : Int → zM → Prop} : zC (d + 1) 68 [(2, a0), (0, a1), (0, a2), (0, a3)] μ P ↔ zB (zC d) P (zR d 68 P) k68_0 [(2, a0), (0, a1), (0, a2), (0, a3), (9, 0), (9, 0), (9, 0), (9, 0)] [] μ := zC_of rfl rfl rfl
theorem u68_12 {d : Nat} {Q : Int → zM → Prop} {lv st : List zV} {μ : zM} : zR d 68 Q 12 lv st μ ↔ zB (zC d) Q (zR d 68 Q) k68_12 lv st μ := zR_of rfl
theorem u68_36 {d : Nat} {Q : Int → zM → Prop} {lv st : List zV} {μ : zM} : zR d 68 Q 36 lv st μ ↔ zB (zC d) Q (zR d 68 Q) k68_36 lv st μ := zR_of rfl
theorem u68_81 {d : Nat} {Q : Int → zM → Prop} {lv st : List zV} {μ : zM} : zR d 68 Q 81 lv st μ ↔ zB (zC d) Q (zR d 68 Q) k68_81 lv st μ := zR_of rfl
theorem u68_87 {d : Nat} {Q : Int → zM → Prop} {lv st : List zV} {μ : zM} : zR d 68 Q 87 lv st μ ↔ zB (zC d) Q (zR d 68 Q) k68_87 lv st μ := zR_of rfl
theorem u68_144 {d : Nat} {Q : Int → zM → Prop} {lv st : List zV} {μ : zM} : zR d 68 Q 144 lv st μ ↔ zB (zC d) Q (zR d 68 Q) k68_144 lv st μ := zR_of rfl
theorem e69 {d : Nat} {a0 a1 a2 a3 : Int} {μ : zM} {P : Int → zM → Prop} : zC (d + 1) 69 [(2, a0), (0, a1), (0, a2), (0, a3)] μ P ↔ zB (zC d) P (zR d 69 P) k69_0 [(2, a0), (0, a1), (0, a2), (0, a3), (9, 0)] [] μ := zC_of rfl rfl rfl
theorem u69_14 {d : Nat} {Q : Int → zM → Prop} {lv st : List zV} {μ : zM} : zR d 69 Q 14 lv st μ ↔ zB (zC d) Q (zR d 69 Q) k69_14 lv st μ := zR_of rfl
theorem u69_16 {d : Nat} {Q : Int → zM → Prop} {lv st : List zV} {μ : zM} : zR d 69 Q 16 lv st μ ↔ zB (zC d) Q (zR d 69 Q) k69_16 lv st μ := zR_of rfl
theorem u69_26 {d : Nat} {Q : Int → zM → Prop} {lv st : List zV} {μ : zM} : zR d 69 Q 26 lv st μ ↔ zB (zC d) Q (zR d 69 Q) k69_26 lv st μ := zR_of rfl
theorem u69_29 {d : Nat} {Q : Int → zM → Prop} {lv st : List zV} {μ : zM} : zR d 69 Q 29 lv st μ ↔ zB (zC d) Q (zR d 69 Q) k69_29 lv st μ := zR_of rfl
theorem e70 {d : Nat} {a0 a1 a2 : Int} {μ : zM} {P : Int → zM → Prop} : zC (d + 1) 70 [(2, a0), (0, a1), (0, a2)] μ P ↔ zB (zC d) P (zR d 70 P) k70_0 [(2, a0), (0, a1), (0, a2), (9, 0)] [] μ := zC_of rfl rfl rfl
theorem u70_9 {d : Nat} {Q : Int → zM → Prop} {lv st : List zV} {μ : zM} : zR d 70 Q 9 lv st μ ↔ zB (zC d) Q (zR d 70 Q) k70_9 lv st μ := zR_of rfl
theorem u70_19 {d : Nat} {Q : Int → zM → Prop} {lv st : List zV} {μ : zM} : zR d 70 Q 19 lv st μ ↔ zB (zC d) Q (zR d 70 Q) k70_19 lv st μ := zR_of rfl
theorem u70_22 {d : Nat} {Q : Int → zM → Prop} {lv st : List zV} {μ : zM} : zR d 70 Q 22 lv st μ ↔ zB (zC d) Q (zR d 70 Q) k70_22 lv st μ := zR_of rfl
theorem e71 {d : Nat} {a0 : Int} {μ : zM} {P : Int → zM → Prop} : zC (d + 1) 71 [(2, a0)] μ P ↔ zB (zC d) P (zR d 71 P) k71_0 [(2, a0), (9, 0)] [] μ := zC_of rfl rfl rfl
theorem u71_22 {d : Nat} {Q : Int → zM → Prop} {lv st : List zV} {μ : zM} : zR d 71 Q 22 lv st μ ↔ zB (zC d) Q (zR d 71 Q) k71_22 lv st μ := zR_of rfl
theorem e72 {d : Nat} {a0 a1 a2 a3 : Int} {μ : zM} {P : Int → zM → Prop} : zC (d + 1) 72 [(2, a0), (0, a1), (0, a2), (0, a3)] μ P ↔ zB (zC d) P (zR d 72 P) k72_0 [(2, a0), (0, a1), (0, a2), (0, a3), (9, 0), (9, 0), (9, 0), (9, 0), (9, 0)] [] μ := zC_of rfl rfl rfl
theorem u72_12 {d : Nat} {Q : Int → zM → Prop} {lv st : List zV} {μ : zM} : zR d 72 Q 12 lv st μ ↔ zB (zC d) Q (zR d 72 Q) k72_12 lv st μ := zR_of rfl
theorem u72_43 {d : Nat} {Q : Int → zM → Prop} {lv st : List zV} {μ : zM} : zR d 72 Q 43 lv st μ ↔ zB (zC d) Q (zR d 72 Q) k72_43 lv st μ := zR_of rfl
theorem u72_49 {d : Nat} {Q : Int → zM → Prop} {lv st : List zV} {μ : zM} : zR d 72 Q 49 lv st μ ↔ zB (zC d) Q (zR d 72 Q) k72_49 lv st μ := zR_of rfl
theorem u72_79 {d : Nat} {Q : Int → zM → Prop} {lv st : List zV} {μ : zM} : zR d 72 Q 79 lv st μ ↔ zB (zC d) Q (zR d 72 Q) k72_79 lv st μ := zR_of rfl
theorem u72_134 {d : Nat} {Q : Int → zM → Prop} {lv st : List zV} {μ : zM} : zR d 72 Q 134 lv st μ ↔ zB (zC d) Q (zR d 72 Q) k72_134 lv st μ := zR_of rfl
theorem e73 {d : Nat} {a0 a1 : Int} {μ : zM} {P : Int → zM → Prop} : zC (d + 1) 73 [(2, a0), (0, a1)] μ P ↔ zB (zC d) P (zR d 73 P) k73_0 [(2, a0), (0, a1)] [] μ := zC_of rfl rfl rfl
theorem u73_28 {d : Nat} {Q : Int → zM → Prop} {lv st : List zV} {μ : zM} : zR d 73 Q 28 lv st μ ↔ zB (zC d) Q (zR d 73 Q) k73_28 lv st μ := zR_of rfl
theorem u73_56 {d : Nat} {Q : Int → zM → Prop} {lv st : List zV} {μ : zM} : zR d 73 Q 56 lv st μ ↔ zB (zC d) Q (zR d 73 Q) k73_56 lv st μ := zR_of rfl
theorem u73_57 {d : Nat} {Q : Int → zM → Prop} {lv st : List zV} {μ : zM} : zR d 73 Q 57 lv st μ ↔ zB (zC d) Q (zR d 73 Q) k73_57 lv st μ := zR_of rfl
theorem u73_58 {d : Nat} {Q : Int → zM → Prop} {lv st : List zV} {μ : zM} : zR d 73 Q 58 lv st μ ↔ zB (zC d) Q (zR d 73 Q) k73_58 lv st μ := zR_of rfl
theorem u73_93 {d : Nat} {Q : Int → zM → Prop} {lv st : List zV} {μ : zM} : zR d 73 Q 93 lv st μ ↔ zB (zC d) Q (zR d 73 Q) k73_93 lv st μ := zR_of rfl
theorem u73_94 {d : Nat} {Q : Int → zM → Prop} {lv st : List zV} {μ : zM} : zR d 73 Q 94 lv st μ ↔ zB (zC d) Q (zR d 73 Q) k73_94 lv st μ := zR_of rfl
theorem u73_95 {d : Nat} {Q : Int → zM → Prop} {lv st : List zV} {μ : zM} : zR d 73 Q 95 lv st μ ↔ zB (zC d) Q (zR d 73 Q) k73_95 lv st μ := zR_of rfl
theorem e74 {d : Nat} {a0 a1 a2 : Int} {μ : zM} {P : Int → zM → Prop} : zC (d + 1) 74 [(2, a0), (0, a1), (0, a2)] μ P ↔ zB (zC d) P (zR d 74 P) k74_0 [(2, a0), (0, a1), (0, a2), (9, 0), (9, 0), (9, 0), (9, 0), (9, 0), (9, 0), (9, 0)] [] μ := zC_of rfl rfl rfl
theorem u74_9 {d : Nat} {Q : Int → zM → Prop} {lv st : List zV} {μ : zM} : zR d 74 Q 9 lv st μ ↔ zB (zC d) Q (zR d 74 Q) k74_9 lv st μ := zR_of rfl
theorem u74_12 {d : Nat} {Q : Int → zM → Prop} {lv st : List zV} {μ : zM} : zR d 74 Q 12 lv st μ ↔ zB (zC d) Q (zR d 74 Q) k74_12 lv st μ := zR_of rfl
theorem u74_22 {d : Nat} {Q : Int → zM → Prop} {lv st : List zV} {μ : zM} : zR d 74 Q 22 lv st μ ↔ zB (zC d) Q (zR d 74 Q) k74_22 lv st μ := zR_of rfl
theorem u74_135 {d : Nat} {Q : Int → zM → Prop} {lv st : List zV} {μ : zM} : zR d 74 Q 135 lv st μ ↔ zB (zC d) Q (zR d 74 Q) k74_135 lv st μ := zR_of rfl
theorem u74_138 {d : Nat} {Q : Int → zM → Prop} {lv st : List zV} {μ : zM} : zR d 74 Q 138 lv st μ ↔ zB (zC d) Q (zR d 74 Q) k74_138 lv st μ := zR_of rfl
theorem u74_144 {d : Nat} {Q : Int → zM → Prop} {lv st : List zV} {μ : zM} : zR d 74 Q 144 lv st μ ↔ zB (zC d) Q (zR d 74 Q) k74_144 lv st μ := zR_of rfl
theorem u74_153 {d : Nat} {Q : Int → zM → Prop} {lv st : List zV} {μ : zM} : zR d 74 Q 153 lv st μ ↔ zB (zC d) Q (zR d 74 Q) k74_153 lv st μ := zR_of rfl
theorem u74_155 {d : Nat} {Q : Int → zM → Prop} {lv st : List zV} {μ : zM} : zR d 74 Q 155 lv st μ ↔ zB (zC d) Q (zR d 74 Q) k74_155 lv st μ := zR_of rfl
theorem e75 {d : Nat} {a0 a1 a2 a3 : Int} {μ : zM} {P : Int → zM → Prop} : zC (d + 1) 75 [(2, a0), (0, a1), (0, a2), (0, a3)] μ P ↔ zB (zC d) P (zR d 75 P) k75_0 [(2, a0), (0, a1), (0, a2), (0, a3), (9, 0), (9, 0), (9, 0)] [] μ := zC_of rfl rfl rfl
theorem u75_11 {d : Nat} {Q : Int → zM → Prop} {lv st : List zV} {μ : zM} : zR d 75 Q 11 lv st μ ↔ zB (zC d) Q (zR d 75 Q) k75_11 lv st μ := zR_of rfl
theorem u75_46 {d : Nat} {Q : Int → zM → Prop} {lv st : List zV} {μ : zM} : zR d 75 Q 46 lv st μ ↔ zB (zC d) Q (zR d 75 Q) k75_46 lv st μ := zR_of rfl
theorem u75_47 {d : Nat} {Q : Int → zM → Prop} {lv st : List zV} {μ : zM} : zR d 75 Q 47 lv st μ ↔ zB (zC d) Q (zR d 75 Q) k75_47 lv st μ := zR_of rfl
theorem u75_55 {d : Nat} {Q : Int → zM → Prop} {lv st : List zV} {μ : zM} : zR d 75 Q 55 lv st μ ↔ zB (zC d) Q (zR d 75 Q) k75_55 lv st μ := zR_of rfl
theorem u75_99 {d : Nat} {Q : Int → zM → Prop} {lv st : List zV} {μ : zM} : zR d 75 Q 99 lv st μ ↔ zB (zC d) Q (zR d 75 Q) k75_99 lv st μ := zR_of rfl
theorem u75_123 {d : Nat} {Q : Int → zM → Prop} {lv st : List zV} {μ : zM} : zR d 75 Q 123 lv st μ ↔ zB (zC d) Q (zR d 75 Q) k75_123 lv st μ := zR_of rfl
theorem u75_130 {d : Nat} {Q : Int → zM → Prop} {lv st : List zV} {μ : zM} : zR d 75 Q 130 lv st μ ↔ zB (zC d) Q (zR d 75 Q) k75_130 lv st μ := zR_of rfl
theorem u75_136 {d : Nat} {Q : Int → zM → Prop} {lv st : List zV} {μ : zM} : zR d 75 Q 136 lv st μ ↔ zB (zC d) Q (zR d 75 Q) k75_136 lv st μ := zR_of rfl
theorem e76 {d : Nat} {a0 a1 a2 a3 a4 a5 : Int} {μ : zM} {P : Int → zM → Prop} : zC (d + 1) 76 [(2, a0), (0, a1), (0, a2), (0, a3), (0, a4), (0, a5)] μ P ↔ zB (zC d) P (zR d 76 P) k76_0 [(2, a0), (0, a1), (0, a2), (0, a3), (0, a4), (0, a5), (9, 0), (9, 0)] [] μ := zC_of rfl rfl rfl
theorem u76_43 {d : Nat} {Q : Int → zM → Prop} {lv st : List zV} {μ : zM} : zR d 76 Q 43 lv st μ ↔ zB (zC d) Q (zR d 76 Q) k76_43 lv st μ := zR_of rfl
theorem u76_47 {d : Nat} {Q : Int → zM → Prop} {lv st : List zV} {μ : zM} : zR d 76 Q 47 lv st μ ↔ zB (zC d) Q (zR d 76 Q) k76_47 lv st μ := zR_of rfl
theorem u76_53 {d : Nat} {Q : Int → zM → Prop} {lv st : List zV} {μ : zM} : zR d 76 Q 53 lv st μ ↔ zB (zC d) Q (zR d 76 Q) k76_53 lv st μ := zR_of rfl
theorem u76_87 {d : Nat} {Q : Int → zM → Prop} {lv st : List zV} {μ : zM} : zR d 76 Q 87 lv st μ ↔ zB (zC d) Q (zR d 76 Q) k76_87 lv st μ := zR_of rfl
theorem u76_106 {d : Nat} {Q : Int → zM → Prop} {lv st : List zV} {μ : zM} : zR d 76 Q 106 lv st μ ↔ zB (zC d) Q (zR d 76 Q) k76_106 lv st μ := zR_of rfl
theorem u76_120 {d : Nat} {Q : Int → zM → Prop} {lv st : List zV} {μ : zM} : zR d 76 Q 120 lv st μ ↔ zB (zC d) Q (zR d 76 Q) k76_120 lv st μ := zR_of rfl
theorem u76_126 {d : Nat} {Q : Int → zM → Prop} {lv st : List zV} {μ : zM} : zR d 76 Q 126 lv st μ ↔ zB (zC d) Q (zR d 76 Q) k76_126 lv st μ := zR_of rfl
theorem e77 {d : Nat} {a0 a1 a2 : Int} {μ : zM} {P : Int → zM → Prop} : zC (d + 1) 77 [(2, a0), (0, a1), (0, a2)] μ P ↔ zB (zC d) P (zR d 77 P) k77_0 [(2, a0), (0, a1), (0, a2)] [] μ := zC_of rfl rfl rfl
theorem u77_15 {d : Nat} {Q : Int → zM → Prop} {lv st : List zV} {μ : zM} : zR d 77 Q 15 lv st μ ↔ zB (zC d) Q (zR d 77 Q) k77_15 lv st μ := zR_of rfl
theorem u77_24 {d : Nat} {Q : Int → zM → Prop} {lv st : List zV} {μ : zM} : zR d 77 Q 24 lv st μ ↔ zB (zC d) Q (zR d 77 Q) k77_24 lv st μ := zR_of rfl
theorem u77_26 {d : Nat} {Q : Int → zM → Prop} {lv st : List zV} {μ : zM} : zR d 77 Q 26 lv st μ ↔ zB (zC d) Q (zR d 77 Q) k77_26 lv st μ := zR_of rfl
theorem u77_41 {d : Nat} {Q : Int → zM → Prop} {lv st : List zV} {μ : zM} : zR d 77 Q 41 lv st μ ↔ zB (zC d) Q (zR d 77 Q) k77_41 lv st μ := zR_of rfl
theorem u77_42 {d : Nat} {Q : Int → zM → Prop} {lv st : List zV} {μ : zM} : zR d 77 Q 42 lv st μ ↔ zB (zC d) Q (zR d 77 Q) k77_42 lv st μ := zR_of rfl
theorem u77_45 {d : Nat} {Q : Int → zM → Prop} {lv st : List zV} {μ : zM} : zR d 77 Q 45 lv st μ ↔ zB (zC d) Q (zR d 77 Q) k77_45 lv st μ := zR_of rfl
theorem u77_48 {d : Nat} {Q : Int → zM → Prop} {lv st : List zV} {μ : zM} : zR d 77 Q 48 lv st μ ↔ zB (zC d) Q (zR d 77 Q) k77_48 lv st μ := zR_of rfl
theorem u77_63 {d : Nat} {Q : Int → zM → Prop} {lv st : List zV} {μ : zM} : zR d 77 Q 63 lv st μ ↔ zB (zC d) Q (zR d 77 Q) k77_63 lv st μ := zR_of rfl
theorem e78 {d : Nat} {a0 a1 a2 : Int} {μ : zM} {P : Int → zM → Prop} : zC (d + 1) 78 [(2, a0), (0, a1), (0, a2)] μ P ↔ zB (zC d) P (zR d 78 P) k78_0 [(2, a0), (0, a1), (0, a2), (9, 0)] [] μ := zC_of rfl rfl rfl
theorem u78_15 {d : Nat} {Q : Int → zM → Prop} {lv st : List zV} {μ : zM} : zR d 78 Q 15 lv st μ ↔ zB (zC d) Q (zR d 78 Q) k78_15 lv st μ := zR_of rfl
theorem u78_17 {d : Nat} {Q : Int → zM → Prop} {lv st : List zV} {μ : zM} : zR d 78 Q 17 lv st μ ↔ zB (zC d) Q (zR d 78 Q) k78_17 lv st μ := zR_of rfl
theorem u78_28 {d : Nat} {Q : Int → zM → Prop} {lv st : List zV} {μ : zM} : zR d 78 Q 28 lv st μ ↔ zB (zC d) Q (zR d 78 Q) k78_28 lv st μ := zR_of rfl
theorem u78_67 {d : Nat} {Q : Int → zM → Prop} {lv st : List zV} {μ : zM} : zR d 78 Q 67 lv st μ ↔ zB (zC d) Q (zR d 78 Q) k78_67 lv st μ := zR_of rfl
theorem e79 {d : Nat} {a0 a1 : Int} {μ : zM} {P : Int → zM → Prop} : zC (d + 1) 79 [(2, a0), (0, a1)] μ P ↔ zB (zC d) P (zR d 79 P) k79_0 [(2, a0), (0, a1), (9, 0), (9, 0)] [] μ := zC_of rfl rfl rfl
theorem u79_9 {d : Nat} {Q : Int → zM → Prop} {lv st : List zV} {μ : zM} : zR d 79 Q 9 lv st μ ↔ zB (zC d) Q (zR d 79 Q) k79_9 lv st μ := zR_of rfl
theorem u79_16 {d : Nat} {Q : Int → zM → Prop} {lv st : List zV} {μ : zM} : zR d 79 Q 16 lv st μ ↔ zB (zC d) Q (zR d 79 Q) k79_16 lv st μ := zR_of rfl
theorem u79_51 {d : Nat} {Q : Int → zM → Prop} {lv st : List zV} {μ : zM} : zR d 79 Q 51 lv st μ ↔ zB (zC d) Q (zR d 79 Q) k79_51 lv st μ := zR_of rfl
theorem u79_57 {d : Nat} {Q : Int → zM → Prop} {lv st : List zV} {μ : zM} : zR d 79 Q 57 lv st μ ↔ zB (zC d) Q (zR d 79 Q) k79_57 lv st μ := zR_of rfl
theorem u79_70 {d : Nat} {Q : Int → zM → Prop} {lv st : List zV} {μ : zM} : zR d 79 Q 70 lv st μ ↔ zB (zC d) Q (zR d 79 Q) k79_70 lv st μ := zR_of rfl
theorem e80 {d : Nat} {a0 a1 : Int} {μ : zM} {P : Int → zM → Prop} : zC (d + 1) 80 [(2, a0), (0, a1)] μ P ↔ zB (zC d) P (zR d 80 P) k80_0 [(2, a0), (0, a1)] [] μ := zC_of rfl rfl rfl
theorem u80_21 {d : Nat} {Q : Int → zM → Prop} {lv st : List zV} {μ : zM} : zR d 80 Q 21 lv st μ ↔ zB (zC d) Q (zR d 80 Q) k80_21 lv st μ := zR_of rfl
theorem u80_22 {d : Nat} {Q : Int → zM → Prop} {lv st : List zV} {μ : zM} : zR d 80 Q 22 lv st μ ↔ zB (zC d) Q (zR d 80 Q) k80_22 lv st μ := zR_of rfl
theorem e81 {d : Nat} {a0 a1 a2 a3 : Int} {μ : zM} {P : Int → zM → Prop} : zC (d + 1) 81 [(2, a0), (0, a1), (0, a2), (0, a3)] μ P ↔ zB (zC d) P (zR d 81 P) k81_0 [(2, a0), (0, a1), (0, a2), (0, a3), (9, 0), (9, 0)] [] μ := zC_of rfl rfl rfl
theorem u81_23 {d : Nat} {Q : Int → zM → Prop} {lv st : List zV} {μ : zM} : zR d 81 Q 23 lv st μ ↔ zB (zC d) Q (zR d 81 Q) k81_23 lv st μ := zR_of rfl
theorem u81_25 {d : Nat} {Q : Int → zM → Prop} {lv st : List zV} {μ : zM} : zR d 81 Q 25 lv st μ ↔ zB (zC d) Q (zR d 81 Q) k81_25 lv st μ := zR_of rfl
theorem u81_37 {d : Nat} {Q : Int → zM → Prop} {lv st : List zV} {μ : zM} : zR d 81 Q 37 lv st μ ↔ zB (zC d) Q (zR d 81 Q) k81_37 lv st μ := zR_of rfl
theorem u81_40 {d : Nat} {Q : Int → zM → Prop} {lv st : List zV} {μ : zM} : zR d 81 Q 40 lv st μ ↔ zB (zC d) Q (zR d 81 Q) k81_40 lv st μ := zR_of rfl
theorem u81_74 {d : Nat} {Q : Int → zM → Prop} {lv st : List zV} {μ : zM} : zR d 81 Q 74 lv st μ ↔ zB (zC d) Q (zR d 81 Q) k81_74 lv st μ := zR_of rfl
theorem u81_75 {d : Nat} {Q : Int → zM → Prop} {lv st : List zV} {μ : zM} : zR d 81 Q 75 lv st μ ↔ zB (zC d) Q (zR d 81 Q) k81_75 lv st μ := zR_of rfl
theorem u81_99 {d : Nat} {Q : Int → zM → Prop} {lv st : List zV} {μ : zM} : zR d 81 Q 99 lv st μ ↔ zB (zC d) Q (zR d 81 Q) k81_99 lv st μ := zR_of rfl
theorem u81_105 {d : Nat} {Q : Int → zM → Prop} {lv st : List zV} {μ : zM} : zR d 81 Q 105 lv st μ ↔ zB (zC d) Q (zR d 81 Q) k81_105 lv st μ := zR_of rfl
theorem e82 {d : Nat} {a0 a1 a2 : Int} {μ : zM} {P : Int → zM → Prop} : zC (d + 1) 82 [(2, a0), (0, a1), (0, a2)] μ P ↔ zB (zC d) P (zR d 82 P) k82_0 [(2, a0), (0, a1), (0, a2), (9, 0)] [] μ := zC_of rfl rfl rfl
theorem u82_9 {d : Nat} {Q : Int → zM → Prop} {lv st : List zV} {μ : zM} : zR d 82 Q 9 lv st μ ↔ zB (zC d) Q (zR d 82 Q) k82_9 lv st μ := zR_of rfl
theorem u82_18 {d : Nat} {Q : Int → zM → Prop} {lv st : List zV} {μ : zM} : zR d 82 Q 18 lv st μ ↔ zB (zC d) Q (zR d 82 Q) k82_18 lv st μ := zR_of rfl
theorem u82_25 {d : Nat} {Q : Int → zM → Prop} {lv st : List zV} {μ : zM} : zR d 82 Q 25 lv st μ ↔ zB (zC d) Q (zR d 82 Q) k82_25 lv st μ := zR_of rfl
theorem u82_34 {d : Nat} {Q : Int → zM → Prop} {lv st : List zV} {μ : zM} : zR d 82 Q 34 lv st μ ↔ zB (zC d) Q (zR d 82 Q) k82_34 lv st μ := zR_of rfl
theorem u82_57 {d : Nat} {Q : Int → zM → Prop} {lv st : List zV} {μ : zM} : zR d 82 Q 57 lv st μ ↔ zB (zC d) Q (zR d 82 Q) k82_57 lv st μ := zR_of rfl
theorem e83 {d : Nat} {a0 a1 a2 a3 : Int} {μ : zM} {P : Int → zM → Prop} : zC (d + 1) 83 [(2, a0), (0, a1), (0, a2), (1, a3)] μ P ↔ zB (zC d) P (zR d 83 P) k83_0 [(2, a0), (0, a1), (0, a2), (1, a3), (9, 0)] [] μ := zC_of rfl rfl rfl
theorem u83_9 {d : Nat} {Q : Int → zM → Prop} {lv st : List zV} {μ : zM} : zR d 83 Q 9 lv st μ ↔ zB (zC d) Q (zR d 83 Q) k83_9 lv st μ := zR_of rfl
theorem u83_21 {d : Nat} {Q : Int → zM → Prop} {lv st : List zV} {μ : zM} : zR d 83 Q 21 lv st μ ↔ zB (zC d) Q (zR d 83 Q) k83_21 lv st μ := zR_of rfl
theorem u83_35 {d : Nat} {Q : Int → zM → Prop} {lv st : List zV} {μ : zM} : zR d 83 Q 35 lv st μ ↔ zB (zC d) Q (zR d 83 Q) k83_35 lv st μ := zR_of rfl
theorem u83_38 {d : Nat} {Q : Int → zM → Prop} {lv st : List zV} {μ : zM} : zR d 83 Q 38 lv st μ ↔ zB (zC d) Q (zR d 83 Q) k83_38 lv st μ := zR_of rfl
theorem e84 {d : Nat} {a0 a1 a2 : Int} {μ : zM} {P : Int → zM → Prop} : zC (d + 1) 84 [(2, a0), (0, a1), (0, a2)] μ P ↔ zB (zC d) P (zR d 84 P) k84_0 [(2, a0), (0, a1), (0, a2)] [] μ := zC_of rfl rfl rfl
theorem u84_21 {d : Nat} {Q : Int → zM → Prop} {lv st : List zV} {μ : zM} : zR d 84 Q 21 lv st μ ↔ zB (zC d) Q (zR d 84 Q) k84_21 lv st μ := zR_of rfl
theorem u84_25 {d : Nat} {Q : Int → zM → Prop} {lv st : List zV} {μ : zM} : zR d 84 Q 25 lv st μ ↔ zB (zC d) Q (zR d 84 Q) k84_25 lv st μ := zR_of rfl
theorem e85 {d : Nat} {a0 : Int} {μ : zM} {P : Int → zM → Prop} : zC (d + 1) 85 [(2, a0)] μ P ↔ zB (zC d) P (zR d 85 P) k85_0 [(2, a0)] [] μ := zC_of rfl rfl rfl
theorem e86 {d : Nat} {a0 : Int} {μ : zM} {P : Int → zM → Prop} : zC (d + 1) 86 [(2, a0)] μ P ↔ zB (zC d) P (zR d 86 P) k86_0 [(2, a0)] [] μ := zC_of rfl rfl rfl
theorem u86_10 {d : Nat} {Q : Int → zM → Prop} {lv st : List zV} {μ : zM} : zR d 86 Q 10 lv st μ ↔ zB (zC d) Q (zR d 86 Q) k86_10 lv st μ := zR_of rfl
theorem e87 {d : Nat} {a0 a1 : Int} {μ : zM} {P : Int → zM → Prop} : zC (d + 1) 87 [(2, a0), (0, a1)] μ P ↔ zB (zC d) P (zR d 87 P) k87_0 [(2, a0), (0, a1)] [] μ := zC_of rfl rfl rfl
theorem u87_36 {d : Nat} {Q : Int → zM → Prop} {lv st : List zV} {μ : zM} : zR d 87 Q 36 lv st μ ↔ zB (zC d) Q (zR d 87 Q) k87_36 lv st μ := zR_of rfl
theorem u87_47 {d : Nat} {Q : Int → zM → Prop} {lv st : List zV} {μ : zM} : zR d 87 Q 47 lv st μ ↔ zB (zC d) Q (zR d 87 Q) k87_47 lv st μ := zR_of rfl
theorem u87_58 {d : Nat} {Q : Int → zM → Prop} {lv st : List zV} {μ : zM} : zR d 87 Q 58 lv st μ ↔ zB (zC d) Q (zR d 87 Q) k87_58 lv st μ := zR_of rfl
theorem u87_66 {d : Nat} {Q : Int → zM → Prop} {lv st : List zV} {μ : zM} : zR d 87 Q 66 lv st μ ↔ zB (zC d) Q (zR d 87 Q) k87_66 lv st μ := zR_of rfl
theorem u87_71 {d : Nat} {Q : Int → zM → Prop} {lv st : List zV} {μ : zM} : zR d 87 Q 71 lv st μ ↔ zB (zC d) Q (zR d 87 Q) k87_71 lv st μ := zR_of rfl
theorem u87_79 {d : Nat} {Q : Int → zM → Prop} {lv st : List zV} {μ : zM} : zR d 87 Q 79 lv st μ ↔ zB (zC d) Q (zR d 87 Q) k87_79 lv st μ := zR_of rfl
theorem e88 {d : Nat} {a0 : Int} {μ : zM} {P : Int → zM → Prop} : zC (d + 1) 88 [(0, a0)] μ P ↔ zB (zC d) P (zR d 88 P) k88_0 [(0, a0)] [] μ := zC_of rfl rfl rfl
theorem u88_13 {d : Nat} {Q : Int → zM → Prop} {lv st : List zV} {μ : zM} : zR d 88 Q 13 lv st μ ↔ zB (zC d) Q (zR d 88 Q) k88_13 lv st μ := zR_of rfl
theorem u88_14 {d : Nat} {Q : Int → zM → Prop} {lv st : List zV} {μ : zM} : zR d 88 Q 14 lv st μ ↔ zB (zC d) Q (zR d 88 Q) k88_14 lv st μ := zR_of rfl
theorem e89 {d : Nat} {a0 a1 a2 : Int} {μ : zM} {P : Int → zM → Prop} : zC (d + 1) 89 [(0, a0), (0, a1), (0, a2)] μ P ↔ zB (zC d) P (zR d 89 P) k89_0 [(0, a0), (0, a1), (0, a2)] [] μ := zC_of rfl rfl rfl
theorem u89_33 {d : Nat} {Q : Int → zM → Prop} {lv st : List zV} {μ : zM} : zR d 89 Q 33 lv st μ ↔ zB (zC d) Q (zR d 89 Q) k89_33 lv st μ := zR_of rfl
theorem u89_34 {d : Nat} {Q : Int → zM → Prop} {lv st : List zV} {μ : zM} : zR d 89 Q 34 lv st μ ↔ zB (zC d) Q (zR d 89 Q) k89_34 lv st μ := zR_of rfl
theorem e90 {d : Nat} {a0 : Int} {μ : zM} {P : Int → zM → Prop} : zC (d + 1) 90 [(0, a0)] μ P ↔ zB (zC d) P (zR d 90 P) k90_0 [(0, a0)] [] μ := zC_of rfl rfl rfl
theorem u90_13 {d : Nat} {Q : Int → zM → Prop} {lv st : List zV} {μ : zM} : zR d 90 Q 13 lv st μ ↔ zB (zC d) Q (zR d 90 Q) k90_13 lv st μ := zR_of rfl
theorem u90_14 {d : Nat} {Q : Int → zM → Prop} {lv st : List zV} {μ : zM} : zR d 90 Q 14 lv st μ ↔ zB (zC d) Q (zR d 90 Q) k90_14 lv st μ := zR_of rfl
theorem e91 {d : Nat} {a0 : Int} {μ : zM} {P : Int → zM → Prop} : zC (d + 1) 91 [(0, a0)] μ P ↔ zB (zC d) P (zR d 91 P) k91_0 [(0, a0)] [] μ := zC_of rfl rfl rfl
theorem u91_13 {d : Nat} {Q : Int → zM → Prop} {lv st : List zV} {μ : zM} : zR d 91 Q 13 lv st μ ↔ zB (zC d) Q (zR d 91 Q) k91_13 lv st μ := zR_of rfl
theorem u91_14 {d : Nat} {Q : Int → zM → Prop} {lv st : List zV} {μ : zM} : zR d 91 Q 14 lv st μ ↔ zB (zC d) Q (zR d 91 Q) k91_14 lv st μ := zR_of rfl
theorem e92 {d : Nat} {a0 a1 : Int} {μ : zM} {P : Int → zM → Prop} : zC (d + 1) 92 [(0, a0), (0, a1)] μ P ↔ zB (zC d) P (zR d 92 P) k92_0 [(0, a0), (0, a1)] [] μ := zC_of rfl rfl rfl
theorem u92_28 {d : Nat} {Q : Int → zM → Prop} {lv st : List zV} {μ : zM} : zR d 92 Q 28 lv st μ ↔ zB (zC d) Q (zR d 92 Q) k92_28 lv st μ := zR_of rfl
theorem u92_41 {d : Nat} {Q : Int → zM → Prop} {lv st : List zV} {μ : zM} : zR d 92 Q 41 lv st μ ↔ zB (zC d) Q (zR d 92 Q) k92_41 lv st μ := zR_of rfl
theorem u92_42 {d : Nat} {Q : Int → zM → Prop} {lv st : List zV} {μ : zM} : zR d 92 Q 42 lv st μ ↔ zB (zC d) Q (zR d 92 Q) k92_42 lv st μ := zR_of rfl
theorem u92_43 {d : Nat} {Q : Int → zM → Prop} {lv st : List zV} {μ : zM} : zR d 92 Q 43 lv st μ ↔ zB (zC d) Q (zR d 92 Q) k92_43 lv st μ := zR_of rfl
theorem u92_57 {d : Nat} {Q : Int → zM → Prop} {lv st : List zV} {μ : zM} : zR d 92 Q 57 lv st μ ↔ zB (zC d) Q (zR d 92 Q) k92_57 lv st μ := zR_of rfl
theorem u92_58 {d : Nat} {Q : Int → zM → Prop} {lv st : List zV} {μ : zM} : zR d 92 Q 58 lv st μ ↔ zB (zC d) Q (zR d 92 Q) k92_58 lv st μ := zR_of rfl
theorem u92_59 {d : Nat} {Q : Int → zM → Prop} {lv st : List zV} {μ : zM} : zR d 92 Q 59 lv st μ ↔ zB (zC d) Q (zR d 92 Q) k92_59 lv st μ := zR_of rfl
theorem u92_73 {d : Nat} {Q : Int → zM → Prop} {lv st : List zV} {μ : zM} : zR d 92 Q 73 lv st μ ↔ zB (zC d) Q (zR d 92 Q) k92_73 lv st μ := zR_of rfl
theorem u92_74 {d : Nat} {Q : Int → zM → Prop} {lv st : List zV} {μ : zM} : zR d 92 Q 74 lv st μ ↔ zB (zC d) Q (zR d 92 Q) k92_74 lv st μ := zR_of rfl
theorem e93 {d : Nat} {a0 a1 : Int} {μ : zM} {P : Int → zM → Prop} : zC (d + 1) 93 [(2, a0), (0, a1)] μ P ↔ zB (zC d) P (zR d 93 P) k93_0 [(2, a0), (0, a1)] [] μ := zC_of rfl rfl rfl
theorem u93_19 {d : Nat} {Q : Int → zM → Prop} {lv st : List zV} {μ : zM} : zR d 93 Q 19 lv st μ ↔ zB (zC d) Q (zR d 93 Q) k93_19 lv st μ := zR_of rfl
theorem u93_20 {d : Nat} {Q : Int → zM → Prop} {lv st : List zV} {μ : zM} : zR d 93 Q 20 lv st μ ↔ zB (zC d) Q (zR d 93 Q) k93_20 lv st μ := zR_of rfl
theorem e94 {d : Nat} {a0 a1 a2 a3 : Int} {μ : zM} {P : Int → zM → Prop} : zC (d + 1) 94 [(2, a0), (0, a1), (0, a2), (0, a3)] μ P ↔ zB (zC d) P (zR d 94 P) k94_0 [(2, a0), (0, a1), (0, a2), (0, a3)] [] μ := zC_of rfl rfl rfl
theorem u94_28 {d : Nat} {Q : Int → zM → Prop} {lv st : List zV} {μ : zM} : zR d 94 Q 28 lv st μ ↔ zB (zC d) Q (zR d 94 Q) k94_28 lv st μ := zR_of rfl
theorem u94_29 {d : Nat} {Q : Int → zM → Prop} {lv st : List zV} {μ : zM} : zR d 94 Q 29 lv st μ ↔ zB (zC d) Q (zR d 94 Q) k94_29 lv st μ := zR_of rfl
theorem e95 {d : Nat} {a0 a1 : Int} {μ : zM} {P : Int → zM → Prop} : zC (d + 1) 95 [(2, a0), (0, a1)] μ P ↔ zB (zC d) P (zR d 95 P) k95_0 [(2, a0), (0, a1)] [] μ := zC_of rfl rfl rfl
theorem u95_21 {d : Nat} {Q : Int → zM → Prop} {lv st : List zV} {μ : zM} : zR d 95 Q 21 lv st μ ↔ zB (zC d) Q (zR d 95 Q) k95_21 lv st μ := zR_of rfl
theorem u95_22 {d : Nat} {Q : Int → zM → Prop} {lv st : List zV} {μ : zM} : zR d 95 Q 22 lv st μ ↔ zB (zC d) Q (zR d 95 Q) k95_22 lv st μ := zR_of rfl
theorem e96 {d : Nat} {a0 : Int} {μ : zM} {P : Int → zM → Prop} : zC (d + 1) 96 [(2, a0)] μ P ↔ zB (zC d) P (zR d 96 P) k96_0 [(2, a0)] [] μ := zC_of rfl rfl rfl
theorem e97 {d : Nat} {a0 : Int} {μ : zM} {P : Int → zM → Prop} : zC (d + 1) 97 [(2, a0)] μ P ↔ zB (zC d) P (zR d 97 P) k97_0 [(2, a0)] [] μ := zC_of rfl rfl rfl
theorem u97_23 {d : Nat} {Q : Int → zM → Prop} {lv st : List zV} {μ : zM} : zR d 97 Q 23 lv st μ ↔ zB (zC d) Q (zR d 97 Q) k97_23 lv st μ := zR_of rfl
theorem e98 {d : Nat} {a0 : Int} {μ : zM} {P : Int → zM → Prop} : zC (d + 1) 98 [(2, a0)] μ P ↔ zB (zC d) P (zR d 98 P) k98_0 [(2, a0)] [] μ := zC_of rfl rfl rfl
theorem u98_23 {d : Nat} {Q : Int → zM → Prop} {lv st : List zV} {μ : zM} : zR d 98 Q 23 lv st μ ↔ zB (zC d) Q (zR d 98 Q) k98_23 lv st μ := zR_of rfl
theorem e99 {d : Nat} {a0 a1 a2 : Int} {μ : zM} {P : Int → zM → Prop} : zC (d + 1) 99 [(2, a0), (2, a1), (0, a2)] μ P ↔ zB (zC d) P (zR d 99 P) k99_0 [(2, a0), (2, a1), (0, a2)] [] μ := zC_of rfl rfl rfl
theorem e100 {d : Nat} {a0 a1 a2 : Int} {μ : zM} {P : Int → zM → Prop} : zC (d + 1) 100 [(2, a0), (2, a1), (0, a2)] μ P ↔ zB (zC d) P (zR d 100 P) k100_0 [(2, a0), (2, a1), (0, a2), (9, 0)] [] μ := zC_of rfl rfl rfl
theorem u100_7 {d : Nat} {Q : Int → zM → Prop} {lv st : List zV} {μ : zM} : zR d 100 Q 7 lv st μ ↔ zB (zC d) Q (zR d 100 Q) k100_7 lv st μ := zR_of rfl
theorem u100_41 {d : Nat} {Q : Int → zM → Prop} {lv st : List zV} {μ : zM} : zR d 100 Q 41 lv st μ ↔ zB (zC d) Q (zR d 100 Q) k100_41 lv st μ := zR_of rfl
theorem e101 {d : Nat} {a0 a1 a2 : Int} {μ : zM} {P : Int → zM → Prop} : zC (d + 1) 101 [(2, a0), (0, a1), (0, a2)] μ P ↔ zB (zC d) P (zR d 101 P) k101_0 [(2, a0), (0, a1), (0, a2), (9, 0)] [] μ := zC_of rfl rfl rfl
theorem u101_57 {d : Nat} {Q : Int → zM → Prop} {lv st : List zV} {μ : zM} : zR d 101 Q 57 lv st μ ↔ zB (zC d) Q (zR d 101 Q) k101_57 lv st μ := zR_of rfl
theorem u101_83 {d : Nat} {Q : Int → zM → Prop} {lv st : List zV} {μ : zM} : zR d 101 Q 83 lv st μ ↔ zB (zC d) Q (zR d 101 Q) k101_83 lv st μ := zR_of rfl
theorem u101_90 {d : Nat} {Q : Int → zM → Prop} {lv st : List zV} {μ : zM} : zR d 101 Q 90 lv st μ ↔ zB (zC d) Q (zR d 101 Q) k101_90 lv st μ := zR_of rfl
theorem u101_118 {d : Nat} {Q : Int → zM → Prop} {lv st : List zV} {μ : zM} : zR d 101 Q 118 lv st μ ↔ zB (zC d) Q (zR d 101 Q) k101_118 lv st μ := zR_of rfl
theorem u101_120 {d : Nat} {Q : Int → zM → Prop} {lv st : List zV} {μ : zM} : zR d 101 Q 120 lv st μ ↔ zB (zC d) Q (zR d 101 Q) k101_120 lv st μ := zR_of rfl
theorem u101_155 {d : Nat} {Q : Int → zM → Prop} {lv st : List zV} {μ : zM} : zR d 101 Q 155 lv st μ ↔ zB (zC d) Q (zR d 101 Q) k101_155 lv st μ := zR_of rfl
theorem e102 {d : Nat} {a0 a1 a2 : Int} {μ : zM} {P : Int → zM → Prop} : zC (d + 1) 102 [(2, a0), (0, a1), (0, a2)] μ P ↔ zB (zC d) P (zR d 102 P) k102_0 [(2, a0), (0, a1), (0, a2)] [] μ := zC_of rfl rfl rfl
theorem u102_13 {d : Nat} {Q : Int → zM → Prop} {lv st : List zV} {μ : zM} : zR d 102 Q 13 lv st μ ↔ zB (zC d) Q (zR d 102 Q) k102_13 lv st μ := zR_of rfl
theorem u102_30 {d : Nat} {Q : Int → zM → Prop} {lv st : List zV} {μ : zM} : zR d 102 Q 30 lv st μ ↔ zB (zC d) Q (zR d 102 Q) k102_30 lv st μ := zR_of rfl
theorem u102_50 {d : Nat} {Q : Int → zM → Prop} {lv st : List zV} {μ : zM} : zR d 102 Q 50 lv st μ ↔ zB (zC d) Q (zR d 102 Q) k102_50 lv st μ := zR_of rfl
theorem u102_66 {d : Nat} {Q : Int → zM → Prop} {lv st : List zV} {μ : zM} : zR d 102 Q 66 lv st μ ↔ zB (zC d) Q (zR d 102 Q) k102_66 lv st μ := zR_of rfl
theorem e103 {d : Nat} {a0 a1 : Int} {μ : zM} {P : Int → zM → Prop} : zC (d + 1) 103 [(2, a0), (0, a1)] μ P ↔ zB (zC d) P (zR d 103 P) k103_0 [(2, a0), (0, a1)] [] μ := zC_of rfl rfl rfl
theorem u103_30 {d : Nat} {Q : Int → zM → Prop} {lv st : List zV} {μ : zM} : zR d 103 Q 30 lv st μ ↔ zB (zC d) Q (zR d 103 Q) k103_30 lv st μ := zR_of rfl
theorem e104 {d : Nat} {a0 a1 a2 : Int} {μ : zM} {P : Int → zM → Prop} : zC (d + 1) 104 [(0, a0), (0, a1), (0, a2)] μ P ↔ zB (zC d) P (zR d 104 P) k104_0 [(0, a0), (0, a1), (0, a2)] [] μ := zC_of rfl rfl rfl
theorem e105 {d : Nat} {a0 : Int} {μ : zM} {P : Int → zM → Prop} : zC (d + 1) 105 [(2, a0)] μ P ↔ zB (zC d) P (zR d 105 P) k105_0 [(2, a0), (9, 0), (9, 0), (9, 0), (9, 0), (9, 0)] [] μ := zC_of rfl rfl rfl
theorem u105_10 {d : Nat} {Q : Int → zM → Prop} {lv st : List zV} {μ : zM} : zR d 105 Q 10 lv st μ ↔ zB (zC d) Q (zR d 105 Q) k105_10 lv st μ := zR_of rfl
theorem u105_30 {d : Nat} {Q : Int → zM → Prop} {lv st : List zV} {μ : zM} : zR d 105 Q 30 lv st μ ↔ zB (zC d) Q (zR d 105 Q) k105_30 lv st μ := zR_of rfl
theorem u105_36 {d : Nat} {Q : Int → zM → Prop} {lv st : List zV} {μ : zM} : zR d 105 Q 36 lv st μ ↔ zB (zC d) Q (zR d 105 Q) k105_36 lv st μ := zR_of rfl
theorem e106 {d : Nat} {a0 a1 : Int} {μ : zM} {P : Int → zM → Prop} : zC (d + 1) 106 [(0, a0), (0, a1)] μ P ↔ zB (zC d) P (zR d 106 P) k106_0 [(0, a0), (0, a1), (9, 0), (9, 0), (9, 0), (9, 0)] [] μ := zC_of rfl rfl rfl
theorem u106_7 {d : Nat} {Q : Int → zM → Prop} {lv st : List zV} {μ : zM} : zR d 106 Q 7 lv st μ ↔ zB (zC d) Q (zR d 106 Q) k106_7 lv st μ := zR_of rfl
theorem u106_33 {d : Nat} {Q : Int → zM → Prop} {lv st : List zV} {μ : zM} : zR d 106 Q 33 lv st μ ↔ zB (zC d) Q (zR d 106 Q) k106_33 lv st μ := zR_of rfl
theorem e107 {d : Nat} {a0 : Int} {μ : zM} {P : Int → zM → Prop} : zC (d + 1) 107 [(0, a0)] μ P ↔ zB (zC d) P (zR d 107 P) k107_0 [(0, a0), (9, 0)] [] μ := zC_of rfl rfl rfl
theorem u107_2 {d : Nat} {Q : Int → zM → Prop} {lv st : List zV} {μ : zM} : zR d 107 Q 2 lv st μ ↔ zB (zC d) Q (zR d 107 Q) k107_2 lv st μ := zR_of rfl
theorem u107_20 {d : Nat} {Q : Int → zM → Prop} {lv st : List zV} {μ : zM} : zR d 107 Q 20 lv st μ ↔ zB (zC d) Q (zR d 107 Q) k107_20 lv st μ := zR_of rfl
theorem u107_26 {d : Nat} {Q : Int → zM → Prop} {lv st : List zV} {μ : zM} : zR d 107 Q 26 lv st μ ↔ zB (zC d) Q (zR d 107 Q) k107_26 lv st μ := zR_of rfl
theorem e108 {d : Nat} {a0 a1 a2 : Int} {μ : zM} {P : Int → zM → Prop} : zC (d + 1) 108 [(1, a0), (1, a1), (1, a2)] μ P ↔ zB (zC d) P (zR d 108 P) k108_0 [(1, a0), (9, 0), (1, a1), (9, 0), (1, a2), (9, 0)] [] μ := zC_of rfl rfl rfl
theorem u108_17 {d : Nat} {Q : Int → zM → Prop} {lv st : List zV} {μ : zM} : zR d 108 Q 17 lv st μ ↔ zB (zC d) Q (zR d 108 Q) k108_17 lv st μ := zR_of rfl
theorem u108_18 {d : Nat} {Q : Int → zM → Prop} {lv st : List zV} {μ : zM} : zR d 108 Q 18 lv st μ ↔ zB (zC d) Q (zR d 108 Q) k108_18 lv st μ := zR_of rfl
theorem e109 {d : Nat} {a0 : Int} {μ : zM} {P : Int → zM → Prop} : zC (d + 1) 109 [(0, a0)] μ P ↔ zB (zC d) P (zR d 109 P) k109_0 [(0, a0)] [] μ := zC_of rfl rfl rfl
theorem u109_8 {d : Nat} {Q : Int → zM → Prop} {lv st : List zV} {μ : zM} : zR d 109 Q 8 lv st μ ↔ zB (zC d) Q (zR d 109 Q) k109_8 lv st μ := zR_of rfl
theorem u109_9 {d : Nat} {Q : Int → zM → Prop} {lv st : List zV} {μ : zM} : zR d 109 Q 9 lv st μ ↔ zB (zC d) Q (zR d 109 Q) k109_9 lv st μ := zR_of rfl
theorem e110 {d : Nat} {a0 a1 : Int} {μ : zM} {P : Int → zM → Prop} : zC (d + 1) 110 [(2, a0), (0, a1)] μ P ↔ zB (zC d) P (zR d 110 P) k110_0 [(2, a0), (0, a1)] [] μ := zC_of rfl rfl rfl
theorem e111 {d : Nat} {a0 a1 a2 : Int} {μ : zM} {P : Int → zM → Prop} : zC (d + 1) 111 [(0, a0), (0, a1), (0, a2)] μ P ↔ zB (zC d) P (zR d 111 P) k111_0 [(0, a0), (0, a1), (0, a2)] [] μ := zC_of rfl rfl rfl
theorem e112 {d : Nat} {a0 a1 a2 : Int} {μ : zM} {P : Int → zM → Prop} : zC (d + 1) 112 [(2, a0), (0, a1), (0, a2)] μ P ↔ zB (zC d) P (zR d 112 P) k112_0 [(2, a0), (0, a1), (0, a2), (9, 0)] [] μ := zC_of rfl rfl rfl
theorem u112_14 {d : Nat} {Q : Int → zM → Prop} {lv st : List zV} {μ : zM} : zR d 112 Q 14 lv st μ ↔ zB (zC d) Q (zR d 112 Q) k112_14 lv st μ := zR_of rfl
theorem u112_33 {d : Nat} {Q : Int → zM → Prop} {lv st : List zV} {μ : zM} : zR d 112 Q 33 lv st μ ↔ zB (zC d) Q (zR d 112 Q) k112_33 lv st μ := zR_of rfl
theorem u112_53 {d : Nat} {Q : Int → zM → Prop} {lv st : List zV} {μ : zM} : zR d 112 Q 53 lv st μ ↔ zB (zC d) Q (zR d 112 Q) k112_53 lv st μ := zR_of rfl
theorem u112_65 {d : Nat} {Q : Int → zM → Prop} {lv st : List zV} {μ : zM} : zR d 112 Q 65 lv st μ ↔ zB (zC d) Q (zR d 112 Q) k112_65 lv st μ := zR_of rfl
theorem u112_68 {d : Nat} {Q : Int → zM → Prop} {lv st : List zV} {μ : zM} : zR d 112 Q 68 lv st μ ↔ zB (zC d) Q (zR d 112 Q) k112_68 lv st μ := zR_of rfl
theorem e113 {d : Nat} {a0 a1 : Int} {μ : zM} {P : Int → zM → Prop} : zC (d + 1) 113 [(2, a0), (0, a1)] μ P ↔ zB (zC d) P (zR d 113 P) k113_0 [(2, a0), (0, a1)] [] μ := zC_of rfl rfl rfl
theorem u113_21 {d : Nat} {Q : Int → zM → Prop} {lv st : List zV} {μ : zM} : zR d 113 Q 21 lv st μ ↔ zB (zC d) Q (zR d 113 Q) k113_21 lv st μ := zR_of rfl
theorem u113_22 {d : Nat} {Q : Int → zM → Prop} {lv st : List zV} {μ : zM} : zR d 113 Q 22 lv st μ ↔ zB (zC d) Q (zR d 113 Q) k113_22 lv st μ := zR_of rfl
theorem e114 {d : Nat} {a0 a1 a2 a3 a4 : Int} {μ : zM} {P : Int → zM → Prop} : zC (d + 1) 114 [(2, a0), (0, a1), (0, a2), (0, a3), (0, a4)] μ P ↔ zB (zC d) P (zR d 114 P) k114_0 [(2, a0), (0, a1), (0, a2), (0, a3), (0, a4), (9, 0)] [] μ := zC_of rfl rfl rfl
theorem u114_36 {d : Nat} {Q : Int → zM → Prop} {lv st : List zV} {μ : zM} : zR d 114 Q 36 lv st μ ↔ zB (zC d) Q (zR d 114 Q) k114_36 lv st μ := zR_of rfl
theorem u114_38 {d : Nat} {Q : Int → zM → Prop} {lv st : List zV} {μ : zM} : zR d 114 Q 38 lv st μ ↔ zB (zC d) Q (zR d 114 Q) k114_38 lv st μ := zR_of rfl
theorem u114_54 {d : Nat} {Q : Int → zM → Prop} {lv st : List zV} {μ : zM} : zR d 114 Q 54 lv st μ ↔ zB (zC d) Q (zR d 114 Q) k114_54 lv st μ := zR_of rfl
theorem e115 {d : Nat} {a0 a1 a2 a3 : Int} {μ : zM} {P : Int → zM → Prop} : zC (d + 1) 115 [(2, a0), (0, a1), (0, a2), (0, a3)] μ P ↔ zB (zC d) P (zR d 115 P) k115_0 [(2, a0), (0, a1), (0, a2), (0, a3), (9, 0), (9, 0), (9, 0)] [] μ := zC_of rfl rfl rfl
theorem u115_19 {d : Nat} {Q : Int → zM → Prop} {lv st : List zV} {μ : zM} : zR d 115 Q 19 lv st μ ↔ zB (zC d) Q (zR d 115 Q) k115_19 lv st μ := zR_of rfl
theorem u115_22 {d : Nat} {Q : Int → zM → Prop} {lv st : List zV} {μ : zM} : zR d 115 Q 22 lv st μ ↔ zB (zC d) Q (zR d 115 Q) k115_22 lv st μ := zR_of rfl
theorem u115_46 {d : Nat} {Q : Int → zM → Prop} {lv st : List zV} {μ : zM} : zR d 115 Q 46 lv st μ ↔ zB (zC d) Q (zR d 115 Q) k115_46 lv st μ := zR_of rfl
theorem u115_56 {d : Nat} {Q : Int → zM → Prop} {lv st : List zV} {μ : zM} : zR d 115 Q 56 lv st μ ↔ zB (zC d) Q (zR d 115 Q) k115_56 lv st μ := zR_of rfl
theorem u115_85 {d : Nat} {Q : Int → zM → Prop} {lv st : List zV} {μ : zM} : zR d 115 Q 85 lv st μ ↔ zB (zC d) Q (zR d 115 Q) k115_85 lv st μ := zR_of rfl
theorem u115_86 {d : Nat} {Q : Int → zM → Prop} {lv st : List zV} {μ : zM} : zR d 115 Q 86 lv st μ ↔ zB (zC d) Q (zR d 115 Q) k115_86 lv st μ := zR_of rfl
theorem e116 {d : Nat} {a0 a1 a2 a3 : Int} {μ : zM} {P : Int → zM → Prop} : zC (d + 1) 116 [(2, a0), (0, a1), (0, a2), (0, a3)] μ P ↔ zB (zC d) P (zR d 116 P) k116_0 [(2, a0), (0, a1), (0, a2), (0, a3), (9, 0)] [] μ := zC_of rfl rfl rfl
theorem u116_32 {d : Nat} {Q : Int → zM → Prop} {lv st : List zV} {μ : zM} : zR d 116 Q 32 lv st μ ↔ zB (zC d) Q (zR d 116 Q) k116_32 lv st μ := zR_of rfl
theorem u116_51 {d : Nat} {Q : Int → zM → Prop} {lv st : List zV} {μ : zM} : zR d 116 Q 51 lv st μ ↔ zB (zC d) Q (zR d 116 Q) k116_51 lv st μ := zR_of rfl
theorem u116_52 {d : Nat} {Q : Int → zM → Prop} {lv st : List zV} {μ : zM} : zR d 116 Q 52 lv st μ ↔ zB (zC d) Q (zR d 116 Q) k116_52 lv st μ := zR_of rfl
theorem u116_53 {d : Nat} {Q : Int → zM → Prop} {lv st : List zV} {μ : zM} : zR d 116 Q 53 lv st μ ↔ zB (zC d) Q (zR d 116 Q) k116_53 lv st μ := zR_of rfl
theorem u116_66 {d : Nat} {Q : Int → zM → Prop} {lv st : List zV} {μ : zM} : zR d 116 Q 66 lv st μ ↔ zB (zC d) Q (zR d 116 Q) k116_66 lv st μ := zR_of rfl
theorem u116_71 {d : Nat} {Q : Int → zM → Prop} {lv st : List zV} {μ : zM} : zR d 116 Q 71 lv st μ ↔ zB (zC d) Q (zR d 116 Q) k116_71 lv st μ := zR_of rfl
theorem u116_77 {d : Nat} {Q : Int → zM → Prop} {lv st : List zV} {μ : zM} : zR d 116 Q 77 lv st μ ↔ zB (zC d) Q (zR d 116 Q) k116_77 lv st μ := zR_of rfl
theorem u116_84 {d : Nat} {Q : Int → zM → Prop} {lv st : List zV} {μ : zM} : zR d 116 Q 84 lv st μ ↔ zB (zC d) Q (zR d 116 Q) k116_84 lv st μ := zR_of rfl
theorem u116_85 {d : Nat} {Q : Int → zM → Prop} {lv st : List zV} {μ : zM} : zR d 116 Q 85 lv st μ ↔ zB (zC d) Q (zR d 116 Q) k116_85 lv st μ := zR_of rfl
theorem e117 {d : Nat} {a0 a1 a2 a3 : Int} {μ : zM} {P : Int → zM → Prop} : zC (d + 1) 117 [(2, a0), (0, a1), (0, a2), (0, a3)] μ P ↔ zB (zC d) P (zR d 117 P) k117_0 [(2, a0), (0, a1), (0, a2), (0, a3)] [] μ := zC_of rfl rfl rfl
theorem u117_8 {d : Nat} {Q : Int → zM → Prop} {lv st : List zV} {μ : zM} : zR d 117 Q 8 lv st μ ↔ zB (zC d) Q (zR d 117 Q) k117_8 lv st μ := zR_of rfl
theorem u117_19 {d : Nat} {Q : Int → zM → Prop} {lv st : List zV} {μ : zM} : zR d 117 Q 19 lv st μ ↔ zB (zC d) Q (zR d 117 Q) k117_19 lv st μ := zR_of rfl
theorem u117_20 {d : Nat} {Q : Int → zM → Prop} {lv st : List zV} {μ : zM} : zR d 117 Q 20 lv st μ ↔ zB (zC d) Q (zR d 117 Q) k117_20 lv st μ := zR_of rfl
theorem u117_24 {d : Nat} {Q : Int → zM → Prop} {lv st : List zV} {μ : zM} : zR d 117 Q 24 lv st μ ↔ zB (zC d) Q (zR d 117 Q) k117_24 lv st μ := zR_of rfl
theorem u117_60 {d : Nat} {Q : Int → zM → Prop} {lv st : List zV} {μ : zM} : zR d 117 Q 60 lv st μ ↔ zB (zC d) Q (zR d 117 Q) k117_60 lv st μ := zR_of rfl
theorem u117_78 {d : Nat} {Q : Int → zM → Prop} {lv st : List zV} {μ : zM} : zR d 117 Q 78 lv st μ ↔ zB (zC d) Q (zR d 117 Q) k117_78 lv st μ := zR_of rfl
theorem u117_79 {d : Nat} {Q : Int → zM → Prop} {lv st : List zV} {μ : zM} : zR d 117 Q 79 lv st μ ↔ zB (zC d) Q (zR d 117 Q) k117_79 lv st μ := zR_of rfl
theorem u117_83 {d : Nat} {Q : Int → zM → Prop} {lv st : List zV} {μ : zM} : zR d 117 Q 83 lv st μ ↔ zB (zC d) Q (zR d 117 Q) k117_83 lv st μ := zR_of rfl
theorem u117_91 {d : Nat} {Q : Int → zM → Prop} {lv st : List zV} {μ : zM} : zR d 117 Q 91 lv st μ ↔ zB (zC d) Q (zR d 117 Q) k117_91 lv st μ := zR_of rfl
theorem u117_99 {d : Nat} {Q : Int → zM → Prop} {lv st : List zV} {μ : zM} : zR d 117 Q 99 lv st μ ↔ zB (zC d) Q (zR d 117 Q) k117_99 lv st μ := zR_of rfl
theorem e118 {d : Nat} {a0 a1 a2 a3 : Int} {μ : zM} {P : Int → zM → Prop} : zC (d + 1) 118 [(2, a0), (0, a1), (0, a2), (0, a3)] μ P ↔ zB (zC d) P (zR d 118 P) k118_0 [(2, a0), (0, a1), (0, a2), (0, a3)] [] μ := zC_of rfl rfl rfl
theorem u118_34 {d : Nat} {Q : Int → zM → Prop} {lv st : List zV} {μ : zM} : zR d 118 Q 34 lv st μ ↔ zB (zC d) Q (zR d 118 Q) k118_34 lv st μ := zR_of rfl
theorem u118_35 {d : Nat} {Q : Int → zM → Prop} {lv st : List zV} {μ : zM} : zR d 118 Q 35 lv st μ ↔ zB (zC d) Q (zR d 118 Q) k118_35 lv st μ := zR_of rfl
theorem e119 {d : Nat} {a0 : Int} {μ : zM} {P : Int → zM → Prop} : zC (d + 1) 119 [(2, a0)] μ P ↔ zB (zC d) P (zR d 119 P) k119_0 [(2, a0), (9, 0), (9, 0), (9, 0), (9, 0), (9, 0), (9, 0), (9, 0), (9, 0)] [] μ := zC_of rfl rfl rfl
theorem u119_9 {d : Nat} {Q : Int → zM → Prop} {lv st : List zV} {μ : zM} : zR d 119 Q 9 lv st μ ↔ zB (zC d) Q (zR d 119 Q) k119_9 lv st μ := zR_of rfl
theorem u119_16 {d : Nat} {Q : Int → zM → Prop} {lv st : List zV} {μ : zM} : zR d 119 Q 16 lv st μ ↔ zB (zC d) Q (zR d 119 Q) k119_16 lv st μ := zR_of rfl
theorem u119_24 {d : Nat} {Q : Int → zM → Prop} {lv st : List zV} {μ : zM} : zR d 119 Q 24 lv st μ ↔ zB (zC d) Q (zR d 119 Q) k119_24 lv st μ := zR_of rfl
theorem u119_33 {d : Nat} {Q : Int → zM → Prop} {lv st : List zV} {μ : zM} : zR d 119 Q 33 lv st μ ↔ zB (zC d) Q (zR d 119 Q) k119_33 lv st μ := zR_of rfl
theorem u119_48 {d : Nat} {Q : Int → zM → Prop} {lv st : List zV} {μ : zM} : zR d 119 Q 48 lv st μ ↔ zB (zC d) Q (zR d 119 Q) k119_48 lv st μ := zR_of rfl
theorem u119_108 {d : Nat} {Q : Int → zM → Prop} {lv st : List zV} {μ : zM} : zR d 119 Q 108 lv st μ ↔ zB (zC d) Q (zR d 119 Q) k119_108 lv st μ := zR_of rfl
theorem u119_135 {d : Nat} {Q : Int → zM → Prop} {lv st : List zV} {μ : zM} : zR d 119 Q 135 lv st μ ↔ zB (zC d) Q (zR d 119 Q) k119_135 lv st μ := zR_of rfl
theorem u119_141 {d : Nat} {Q : Int → zM → Prop} {lv st : List zV} {μ : zM} : zR d 119 Q 141 lv st μ ↔ zB (zC d) Q (zR d 119 Q) k119_141 lv st μ := zR_of rfl
theorem u119_147 {d : Nat} {Q : Int → zM → Prop} {lv st : List zV} {μ : zM} : zR d 119 Q 147 lv st μ ↔ zB (zC d) Q (zR d 119 Q) k119_147 lv st μ := zR_of rfl
theorem u119_153 {d : Nat} {Q : Int → zM → Prop} {lv st : List zV} {μ : zM} : zR d 119 Q 153 lv st μ ↔ zB (zC d) Q (zR d 119 Q) k119_153 lv st μ := zR_of rfl
theorem u119_159 {d : Nat} {Q : Int → zM → Prop} {lv st : List zV} {μ : zM} : zR d 119 Q 159 lv st μ ↔ zB (zC d) Q (zR d 119 Q) k119_159 lv st μ := zR_of rfl
theorem e120 {d : Nat} {a0 : Int} {μ : zM} {P : Int → zM → Prop} : zC (d + 1) 120 [(2, a0)] μ P ↔ zB (zC d) P (zR d 120 P) k120_0 [(2, a0), (9, 0), (9, 0), (9, 0)] [] μ := zC_of rfl rfl rfl
theorem u120_2 {d : Nat} {Q : Int → zM → Prop} {lv st : List zV} {μ : zM} : zR d 120 Q 2 lv st μ ↔ zB (zC d) Q (zR d 120 Q) k120_2 lv st μ := zR_of rfl
theorem u120_14 {d : Nat} {Q : Int → zM → Prop} {lv st : List zV} {μ : zM} : zR d 120 Q 14 lv st μ ↔ zB (zC d) Q (zR d 120 Q) k120_14 lv st μ := zR_of rfl
theorem u120_26 {d : Nat} {Q : Int → zM → Prop} {lv st : List zV} {μ : zM} : zR d 120 Q 26 lv st μ ↔ zB (zC d) Q (zR d 120 Q) k120_26 lv st μ := zR_of rfl
theorem u120_60 {d : Nat} {Q : Int → zM → Prop} {lv st : List zV} {μ : zM} : zR d 120 Q 60 lv st μ ↔ zB (zC d) Q (zR d 120 Q) k120_60 lv st μ := zR_of rfl
theorem u120_66 {d : Nat} {Q : Int → zM → Prop} {lv st : List zV} {μ : zM} : zR d 120 Q 66 lv st μ ↔ zB (zC d) Q (zR d 120 Q) k120_66 lv st μ := zR_of rfl
theorem u120_72 {d : Nat} {Q : Int → zM → Prop} {lv st : List zV} {μ : zM} : zR d 120 Q 72 lv st μ ↔ zB (zC d) Q (zR d 120 Q) k120_72 lv st μ := zR_of rfl
theorem u120_78 {d : Nat} {Q : Int → zM → Prop} {lv st : List zV} {μ : zM} : zR d 120 Q 78 lv st μ ↔ zB (zC d) Q (zR d 120 Q) k120_78 lv st μ := zR_of rfl
theorem e121 {d : Nat} {a0 a1 : Int} {μ : zM} {P : Int → zM → Prop} : zC (d + 1) 121 [(2, a0), (0, a1)] μ P ↔ zB (zC d) P (zR d 121 P) k121_0 [(2, a0), (0, a1)] [] μ := zC_of rfl rfl rfl
theorem u121_11 {d : Nat} {Q : Int → zM → Prop} {lv st : List zV} {μ : zM} : zR d 121 Q 11 lv st μ ↔ zB (zC d) Q (zR d 121 Q) k121_11 lv st μ := zR_of rfl
theorem u121_23 {d : Nat} {Q : Int → zM → Prop} {lv st : List zV} {μ : zM} : zR d 121 Q 23 lv st μ ↔ zB (zC d) Q (zR d 121 Q) k121_23 lv st μ := zR_of rfl
theorem u121_24 {d : Nat} {Q : Int → zM → Prop} {lv st : List zV} {μ : zM} : zR d 121 Q 24 lv st μ ↔ zB (zC d) Q (zR d 121 Q) k121_24 lv st μ := zR_of rfl
theorem e122 {d : Nat} {a0 a1 : Int} {μ : zM} {P : Int → zM → Prop} : zC (d + 1) 122 [(2, a0), (0, a1)] μ P ↔ zB (zC d) P (zR d 122 P) k122_0 [(2, a0), (0, a1), (9, 0), (9, 0), (9, 0)] [] μ := zC_of rfl rfl rfl
theorem u122_10 {d : Nat} {Q : Int → zM → Prop} {lv st : List zV} {μ : zM} : zR d 122 Q 10 lv st μ ↔ zB (zC d) Q (zR d 122 Q) k122_10 lv st μ := zR_of rfl
theorem u122_18 {d : Nat} {Q : Int → zM → Prop} {lv st : List zV} {μ : zM} : zR d 122 Q 18 lv st μ ↔ zB (zC d) Q (zR d 122 Q) k122_18 lv st μ := zR_of rfl
theorem u122_57 {d : Nat} {Q : Int → zM → Prop} {lv st : List zV} {μ : zM} : zR d 122 Q 57 lv st μ ↔ zB (zC d) Q (zR d 122 Q) k122_57 lv st μ := zR_of rfl
theorem u122_59 {d : Nat} {Q : Int → zM → Prop} {lv st : List zV} {μ : zM} : zR d 122 Q 59 lv st μ ↔ zB (zC d) Q (zR d 122 Q) k122_59 lv st μ := zR_of rfl
theorem u122_63 {d : Nat} {Q : Int → zM → Prop} {lv st : List zV} {μ : zM} : zR d 122 Q 63 lv st μ ↔ zB (zC d) Q (zR d 122 Q) k122_63 lv st μ := zR_of rfl
theorem u122_69 {d : Nat} {Q : Int → zM → Prop} {lv st : List zV} {μ : zM} : zR d 122 Q 69 lv st μ ↔ zB (zC d) Q (zR d 122 Q) k122_69 lv st μ := zR_of rfl
theorem u122_78 {d : Nat} {Q : Int → zM → Prop} {lv st : List zV} {μ : zM} : zR d 122 Q 78 lv st μ ↔ zB (zC d) Q (zR d 122 Q) k122_78 lv st μ := zR_of rfl
theorem u122_80 {d : Nat} {Q : Int → zM → Prop} {lv st : List zV} {μ : zM} : zR d 122 Q 80 lv st μ ↔ zB (zC d) Q (zR d 122 Q) k122_80 lv st μ := zR_of rfl
theorem e123 {d : Nat} {a0 a1 : Int} {μ : zM} {P : Int → zM → Prop} : zC (d + 1) 123 [(2, a0), (0, a1)] μ P ↔ zB (zC d) P (zR d 123 P) k123_0 [(2, a0), (0, a1), (9, 0)] [] μ := zC_of rfl rfl rfl
theorem u123_2 {d : Nat} {Q : Int → zM → Prop} {lv st : List zV} {μ : zM} : zR d 123 Q 2 lv st μ ↔ zB (zC d) Q (zR d 123 Q) k123_2 lv st μ := zR_of rfl
theorem u123_21 {d : Nat} {Q : Int → zM → Prop} {lv st : List zV} {μ : zM} : zR d 123 Q 21 lv st μ ↔ zB (zC d) Q (zR d 123 Q) k123_21 lv st μ := zR_of rfl
theorem u123_22 {d : Nat} {Q : Int → zM → Prop} {lv st : List zV} {μ : zM} : zR d 123 Q 22 lv st μ ↔ zB (zC d) Q (zR d 123 Q) k123_22 lv st μ := zR_of rfl
theorem u123_33 {d : Nat} {Q : Int → zM → Prop} {lv st : List zV} {μ : zM} : zR d 123 Q 33 lv st μ ↔ zB (zC d) Q (zR d 123 Q) k123_33 lv st μ := zR_of rfl
theorem e124 {d : Nat} {a0 a1 : Int} {μ : zM} {P : Int → zM → Prop} : zC (d + 1) 124 [(2, a0), (0, a1)] μ P ↔ zB (zC d) P (zR d 124 P) k124_0 [(2, a0), (0, a1), (9, 0), (9, 0)] [] μ := zC_of rfl rfl rfl
theorem u124_2 {d : Nat} {Q : Int → zM → Prop} {lv st : List zV} {μ : zM} : zR d 124 Q 2 lv st μ ↔ zB (zC d) Q (zR d 124 Q) k124_2 lv st μ := zR_of rfl
theorem u124_21 {d : Nat} {Q : Int → zM → Prop} {lv st : List zV} {μ : zM} : zR d 124 Q 21 lv st μ ↔ zB (zC d) Q (zR d 124 Q) k124_21 lv st μ := zR_of rfl
theorem u124_61 {d : Nat} {Q : Int → zM → Prop} {lv st : List zV} {μ : zM} : zR d 124 Q 61 lv st μ ↔ zB (zC d) Q (zR d 124 Q) k124_61 lv st μ := zR_of rfl
theorem u124_67 {d : Nat} {Q : Int → zM → Prop} {lv st : List zV} {μ : zM} : zR d 124 Q 67 lv st μ ↔ zB (zC d) Q (zR d 124 Q) k124_67 lv st μ := zR_of rfl
theorem e125 {d : Nat} {a0 a1 a2 a3 : Int} {μ : zM} {P : Int → zM → Prop} : zC (d + 1) 125 [(2, a0), (0, a1), (0, a2), (0, a3)] μ P ↔ zB (zC d) P (zR d 125 P) k125_0 [(2, a0), (0, a1), (0, a2), (0, a3), (9, 0)] [] μ := zC_of rfl rfl rfl
theorem u125_28 {d : Nat} {Q : Int → zM → Prop} {lv st : List zV} {μ : zM} : zR d 125 Q 28 lv st μ ↔ zB (zC d) Q (zR d 125 Q) k125_28 lv st μ := zR_of rfl
theorem u125_32 {d : Nat} {Q : Int → zM → Prop} {lv st : List zV} {μ : zM} : zR d 125 Q 32 lv st μ ↔ zB (zC d) Q (zR d 125 Q) k125_32 lv st μ := zR_of rfl
theorem u125_40 {d : Nat} {Q : Int → zM → Prop} {lv st : List zV} {μ : zM} : zR d 125 Q 40 lv st μ ↔ zB (zC d) Q (zR d 125 Q) k125_40 lv st μ := zR_of rfl
theorem u125_57 {d : Nat} {Q : Int → zM → Prop} {lv st : List zV} {μ : zM} : zR d 125 Q 57 lv st μ ↔ zB (zC d) Q (zR d 125 Q) k125_57 lv st μ := zR_of rfl
theorem e126 {d : Nat} {a0 a1 : Int} {μ : zM} {P : Int → zM → Prop} : zC (d + 1) 126 [(2, a0), (0, a1)] μ P ↔ zB (zC d) P (zR d 126 P) k126_0 [(2, a0), (0, a1)] [] μ := zC_of rfl rfl rfl
theorem u126_15 {d : Nat} {Q : Int → zM → Prop} {lv st : List zV} {μ : zM} : zR d 126 Q 15 lv st μ ↔ zB (zC d) Q (zR d 126 Q) k126_15 lv st μ := zR_of rfl
theorem u126_27 {d : Nat} {Q : Int → zM → Prop} {lv st : List zV} {μ : zM} : zR d 126 Q 27 lv st μ ↔ zB (zC d) Q (zR d 126 Q) k126_27 lv st μ := zR_of rfl
theorem e127 {d : Nat} {a0 a1 a2 : Int} {μ : zM} {P : Int → zM → Prop} : zC (d + 1) 127 [(2, a0), (0, a1), (0, a2)] μ P ↔ zB (zC d) P (zR d 127 P) k127_0 [(2, a0), (0, a1), (0, a2)] [] μ := zC_of rfl rfl rfl
theorem u127_35 {d : Nat} {Q : Int → zM → Prop} {lv st : List zV} {μ : zM} : zR d 127 Q 35 lv st μ ↔ zB (zC d) Q (zR d 127 Q) k127_35 lv st μ := zR_of rfl
theorem u127_36 {d : Nat} {Q : Int → zM → Prop} {lv st : List zV} {μ : zM} : zR d 127 Q 36 lv st μ ↔ zB (zC d) Q (zR d 127 Q) k127_36 lv st μ := zR_of rfl
theorem e128 {d : Nat} {a0 : Int} {μ : zM} {P : Int → zM → Prop} : zC (d + 1) 128 [(2, a0)] μ P ↔ zB (zC d) P (zR d 128 P) k128_0 [(2, a0)] [] μ := zC_of rfl rfl rfl
theorem u128_15 {d : Nat} {Q : Int → zM → Prop} {lv st : List zV} {μ : zM} : zR d 128 Q 15 lv st μ ↔ zB (zC d) Q (zR d 128 Q) k128_15 lv st μ := zR_of rfl
theorem u128_19 {d : Nat} {Q : Int → zM → Prop} {lv st : List zV} {μ : zM} : zR d 128 Q 19 lv st μ ↔ zB (zC d) Q (zR d 128 Q) k128_19 lv st μ := zR_of rfl
theorem e129 {d : Nat} {a0 a1 : Int} {μ : zM} {P : Int → zM → Prop} : zC (d + 1) 129 [(2, a0), (0, a1)] μ P ↔ zB (zC d) P (zR d 129 P) k129_0 [(2, a0), (0, a1)] [] μ := zC_of rfl rfl rfl
theorem u129_29 {d : Nat} {Q : Int → zM → Prop} {lv st : List zV} {μ : zM} : zR d 129 Q 29 lv st μ ↔ zB (zC d) Q (zR d 129 Q) k129_29 lv st μ := zR_of rfl
theorem u129_35 {d : Nat} {Q : Int → zM → Prop} {lv st : List zV} {μ : zM} : zR d 129 Q 35 lv st μ ↔ zB (zC d) Q (zR d 129 Q) k129_35 lv st μ := zR_of rfl
theorem e130 {d : Nat} {a0 a1 : Int} {μ : zM} {P : Int → zM → Prop} : zC (d + 1) 130 [(2, a0), (0, a1)] μ P ↔ zB (zC d) P (zR d 130 P) k130_0 [(2, a0), (0, a1)] [] μ := zC_of rfl rfl rfl
theorem u130_29 {d : Nat} {Q : Int → zM → Prop} {lv st : List zV} {μ : zM} : zR d 130 Q 29 lv st μ ↔ zB (zC d) Q (zR d 130 Q) k130_29 lv st μ := zR_of rfl
theorem u130_33 {d : Nat} {Q : Int → zM → Prop} {lv st : List zV} {μ : zM} : zR d 130 Q 33 lv st μ ↔ zB (zC d) Q (zR d 130 Q) k130_33 lv st μ := zR_of rfl
theorem e131 {d : Nat} {a0 a1 a2 a3 : Int} {μ : zM} {P : Int → zM → Prop} : zC (d + 1) 131 [(2, a0), (0, a1), (0, a2), (0, a3)] μ P ↔ zB (zC d) P (zR d 131 P) k131_0 [(2, a0), (0, a1), (0, a2), (0, a3), (9, 0), (9, 0)] [] μ := zC_of rfl rfl rfl
theorem u131_43 {d : Nat} {Q : Int → zM → Prop} {lv st : List zV} {μ : zM} : zR d 131 Q 43 lv st μ ↔ zB (zC d) Q (zR d 131 Q) k131_43 lv st μ := zR_of rfl
theorem u131_96 {d : Nat} {Q : Int → zM → Prop} {lv st : List zV} {μ : zM} : zR d 131 Q 96 lv st μ ↔ zB (zC d) Q (zR d 131 Q) k131_96 lv st μ := zR_of rfl
theorem u131_127 {d : Nat} {Q : Int → zM → Prop} {lv st : List zV} {μ : zM} : zR d 131 Q 127 lv st μ ↔ zB (zC d) Q (zR d 131 Q) k131_127 lv st μ := zR_of rfl
theorem u131_137 {d : Nat} {Q : Int → zM → Prop} {lv st : List zV} {μ : zM} : zR d 131 Q 137 lv st μ ↔ zB (zC d) Q (zR d 131 Q) k131_137 lv st μ := zR_of rfl
theorem e132 {d : Nat} {a0 a1 a2 a3 : Int} {μ : zM} {P : Int → zM → Prop} : zC (d + 1) 132 [(2, a0), (0, a1), (0, a2), (0, a3)] μ P ↔ zB (zC d) P (zR d 132 P) k132_0 [(2, a0), (0, a1), (0, a2), (0, a3), (9, 0)] [] μ := zC_of rfl rfl rfl
theorem u132_3 {d : Nat} {Q : Int → zM → Prop} {lv st : List zV} {μ : zM} : zR d 132 Q 3 lv st μ ↔ zB (zC d) Q (zR d 132 Q) k132_3 lv st μ := zR_of rfl
theorem u132_23 {d : Nat} {Q : Int → zM → Prop} {lv st : List zV} {μ : zM} : zR d 132 Q 23 lv st μ ↔ zB (zC d) Q (zR d 132 Q) k132_23 lv st μ := zR_of rfl
theorem u132_57 {d : Nat} {Q : Int → zM → Prop} {lv st : List zV} {μ : zM} : zR d 132 Q 57 lv st μ ↔ zB (zC d) Q (zR d 132 Q) k132_57 lv st μ := zR_of rfl
theorem u132_71 {d : Nat} {Q : Int → zM → Prop} {lv st : List zV} {μ : zM} : zR d 132 Q 71 lv st μ ↔ zB (zC d) Q (zR d 132 Q) k132_71 lv st μ := zR_of rfl
theorem u132_109 {d : Nat} {Q : Int → zM → Prop} {lv st : List zV} {μ : zM} : zR d 132 Q 109 lv st μ ↔ zB (zC d) Q (zR d 132 Q) k132_109 lv st μ := zR_of rfl
theorem e133 {d : Nat} {a0 a1 : Int} {μ : zM} {P : Int → zM → Prop} : zC (d + 1) 133 [(2, a0), (0, a1)] μ P ↔ zB (zC d) P (zR d 133 P) k133_0 [(2, a0), (0, a1), (9, 0), (9, 0), (9, 0), (9, 0)] [] μ := zC_of rfl rfl rfl
theorem u133_12 {d : Nat} {Q : Int → zM → Prop} {lv st : List zV} {μ : zM} : zR d 133 Q 12 lv st μ ↔ zB (zC d) Q (zR d 133 Q) k133_12 lv st μ := zR_of rfl
theorem u133_34 {d : Nat} {Q : Int → zM → Prop} {lv st : List zV} {μ : zM} : zR d 133 Q 34 lv st μ ↔ zB (zC d) Q (zR d 133 Q) k133_34 lv st μ := zR_of rfl
theorem u133_44 {d : Nat} {Q : Int → zM → Prop} {lv st : List zV} {μ : zM} : zR d 133 Q 44 lv st μ ↔ zB (zC d) Q (zR d 133 Q) k133_44 lv st μ := zR_of rfl
theorem u133_80 {d : Nat} {Q : Int → zM → Prop} {lv st : List zV} {μ : zM} : zR d 133 Q 80 lv st μ ↔ zB (zC d) Q (zR d 133 Q) k133_80 lv st μ := zR_of rfl
theorem u133_136 {d : Nat} {Q : Int → zM → Prop} {lv st : List zV} {μ : zM} : zR d 133 Q 136 lv st μ ↔ zB (zC d) Q (zR d 133 Q) k133_136 lv st μ := zR_of rfl
theorem u133_142 {d : Nat} {Q : Int → zM → Prop} {lv st : List zV} {μ : zM} : zR d 133 Q 142 lv st μ ↔ zB (zC d) Q (zR d 133 Q) k133_142 lv st μ := zR_of rfl
theorem e134 {d : Nat} {a0 : Int} {μ : zM} {P : Int → zM → Prop} : zC (d + 1) 134 [(2, a0)] μ P ↔ zB (zC d) P (zR d 134 P) k134_0 [(2, a0), (9, 0)] [] μ := zC_of rfl rfl rfl
theorem u134_19 {d : Nat} {Q : Int → zM → Prop} {lv st : List zV} {μ : zM} : zR d 134 Q 19 lv st μ ↔ zB (zC d) Q (zR d 134 Q) k134_19 lv st μ := zR_of rfl
theorem u134_35 {d : Nat} {Q : Int → zM → Prop} {lv st : List zV} {μ : zM} : zR d 134 Q 35 lv st μ ↔ zB (zC d) Q (zR d 134 Q) k134_35 lv st μ := zR_of rfl
theorem u134_42 {d : Nat} {Q : Int → zM → Prop} {lv st : List zV} {μ : zM} : zR d 134 Q 42 lv st μ ↔ zB (zC d) Q (zR d 134 Q) k134_42 lv st μ := zR_of rfl
theorem e135 {d : Nat} {a0 : Int} {μ : zM} {P : Int → zM → Prop} : zC (d + 1) 135 [(0, a0)] μ P ↔ zB (zC d) P (zR d 135 P) k135_0 [(0, a0)] [] μ := zC_of rfl rfl rfl
theorem e136 {d : Nat} {a0 a1 : Int} {μ : zM} {P : Int → zM → Prop} : zC (d + 1) 136 [(0, a0), (0, a1)] μ P ↔ zB (zC d) P (zR d 136 P) k136_0 [(0, a0), (0, a1)] [] μ := zC_of rfl rfl rfl
theorem e137 {d : Nat} {a0 a1 : Int} {μ : zM} {P : Int → zM → Prop} : zC (d + 1) 137 [(2, a0), (0, a1)] μ P ↔ zB (zC d) P (zR d 137 P) k137_0 [(2, a0), (0, a1)] [] μ := zC_of rfl rfl rfl
theorem u137_9 {d : Nat} {Q : Int → zM → Prop} {lv st : List zV} {μ : zM} : zR d 137 Q 9 lv st μ ↔ zB (zC d) Q (zR d 137 Q) k137_9 lv st μ := zR_of rfl
theorem u137_43 {d : Nat} {Q : Int → zM → Prop} {lv st : List zV} {μ : zM} : zR d 137 Q 43 lv st μ ↔ zB (zC d) Q (zR d 137 Q) k137_43 lv st μ := zR_of rfl
theorem u137_63 {d : Nat} {Q : Int → zM → Prop} {lv st : List zV} {μ : zM} : zR d 137 Q 63 lv st μ ↔ zB (zC d) Q (zR d 137 Q) k137_63 lv st μ := zR_of rfl
theorem e138 {d : Nat} {a0 a1 a2 : Int} {μ : zM} {P : Int → zM → Prop} : zC (d + 1) 138 [(2, a0), (0, a1), (0, a2)] μ P ↔ zB (zC d) P (zR d 138 P) k138_0 [(2, a0), (0, a1), (0, a2)] [] μ := zC_of rfl rfl rfl
theorem u138_28 {d : Nat} {Q : Int → zM → Prop} {lv st : List zV} {μ : zM} : zR d 138 Q 28 lv st μ ↔ zB (zC d) Q (zR d 138 Q) k138_28 lv st μ := zR_of rfl
theorem u138_29 {d : Nat} {Q : Int → zM → Prop} {lv st : List zV} {μ : zM} : zR d 138 Q 29 lv st μ ↔ zB (zC d) Q (zR d 138 Q) k138_29 lv st μ := zR_of rfl
theorem e139 {d : Nat} {a0 a1 a2 a3 : Int} {μ : zM} {P : Int → zM → Prop} : zC (d + 1) 139 [(2, a0), (0, a1), (0, a2), (0, a3)] μ P ↔ zB (zC d) P (zR d 139 P) k139_0 [(2, a0), (0, a1), (0, a2), (0, a3), (9, 0)] [] μ := zC_of rfl rfl rfl
theorem u139_15 {d : Nat} {Q : Int → zM → Prop} {lv st : List zV} {μ : zM} : zR d 139 Q 15 lv st μ ↔ zB (zC d) Q (zR d 139 Q) k139_15 lv st μ := zR_of rfl
theorem u139_17 {d : Nat} {Q : Int → zM → Prop} {lv st : List zV} {μ : zM} : zR d 139 Q 17 lv st μ ↔ zB (zC d) Q (zR d 139 Q) k139_17 lv st μ := zR_of rfl
theorem u139_32 {d : Nat} {Q : Int → zM → Prop} {lv st : List zV} {μ : zM} : zR d 139 Q 32 lv st μ ↔ zB (zC d) Q (zR d 139 Q) k139_32 lv st μ := zR_of rfl
theorem e140 {d : Nat} {a0 a1 a2 : Int} {μ : zM} {P : Int → zM → Prop} : zC (d + 1) 140 [(2, a0), (0, a1), (0, a2)] μ P ↔ zB (zC d) P (zR d 140 P) k140_0 [(2, a0), (0, a1), (0, a2), (9, 0), (9, 0), (9, 0), (9, 0)] [] μ := zC_of rfl rfl rfl
theorem u140_14 {d : Nat} {Q : Int → zM → Prop} {lv st : List zV} {μ : zM} : zR d 140 Q 14 lv st μ ↔ zB (zC d) Q (zR d 140 Q) k140_14 lv st μ := zR_of rfl
theorem u140_16 {d : Nat} {Q : Int → zM → Prop} {lv st : List zV} {μ : zM} : zR d 140 Q 16 lv st μ ↔ zB (zC d) Q (zR d 140 Q) k140_16 lv st μ := zR_of rfl
theorem u140_21 {d : Nat} {Q : Int → zM → Prop} {lv st : List zV} {μ : zM} : zR d 140 Q 21 lv st μ ↔ zB (zC d) Q (zR d 140 Q) k140_21 lv st μ := zR_of rfl
theorem u140_43 {d : Nat} {Q : Int → zM → Prop} {lv st : List zV} {μ : zM} : zR d 140 Q 43 lv st μ ↔ zB (zC d) Q (zR d 140 Q) k140_43 lv st μ := zR_of rfl
theorem u140_57 {d : Nat} {Q : Int → zM → Prop} {lv st : List zV} {μ : zM} : zR d 140 Q 57 lv st μ ↔ zB (zC d) Q (zR d 140 Q) k140_57 lv st μ := zR_of rfl
theorem u140_121 {d : Nat} {Q : Int → zM → Prop} {lv st : List zV} {μ : zM} : zR d 140 Q 121 lv st μ ↔ zB (zC d) Q (zR d 140 Q) k140_121 lv st μ := zR_of rfl
theorem u140_127 {d : Nat} {Q : Int → zM → Prop} {lv st : List zV} {μ : zM} : zR d 140 Q 127 lv st μ ↔ zB (zC d) Q (zR d 140 Q) k140_127 lv st μ := zR_of rfl
theorem u140_149 {d : Nat} {Q : Int → zM → Prop} {lv st : List zV} {μ : zM} : zR d 140 Q 149 lv st μ ↔ zB (zC d) Q (zR d 140 Q) k140_149 lv st μ := zR_of rfl
theorem u140_150 {d : Nat} {Q : Int → zM → Prop} {lv st : List zV} {μ : zM} : zR d 140 Q 150 lv st μ ↔ zB (zC d) Q (zR d 140 Q) k140_150 lv st μ := zR_of rfl
theorem u140_157 {d : Nat} {Q : Int → zM → Prop} {lv st : List zV} {μ : zM} : zR d 140 Q 157 lv st μ ↔ zB (zC d) Q (zR d 140 Q) k140_157 lv st μ := zR_of rfl
theorem u140_163 {d : Nat} {Q : Int → zM → Prop} {lv st : List zV} {μ : zM} : zR d 140 Q 163 lv st μ ↔ zB (zC d) Q (zR d 140 Q) k140_163 lv st μ := zR_of rfl
theorem u140_217 {d : Nat} {Q : Int → zM → Prop} {lv st : List zV} {μ : zM} : zR d 140 Q 217 lv st μ ↔ zB (zC d) Q (zR d 140 Q) k140_217 lv st μ := zR_of rfl
theorem u140_226 {d : Nat} {Q : Int → zM → Prop} {lv st : List zV} {μ : zM} : zR d 140 Q 226 lv st μ ↔ zB (zC d) Q (zR d 140 Q) k140_226 lv st μ := zR_of rfl
theorem u140_228 {d : Nat} {Q : Int → zM → Prop} {lv st : List zV} {μ : zM} : zR d 140 Q 228 lv st μ ↔ zB (zC d) Q (zR d 140 Q) k140_228 lv st μ := zR_of rfl
theorem e141 {d : Nat} {a0 a1 : Int} {μ : zM} {P : Int → zM → Prop} : zC (d + 1) 141 [(2, a0), (0, a1)] μ P ↔ zB (zC d) P (zR d 141 P) k141_0 [(2, a0), (0, a1)] [] μ := zC_of rfl rfl rfl
theorem e142 {d : Nat} {a0 a1 : Int} {μ : zM} {P : Int → zM → Prop} : zC (d + 1) 142 [(2, a0), (0, a1)] μ P ↔ zB (zC d) P (zR d 142 P) k142_0 [(2, a0), (0, a1), (9, 0), (9, 0), (9, 0), (9, 0)] [] μ := zC_of rfl rfl rfl
theorem u142_4 {d : Nat} {Q : Int → zM → Prop} {lv st : List zV} {μ : zM} : zR d 142 Q 4 lv st μ ↔ zB (zC d) Q (zR d 142 Q) k142_4 lv st μ := zR_of rfl
theorem u142_17 {d : Nat} {Q : Int → zM → Prop} {lv st : List zV} {μ : zM} : zR d 142 Q 17 lv st μ ↔ zB (zC d) Q (zR d 142 Q) k142_17 lv st μ := zR_of rfl
theorem u142_31 {d : Nat} {Q : Int → zM → Prop} {lv st : List zV} {μ : zM} : zR d 142 Q 31 lv st μ ↔ zB (zC d) Q (zR d 142 Q) k142_31 lv st μ := zR_of rfl
theorem u142_73 {d : Nat} {Q : Int → zM → Prop} {lv st : List zV} {μ : zM} : zR d 142 Q 73 lv st μ ↔ zB (zC d) Q (zR d 142 Q) k142_73 lv st μ := zR_of rfl
theorem u142_74 {d : Nat} {Q : Int → zM → Prop} {lv st : List zV} {μ : zM} : zR d 142 Q 74 lv st μ ↔ zB (zC d) Q (zR d 142 Q) k142_74 lv st μ := zR_of rfl
theorem u142_88 {d : Nat} {Q : Int → zM → Prop} {lv st : List zV} {μ : zM} : zR d 142 Q 88 lv st μ ↔ zB (zC d) Q (zR d 142 Q) k142_88 lv st μ := zR_of rfl
theorem u142_94 {d : Nat} {Q : Int → zM → Prop} {lv st : List zV} {μ : zM} : zR d 142 Q 94 lv st μ ↔ zB (zC d) Q (zR d 142 Q) k142_94 lv st μ := zR_of rfl
theorem u142_100 {d : Nat} {Q : Int → zM → Prop} {lv st : List zV} {μ : zM} : zR d 142 Q 100 lv st μ ↔ zB (zC d) Q (zR d 142 Q) k142_100 lv st μ := zR_of rfl
theorem e143 {d : Nat} {a0 a1 : Int} {μ : zM} {P : Int → zM → Prop} : zC (d + 1) 143 [(2, a0), (0, a1)] μ P ↔ zB (zC d) P (zR d 143 P) k143_0 [(2, a0), (0, a1)] [] μ := zC_of rfl rfl rfl
theorem u143_23 {d : Nat} {Q : Int → zM → Prop} {lv st : List zV} {μ : zM} : zR d 143 Q 23 lv st μ ↔ zB (zC d) Q (zR d 143 Q) k143_23 lv st μ := zR_of rfl
theorem u143_24 {d : Nat} {Q : Int → zM → Prop} {lv st : List zV} {μ : zM} : zR d 143 Q 24 lv st μ ↔ zB (zC d) Q (zR d 143 Q) k143_24 lv st μ := zR_of rfl
theorem e144 {d : Nat} {a0 a1 : Int} {μ : zM} {P : Int → zM → Prop} : zC (d + 1) 144 [(2, a0), (0, a1)] μ P ↔ zB (zC d) P (zR d 144 P) k144_0 [(2, a0), (0, a1)] [] μ := zC_of rfl rfl rfl
theorem u144_19 {d : Nat} {Q : Int → zM → Prop} {lv st : List zV} {μ : zM} : zR d 144 Q 19 lv st μ ↔ zB (zC d) Q (zR d 144 Q) k144_19 lv st μ := zR_of rfl
theorem u144_21 {d : Nat} {Q : Int → zM → Prop} {lv st : List zV} {μ : zM} : zR d 144 Q 21 lv st μ ↔ zB (zC d) Q (zR d 144 Q) k144_21 lv st μ := zR_of rfl
theorem e145 {d : Nat} {a0 a1 : Int} {μ : zM} {P : Int → zM → Prop} : zC (d + 1) 145 [(2, a0), (0, a1)] μ P ↔ zB (zC d) P (zR d 145 P) k145_0 [(2, a0), (0, a1), (9, 0), (9, 0)] [] μ := zC_of rfl rfl rfl
theorem u145_4 {d : Nat} {Q : Int → zM → Prop} {lv st : List zV} {μ : zM} : zR d 145 Q 4 lv st μ ↔ zB (zC d) Q (zR d 145 Q) k145_4 lv st μ := zR_of rfl
theorem u145_27 {d : Nat} {Q : Int → zM → Prop} {lv st : List zV} {μ : zM} : zR d 145 Q 27 lv st μ ↔ zB (zC d) Q (zR d 145 Q) k145_27 lv st μ := zR_of rfl
theorem u145_30 {d : Nat} {Q : Int → zM → Prop} {lv st : List zV} {μ : zM} : zR d 145 Q 30 lv st μ ↔ zB (zC d) Q (zR d 145 Q) k145_30 lv st μ := zR_of rfl
theorem u145_36 {d : Nat} {Q : Int → zM → Prop} {lv st : List zV} {μ : zM} : zR d 145 Q 36 lv st μ ↔ zB (zC d) Q (zR d 145 Q) k145_36 lv st μ := zR_of rfl
theorem u145_45 {d : Nat} {Q : Int → zM → Prop} {lv st : List zV} {μ : zM} : zR d 145 Q 45 lv st μ ↔ zB (zC d) Q (zR d 145 Q) k145_45 lv st μ := zR_of rfl
theorem u145_47 {d : Nat} {Q : Int → zM → Prop} {lv st : List zV} {μ : zM} : zR d 145 Q 47 lv st μ ↔ zB (zC d) Q (zR d 145 Q) k145_47 lv st μ := zR_of rfl
theorem e146 {d : Nat} {a0 a1 : Int} {μ : zM} {P : Int → zM → Prop} : zC (d + 1) 146 [(2, a0), (0, a1)] μ P ↔ zB (zC d) P (zR d 146 P) k146_0 [(2, a0), (0, a1), (9, 0), (9, 0)] [] μ := zC_of rfl rfl rfl
theorem u146_11 {d : Nat} {Q : Int → zM → Prop} {lv st : List zV} {μ : zM} : zR d 146 Q 11 lv st μ ↔ zB (zC d) Q (zR d 146 Q) k146_11 lv st μ := zR_of rfl
theorem u146_17 {d : Nat} {Q : Int → zM → Prop} {lv st : List zV} {μ : zM} : zR d 146 Q 17 lv st μ ↔ zB (zC d) Q (zR d 146 Q) k146_17 lv st μ := zR_of rfl
theorem u146_35 {d : Nat} {Q : Int → zM → Prop} {lv st : List zV} {μ : zM} : zR d 146 Q 35 lv st μ ↔ zB (zC d) Q (zR d 146 Q) k146_35 lv st μ := zR_of rfl
theorem e147 {d : Nat} {a0 a1 a2 a3 : Int} {μ : zM} {P : Int → zM → Prop} : zC (d + 1) 147 [(2, a0), (0, a1), (0, a2), (0, a3)] μ P ↔ zB (zC d) P (zR d 147 P) k147_0 [(2, a0), (0, a1), (0, a2), (0, a3), (9, 0), (9, 0), (9, 0)] [] μ := zC_of rfl rfl rfl
theorem u147_6 {d : Nat} {Q : Int → zM → Prop} {lv st : List zV} {μ : zM} : zR d 147 Q 6 lv st μ ↔ zB (zC d) Q (zR d 147 Q) k147_6 lv st μ := zR_of rfl
theorem u147_40 {d : Nat} {Q : Int → zM → Prop} {lv st : List zV} {μ : zM} : zR d 147 Q 40 lv st μ ↔ zB (zC d) Q (zR d 147 Q) k147_40 lv st μ := zR_of rfl
theorem u147_60 {d : Nat} {Q : Int → zM → Prop} {lv st : List zV} {μ : zM} : zR d 147 Q 60 lv st μ ↔ zB (zC d) Q (zR d 147 Q) k147_60 lv st μ := zR_of rfl
theorem u147_61 {d : Nat} {Q : Int → zM → Prop} {lv st : List zV} {μ : zM} : zR d 147 Q 61 lv st μ ↔ zB (zC d) Q (zR d 147 Q) k147_61 lv st μ := zR_of rfl
theorem u147_70 {d : Nat} {Q : Int → zM → Prop} {lv st : List zV} {μ : zM} : zR d 147 Q 70 lv st μ ↔ zB (zC d) Q (zR d 147 Q) k147_70 lv st μ := zR_of rfl
theorem u147_98 {d : Nat} {Q : Int → zM → Prop} {lv st : List zV} {μ : zM} : zR d 147 Q 98 lv st μ ↔ zB (zC d) Q (zR d 147 Q) k147_98 lv st μ := zR_of rfl
theorem u147_99 {d : Nat} {Q : Int → zM → Prop} {lv st : List zV} {μ : zM} : zR d 147 Q 99 lv st μ ↔ zB (zC d) Q (zR d 147 Q) k147_99 lv st μ := zR_of rfl
theorem e148 {d : Nat} {a0 a1 : Int} {μ : zM} {P : Int → zM → Prop} : zC (d + 1) 148 [(2, a0), (0, a1)] μ P ↔ zB (zC d) P (zR d 148 P) k148_0 [(2, a0), (0, a1), (9, 0), (9, 0)] [] μ := zC_of rfl rfl rfl
theorem u148_2 {d : Nat} {Q : Int → zM → Prop} {lv st : List zV} {μ : zM} : zR d 148 Q 2 lv st μ ↔ zB (zC d) Q (zR d 148 Q) k148_2 lv st μ := zR_of rfl
theorem u148_9 {d : Nat} {Q : Int → zM → Prop} {lv st : List zV} {μ : zM} : zR d 148 Q 9 lv st μ ↔ zB (zC d) Q (zR d 148 Q) k148_9 lv st μ := zR_of rfl
theorem u148_26 {d : Nat} {Q : Int → zM → Prop} {lv st : List zV} {μ : zM} : zR d 148 Q 26 lv st μ ↔ zB (zC d) Q (zR d 148 Q) k148_26 lv st μ := zR_of rfl
theorem u148_32 {d : Nat} {Q : Int → zM → Prop} {lv st : List zV} {μ : zM} : zR d 148 Q 32 lv st μ ↔ zB (zC d) Q (zR d 148 Q) k148_32 lv st μ := zR_of rfl
theorem u148_38 {d : Nat} {Q : Int → zM → Prop} {lv st : List zV} {μ : zM} : zR d 148 Q 38 lv st μ ↔ zB (zC d) Q (zR d 148 Q) k148_38 lv st μ := zR_of rfl
theorem e149 {d : Nat} {a0 a1 : Int} {μ : zM} {P : Int → zM → Prop} : zC (d + 1) 149 [(2, a0), (0, a1)] μ P ↔ zB (zC d) P (zR d 149 P) k149_0 [(2, a0), (0, a1), (9, 0)] [] μ := zC_of rfl rfl rfl
theorem u149_40 {d : Nat} {Q : Int → zM → Prop} {lv st : List zV} {μ : zM} : zR d 149 Q 40 lv st μ ↔ zB (zC d) Q (zR d 149 Q) k149_40 lv st μ := zR_of rfl
theorem u149_42 {d : Nat} {Q : Int → zM → Prop} {lv st : List zV} {μ : zM} : zR d 149 Q 42 lv st μ ↔ zB (zC d) Q (zR d 149 Q) k149_42 lv st μ := zR_of rfl
theorem u149_70 {d : Nat} {Q : Int → zM → Prop} {lv st : List zV} {μ : zM} : zR d 149 Q 70 lv st μ ↔ zB (zC d) Q (zR d 149 Q) k149_70 lv st μ := zR_of rfl
theorem u149_76 {d : Nat} {Q : Int → zM → Prop} {lv st : List zV} {μ : zM} : zR d 149 Q 76 lv st μ ↔ zB (zC d) Q (zR d 149 Q) k149_76 lv st μ := zR_of rfl
theorem e150 {d : Nat} {a0 : Int} {μ : zM} {P : Int → zM → Prop} : zC (d + 1) 150 [(2, a0)] μ P ↔ zB (zC d) P (zR d 150 P) k150_0 [(2, a0)] [] μ := zC_of rfl rfl rfl
theorem e151 {d : Nat} {a0 a1 a2 : Int} {μ : zM} {P : Int → zM → Prop} : zC (d + 1) 151 [(2, a0), (0, a1), (0, a2)] μ P ↔ zB (zC d) P (zR d 151 P) k151_0 [(2, a0), (0, a1), (0, a2)] [] μ := zC_of rfl rfl rfl
theorem u151_14 {d : Nat} {Q : Int → zM → Prop} {lv st : List zV} {μ : zM} : zR d 151 Q 14 lv st μ ↔ zB (zC d) Q (zR d 151 Q) k151_14 lv st μ := zR_of rfl
theorem u151_30 {d : Nat} {Q : Int → zM → Prop} {lv st : List zV} {μ : zM} : zR d 151 Q 30 lv st μ ↔ zB (zC d) Q (zR d 151 Q) k151_30 lv st μ := zR_of rfl
theorem u151_59 {d : Nat} {Q : Int → zM → Prop} {lv st : List zV} {μ : zM} : zR d 151 Q 59 lv st μ ↔ zB (zC d) Q (zR d 151 Q) k151_59 lv st μ := zR_of rfl
theorem u151_61 {d : Nat} {Q : Int → zM → Prop} {lv st : List zV} {μ : zM} : zR d 151 Q 61 lv st μ ↔ zB (zC d) Q (zR d 151 Q) k151_61 lv st μ := zR_of rfl
theorem e152 {d : Nat} {a0 a1 : Int} {μ : zM} {P : Int → zM → Prop} : zC (d + 1) 152 [(2, a0), (0, a1)] μ P ↔ zB (zC d) P (zR d 152 P) k152_0 [(2, a0), (0, a1), (9, 0), (9, 0)] [] μ := zC_of rfl rfl rfl
theorem u152_23 {d : Nat} {Q : Int → zM → Prop} {lv st : List zV} {μ : zM} : zR d 152 Q 23 lv st μ ↔ zB (zC d) Q (zR d 152 Q) k152_23 lv st μ := zR_of rfl
theorem u152_27 {d : Nat} {Q : Int → zM → Prop} {lv st : List zV} {μ : zM} : zR d 152 Q 27 lv st μ ↔ zB (zC d) Q (zR d 152 Q) k152_27 lv st μ := zR_of rfl
theorem u152_67 {d : Nat} {Q : Int → zM → Prop} {lv st : List zV} {μ : zM} : zR d 152 Q 67 lv st μ ↔ zB (zC d) Q (zR d 152 Q) k152_67 lv st μ := zR_of rfl
theorem e153 {d : Nat} {a0 : Int} {μ : zM} {P : Int → zM → Prop} : zC (d + 1) 153 [(0, a0)] μ P ↔ zB (zC d) P (zR d 153 P) k153_0 [(0, a0), (9, 0)] [] μ := zC_of rfl rfl rfl
theorem u153_2 {d : Nat} {Q : Int → zM → Prop} {lv st : List zV} {μ : zM} : zR d 153 Q 2 lv st μ ↔ zB (zC d) Q (zR d 153 Q) k153_2 lv st μ := zR_of rfl
theorem u153_18 {d : Nat} {Q : Int → zM → Prop} {lv st : List zV} {μ : zM} : zR d 153 Q 18 lv st μ ↔ zB (zC d) Q (zR d 153 Q) k153_18 lv st μ := zR_of rfl
theorem e154 {d : Nat} {a0 a1 a2 : Int} {μ : zM} {P : Int → zM → Prop} : zC (d + 1) 154 [(2, a0), (0, a1), (0, a2)] μ P ↔ zB (zC d) P (zR d 154 P) k154_0 [(2, a0), (0, a1), (0, a2), (9, 0), (9, 0)] [] μ := zC_of rfl rfl rfl
theorem u154_2 {d : Nat} {Q : Int → zM → Prop} {lv st : List zV} {μ : zM} : zR d 154 Q 2 lv st μ ↔ zB (zC d) Q (zR d 154 Q) k154_2 lv st μ := zR_of rfl
theorem u154_45 {d : Nat} {Q : Int → zM → Prop} {lv st : List zV} {μ : zM} : zR d 154 Q 45 lv st μ ↔ zB (zC d) Q (zR d 154 Q) k154_45 lv st μ := zR_of rfl
theorem e155 {d : Nat} {a0 a1 a2 a3 : Int} {μ : zM} {P : Int → zM → Prop} : zC (d + 1) 155 [(2, a0), (2, a1), (0, a2), (0, a3)] μ P ↔ zB (zC d) P (zR d 155 P) k155_0 [(2, a0), (2, a1), (0, a2), (0, a3), (9, 0)] [] μ := zC_of rfl rfl rfl
theorem u155_3 {d : Nat} {Q : Int → zM → Prop} {lv st : List zV} {μ : zM} : zR d 155 Q 3 lv st μ ↔ zB (zC d) Q (zR d 155 Q) k155_3 lv st μ := zR_of rfl
theorem u155_41 {d : Nat} {Q : Int → zM → Prop} {lv st : List zV} {μ : zM} : zR d 155 Q 41 lv st μ ↔ zB (zC d) Q (zR d 155 Q) k155_41 lv st μ := zR_of rfl
theorem e156 {d : Nat} {a0 a1 a2 a3 a4 : Int} {μ : zM} {P : Int → zM → Prop} : zC (d + 1) 156 [(2, a0), (2, a1), (0, a2), (0, a3), (0, a4)] μ P ↔ zB (zC d) P (zR d 156 P) k156_0 [(2, a0), (2, a1), (0, a2), (0, a3), (0, a4), (9, 0)] [] μ := zC_of rfl rfl rfl
theorem u156_3 {d : Nat} {Q : Int → zM → Prop} {lv st : List zV} {μ : zM} : zR d 156 Q 3 lv st μ ↔ zB (zC d) Q (zR d 156 Q) k156_3 lv st μ := zR_of rfl
theorem u156_54 {d : Nat} {Q : Int → zM → Prop} {lv st : List zV} {μ : zM} : zR d 156 Q 54 lv st μ ↔ zB (zC d) Q (zR d 156 Q) k156_54 lv st μ := zR_of rfl
theorem e157 {d : Nat} {a0 : Int} {μ : zM} {P : Int → zM → Prop} : zC (d + 1) 157 [(2, a0)] μ P ↔ zB (zC d) P (zR d 157 P) k157_0 [(2, a0), (9, 0), (9, 0), (9, 0), (9, 0), (9, 0), (9, 0)] [] μ := zC_of rfl rfl rfl
theorem u157_9 {d : Nat} {Q : Int → zM → Prop} {lv st : List zV} {μ : zM} : zR d 157 Q 9 lv st μ ↔ zB (zC d) Q (zR d 157 Q) k157_9 lv st μ := zR_of rfl
theorem u157_33 {d : Nat} {Q : Int → zM → Prop} {lv st : List zV} {μ : zM} : zR d 157 Q 33 lv st μ ↔ zB (zC d) Q (zR d 157 Q) k157_33 lv st μ := zR_of rfl
theorem u157_34 {d : Nat} {Q : Int → zM → Prop} {lv st : List zV} {μ : zM} : zR d 157 Q 34 lv st μ ↔ zB (zC d) Q (zR d 157 Q) k157_34 lv st μ := zR_of rfl
theorem u157_44 {d : Nat} {Q : Int → zM → Prop} {lv st : List zV} {μ : zM} : zR d 157 Q 44 lv st μ ↔ zB (zC d) Q (zR d 157 Q) k157_44 lv st μ := zR_of rfl
theorem u157_46 {d : Nat} {Q : Int → zM → Prop} {lv st : List zV} {μ : zM} : zR d 157 Q 46 lv st μ ↔ zB (zC d) Q (zR d 157 Q) k157_46 lv st μ := zR_of rfl
theorem u157_53 {d : Nat} {Q : Int → zM → Prop} {lv st : List zV} {μ : zM} : zR d 157 Q 53 lv st μ ↔ zB (zC d) Q (zR d 157 Q) k157_53 lv st μ := zR_of rfl
theorem u157_77 {d : Nat} {Q : Int → zM → Prop} {lv st : List zV} {μ : zM} : zR d 157 Q 77 lv st μ ↔ zB (zC d) Q (zR d 157 Q) k157_77 lv st μ := zR_of rfl
theorem u157_84 {d : Nat} {Q : Int → zM → Prop} {lv st : List zV} {μ : zM} : zR d 157 Q 84 lv st μ ↔ zB (zC d) Q (zR d 157 Q) k157_84 lv st μ := zR_of rfl
theorem u157_142 {d : Nat} {Q : Int → zM → Prop} {lv st : List zV} {μ : zM} : zR d 157 Q 142 lv st μ ↔ zB (zC d) Q (zR d 157 Q) k157_142 lv st μ := zR_of rfl
theorem u157_198 {d : Nat} {Q : Int → zM → Prop} {lv st : List zV} {μ : zM} : zR d 157 Q 198 lv st μ ↔ zB (zC d) Q (zR d 157 Q) k157_198 lv st μ := zR_of rfl
theorem u157_204 {d : Nat} {Q : Int → zM → Prop} {lv st : List zV} {μ : zM} : zR d 157 Q 204 lv st μ ↔ zB (zC d) Q (zR d 157 Q) k157_204 lv st μ := zR_of rfl
theorem u157_210 {d : Nat} {Q : Int → zM → Prop} {lv st : List zV} {μ : zM} : zR d 157 Q 210 lv st μ ↔ zB (zC d) Q (zR d 157 Q) k157_210 lv st μ := zR_of rfl
theorem e158 {d : Nat} {a0 a1 a2 a3 : Int} {μ : zM} {P : Int → zM → Prop} : zC (d + 1) 158 [(2, a0), (0, a1), (0, a2), (0, a3)] μ P ↔ zB (zC d) P (zR d 158 P) k158_0 [(2, a0), (0, a1), (0, a2), (0, a3), (9, 0), (9, 0)] [] μ := zC_of rfl rfl rfl
theorem u158_24 {d : Nat} {Q : Int → zM → Prop} {lv st : List zV} {μ : zM} : zR d 158 Q 24 lv st μ ↔ zB (zC d) Q (zR d 158 Q) k158_24 lv st μ := zR_of rfl
theorem u158_26 {d : Nat} {Q : Int → zM → Prop} {lv st : List zV} {μ : zM} : zR d 158 Q 26 lv st μ ↔ zB (zC d) Q (zR d 158 Q) k158_26 lv st μ := zR_of rfl
theorem u158_46 {d : Nat} {Q : Int → zM → Prop} {lv st : List zV} {μ : zM} : zR d 158 Q 46 lv st μ ↔ zB (zC d) Q (zR d 158 Q) k158_46 lv st μ := zR_of rfl
theorem u158_49 {d : Nat} {Q : Int → zM → Prop} {lv st : List zV} {μ : zM} : zR d 158 Q 49 lv st μ ↔ zB (zC d) Q (zR d 158 Q) k158_49 lv st μ := zR_of rfl
theorem u158_63 {d : Nat} {Q : Int → zM → Prop} {lv st : List zV} {μ : zM} : zR d 158 Q 63 lv st μ ↔ zB (zC d) Q (zR d 158 Q) k158_63 lv st μ := zR_of rfl
theorem u158_104 {d : Nat} {Q : Int → zM → Prop} {lv st : List zV} {μ : zM} : zR d 158 Q 104 lv st μ ↔ zB (zC d) Q (zR d 158 Q) k158_104 lv st μ := zR_of rfl
theorem u158_110 {d : Nat} {Q : Int → zM → Prop} {lv st : List zV} {μ : zM} : zR d 158 Q 110 lv st μ ↔ zB (zC d) Q (zR d 158 Q) k158_110 lv st μ := zR_of rfl
theorem u158_120 {d : Nat} {Q : Int → zM → Prop} {lv st : List zV} {μ : zM} : zR d 158 Q 120 lv st μ ↔ zB (zC d) Q (zR d 158 Q) k158_120 lv st μ := zR_of rfl
theorem u158_126 {d : Nat} {Q : Int → zM → Prop} {lv st : List zV} {μ : zM} : zR d 158 Q 126 lv st μ ↔ zB (zC d) Q (zR d 158 Q) k158_126 lv st μ := zR_of rfl
theorem u158_186 {d : Nat} {Q : Int → zM → Prop} {lv st : List zV} {μ : zM} : zR d 158 Q 186 lv st μ ↔ zB (zC d) Q (zR d 158 Q) k158_186 lv st μ := zR_of rfl
theorem e159 {d : Nat} {a0 : Int} {μ : zM} {P : Int → zM → Prop} : zC (d + 1) 159 [(0, a0)] μ P ↔ zB (zC d) P (zR d 159 P) k159_0 [(0, a0)] [] μ := zC_of rfl rfl rfl
theorem e160 {d : Nat} {a0 a1 a2 : Int} {μ : zM} {P : Int → zM → Prop} : zC (d + 1) 160 [(2, a0), (0, a1), (0, a2)] μ P ↔ zB (zC d) P (zR d 160 P) k160_0 [(2, a0), (0, a1), (0, a2)] [] μ := zC_of rfl rfl rfl
theorem e161 {d : Nat} {a0 a1 a2 a3 : Int} {μ : zM} {P : Int → zM → Prop} : zC (d + 1) 161 [(2, a0), (0, a1), (0, a2), (0, a3)] μ P ↔ zB (zC d) P (zR d 161 P) k161_0 [(2, a0), (0, a1), (0, a2), (0, a3), (9, 0)] [] μ := zC_of rfl rfl rfl
theorem u161_14 {d : Nat} {Q : Int → zM → Prop} {lv st : List zV} {μ : zM} : zR d 161 Q 14 lv st μ ↔ zB (zC d) Q (zR d 161 Q) k161_14 lv st μ := zR_of rfl
theorem u161_16 {d : Nat} {Q : Int → zM → Prop} {lv st : List zV} {μ : zM} : zR d 161 Q 16 lv st μ ↔ zB (zC d) Q (zR d 161 Q) k161_16 lv st μ := zR_of rfl
theorem u161_31 {d : Nat} {Q : Int → zM → Prop} {lv st : List zV} {μ : zM} : zR d 161 Q 31 lv st μ ↔ zB (zC d) Q (zR d 161 Q) k161_31 lv st μ := zR_of rfl
theorem e162 {d : Nat} {a0 a1 a2 : Int} {μ : zM} {P : Int → zM → Prop} : zC (d + 1) 162 [(2, a0), (0, a1), (0, a2)] μ P ↔ zB (zC d) P (zR d 162 P) k162_0 [(2, a0), (0, a1), (0, a2), (9, 0)] [] μ := zC_of rfl rfl rfl
theorem u162_9 {d : Nat} {Q : Int → zM → Prop} {lv st : List zV} {μ : zM} : zR d 162 Q 9 lv st μ ↔ zB (zC d) Q (zR d 162 Q) k162_9 lv st μ := zR_of rfl
theorem u162_24 {d : Nat} {Q : Int → zM → Prop} {lv st : List zV} {μ : zM} : zR d 162 Q 24 lv st μ ↔ zB (zC d) Q (zR d 162 Q) k162_24 lv st μ := zR_of rfl
theorem e163 {d : Nat} {a0 : Int} {μ : zM} {P : Int → zM → Prop} : zC (d + 1) 163 [(2, a0)] μ P ↔ zB (zC d) P (zR d 163 P) k163_0 [(2, a0), (9, 0), (9, 0)] [] μ := zC_of rfl rfl rfl
theorem u163_20 {d : Nat} {Q : Int → zM → Prop} {lv st : List zV} {μ : zM} : zR d 163 Q 20 lv st μ ↔ zB (zC d) Q (zR d 163 Q) k163_20 lv st μ := zR_of rfl
theorem u163_22 {d : Nat} {Q : Int → zM → Prop} {lv st : List zV} {μ : zM} : zR d 163 Q 22 lv st μ ↔ zB (zC d) Q (zR d 163 Q) k163_22 lv st μ := zR_of rfl
theorem u163_34 {d : Nat} {Q : Int → zM → Prop} {lv st : List zV} {μ : zM} : zR d 163 Q 34 lv st μ ↔ zB (zC d) Q (zR d 163 Q) k163_34 lv st μ := zR_of rfl
theorem u163_74 {d : Nat} {Q : Int → zM → Prop} {lv st : List zV} {μ : zM} : zR d 163 Q 74 lv st μ ↔ zB (zC d) Q (zR d 163 Q) k163_74 lv st μ := zR_of rfl
theorem u163_80 {d : Nat} {Q : Int → zM → Prop} {lv st : List zV} {μ : zM} : zR d 163 Q 80 lv st μ ↔ zB (zC d) Q (zR d 163 Q) k163_80 lv st μ := zR_of rfl
theorem e164 {d : Nat} {a0 a1 a2 a3 : Int} {μ : zM} {P : Int → zM → Prop} : zC (d + 1) 164 [(2, a0), (0, a1), (0, a2), (0, a3)] μ P ↔ zB (zC d) P (zR d 164 P) k164_0 [(2, a0), (0, a1), (0, a2), (0, a3), (9, 0), (9, 0), (9, 0)] [] μ := zC_of rfl rfl rfl
theorem u164_24 {d : Nat} {Q : Int → zM → Prop} {lv st : List zV} {μ : zM} : zR d 164 Q 24 lv st μ ↔ zB (zC d) Q (zR d 164 Q) k164_24 lv st μ := zR_of rfl
theorem u164_26 {d : Nat} {Q : Int → zM → Prop} {lv st : List zV} {μ : zM} : zR d 164 Q 26 lv st μ ↔ zB (zC d) Q (zR d 164 Q) k164_26 lv st μ := zR_of rfl
theorem u164_52 {d : Nat} {Q : Int → zM → Prop} {lv st : List zV} {μ : zM} : zR d 164 Q 52 lv st μ ↔ zB (zC d) Q (zR d 164 Q) k164_52 lv st μ := zR_of rfl
theorem u164_82 {d : Nat} {Q : Int → zM → Prop} {lv st : List zV} {μ : zM} : zR d 164 Q 82 lv st μ ↔ zB (zC d) Q (zR d 164 Q) k164_82 lv st μ := zR_of rfl
theorem u164_83 {d : Nat} {Q : Int → zM → Prop} {lv st : List zV} {μ : zM} : zR d 164 Q 83 lv st μ ↔ zB (zC d) Q (zR d 164 Q) k164_83 lv st μ := zR_of rfl
theorem u164_91 {d : Nat} {Q : Int → zM → Prop} {lv st : List zV} {μ : zM} : zR d 164 Q 91 lv st μ ↔ zB (zC d) Q (zR d 164 Q) k164_91 lv st μ := zR_of rfl
theorem u164_99 {d : Nat} {Q : Int → zM → Prop} {lv st : List zV} {μ : zM} : zR d 164 Q 99 lv st μ ↔ zB (zC d) Q (zR d 164 Q) k164_99 lv st μ := zR_of rfl
theorem u164_105 {d : Nat} {Q : Int → zM → Prop} {lv st : List zV} {μ : zM} : zR d 164 Q 105 lv st μ ↔ zB (zC d) Q (zR d 164 Q) k164_105 lv st μ := zR_of rfl
theorem u164_174 {d : Nat} {Q : Int → zM → Prop} {lv st : List zV} {μ : zM} : zR d 164 Q 174 lv st μ ↔ zB (zC d) Q (zR d 164 Q) k164_174 lv st μ := zR_of rfl
theorem e165 {d : Nat} {a0 a1 a2 a3 a4 a5 : Int} {μ : zM} {P : Int → zM → Prop} : zC (d + 1) 165 [(2, a0), (2, a1), (2, a2), (0, a3), (2, a4), (0, a5)] μ P ↔ zB (zC d) P (zR d 165 P) k165_0 [(2, a0), (2, a1), (2, a2), (0, a3), (2, a4), (0, a5), (9, 0), (9, 0), (9, 0), (9, 0)] [] μ := zC_of rfl rfl rfl
theorem u165_3 {d : Nat} {Q : Int → zM → Prop} {lv st : List zV} {μ : zM} : zR d 165 Q 3 lv st μ ↔ zB (zC d) Q (zR d 165 Q) k165_3 lv st μ := zR_of rfl
theorem u165_17 {d : Nat} {Q : Int → zM → Prop} {lv st : List zV} {μ : zM} : zR d 165 Q 17 lv st μ ↔ zB (zC d) Q (zR d 165 Q) k165_17 lv st μ := zR_of rfl
theorem u165_34 {d : Nat} {Q : Int → zM → Prop} {lv st : List zV} {μ : zM} : zR d 165 Q 34 lv st μ ↔ zB (zC d) Q (zR d 165 Q) k165_34 lv st μ := zR_of rfl
theorem u165_81 {d : Nat} {Q : Int → zM → Prop} {lv st : List zV} {μ : zM} : zR d 165 Q 81 lv st μ ↔ zB (zC d) Q (zR d 165 Q) k165_81 lv st μ := zR_of rfl
theorem u165_101 {d : Nat} {Q : Int → zM → Prop} {lv st : List zV} {μ : zM} : zR d 165 Q 101 lv st μ ↔ zB (zC d) Q (zR d 165 Q) k165_101 lv st μ := zR_of rfl
theorem u165_107 {d : Nat} {Q : Int → zM → Prop} {lv st : List zV} {μ : zM} : zR d 165 Q 107 lv st μ ↔ zB (zC d) Q (zR d 165 Q) k165_107 lv st μ := zR_of rfl
theorem e166 {d : Nat} {a0 : Int} {μ : zM} {P : Int → zM → Prop} : zC (d + 1) 166 [(2, a0)] μ P ↔ zB (zC d) P (zR d 166 P) k166_0 [(2, a0), (9, 0), (9, 0), (9, 0), (9, 0), (9, 0), (9, 0)] [] μ := zC_of rfl rfl rfl
theorem u166_6 {d : Nat} {Q : Int → zM → Prop} {lv st : List zV} {μ : zM} : zR d 166 Q 6 lv st μ ↔ zB (zC d) Q (zR d 166 Q) k166_6 lv st μ := zR_of rfl
theorem u166_22 {d : Nat} {Q : Int → zM → Prop} {lv st : List zV} {μ : zM} : zR d 166 Q 22 lv st μ ↔ zB (zC d) Q (zR d 166 Q) k166_22 lv st μ := zR_of rfl
theorem u166_73 {d : Nat} {Q : Int → zM → Prop} {lv st : List zV} {μ : zM} : zR d 166 Q 73 lv st μ ↔ zB (zC d) Q (zR d 166 Q) k166_73 lv st μ := zR_of rfl
theorem u166_76 {d : Nat} {Q : Int → zM → Prop} {lv st : List zV} {μ : zM} : zR d 166 Q 76 lv st μ ↔ zB (zC d) Q (zR d 166 Q) k166_76 lv st μ := zR_of rfl
theorem u166_82 {d : Nat} {Q : Int → zM → Prop} {lv st : List zV} {μ : zM} : zR d 166 Q 82 lv st μ ↔ zB (zC d) Q (zR d 166 Q) k166_82 lv st μ := zR_of rfl
theorem u166_90 {d : Nat} {Q : Int → zM → Prop} {lv st : List zV} {μ : zM} : zR d 166 Q 90 lv st μ ↔ zB (zC d) Q (zR d 166 Q) k166_90 lv st μ := zR_of rfl
theorem u166_96 {d : Nat} {Q : Int → zM → Prop} {lv st : List zV} {μ : zM} : zR d 166 Q 96 lv st μ ↔ zB (zC d) Q (zR d 166 Q) k166_96 lv st μ := zR_of rfl
theorem u166_114 {d : Nat} {Q : Int → zM → Prop} {lv st : List zV} {μ : zM} : zR d 166 Q 114 lv st μ ↔ zB (zC d) Q (zR d 166 Q) k166_114 lv st μ := zR_of rfl
theorem u166_115 {d : Nat} {Q : Int → zM → Prop} {lv st : List zV} {μ : zM} : zR d 166 Q 115 lv st μ ↔ zB (zC d) Q (zR d 166 Q) k166_115 lv st μ := zR_of rfl
theorem e167 {d : Nat} {a0 : Int} {μ : zM} {P : Int → zM → Prop} : zC (d + 1) 167 [(2, a0)] μ P ↔ zB (zC d) P (zR d 167 P) k167_0 [(2, a0), (9, 0), (9, 0), (9, 0), (9, 0), (9, 0)] [] μ := zC_of rfl rfl rfl
theorem u167_2 {d : Nat} {Q : Int → zM → Prop} {lv st : List zV} {μ : zM} : zR d 167 Q 2 lv st μ ↔ zB (zC d) Q (zR d 167 Q) k167_2 lv st μ := zR_of rfl
theorem u167_14 {d : Nat} {Q : Int → zM → Prop} {lv st : List zV} {μ : zM} : zR d 167 Q 14 lv st μ ↔ zB (zC d) Q (zR d 167 Q) k167_14 lv st μ := zR_of rfl
theorem u167_60 {d : Nat} {Q : Int → zM → Prop} {lv st : List zV} {μ : zM} : zR d 167 Q 60 lv st μ ↔ zB (zC d) Q (zR d 167 Q) k167_60 lv st μ := zR_of rfl
theorem u167_66 {d : Nat} {Q : Int → zM → Prop} {lv st : List zV} {μ : zM} : zR d 167 Q 66 lv st μ ↔ zB (zC d) Q (zR d 167 Q) k167_66 lv st μ := zR_of rfl
theorem u167_104 {d : Nat} {Q : Int → zM → Prop} {lv st : List zV} {μ : zM} : zR d 167 Q 104 lv st μ ↔ zB (zC d) Q (zR d 167 Q) k167_104 lv st μ := zR_of rfl
theorem u167_117 {d : Nat} {Q : Int → zM → Prop} {lv st : List zV} {μ : zM} : zR d 167 Q 117 lv st μ ↔ zB (zC d) Q (zR d 167 Q) k167_117 lv st μ := zR_of rfl
theorem u167_131 {d : Nat} {Q : Int → zM → Prop} {lv st : List zV} {μ : zM} : zR d 167 Q 131 lv st μ ↔ zB (zC d) Q (zR d 167 Q) k167_131 lv st μ := zR_of rfl
theorem u167_161 {d : Nat} {Q : Int → zM → Prop} {lv st : List zV} {μ : zM} : zR d 167 Q 161 lv st μ ↔ zB (zC d) Q (zR d 167 Q) k167_161 lv st μ := zR_of rfl
theorem u167_165 {d : Nat} {Q : Int → zM → Prop} {lv st : List zV} {μ : zM} : zR d 167 Q 165 lv st μ ↔ zB (zC d) Q (zR d 167 Q) k167_165 lv st μ := zR_of rfl
theorem u167_166 {d : Nat} {Q : Int → zM → Prop} {lv st : List zV} {μ : zM} : zR d 167 Q 166 lv st μ ↔ zB (zC d) Q (zR d 167 Q) k167_166 lv st μ := zR_of rfl
theorem u167_207 {d : Nat} {Q : Int → zM → Prop} {lv st : List zV} {μ : zM} : zR d 167 Q 207 lv st μ ↔ zB (zC d) Q (zR d 167 Q) k167_207 lv st μ := zR_of rfl
theorem u167_208 {d : Nat} {Q : Int → zM → Prop} {lv st : List zV} {μ : zM} : zR d 167 Q 208 lv st μ ↔ zB (zC d) Q (zR d 167 Q) k167_208 lv st μ := zR_of rfl
theorem u167_215 {d : Nat} {Q : Int → zM → Prop} {lv st : List zV} {μ : zM} : zR d 167 Q 215 lv st μ ↔ zB (zC d) Q (zR d 167 Q) k167_215 lv st μ := zR_of rfl
theorem u167_221 {d : Nat} {Q : Int → zM → Prop} {lv st : List zV} {μ : zM} : zR d 167 Q 221 lv st μ ↔ zB (zC d) Q (zR d 167 Q) k167_221 lv st μ := zR_of rfl
theorem u167_231 {d : Nat} {Q : Int → zM → Prop} {lv st : List zV} {μ : zM} : zR d 167 Q 231 lv st μ ↔ zB (zC d) Q (zR d 167 Q) k167_231 lv st μ := zR_of rfl
theorem u167_237 {d : Nat} {Q : Int → zM → Prop} {lv st : List zV} {μ : zM} : zR d 167 Q 237 lv st μ ↔ zB (zC d) Q (zR d 167 Q) k167_237 lv st μ := zR_of rfl
theorem e168 {d : Nat} {a0 a1 : Int} {μ : zM} {P : Int → zM → Prop} : zC (d + 1) 168 [(2, a0), (0, a1)] μ P ↔ zB (zC d) P (zR d 168 P) k168_0 [(2, a0), (0, a1)] [] μ := zC_of rfl rfl rfl
theorem u168_12 {d : Nat} {Q : Int → zM → Prop} {lv st : List zV} {μ : zM} : zR d 168 Q 12 lv st μ ↔ zB (zC d) Q (zR d 168 Q) k168_12 lv st μ := zR_of rfl
theorem u168_45 {d : Nat} {Q : Int → zM → Prop} {lv st : List zV} {μ : zM} : zR d 168 Q 45 lv st μ ↔ zB (zC d) Q (zR d 168 Q) k168_45 lv st μ := zR_of rfl
theorem u168_49 {d : Nat} {Q : Int → zM → Prop} {lv st : List zV} {μ : zM} : zR d 168 Q 49 lv st μ ↔ zB (zC d) Q (zR d 168 Q) k168_49 lv st μ := zR_of rfl
theorem e169 {d : Nat} {a0 a1 a2 a3 a4 : Int} {μ : zM} {P : Int → zM → Prop} : zC (d + 1) 169 [(2, a0), (0, a1), (0, a2), (0, a3), (0, a4)] μ P ↔ zB (zC d) P (zR d 169 P) k169_0 [(2, a0), (0, a1), (0, a2), (0, a3), (0, a4), (9, 0)] [] μ := zC_of rfl rfl rfl
theorem u169_80 {d : Nat} {Q : Int → zM → Prop} {lv st : List zV} {μ : zM} : zR d 169 Q 80 lv st μ ↔ zB (zC d) Q (zR d 169 Q) k169_80 lv st μ := zR_of rfl
theorem u169_81 {d : Nat} {Q : Int → zM → Prop} {lv st : List zV} {μ : zM} : zR d 169 Q 81 lv st μ ↔ zB (zC d) Q (zR d 169 Q) k169_81 lv st μ := zR_of rfl
theorem e170 {d : Nat} {a0 a1 a2 a3 a4 a5 : Int} {μ : zM} {P : Int → zM → Prop} : zC (d + 1) 170 [(2, a0), (0, a1), (0, a2), (0, a3), (0, a4), (0, a5)] μ P ↔ zB (zC d) P (zR d 170 P) k170_0 [(2, a0), (0, a1), (0, a2), (0, a3), (0, a4), (0, a5)] [] μ := zC_of rfl rfl rfl
theorem e171 {d : Nat} {a0 a1 a2 : Int} {μ : zM} {P : Int → zM → Prop} : zC (d + 1) 171 [(2, a0), (0, a1), (0, a2)] μ P ↔ zB (zC d) P (zR d 171 P) k171_0 [(2, a0), (0, a1), (0, a2), (9, 0), (9, 0), (9, 0), (9, 0), (9, 0), (9, 0), (9, 0)] [] μ := zC_of rfl rfl rfl
theorem u171_15 {d : Nat} {Q : Int → zM → Prop} {lv st : List zV} {μ : zM} : zR d 171 Q 15 lv st μ ↔ zB (zC d) Q (zR d 171 Q) k171_15 lv st μ := zR_of rfl
theorem u171_25 {d : Nat} {Q : Int → zM → Prop} {lv st : List zV} {μ : zM} : zR d 171 Q 25 lv st μ ↔ zB (zC d) Q (zR d 171 Q) k171_25 lv st μ := zR_of rfl
theorem u171_126 {d : Nat} {Q : Int → zM → Prop} {lv st : List zV} {μ : zM} : zR d 171 Q 126 lv st μ ↔ zB (zC d) Q (zR d 171 Q) k171_126 lv st μ := zR_of rfl
theorem u171_129 {d : Nat} {Q : Int → zM → Prop} {lv st : List zV} {μ : zM} : zR d 171 Q 129 lv st μ ↔ zB (zC d) Q (zR d 171 Q) k171_129 lv st μ := zR_of rfl
theorem u171_135 {d : Nat} {Q : Int → zM → Prop} {lv st : List zV} {μ : zM} : zR d 171 Q 135 lv st μ ↔ zB (zC d) Q (zR d 171 Q) k171_135 lv st μ := zR_of rfl
theorem u171_144 {d : Nat} {Q : Int → zM → Prop} {lv st : List zV} {μ : zM} : zR d 171 Q 144 lv st μ ↔ zB (zC d) Q (zR d 171 Q) k171_144 lv st μ := zR_of rfl
theorem u171_146 {d : Nat} {Q : Int → zM → Prop} {lv st : List zV} {μ : zM} : zR d 171 Q 146 lv st μ ↔ zB (zC d) Q (zR d 171 Q) k171_146 lv st μ := zR_of rfl
theorem e172 {d : Nat} {a0 a1 a2 a3 : Int} {μ : zM} {P : Int → zM → Prop} : zC (d + 1) 172 [(2, a0), (0, a1), (0, a2), (0, a3)] μ P ↔ zB (zC d) P (zR d 172 P) k172_0 [(2, a0), (0, a1), (0, a2), (0, a3), (9, 0), (9, 0), (9, 0), (9, 0)] [] μ := zC_of rfl rfl rfl
theorem u172_36 {d : Nat} {Q : Int → zM → Prop} {lv st : List zV} {μ : zM} : zR d 172 Q 36 lv st μ ↔ zB (zC d) Q (zR d 172 Q) k172_36 lv st μ := zR_of rfl
theorem u172_38 {d : Nat} {Q : Int → zM → Prop} {lv st : List zV} {μ : zM} : zR d 172 Q 38 lv st μ ↔ zB (zC d) Q (zR d 172 Q) k172_38 lv st μ := zR_of rfl
theorem u172_70 {d : Nat} {Q : Int → zM → Prop} {lv st : List zV} {μ : zM} : zR d 172 Q 70 lv st μ ↔ zB (zC d) Q (zR d 172 Q) k172_70 lv st μ := zR_of rfl
theorem u172_118 {d : Nat} {Q : Int → zM → Prop} {lv st : List zV} {μ : zM} : zR d 172 Q 118 lv st μ ↔ zB (zC d) Q (zR d 172 Q) k172_118 lv st μ := zR_of rfl
theorem u172_119 {d : Nat} {Q : Int → zM → Prop} {lv st : List zV} {μ : zM} : zR d 172 Q 119 lv st μ ↔ zB (zC d) Q (zR d 172 Q) k172_119 lv st μ := zR_of rfl
theorem u172_134 {d : Nat} {Q : Int → zM → Prop} {lv st : List zV} {μ : zM} : zR d 172 Q 134 lv st μ ↔ zB (zC d) Q (zR d 172 Q) k172_134 lv st μ := zR_of rfl
theorem e173 {d : Nat} {a0 a1 a2 : Int} {μ : zM} {P : Int → zM → Prop} : zC (d + 1) 173 [(2, a0), (0, a1), (0, a2)] μ P ↔ zB (zC d) P (zR d 173 P) k173_0 [(2, a0), (0, a1), (0, a2), (9, 0), (9, 0), (9, 0), (9, 0), (9, 0), (9, 0), (9, 0)] [] μ := zC_of rfl rfl rfl
theorem u173_8 {d : Nat} {Q : Int → zM → Prop} {lv st : List zV} {μ : zM} : zR d 173 Q 8 lv st μ ↔ zB (zC d) Q (zR d 173 Q) k173_8 lv st μ := zR_of rfl
theorem u173_42 {d : Nat} {Q : Int → zM → Prop} {lv st : List zV} {μ : zM} : zR d 173 Q 42 lv st μ ↔ zB (zC d) Q (zR d 173 Q) k173_42 lv st μ := zR_of rfl
theorem u173_56 {d : Nat} {Q : Int → zM → Prop} {lv st : List zV} {μ : zM} : zR d 173 Q 56 lv st μ ↔ zB (zC d) Q (zR d 173 Q) k173_56 lv st μ := zR_of rfl
theorem u173_97 {d : Nat} {Q : Int → zM → Prop} {lv st : List zV} {μ : zM} : zR d 173 Q 97 lv st μ ↔ zB (zC d) Q (zR d 173 Q) k173_97 lv st μ := zR_of rfl
theorem u173_98 {d : Nat} {Q : Int → zM → Prop} {lv st : List zV} {μ : zM} : zR d 173 Q 98 lv st μ ↔ zB (zC d) Q (zR d 173 Q) k173_98 lv st μ := zR_of rfl
theorem u173_113 {d : Nat} {Q : Int → zM → Prop} {lv st : List zV} {μ : zM} : zR d 173 Q 113 lv st μ ↔ zB (zC d) Q (zR d 173 Q) k173_113 lv st μ := zR_of rfl
theorem u173_119 {d : Nat} {Q : Int → zM → Prop} {lv st : List zV} {μ : zM} : zR d 173 Q 119 lv st μ ↔ zB (zC d) Q (zR d 173 Q) k173_119 lv st μ := zR_of rfl
theorem u173_129 {d : Nat} {Q : Int → zM → Prop} {lv st : List zV} {μ : zM} : zR d 173 Q 129 lv st μ ↔ zB (zC d) Q (zR d 173 Q) k173_129 lv st μ := zR_of rfl
theorem e174 {d : Nat} {a0 a1 a2 a3 a4 a5 : Int} {μ : zM} {P : Int → zM → Prop} : zC (d + 1) 174 [(2, a0), (0, a1), (0, a2), (0, a3), (0, a4), (0, a5)] μ P ↔ zB (zC d) P (zR d 174 P) k174_0 [(2, a0), (0, a1), (0, a2), (0, a3), (0, a4), (0, a5), (9, 0), (9, 0), (9, 0), (9, 0)] [] μ := zC_of rfl rfl rfl
theorem u174_44 {d : Nat} {Q : Int → zM → Prop} {lv st : List zV} {μ : zM} : zR d 174 Q 44 lv st μ ↔ zB (zC d) Q (zR d 174 Q) k174_44 lv st μ := zR_of rfl
theorem u174_48 {d : Nat} {Q : Int → zM → Prop} {lv st : List zV} {μ : zM} : zR d 174 Q 48 lv st μ ↔ zB (zC d) Q (zR d 174 Q) k174_48 lv st μ := zR_of rfl
theorem u174_54 {d : Nat} {Q : Int → zM → Prop} {lv st : List zV} {μ : zM} : zR d 174 Q 54 lv st μ ↔ zB (zC d) Q (zR d 174 Q) k174_54 lv st μ := zR_of rfl
theorem u174_85 {d : Nat} {Q : Int → zM → Prop} {lv st : List zV} {μ : zM} : zR d 174 Q 85 lv st μ ↔ zB (zC d) Q (zR d 174 Q) k174_85 lv st μ := zR_of rfl
theorem u174_93 {d : Nat} {Q : Int → zM → Prop} {lv st : List zV} {μ : zM} : zR d 174 Q 93 lv st μ ↔ zB (zC d) Q (zR d 174 Q) k174_93 lv st μ := zR_of rfl
theorem u174_116 {d : Nat} {Q : Int → zM → Prop} {lv st : List zV} {μ : zM} : zR d 174 Q 116 lv st μ ↔ zB (zC d) Q (zR d 174 Q) k174_116 lv st μ := zR_of rfl
theorem u174_130 {d : Nat} {Q : Int → zM → Prop} {lv st : List zV} {μ : zM} : zR d 174 Q 130 lv st μ ↔ zB (zC d) Q (zR d 174 Q) k174_130 lv st μ := zR_of rfl
theorem u174_136 {d : Nat} {Q : Int → zM → Prop} {lv st : List zV} {μ : zM} : zR d 174 Q 136 lv st μ ↔ zB (zC d) Q (zR d 174 Q) k174_136 lv st μ := zR_of rfl
theorem e175 {d : Nat} {a0 a1 a2 : Int} {μ : zM} {P : Int → zM → Prop} : zC (d + 1) 175 [(2, a0), (0, a1), (0, a2)] μ P ↔ zB (zC d) P (zR d 175 P) k175_0 [(2, a0), (0, a1), (0, a2)] [] μ := zC_of rfl rfl rfl
theorem u175_16 {d : Nat} {Q : Int → zM → Prop} {lv st : List zV} {μ : zM} : zR d 175 Q 16 lv st μ ↔ zB (zC d) Q (zR d 175 Q) k175_16 lv st μ := zR_of rfl
theorem u175_30 {d : Nat} {Q : Int → zM → Prop} {lv st : List zV} {μ : zM} : zR d 175 Q 30 lv st μ ↔ zB (zC d) Q (zR d 175 Q) k175_30 lv st μ := zR_of rfl
theorem u175_44 {d : Nat} {Q : Int → zM → Prop} {lv st : List zV} {μ : zM} : zR d 175 Q 44 lv st μ ↔ zB (zC d) Q (zR d 175 Q) k175_44 lv st μ := zR_of rfl
theorem u175_47 {d : Nat} {Q : Int → zM → Prop} {lv st : List zV} {μ : zM} : zR d 175 Q 47 lv st μ ↔ zB (zC d) Q (zR d 175 Q) k175_47 lv st μ := zR_of rfl
theorem u175_56 {d : Nat} {Q : Int → zM → Prop} {lv st : List zV} {μ : zM} : zR d 175 Q 56 lv st μ ↔ zB (zC d) Q (zR d 175 Q) k175_56 lv st μ := zR_of rfl
theorem u175_72 {d : Nat} {Q : Int → zM → Prop} {lv st : List zV} {μ : zM} : zR d 175 Q 72 lv st μ ↔ zB (zC d) Q (zR d 175 Q) k175_72 lv st μ := zR_of rfl
theorem e176 {d : Nat} {a0 a1 a2 : Int} {μ : zM} {P : Int → zM → Prop} : zC (d + 1) 176 [(2, a0), (0, a1), (0, a2)] μ P ↔ zB (zC d) P (zR d 176 P) k176_0 [(2, a0), (0, a1), (0, a2), (9, 0)] [] μ := zC_of rfl rfl rfl
theorem u176_17 {d : Nat} {Q : Int → zM → Prop} {lv st : List zV} {μ : zM} : zR d 176 Q 17 lv st μ ↔ zB (zC d) Q (zR d 176 Q) k176_17 lv st μ := zR_of rfl
theorem u176_40 {d : Nat} {Q : Int → zM → Prop} {lv st : List zV} {μ : zM} : zR d 176 Q 40 lv st μ ↔ zB (zC d) Q (zR d 176 Q) k176_40 lv st μ := zR_of rfl
theorem u176_42 {d : Nat} {Q : Int → zM → Prop} {lv st : List zV} {μ : zM} : zR d 176 Q 42 lv st μ ↔ zB (zC d) Q (zR d 176 Q) k176_42 lv st μ := zR_of rfl
theorem u176_74 {d : Nat} {Q : Int → zM → Prop} {lv st : List zV} {μ : zM} : zR d 176 Q 74 lv st μ ↔ zB (zC d) Q (zR d 176 Q) k176_74 lv st μ := zR_of rfl
theorem u176_80 {d : Nat} {Q : Int → zM → Prop} {lv st : List zV} {μ : zM} : zR d 176 Q 80 lv st μ ↔ zB (zC d) Q (zR d 176 Q) k176_80 lv st μ := zR_of rfl
theorem u176_105 {d : Nat} {Q : Int → zM → Prop} {lv st : List zV} {μ : zM} : zR d 176 Q 105 lv st μ ↔ zB (zC d) Q (zR d 176 Q) k176_105 lv st μ := zR_of rfl
theorem u176_111 {d : Nat} {Q : Int → zM → Prop} {lv st : List zV} {μ : zM} : zR d 176 Q 111 lv st μ ↔ zB (zC d) Q (zR d 176 Q) k176_111 lv st μ := zR_of rfl
theorem u176_118 {d : Nat} {Q : Int → zM → Prop} {lv st : List zV} {μ : zM} : zR d 176 Q 118 lv st μ ↔ zB (zC d) Q (zR d 176 Q) k176_118 lv st μ := zR_of rfl
theorem e177 {d : Nat} {a0 a1 a2 : Int} {μ : zM} {P : Int → zM → Prop} : zC (d + 1) 177 [(2, a0), (0, a1), (0, a2)] μ P ↔ zB (zC d) P (zR d 177 P) k177_0 [(2, a0), (0, a1), (0, a2), (9, 0)] [] μ := zC_of rfl rfl rfl
theorem u177_15 {d : Nat} {Q : Int → zM → Prop} {lv st : List zV} {μ : zM} : zR d 177 Q 15 lv st μ ↔ zB (zC d) Q (zR d 177 Q) k177_15 lv st μ := zR_of rfl
theorem u177_17 {d : Nat} {Q : Int → zM → Prop} {lv st : List zV} {μ : zM} : zR d 177 Q 17 lv st μ ↔ zB (zC d) Q (zR d 177 Q) k177_17 lv st μ := zR_of rfl
theorem u177_19 {d : Nat} {Q : Int → zM → Prop} {lv st : List zV} {μ : zM} : zR d 177 Q 19 lv st μ ↔ zB (zC d) Q (zR d 177 Q) k177_19 lv st μ := zR_of rfl
theorem u177_52 {d : Nat} {Q : Int → zM → Prop} {lv st : List zV} {μ : zM} : zR d 177 Q 52 lv st μ ↔ zB (zC d) Q (zR d 177 Q) k177_52 lv st μ := zR_of rfl
theorem u177_54 {d : Nat} {Q : Int → zM → Prop} {lv st : List zV} {μ : zM} : zR d 177 Q 54 lv st μ ↔ zB (zC d) Q (zR d 177 Q) k177_54 lv st μ := zR_of rfl
theorem u177_96 {d : Nat} {Q : Int → zM → Prop} {lv st : List zV} {μ : zM} : zR d 177 Q 96 lv st μ ↔ zB (zC d) Q (zR d 177 Q) k177_96 lv st μ := zR_of rfl
theorem e178 {d : Nat} {a0 a1 : Int} {μ : zM} {P : Int → zM → Prop} : zC (d + 1) 178 [(2, a0), (0, a1)] μ P ↔ zB (zC d) P (zR d 178 P) k178_0 [(2, a0), (0, a1)] [] μ := zC_of rfl rfl rfl
theorem e179 {d : Nat} {a0 a1 : Int} {μ : zM} {P : Int → zM → Prop} : zC (d + 1) 179 [(2, a0), (0, a1)] μ P ↔ zB (zC d) P (zR d 179 P) k179_0 [(2, a0), (0, a1)] [] μ := zC_of rfl rfl rfl
theorem u179_14 {d : Nat} {Q : Int → zM → Prop} {lv st : List zV} {μ : zM} : zR d 179 Q 14 lv st μ ↔ zB (zC d) Q (zR d 179 Q) k179_14 lv st μ := zR_of rfl
theorem e180 {d : Nat} {a0 a1 : Int} {μ : zM} {P : Int → zM → Prop} : zC (d + 1) 180 [(2, a0), (0, a1)] μ P ↔ zB (zC d) P (zR d 180 P) k180_0 [(2, a0), (0, a1), (9, 0), (9, 0)] [] μ := zC_of rfl rfl rfl
theorem u180_9 {d : Nat} {Q : Int → zM → Prop} {lv st : List zV} {μ : zM} : zR d 180 Q 9 lv st μ ↔ zB (zC d) Q (zR d 180 Q) k180_9 lv st μ := zR_of rfl
theorem u180_16 {d : Nat} {Q : Int → zM → Prop} {lv st : List zV} {μ : zM} : zR d 180 Q 16 lv st μ ↔ zB (zC d) Q (zR d 180 Q) k180_16 lv st μ := zR_of rfl
theorem u180_44 {d : Nat} {Q : Int → zM → Prop} {lv st : List zV} {μ : zM} : zR d 180 Q 44 lv st μ ↔ zB (zC d) Q (zR d 180 Q) k180_44 lv st μ := zR_of rfl
theorem u180_57 {d : Nat} {Q : Int → zM → Prop} {lv st : List zV} {μ : zM} : zR d 180 Q 57 lv st μ ↔ zB (zC d) Q (zR d 180 Q) k180_57 lv st μ := zR_of rfl
theorem u180_67 {d : Nat} {Q : Int → zM → Prop} {lv st : List zV} {μ : zM} : zR d 180 Q 67 lv st μ ↔ zB (zC d) Q (zR d 180 Q) k180_67 lv st μ := zR_of rfl
theorem u180_75 {d : Nat} {Q : Int → zM → Prop} {lv st : List zV} {μ : zM} : zR d 180 Q 75 lv st μ ↔ zB (zC d) Q (zR d 180 Q) k180_75 lv st μ := zR_of rfl
theorem u180_81 {d : Nat} {Q : Int → zM → Prop} {lv st : List zV} {μ : zM} : zR d 180 Q 81 lv st μ ↔ zB (zC d) Q (zR d 180 Q) k180_81 lv st μ := zR_of rfl
theorem u180_94 {d : Nat} {Q : Int → zM → Prop} {lv st : List zV} {μ : zM} : zR d 180 Q 94 lv st μ ↔ zB (zC d) Q (zR d 180 Q) k180_94 lv st μ := zR_of rfl
theorem e181 {d : Nat} {a0 a1 : Int} {μ : zM} {P : Int → zM → Prop} : zC (d + 1) 181 [(2, a0), (0, a1)] μ P ↔ zB (zC d) P (zR d 181 P) k181_0 [(2, a0), (0, a1)] [] μ := zC_of rfl rfl rfl
theorem u181_25 {d : Nat} {Q : Int → zM → Prop} {lv st : List zV} {μ : zM} : zR d 181 Q 25 lv st μ ↔ zB (zC d) Q (zR d 181 Q) k181_25 lv st μ := zR_of rfl
theorem u181_26 {d : Nat} {Q : Int → zM → Prop} {lv st : List zV} {μ : zM} : zR d 181 Q 26 lv st μ ↔ zB (zC d) Q (zR d 181 Q) k181_26 lv st μ := zR_of rfl
theorem e182 {d : Nat} {a0 : Int} {μ : zM} {P : Int → zM → Prop} : zC (d + 1) 182 [(0, a0)] μ P ↔ zB (zC d) P (zR d 182 P) k182_0 [(0, a0)] [] μ := zC_of rfl rfl rfl
theorem e183 {d : Nat} {a0 a1 a2 a3 : Int} {μ : zM} {P : Int → zM → Prop} : zC (d + 1) 183 [(2, a0), (0, a1), (0, a2), (0, a3)] μ P ↔ zB (zC d) P (zR d 183 P) k183_0 [(2, a0), (0, a1), (0, a2), (0, a3), (9, 0)] [] μ := zC_of rfl rfl rfl
theorem u183_23 {d : Nat} {Q : Int → zM → Prop} {lv st : List zV} {μ : zM} : zR d 183 Q 23 lv st μ ↔ zB (zC d) Q (zR d 183 Q) k183_23 lv st μ := zR_of rfl
theorem u183_25 {d : Nat} {Q : Int → zM → Prop} {lv st : List zV} {μ : zM} : zR d 183 Q 25 lv st μ ↔ zB (zC d) Q (zR d 183 Q) k183_25 lv st μ := zR_of rfl
theorem u183_38 {d : Nat} {Q : Int → zM → Prop} {lv st : List zV} {μ : zM} : zR d 183 Q 38 lv st μ ↔ zB (zC d) Q (zR d 183 Q) k183_38 lv st μ := zR_of rfl
theorem u183_41 {d : Nat} {Q : Int → zM → Prop} {lv st : List zV} {μ : zM} : zR d 183 Q 41 lv st μ ↔ zB (zC d) Q (zR d 183 Q) k183_41 lv st μ := zR_of rfl
theorem u183_84 {d : Nat} {Q : Int → zM → Prop} {lv st : List zV} {μ : zM} : zR d 183 Q 84 lv st μ ↔ zB (zC d) Q (zR d 183 Q) k183_84 lv st μ := zR_of rfl
theorem u183_85 {d : Nat} {Q : Int → zM → Prop} {lv st : List zV} {μ : zM} : zR d 183 Q 85 lv st μ ↔ zB (zC d) Q (zR d 183 Q) k183_85 lv st μ := zR_of rfl
theorem u183_93 {d : Nat} {Q : Int → zM → Prop} {lv st : List zV} {μ : zM} : zR d 183 Q 93 lv st μ ↔ zB (zC d) Q (zR d 183 Q) k183_93 lv st μ := zR_of rfl
theorem u183_99 {d : Nat} {Q : Int → zM → Prop} {lv st : List zV} {μ : zM} : zR d 183 Q 99 lv st μ ↔ zB (zC d) Q (zR d 183 Q) k183_99 lv st μ := zR_of rfl
theorem e184 {d : Nat} {a0 a1 a2 : Int} {μ : zM} {P : Int → zM → Prop} : zC (d + 1) 184 [(2, a0), (0, a1), (0, a2)] μ P ↔ zB (zC d) P (zR d 184 P) k184_0 [(2, a0), (0, a1), (0, a2), (9, 0)] [] μ := zC_of rfl rfl rfl
theorem u184_9 {d : Nat} {Q : Int → zM → Prop} {lv st : List zV} {μ : zM} : zR d 184 Q 9 lv st μ ↔ zB (zC d) Q (zR d 184 Q) k184_9 lv st μ := zR_of rfl
theorem u184_18 {d : Nat} {Q : Int → zM → Prop} {lv st : List zV} {μ : zM} : zR d 184 Q 18 lv st μ ↔ zB (zC d) Q (zR d 184 Q) k184_18 lv st μ := zR_of rfl
theorem u184_25 {d : Nat} {Q : Int → zM → Prop} {lv st : List zV} {μ : zM} : zR d 184 Q 25 lv st μ ↔ zB (zC d) Q (zR d 184 Q) k184_25 lv st μ := zR_of rfl
theorem u184_34 {d : Nat} {Q : Int → zM → Prop} {lv st : List zV} {μ : zM} : zR d 184 Q 34 lv st μ ↔ zB (zC d) Q (zR d 184 Q) k184_34 lv st μ := zR_of rfl
theorem u184_58 {d : Nat} {Q : Int → zM → Prop} {lv st : List zV} {μ : zM} : zR d 184 Q 58 lv st μ ↔ zB (zC d) Q (zR d 184 Q) k184_58 lv st μ := zR_of rfl
theorem e185 {d : Nat} {a0 a1 a2 a3 : Int} {μ : zM} {P : Int → zM → Prop} : zC (d + 1) 185 [(2, a0), (0, a1), (0, a2), (1, a3)] μ P ↔ zB (zC d) P (zR d 185 P) k185_0 [(2, a0), (0, a1), (0, a2), (1, a3), (9, 0)] [] μ := zC_of rfl rfl rfl
theorem u185_9 {d : Nat} {Q : Int → zM → Prop} {lv st : List zV} {μ : zM} : zR d 185 Q 9 lv st μ ↔ zB (zC d) Q (zR d 185 Q) k185_9 lv st μ := zR_of rfl
theorem u185_22 {d : Nat} {Q : Int → zM → Prop} {lv st : List zV} {μ : zM} : zR d 185 Q 22 lv st μ ↔ zB (zC d) Q (zR d 185 Q) k185_22 lv st μ := zR_of rfl
theorem u185_43 {d : Nat} {Q : Int → zM → Prop} {lv st : List zV} {μ : zM} : zR d 185 Q 43 lv st μ ↔ zB (zC d) Q (zR d 185 Q) k185_43 lv st μ := zR_of rfl
theorem e186 {d : Nat} {a0 a1 a2 : Int} {μ : zM} {P : Int → zM → Prop} : zC (d + 1) 186 [(2, a0), (0, a1), (0, a2)] μ P ↔ zB (zC d) P (zR d 186 P) k186_0 [(2, a0), (0, a1), (0, a2)] [] μ := zC_of rfl rfl rfl
theorem u186_39 {d : Nat} {Q : Int → zM → Prop} {lv st : List zV} {μ : zM} : zR d 186 Q 39 lv st μ ↔ zB (zC d) Q (zR d 186 Q) k186_39 lv st μ := zR_of rfl
theorem u186_42 {d : Nat} {Q : Int → zM → Prop} {lv st : List zV} {μ : zM} : zR d 186 Q 42 lv st μ ↔ zB (zC d) Q (zR d 186 Q) k186_42 lv st μ := zR_of rfl
theorem e187 {d : Nat} {a0 : Int} {μ : zM} {P : Int → zM → Prop} : zC (d + 1) 187 [(2, a0)] μ P ↔ zB (zC d) P (zR d 187 P) k187_0 [(2, a0)] [] μ := zC_of rfl rfl rfl
theorem e188 {d : Nat} {a0 : Int} {μ : zM} {P : Int → zM → Prop} : zC (d + 1) 188 [(2, a0)] μ P ↔ zB (zC d) P (zR d 188 P) k188_0 [(2, a0)] [] μ := zC_of rfl rfl rfl
theorem u188_10 {d : Nat} {Q : Int → zM → Prop} {lv st : List zV} {μ : zM} : zR d 188 Q 10 lv st μ ↔ zB (zC d) Q (zR d 188 Q) k188_10 lv st μ := zR_of rfl
theorem e189 {d : Nat} {a0 a1 a2 : Int} {μ : zM} {P : Int → zM → Prop} : zC (d + 1) 189 [(2, a0), (0, a1), (0, a2)] μ P ↔ zB (zC d) P (zR d 189 P) k189_0 [(2, a0), (0, a1), (0, a2), (9, 0), (9, 0)] [] μ := zC_of rfl rfl rfl
theorem u189_5 {d : Nat} {Q : Int → zM → Prop} {lv st : List zV} {μ : zM} : zR d 189 Q 5 lv st μ ↔ zB (zC d) Q (zR d 189 Q) k189_5 lv st μ := zR_of rfl
theorem u189_26 {d : Nat} {Q : Int → zM → Prop} {lv st : List zV} {μ : zM} : zR d 189 Q 26 lv st μ ↔ zB (zC d) Q (zR d 189 Q) k189_26 lv st μ := zR_of rfl
theorem u189_27 {d : Nat} {Q : Int → zM → Prop} {lv st : List zV} {μ : zM} : zR d 189 Q 27 lv st μ ↔ zB (zC d) Q (zR d 189 Q) k189_27 lv st μ := zR_of rfl
theorem u189_38 {d : Nat} {Q : Int → zM → Prop} {lv st : List zV} {μ : zM} : zR d 189 Q 38 lv st μ ↔ zB (zC d) Q (zR d 189 Q) k189_38 lv st μ := zR_of rfl
theorem e190 {d : Nat} {a0 a1 : Int} {μ : zM} {P : Int → zM → Prop} : zC (d + 1) 190 [(2, a0), (0, a1)] μ P ↔ zB (zC d) P (zR d 190 P) k190_0 [(2, a0), (0, a1)] [] μ := zC_of rfl rfl rfl
theorem u190_36 {d : Nat} {Q : Int → zM → Prop} {lv st : List zV} {μ : zM} : zR d 190 Q 36 lv st μ ↔ zB (zC d) Q (zR d 190 Q) k190_36 lv st μ := zR_of rfl
theorem u190_45 {d : Nat} {Q : Int → zM → Prop} {lv st : List zV} {μ : zM} : zR d 190 Q 45 lv st μ ↔ zB (zC d) Q (zR d 190 Q) k190_45 lv st μ := zR_of rfl
theorem u190_56 {d : Nat} {Q : Int → zM → Prop} {lv st : List zV} {μ : zM} : zR d 190 Q 56 lv st μ ↔ zB (zC d) Q (zR d 190 Q) k190_56 lv st μ := zR_of rfl
theorem u190_61 {d : Nat} {Q : Int → zM → Prop} {lv st : List zV} {μ : zM} : zR d 190 Q 61 lv st μ ↔ zB (zC d) Q (zR d 190 Q) k190_61 lv st μ := zR_of rfl
theorem u190_66 {d : Nat} {Q : Int → zM → Prop} {lv st : List zV} {μ : zM} : zR d 190 Q 66 lv st μ ↔ zB (zC d) Q (zR d 190 Q) k190_66 lv st μ := zR_of rfl
theorem u190_75 {d : Nat} {Q : Int → zM → Prop} {lv st : List zV} {μ : zM} : zR d 190 Q 75 lv st μ ↔ zB (zC d) Q (zR d 190 Q) k190_75 lv st μ := zR_of rfl
theorem e191 {d : Nat} {a0 a1 : Int} {μ : zM} {P : Int → zM → Prop} : zC (d + 1) 191 [(2, a0), (1, a1)] μ P ↔ zB (zC d) P (zR d 191 P) k191_0 [(2, a0), (1, a1), (9, 0), (9, 0), (9, 0)] [] μ := zC_of rfl rfl rfl
theorem u191_6 {d : Nat} {Q : Int → zM → Prop} {lv st : List zV} {μ : zM} : zR d 191 Q 6 lv st μ ↔ zB (zC d) Q (zR d 191 Q) k191_6 lv st μ := zR_of rfl
theorem u191_22 {d : Nat} {Q : Int → zM → Prop} {lv st : List zV} {μ : zM} : zR d 191 Q 22 lv st μ ↔ zB (zC d) Q (zR d 191 Q) k191_22 lv st μ := zR_of rfl
theorem e192 {d : Nat} {a0 a1 : Int} {μ : zM} {P : Int → zM → Prop} : zC (d + 1) 192 [(2, a0), (0, a1)] μ P ↔ zB (zC d) P (zR d 192 P) k192_0 [(2, a0), (0, a1), (9, 0), (9, 0)] [] μ := zC_of rfl rfl rfl
theorem u192_5 {d : Nat} {Q : Int → zM → Prop} {lv st : List zV} {μ : zM} : zR d 192 Q 5 lv st μ ↔ zB (zC d) Q (zR d 192 Q) k192_5 lv st μ := zR_of rfl
theorem u192_20 {d : Nat} {Q : Int → zM → Prop} {lv st : List zV} {μ : zM} : zR d 192 Q 20 lv st μ ↔ zB (zC d) Q (zR d 192 Q) k192_20 lv st μ := zR_of rfl
theorem u193_18 {d : Nat} {Q : Int → zM → Prop} {lv st : List zV} {μ : zM} : zR d 193 Q 18 lv st μ ↔ zB (zC d) Q (zR d 193 Q) k193_18 lv st μ := zR_of rfl
theorem u193_200 {d : Nat} {Q : Int → zM → Prop} {lv st : List zV} {μ : zM} : zR d 193 Q 200 lv st μ ↔ zB (zC d) Q (zR d 193 Q) k193_200 lv st μ := zR_of rfl
theorem u193_233 {d : Nat} {Q : Int → zM → Prop} {lv st : List zV} {μ : zM} : zR d 193 Q 233 lv st μ ↔ zB (zC d) Q (zR d 193 Q) k193_233 lv st μ := zR_of rfl
theorem u193_256 {d : Nat} {Q : Int → zM → Prop} {lv st : List zV} {μ : zM} : zR d 193 Q 256 lv st μ ↔ zB (zC d) Q (zR d 193 Q) k193_256 lv st μ := zR_of rfl
theorem u193_309 {d : Nat} {Q : Int → zM → Prop} {lv st : List zV} {μ : zM} : zR d 193 Q 309 lv st μ ↔ zB (zC d) Q (zR d 193 Q) k193_309 lv st μ := zR_of rfl
theorem u193_332 {d : Nat} {Q : Int → zM → Prop} {lv st : List zV} {μ : zM} : zR d 193 Q 332 lv st μ ↔ zB (zC d) Q (zR d 193 Q) k193_332 lv st μ := zR_of rfl
theorem u193_345 {d : Nat} {Q : Int → zM → Prop} {lv st : List zV} {μ : zM} : zR d 193 Q 345 lv st μ ↔ zB (zC d) Q (zR d 193 Q) k193_345 lv st μ := zR_of rfl
theorem u193_388 {d : Nat} {Q : Int → zM → Prop} {lv st : List zV} {μ : zM} : zR d 193 Q 388 lv st μ ↔ zB (zC d) Q (zR d 193 Q) k193_388 lv st μ := zR_of rfl
theorem u193_411 {d : Nat} {Q : Int → zM → Prop} {lv st : List zV} {μ : zM} : zR d 193 Q 411 lv st μ ↔ zB (zC d) Q (zR d 193 Q) k193_411 lv st μ := zR_of rfl
theorem u193_434 {d : Nat} {Q : Int → zM → Prop} {lv st : List zV} {μ : zM} : zR d 193 Q 434 lv st μ ↔ zB (zC d) Q (zR d 193 Q) k193_434 lv st μ := zR_of rfl
theorem u193_478 {d : Nat} {Q : Int → zM → Prop} {lv st : List zV} {μ : zM} : zR d 193 Q 478 lv st μ ↔ zB (zC d) Q (zR d 193 Q) k193_478 lv st μ := zR_of rfl
theorem u193_501 {d : Nat} {Q : Int → zM → Prop} {lv st : List zV} {μ : zM} : zR d 193 Q 501 lv st μ ↔ zB (zC d) Q (zR d 193 Q) k193_501 lv st μ := zR_of rfl
theorem u193_534 {d : Nat} {Q : Int → zM → Prop} {lv st : List zV} {μ : zM} : zR d 193 Q 534 lv st μ ↔ zB (zC d) Q (zR d 193 Q) k193_534 lv st μ := zR_of rfl
theorem u193_577 {d : Nat} {Q : Int → zM → Prop} {lv st : List zV} {μ : zM} : zR d 193 Q 577 lv st μ ↔ zB (zC d) Q (zR d 193 Q) k193_577 lv st μ := zR_of rfl
theorem u193_610 {d : Nat} {Q : Int → zM → Prop} {lv st : List zV} {μ : zM} : zR d 193 Q 610 lv st μ ↔ zB (zC d) Q (zR d 193 Q) k193_610 lv st μ := zR_of rfl
theorem u193_633 {d : Nat} {Q : Int → zM → Prop} {lv st : List zV} {μ : zM} : zR d 193 Q 633 lv st μ ↔ zB (zC d) Q (zR d 193 Q) k193_633 lv st μ := zR_of rfl
theorem u193_656 {d : Nat} {Q : Int → zM → Prop} {lv st : List zV} {μ : zM} : zR d 193 Q 656 lv st μ ↔ zB (zC d) Q (zR d 193 Q) k193_656 lv st μ := zR_of rfl
theorem u193_679 {d : Nat} {Q : Int → zM → Prop} {lv st : List zV} {μ : zM} : zR d 193 Q 679 lv st μ ↔ zB (zC d) Q (zR d 193 Q) k193_679 lv st μ := zR_of rfl
theorem u193_712 {d : Nat} {Q : Int → zM → Prop} {lv st : List zV} {μ : zM} : zR d 193 Q 712 lv st μ ↔ zB (zC d) Q (zR d 193 Q) k193_712 lv st μ := zR_of rfl
theorem u193_735 {d : Nat} {Q : Int → zM → Prop} {lv st : List zV} {μ : zM} : zR d 193 Q 735 lv st μ ↔ zB (zC d) Q (zR d 193 Q) k193_735 lv st μ := zR_of rfl
theorem u193_778 {d : Nat} {Q : Int → zM → Prop} {lv st : List zV} {μ : zM} : zR d 193 Q 778 lv st μ ↔ zB (zC d) Q (zR d 193 Q) k193_778 lv st μ := zR_of rfl
theorem u193_821 {d : Nat} {Q : Int → zM → Prop} {lv st : List zV} {μ : zM} : zR d 193 Q 821 lv st μ ↔ zB (zC d) Q (zR d 193 Q) k193_821 lv st μ := zR_of rfl
theorem u193_854 {d : Nat} {Q : Int → zM → Prop} {lv st : List zV} {μ : zM} : zR d 193 Q 854 lv st μ ↔ zB (zC d) Q (zR d 193 Q) k193_854 lv st μ := zR_of rfl
theorem u193_867 {d : Nat} {Q : Int → zM → Prop} {lv st : List zV} {μ : zM} : zR d 193 Q 867 lv st μ ↔ zB (zC d) Q (zR d 193 Q) k193_867 lv st μ := zR_of rfl
theorem u193_910 {d : Nat} {Q : Int → zM → Prop} {lv st : List zV} {μ : zM} : zR d 193 Q 910 lv st μ ↔ zB (zC d) Q (zR d 193 Q) k193_910 lv st μ := zR_of rfl
theorem u193_933 {d : Nat} {Q : Int → zM → Prop} {lv st : List zV} {μ : zM} : zR d 193 Q 933 lv st μ ↔ zB (zC d) Q (zR d 193 Q) k193_933 lv st μ := zR_of rfl
theorem u193_966 {d : Nat} {Q : Int → zM → Prop} {lv st : List zV} {μ : zM} : zR d 193 Q 966 lv st μ ↔ zB (zC d) Q (zR d 193 Q) k193_966 lv st μ := zR_of rfl
theorem u193_1009 {d : Nat} {Q : Int → zM → Prop} {lv st : List zV} {μ : zM} : zR d 193 Q 1009 lv st μ ↔ zB (zC d) Q (zR d 193 Q) k193_1009 lv st μ := zR_of rfl
theorem u193_1073 {d : Nat} {Q : Int → zM → Prop} {lv st : List zV} {μ : zM} : zR d 193 Q 1073 lv st μ ↔ zB (zC d) Q (zR d 193 Q) k193_1073 lv st μ := zR_of rfl
theorem u193_1106 {d : Nat} {Q : Int → zM → Prop} {lv st : List zV} {μ : zM} : zR d 193 Q 1106 lv st μ ↔ zB (zC d) Q (zR d 193 Q) k193_1106 lv st μ := zR_of rfl
theorem u193_1139 {d : Nat} {Q : Int → zM → Prop} {lv st : List zV} {μ : zM} : zR d 193 Q 1139 lv st μ ↔ zB (zC d) Q (zR d 193 Q) k193_1139 lv st μ := zR_of rfl
theorem u193_1162 {d : Nat} {Q : Int → zM → Prop} {lv st : List zV} {μ : zM} : zR d 193 Q 1162 lv st μ ↔ zB (zC d) Q (zR d 193 Q) k193_1162 lv st μ := zR_of rfl
theorem u193_1185 {d : Nat} {Q : Int → zM → Prop} {lv st : List zV} {μ : zM} : zR d 193 Q 1185 lv st μ ↔ zB (zC d) Q (zR d 193 Q) k193_1185 lv st μ := zR_of rfl
theorem u193_1228 {d : Nat} {Q : Int → zM → Prop} {lv st : List zV} {μ : zM} : zR d 193 Q 1228 lv st μ ↔ zB (zC d) Q (zR d 193 Q) k193_1228 lv st μ := zR_of rfl
theorem u193_1261 {d : Nat} {Q : Int → zM → Prop} {lv st : List zV} {μ : zM} : zR d 193 Q 1261 lv st μ ↔ zB (zC d) Q (zR d 193 Q) k193_1261 lv st μ := zR_of rfl
theorem u193_1334 {d : Nat} {Q : Int → zM → Prop} {lv st : List zV} {μ : zM} : zR d 193 Q 1334 lv st μ ↔ zB (zC d) Q (zR d 193 Q) k193_1334 lv st μ := zR_of rfl
theorem u193_1368 {d : Nat} {Q : Int → zM → Prop} {lv st : List zV} {μ : zM} : zR d 193 Q 1368 lv st μ ↔ zB (zC d) Q (zR d 193 Q) k193_1368 lv st μ := zR_of rfl
theorem u193_1381 {d : Nat} {Q : Int → zM → Prop} {lv st : List zV} {μ : zM} : zR d 193 Q 1381 lv st μ ↔ zB (zC d) Q (zR d 193 Q) k193_1381 lv st μ := zR_of rfl
theorem u193_1394 {d : Nat} {Q : Int → zM → Prop} {lv st : List zV} {μ : zM} : zR d 193 Q 1394 lv st μ ↔ zB (zC d) Q (zR d 193 Q) k193_1394 lv st μ := zR_of rfl
theorem u193_1417 {d : Nat} {Q : Int → zM → Prop} {lv st : List zV} {μ : zM} : zR d 193 Q 1417 lv st μ ↔ zB (zC d) Q (zR d 193 Q) k193_1417 lv st μ := zR_of rfl
theorem u193_1423 {d : Nat} {Q : Int → zM → Prop} {lv st : List zV} {μ : zM} : zR d 193 Q 1423 lv st μ ↔ zB (zC d) Q (zR d 193 Q) k193_1423 lv st μ := zR_of rfl
theorem zT_0 : zT 0 = 3 := rfl
theorem zN_0 : zN 0 = 5 := rfl
theorem zG_160_0 : zG 160 0 = 1 := rfl
theorem zGf_160_0 {μ : zM} {k : zV → Prop} : zGet (zG 160 0) 0 160 μ k = k (2, 1) := rfl
theorem zG_161_0 : zG 161 0 = 8 := rfl
theorem zGf_161_0 {μ : zM} {k : zV → Prop} : zGet (zG 161 0) 0 161 μ k = k (2, 8) := rfl
theorem zG_162_0 : zG 162 0 = (-2) := rfl
theorem zGf_162_0 {μ : zM} {k : zV → Prop} : zGet (zG 162 0) 0 162 μ k = k (0, μ 0 2) := zGet_z
theorem zPf_162_0 {v : Int} {μ : zM} {k : zM → Prop} : zPut (zG 162 0) 0 162 v μ k = ((v = 0 ∨ v = 1) ∧ k (zu μ 0 2 v)) := zPut_z
theorem zG_163_0 : zG 163 0 = 15 := rfl
theorem zGf_163_0 {μ : zM} {k : zV → Prop} : zGet (zG 163 0) 0 163 μ k = k (2, 15) := rfl
theorem zG_164_0 : zG 164 0 = 17 := rfl
theorem zGf_164_0 {μ : zM} {k : zV → Prop} : zGet (zG 164 0) 0 164 μ k = k (2, 17) := rfl
theorem zG_165_0 : zG 165 0 = 19 := rfl
theorem zGf_165_0 {μ : zM} {k : zV → Prop} : zGet (zG 165 0) 0 165 μ k = k (2, 19) := rfl
theorem zG_166_0 : zG 166 0 = 24 := rfl
theorem zGf_166_0 {μ : zM} {k : zV → Prop} : zGet (zG 166 0) 0 166 μ k = k (2, 24) := rfl
theorem zG_167_0 : zG 167 0 = (-2) := rfl
theorem zGf_167_0 {μ : zM} {k : zV → Prop} : zGet (zG 167 0) 0 167 μ k = k (0, μ 0 7) := zGet_z
theorem zPf_167_0 {v : Int} {μ : zM} {k : zM → Prop} : zPut (zG 167 0) 0 167 v μ k = ((v = 0 ∨ v = 1) ∧ k (zu μ 0 7 v)) := zPut_z
theorem zG_168_0 : zG 168 0 = (-2) := rfl
theorem zGf_168_0 {μ : zM} {k : zV → Prop} : zGet (zG 168 0) 0 168 μ k = k (0, μ 0 8) := zGet_z
theorem zPf_168_0 {v : Int} {μ : zM} {k : zM → Prop} : zPut (zG 168 0) 0 168 v μ k = ((v = 0 ∨ v = 1) ∧ k (zu μ 0 8 v)) := zPut_z
theorem zG_169_0 : zG 169 0 = 29 := rfl
theorem zGf_169_0 {μ : zM} {k : zV → Prop} : zGet (zG 169 0) 0 169 μ k = k (2, 29) := rfl
theorem zG_170_0 : zG 170 0 = 33 := rfl
theorem zGf_170_0 {μ : zM} {k : zV → Prop} : zGet (zG 170 0) 0 170 μ k = k (2, 33) := rfl
theorem zG_171_0 : zG 171 0 = (-1) := rfl
theorem zGf_171_0 {μ : zM} {k : zV → Prop} : zGet (zG 171 0) 0 171 μ k = k (0, μ 0 11) := zGet_n
theorem zPf_171_0 {v : Int} {μ : zM} {k : zM → Prop} : zPut (zG 171 0) 0 171 v μ k = k (zu μ 0 11 v) := zPut_n
theorem zG_172_0 : zG 172 0 = 34 := rfl
theorem zGf_172_0 {μ : zM} {k : zV → Prop} : zGet (zG 172 0) 0 172 μ k = k (2, 34) := rfl
theorem zG_173_0 : zG 173 0 = 35 := rfl
theorem zGf_173_0 {μ : zM} {k : zV → Prop} : zGet (zG 173 0) 0 173 μ k = k (2, 35) := rfl
theorem zG_174_0 : zG 174 0 = 36 := rfl
theorem zGf_174_0 {μ : zM} {k : zV → Prop} : zGet (zG 174 0) 0 174 μ k = k (2, 36) := rfl
theorem zG_175_0 : zG 175 0 = 37 := rfl
theorem zGf_175_0 {μ : zM} {k : zV → Prop} : zGet (zG 175 0) 0 175 μ k = k (2, 37) := rfl
theorem zG_176_0 : zG 176 0 = 38 := rfl
theorem zGf_176_0 {μ : zM} {k : zV → Prop} : zGet (zG 176 0) 0 176 μ k = k (2, 38) := rfl
theorem zT_1 : zT 1 = 3 := rfl
theorem zN_1 : zN 1 = 2 := rfl
theorem zG_64_1 : zG 64 1 = (-1) := rfl
theorem zGf_64_1 {μ : zM} {k : zV → Prop} : zGet (zG 64 1) 1 64 μ k = k (0, μ 1 0) := zGet_n
theorem zPf_64_1 {v : Int} {μ : zM} {k : zM → Prop} : zPut (zG 64 1) 1 64 v μ k = k (zu μ 1 0 v) := zPut_n
theorem zG_65_1 : zG 65 1 = (-1) := rfl
theorem zGf_65_1 {μ : zM} {k : zV → Prop} : zGet (zG 65 1) 1 65 μ k = k (0, μ 1 1) := zGet_n
theorem zPf_65_1 {v : Int} {μ : zM} {k : zM → Prop} : zPut (zG 65 1) 1 65 v μ k = k (zu μ 1 1 v) := zPut_n
theorem zG_66_1 : zG 66 1 = (-1) := rfl
theorem zGf_66_1 {μ : zM} {k : zV → Prop} : zGet (zG 66 1) 1 66 μ k = k (0, μ 1 2) := zGet_n
theorem zPf_66_1 {v : Int} {μ : zM} {k : zM → Prop} : zPut (zG 66 1) 1 66 v μ k = k (zu μ 1 2 v) := zPut_n
theorem zG_67_1 : zG 67 1 = 2 := rfl
theorem zGf_67_1 {μ : zM} {k : zV → Prop} : zGet (zG 67 1) 1 67 μ k = k (2, 2) := rfl
theorem zG_68_1 : zG 68 1 = 3 := rfl
theorem zGf_68_1 {μ : zM} {k : zV → Prop} : zGet (zG 68 1) 1 68 μ k = k (2, 3) := rfl
theorem zG_69_1 : zG 69 1 = 4 := rfl
theorem zGf_69_1 {μ : zM} {k : zV → Prop} : zGet (zG 69 1) 1 69 μ k = k (2, 4) := rfl
theorem zG_70_1 : zG 70 1 = 5 := rfl
theorem zGf_70_1 {μ : zM} {k : zV → Prop} : zGet (zG 70 1) 1 70 μ k = k (2, 5) := rfl
theorem zG_71_1 : zG 71 1 = 6 := rfl
theorem zGf_71_1 {μ : zM} {k : zV → Prop} : zGet (zG 71 1) 1 71 μ k = k (2, 6) := rfl
theorem zG_72_1 : zG 72 1 = 7 := rfl
theorem zGf_72_1 {μ : zM} {k : zV → Prop} : zGet (zG 72 1) 1 72 μ k = k (2, 7) := rfl
theorem zG_73_1 : zG 73 1 = (-1) := rfl
theorem zGf_73_1 {μ : zM} {k : zV → Prop} : zGet (zG 73 1) 1 73 μ k = k (0, μ 1 9) := zGet_n
theorem zPf_73_1 {v : Int} {μ : zM} {k : zM → Prop} : zPut (zG 73 1) 1 73 v μ k = k (zu μ 1 9 v) := zPut_n
theorem zT_2 : zT 2 = 0 := rfl
theorem zN_2 : zN 2 = 125 := rfl
theorem zAl_2 {j : Int} {μ : zM} {k : Int → Prop} : zAld 0 2 j μ k = (0 ≤ j ∧ j < 125 ∧ k (μ 2 j)) := rfl
theorem zAs_2 {j v : Int} {μ : zM} {k : zM → Prop} : zAst 0 2 j v μ k = (0 ≤ j ∧ j < 125 ∧ k (zu μ 2 j v)) := by simp only [zAst, zT_2, zN_2, true_and]
theorem zT_3 : zT 3 = 0 := rfl
theorem zN_3 : zN 3 = 20 := rfl
theorem zAl_3 {j : Int} {μ : zM} {k : Int → Prop} : zAld 0 3 j μ k = (0 ≤ j ∧ j < 20 ∧ k (μ 3 j)) := rfl
theorem zAs_3 {j v : Int} {μ : zM} {k : zM → Prop} : zAst 0 3 j v μ k = (0 ≤ j ∧ j < 20 ∧ k (zu μ 3 j v)) := by simp only [zAst, zT_3, zN_3, true_and]
theorem zT_4 : zT 4 = 0 := rfl
theorem zN_4 : zN 4 = 25 := rfl
theorem zAl_4 {j : Int} {μ : zM} {k : Int → Prop} : zAld 0 4 j μ k = (0 ≤ j ∧ j < 25 ∧ k (μ 4 j)) := rfl
theorem zAs_4 {j v : Int} {μ : zM} {k : zM → Prop} : zAst 0 4 j v μ k = (0 ≤ j ∧ j < 25 ∧ k (zu μ 4 j v)) := by simp only [zAst, zT_4, zN_4, true_and]
theorem zT_5 : zT 5 = 0 := rfl
theorem zN_5 : zN 5 = 5 := rfl
theorem zAl_5 {j : Int} {μ : zM} {k : Int → Prop} : zAld 0 5 j μ k = (0 ≤ j ∧ j < 5 ∧ k (μ 5 j)) := rfl
theorem zAs_5 {j v : Int} {μ : zM} {k : zM → Prop} : zAst 0 5 j v μ k = (0 ≤ j ∧ j < 5 ∧ k (zu μ 5 j v)) := by simp only [zAst, zT_5, zN_5, true_and]
theorem zT_6 : zT 6 = 0 := rfl
theorem zN_6 : zN 6 = 8 := rfl
theorem zAl_6 {j : Int} {μ : zM} {k : Int → Prop} : zAld 0 6 j μ k = (0 ≤ j ∧ j < 8 ∧ k (μ 6 j)) := rfl
theorem zAs_6 {j v : Int} {μ : zM} {k : zM → Prop} : zAst 0 6 j v μ k = (0 ≤ j ∧ j < 8 ∧ k (zu μ 6 j v)) := by simp only [zAst, zT_6, zN_6, true_and]
theorem zT_7 : zT 7 = 0 := rfl
theorem zN_7 : zN 7 = 8 := rfl
theorem zAl_7 {j : Int} {μ : zM} {k : Int → Prop} : zAld 0 7 j μ k = (0 ≤ j ∧ j < 8 ∧ k (μ 7 j)) := rfl
theorem zAs_7 {j v : Int} {μ : zM} {k : zM → Prop} : zAst 0 7 j v μ k = (0 ≤ j ∧ j < 8 ∧ k (zu μ 7 j v)) := by simp only [zAst, zT_7, zN_7, true_and]
theorem zT_8 : zT 8 = 3 := rfl
theorem zN_8 : zN 8 = 2 := rfl
theorem zG_64_8 : zG 64 8 = (-1) := rfl
theorem zGf_64_8 {μ : zM} {k : zV → Prop} : zGet (zG 64 8) 8 64 μ k = k (0, μ 8 0) := zGet_n
theorem zPf_64_8 {v : Int} {μ : zM} {k : zM → Prop} : zPut (zG 64 8) 8 64 v μ k = k (zu μ 8 0 v) := zPut_n
theorem zG_65_8 : zG 65 8 = (-1) := rfl
theorem zGf_65_8 {μ : zM} {k : zV → Prop} : zGet (zG 65 8) 8 65 μ k = k (0, μ 8 1) := zGet_n
theorem zPf_65_8 {v : Int} {μ : zM} {k : zM → Prop} : zPut (zG 65 8) 8 65 v μ k = k (zu μ 8 1 v) := zPut_n
theorem zG_66_8 : zG 66 8 = (-1) := rfl
theorem zGf_66_8 {μ : zM} {k : zV → Prop} : zGet (zG 66 8) 8 66 μ k = k (0, μ 8 2) := zGet_n
theorem zPf_66_8 {v : Int} {μ : zM} {k : zM → Prop} : zPut (zG 66 8) 8 66 v μ k = k (zu μ 8 2 v) := zPut_n
theorem zG_67_8 : zG 67 8 = 9 := rfl
theorem zGf_67_8 {μ : zM} {k : zV → Prop} : zGet (zG 67 8) 8 67 μ k = k (2, 9) := rfl
theorem zG_68_8 : zG 68 8 = 10 := rfl
theorem zGf_68_8 {μ : zM} {k : zV → Prop} : zGet (zG 68 8) 8 68 μ k = k (2, 10) := rfl
theorem zG_69_8 : zG 69 8 = 11 := rfl
theorem zGf_69_8 {μ : zM} {k : zV → Prop} : zGet (zG 69 8) 8 69 μ k = k (2, 11) := rfl
theorem zG_70_8 : zG 70 8 = 12 := rfl
theorem zGf_70_8 {μ : zM} {k : zV → Prop} : zGet (zG 70 8) 8 70 μ k = k (2, 12) := rfl
theorem zG_71_8 : zG 71 8 = 13 := rfl
theorem zGf_71_8 {μ : zM} {k : zV → Prop} : zGet (zG 71 8) 8 71 μ k = k (2, 13) := rfl
theorem zG_72_8 : zG 72 8 = 14 := rfl
theorem zGf_72_8 {μ : zM} {k : zV → Prop} : zGet (zG 72 8) 8 72 μ k = k (2, 14) := rfl
theorem zG_73_8 : zG 73 8 = (-1) := rfl
theorem zGf_73_8 {μ : zM} {k : zV → Prop} : zGet (zG 73 8) 8 73 μ k = k (0, μ 8 9) := zGet_n
theorem zPf_73_8 {v : Int} {μ : zM} {k : zM → Prop} : zPut (zG 73 8) 8 73 v μ k = k (zu μ 8 9 v) := zPut_n
theorem zT_9 : zT 9 = 0 := rfl
theorem zN_9 : zN 9 = 125 := rfl
theorem zAl_9 {j : Int} {μ : zM} {k : Int → Prop} : zAld 0 9 j μ k = (0 ≤ j ∧ j < 125 ∧ k (μ 9 j)) := rfl
theorem zAs_9 {j v : Int} {μ : zM} {k : zM → Prop} : zAst 0 9 j v μ k = (0 ≤ j ∧ j < 125 ∧ k (zu μ 9 j v)) := by simp only [zAst, zT_9, zN_9, true_and]
theorem zT_10 : zT 10 = 0 := rfl
theorem zN_10 : zN 10 = 20 := rfl
theorem zAl_10 {j : Int} {μ : zM} {k : Int → Prop} : zAld 0 10 j μ k = (0 ≤ j ∧ j < 20 ∧ k (μ 10 j)) := rfl
theorem zAs_10 {j v : Int} {μ : zM} {k : zM → Prop} : zAst 0 10 j v μ k = (0 ≤ j ∧ j < 20 ∧ k (zu μ 10 j v)) := by simp only [zAst, zT_10, zN_10, true_and]
theorem zT_11 : zT 11 = 0 := rfl
theorem zN_11 : zN 11 = 25 := rfl
theorem zAl_11 {j : Int} {μ : zM} {k : Int → Prop} : zAld 0 11 j μ k = (0 ≤ j ∧ j < 25 ∧ k (μ 11 j)) := rfl
theorem zAs_11 {j v : Int} {μ : zM} {k : zM → Prop} : zAst 0 11 j v μ k = (0 ≤ j ∧ j < 25 ∧ k (zu μ 11 j v)) := by simp only [zAst, zT_11, zN_11, true_and]
theorem zT_12 : zT 12 = 0 := rfl
theorem zN_12 : zN 12 = 5 := rfl
theorem zAl_12 {j : Int} {μ : zM} {k : Int → Prop} : zAld 0 12 j μ k = (0 ≤ j ∧ j < 5 ∧ k (μ 12 j)) := rfl
theorem zAs_12 {j v : Int} {μ : zM} {k : zM → Prop} : zAst 0 12 j v μ k = (0 ≤ j ∧ j < 5 ∧ k (zu μ 12 j v)) := by simp only [zAst, zT_12, zN_12, true_and]
theorem zT_13 : zT 13 = 0 := rfl
theorem zN_13 : zN 13 = 8 := rfl
theorem zAl_13 {j : Int} {μ : zM} {k : Int → Prop} : zAld 0 13 j μ k = (0 ≤ j ∧ j < 8 ∧ k (μ 13 j)) := rfl
theorem zAs_13 {j v : Int} {μ : zM} {k : zM → Prop} : zAst 0 13 j v μ k = (0 ≤ j ∧ j < 8 ∧ k (zu μ 13 j v)) := by simp only [zAst, zT_13, zN_13, true_and]
theorem zT_14 : zT 14 = 0 := rfl
theorem zN_14 : zN 14 = 8 := rfl
theorem zAl_14 {j : Int} {μ : zM} {k : Int → Prop} : zAld 0 14 j μ k = (0 ≤ j ∧ j < 8 ∧ k (μ 14 j)) := rfl
theorem zAs_14 {j v : Int} {μ : zM} {k : zM → Prop} : zAst 0 14 j v μ k = (0 ≤ j ∧ j < 8 ∧ k (zu μ 14 j v)) := by simp only [zAst, zT_14, zN_14, true_and]
theorem zT_15 : zT 15 = 3 := rfl
theorem zN_15 : zN 15 = 1 := rfl
theorem zG_32_15 : zG 32 15 = (-1) := rfl
theorem zGf_32_15 {μ : zM} {k : zV → Prop} : zGet (zG 32 15) 15 32 μ k = k (0, μ 15 0) := zGet_n
theorem zPf_32_15 {v : Int} {μ : zM} {k : zM → Prop} : zPut (zG 32 15) 15 32 v μ k = k (zu μ 15 0 v) := zPut_n
theorem zG_33_15 : zG 33 15 = 16 := rfl
theorem zGf_33_15 {μ : zM} {k : zV → Prop} : zGet (zG 33 15) 15 33 μ k = k (2, 16) := rfl
theorem zT_16 : zT 16 = 0 := rfl
theorem zN_16 : zN 16 = 125 := rfl
theorem zAl_16 {j : Int} {μ : zM} {k : Int → Prop} : zAld 0 16 j μ k = (0 ≤ j ∧ j < 125 ∧ k (μ 16 j)) := rfl
theorem zAs_16 {j v : Int} {μ : zM} {k : zM → Prop} : zAst 0 16 j v μ k = (0 ≤ j ∧ j < 125 ∧ k (zu μ 16 j v)) := by simp only [zAst, zT_16, zN_16, true_and]
theorem zT_17 : zT 17 = 3 := rfl
theorem zN_17 : zN 17 = 1 := rfl
theorem zG_32_17 : zG 32 17 = (-1) := rfl
theorem zGf_32_17 {μ : zM} {k : zV → Prop} : zGet (zG 32 17) 17 32 μ k = k (0, μ 17 0) := zGet_n
theorem zPf_32_17 {v : Int} {μ : zM} {k : zM → Prop} : zPut (zG 32 17) 17 32 v μ k = k (zu μ 17 0 v) := zPut_n
theorem zG_33_17 : zG 33 17 = 18 := rfl
theorem zGf_33_17 {μ : zM} {k : zV → Prop} : zGet (zG 33 17) 17 33 μ k = k (2, 18) := rfl
theorem zT_18 : zT 18 = 0 := rfl
theorem zN_18 : zN 18 = 125 := rfl
theorem zAl_18 {j : Int} {μ : zM} {k : Int → Prop} : zAld 0 18 j μ k = (0 ≤ j ∧ j < 125 ∧ k (μ 18 j)) := rfl
theorem zAs_18 {j v : Int} {μ : zM} {k : zM → Prop} : zAst 0 18 j v μ k = (0 ≤ j ∧ j < 125 ∧ k (zu μ 18 j v)) := by simp only [zAst, zT_18, zN_18, true_and]
theorem zT_19 : zT 19 = 3 := rfl
theorem zN_19 : zN 19 = 0 := rfl
theorem zG_0_19 : zG 0 19 = (-1) := rfl
theorem zGf_0_19 {μ : zM} {k : zV → Prop} : zGet (zG 0 19) 19 0 μ k = k (0, μ 19 0) := zGet_n
theorem zPf_0_19 {v : Int} {μ : zM} {k : zM → Prop} : zPut (zG 0 19) 19 0 v μ k = k (zu μ 19 0 v) := zPut_n
theorem zG_1_19 : zG 1 19 = 20 := rfl
theorem zGf_1_19 {μ : zM} {k : zV → Prop} : zGet (zG 1 19) 19 1 μ k = k (2, 20) := rfl
theorem zG_2_19 : zG 2 19 = 21 := rfl
theorem zGf_2_19 {μ : zM} {k : zV → Prop} : zGet (zG 2 19) 19 2 μ k = k (2, 21) := rfl
theorem zG_3_19 : zG 3 19 = 22 := rfl
theorem zGf_3_19 {μ : zM} {k : zV → Prop} : zGet (zG 3 19) 19 3 μ k = k (2, 22) := rfl
theorem zG_4_19 : zG 4 19 = 23 := rfl
theorem zGf_4_19 {μ : zM} {k : zV → Prop} : zGet (zG 4 19) 19 4 μ k = k (2, 23) := rfl
theorem zT_20 : zT 20 = 0 := rfl
theorem zN_20 : zN 20 = 25 := rfl
theorem zAl_20 {j : Int} {μ : zM} {k : Int → Prop} : zAld 0 20 j μ k = (0 ≤ j ∧ j < 25 ∧ k (μ 20 j)) := rfl
theorem zAs_20 {j v : Int} {μ : zM} {k : zM → Prop} : zAst 0 20 j v μ k = (0 ≤ j ∧ j < 25 ∧ k (zu μ 20 j v)) := by simp only [zAst, zT_20, zN_20, true_and]
theorem zT_21 : zT 21 = 0 := rfl
theorem zN_21 : zN 21 = 5 := rfl
theorem zAl_21 {j : Int} {μ : zM} {k : Int → Prop} : zAld 0 21 j μ k = (0 ≤ j ∧ j < 5 ∧ k (μ 21 j)) := rfl
theorem zAs_21 {j v : Int} {μ : zM} {k : zM → Prop} : zAst 0 21 j v μ k = (0 ≤ j ∧ j < 5 ∧ k (zu μ 21 j v)) := by simp only [zAst, zT_21, zN_21, true_and]
theorem zT_22 : zT 22 = 0 := rfl
theorem zN_22 : zN 22 = 5 := rfl
theorem zAl_22 {j : Int} {μ : zM} {k : Int → Prop} : zAld 0 22 j μ k = (0 ≤ j ∧ j < 5 ∧ k (μ 22 j)) := rfl
theorem zAs_22 {j v : Int} {μ : zM} {k : zM → Prop} : zAst 0 22 j v μ k = (0 ≤ j ∧ j < 5 ∧ k (zu μ 22 j v)) := by simp only [zAst, zT_22, zN_22, true_and]
theorem zT_23 : zT 23 = 0 := rfl
theorem zN_23 : zN 23 = 125 := rfl
theorem zAl_23 {j : Int} {μ : zM} {k : Int → Prop} : zAld 0 23 j μ k = (0 ≤ j ∧ j < 125 ∧ k (μ 23 j)) := rfl
theorem zAs_23 {j v : Int} {μ : zM} {k : zM → Prop} : zAst 0 23 j v μ k = (0 ≤ j ∧ j < 125 ∧ k (zu μ 23 j v)) := by simp only [zAst, zT_23, zN_23, true_and]
theorem zT_24 : zT 24 = 3 := rfl
theorem zN_24 : zN 24 = 4 := rfl
theorem zG_128_24 : zG 128 24 = 25 := rfl
theorem zGf_128_24 {μ : zM} {k : zV → Prop} : zGet (zG 128 24) 24 128 μ k = k (2, 25) := rfl
theorem zG_129_24 : zG 129 24 = 26 := rfl
theorem zGf_129_24 {μ : zM} {k : zV → Prop} : zGet (zG 129 24) 24 129 μ k = k (2, 26) := rfl
theorem zG_130_24 : zG 130 24 = 27 := rfl
theorem zGf_130_24 {μ : zM} {k : zV → Prop} : zGet (zG 130 24) 24 130 μ k = k (2, 27) := rfl
theorem zG_131_24 : zG 131 24 = 28 := rfl
theorem zGf_131_24 {μ : zM} {k : zV → Prop} : zGet (zG 131 24) 24 131 μ k = k (2, 28) := rfl
theorem zT_25 : zT 25 = 0 := rfl
theorem zN_25 : zN 25 = 25 := rfl
theorem zAl_25 {j : Int} {μ : zM} {k : Int → Prop} : zAld 0 25 j μ k = (0 ≤ j ∧ j < 25 ∧ k (μ 25 j)) := rfl
theorem zAs_25 {j v : Int} {μ : zM} {k : zM → Prop} : zAst 0 25 j v μ k = (0 ≤ j ∧ j < 25 ∧ k (zu μ 25 j v)) := by simp only [zAst, zT_25, zN_25, true_and]
theorem zT_26 : zT 26 = 0 := rfl
theorem zN_26 : zN 26 = 25 := rfl
theorem zAl_26 {j : Int} {μ : zM} {k : Int → Prop} : zAld 0 26 j μ k = (0 ≤ j ∧ j < 25 ∧ k (μ 26 j)) := rfl
theorem zAs_26 {j v : Int} {μ : zM} {k : zM → Prop} : zAst 0 26 j v μ k = (0 ≤ j ∧ j < 25 ∧ k (zu μ 26 j v)) := by simp only [zAst, zT_26, zN_26, true_and]
theorem zT_27 : zT 27 = 0 := rfl
theorem zN_27 : zN 27 = 25 := rfl
theorem zAl_27 {j : Int} {μ : zM} {k : Int → Prop} : zAld 0 27 j μ k = (0 ≤ j ∧ j < 25 ∧ k (μ 27 j)) := rfl
theorem zAs_27 {j v : Int} {μ : zM} {k : zM → Prop} : zAst 0 27 j v μ k = (0 ≤ j ∧ j < 25 ∧ k (zu μ 27 j v)) := by simp only [zAst, zT_27, zN_27, true_and]
theorem zT_28 : zT 28 = 0 := rfl
theorem zN_28 : zN 28 = 25 := rfl
theorem zAl_28 {j : Int} {μ : zM} {k : Int → Prop} : zAld 0 28 j μ k = (0 ≤ j ∧ j < 25 ∧ k (μ 28 j)) := rfl
theorem zAs_28 {j v : Int} {μ : zM} {k : zM → Prop} : zAst 0 28 j v μ k = (0 ≤ j ∧ j < 25 ∧ k (zu μ 28 j v)) := by simp only [zAst, zT_28, zN_28, true_and]
theorem zT_29 : zT 29 = 3 := rfl
theorem zN_29 : zN 29 = 3 := rfl
theorem zG_96_29 : zG 96 29 = 30 := rfl
theorem zGf_96_29 {μ : zM} {k : zV → Prop} : zGet (zG 96 29) 29 96 μ k = k (2, 30) := rfl
theorem zG_97_29 : zG 97 29 = (-1) := rfl
theorem zGf_97_29 {μ : zM} {k : zV → Prop} : zGet (zG 97 29) 29 97 μ k = k (0, μ 29 1) := zGet_n
theorem zPf_97_29 {v : Int} {μ : zM} {k : zM → Prop} : zPut (zG 97 29) 29 97 v μ k = k (zu μ 29 1 v) := zPut_n
theorem zG_98_29 : zG 98 29 = 31 := rfl
theorem zGf_98_29 {μ : zM} {k : zV → Prop} : zGet (zG 98 29) 29 98 μ k = k (2, 31) := rfl
theorem zG_99_29 : zG 99 29 = (-1) := rfl
theorem zGf_99_29 {μ : zM} {k : zV → Prop} : zGet (zG 99 29) 29 99 μ k = k (0, μ 29 3) := zGet_n
theorem zPf_99_29 {v : Int} {μ : zM} {k : zM → Prop} : zPut (zG 99 29) 29 99 v μ k = k (zu μ 29 3 v) := zPut_n
theorem zG_100_29 : zG 100 29 = (-1) := rfl
theorem zGf_100_29 {μ : zM} {k : zV → Prop} : zGet (zG 100 29) 29 100 μ k = k (0, μ 29 4) := zGet_n
theorem zPf_100_29 {v : Int} {μ : zM} {k : zM → Prop} : zPut (zG 100 29) 29 100 v μ k = k (zu μ 29 4 v) := zPut_n
theorem zG_101_29 : zG 101 29 = 32 := rfl
theorem zGf_101_29 {μ : zM} {k : zV → Prop} : zGet (zG 101 29) 29 101 μ k = k (2, 32) := rfl
theorem zT_30 : zT 30 = 1 := rfl
theorem zN_30 : zN 30 = 60 := rfl
theorem zAl_30 {j : Int} {μ : zM} {k : Int → Prop} : zAld 1 30 j μ k = (0 ≤ j ∧ j < 60 ∧ k (μ 30 j)) := rfl
theorem zAs_30 {j v : Int} {μ : zM} {k : zM → Prop} : zAst 1 30 j v μ k = (0 ≤ j ∧ j < 60 ∧ k (zu μ 30 j v)) := by simp only [zAst, zT_30, zN_30, true_and]
theorem zT_31 : zT 31 = 0 := rfl
theorem zN_31 : zN 31 = 5 := rfl
theorem zAl_31 {j : Int} {μ : zM} {k : Int → Prop} : zAld 0 31 j μ k = (0 ≤ j ∧ j < 5 ∧ k (μ 31 j)) := rfl
theorem zAs_31 {j v : Int} {μ : zM} {k : zM → Prop} : zAst 0 31 j v μ k = (0 ≤ j ∧ j < 5 ∧ k (zu μ 31 j v)) := by simp only [zAst, zT_31, zN_31, true_and]
theorem zT_32 : zT 32 = 0 := rfl
theorem zN_32 : zN 32 = 125 := rfl
theorem zAl_32 {j : Int} {μ : zM} {k : Int → Prop} : zAld 0 32 j μ k = (0 ≤ j ∧ j < 125 ∧ k (μ 32 j)) := rfl
theorem zAs_32 {j v : Int} {μ : zM} {k : zM → Prop} : zAst 0 32 j v μ k = (0 ≤ j ∧ j < 125 ∧ k (zu μ 32 j v)) := by simp only [zAst, zT_32, zN_32, true_and]
theorem zT_33 : zT 33 = 1 := rfl
theorem zN_33 : zN 33 = 24 := rfl
theorem zAl_33 {j : Int} {μ : zM} {k : Int → Prop} : zAld 1 33 j μ k = (0 ≤ j ∧ j < 24 ∧ k (μ 33 j)) := rfl
theorem zAs_33 {j v : Int} {μ : zM} {k : zM → Prop} : zAst 1 33 j v μ k = (0 ≤ j ∧ j < 24 ∧ k (zu μ 33 j v)) := by simp only [zAst, zT_33, zN_33, true_and]
theorem zT_34 : zT 34 = 2 := rfl
theorem zN_34 : zN 34 = 48 := rfl
theorem zAl_34 {j : Int} {μ : zM} {k : Int → Prop} : zAld 2 34 j μ k = (0 ≤ j ∧ j < 48 ∧ k (μ 34 j)) := rfl
theorem zAs_34 {j v : Int} {μ : zM} {k : zM → Prop} : zAst 2 34 j v μ k = (0 ≤ j ∧ j < 48 ∧ k (zu μ 34 j v)) := by simp only [zAst, zT_34, zN_34, true_and]
theorem zT_35 : zT 35 = 0 := rfl
theorem zN_35 : zN 35 = 4 := rfl
theorem zAl_35 {j : Int} {μ : zM} {k : Int → Prop} : zAld 0 35 j μ k = (0 ≤ j ∧ j < 4 ∧ k (μ 35 j)) := rfl
theorem zAs_35 {j v : Int} {μ : zM} {k : zM → Prop} : zAst 0 35 j v μ k = (0 ≤ j ∧ j < 4 ∧ k (zu μ 35 j v)) := by simp only [zAst, zT_35, zN_35, true_and]
theorem zT_36 : zT 36 = 2 := rfl
theorem zN_36 : zN 36 = 5 := rfl
theorem zAl_36 {j : Int} {μ : zM} {k : Int → Prop} : zAld 2 36 j μ k = (0 ≤ j ∧ j < 5 ∧ k (μ 36 j)) := rfl
theorem zAs_36 {j v : Int} {μ : zM} {k : zM → Prop} : zAst 2 36 j v μ k = (0 ≤ j ∧ j < 5 ∧ k (zu μ 36 j v)) := by simp only [zAst, zT_36, zN_36, true_and]
theorem zT_37 : zT 37 = 2 := rfl
theorem zN_37 : zN 37 = 5 := rfl
theorem zAl_37 {j : Int} {μ : zM} {k : Int → Prop} : zAld 2 37 j μ k = (0 ≤ j ∧ j < 5 ∧ k (μ 37 j)) := rfl
theorem zAs_37 {j v : Int} {μ : zM} {k : zM → Prop} : zAst 2 37 j v μ k = (0 ≤ j ∧ j < 5 ∧ k (zu μ 37 j v)) := by simp only [zAst, zT_37, zN_37, true_and]
theorem zT_38 : zT 38 = 2 := rfl
theorem zN_38 : zN 38 = 5 := rfl
theorem zAl_38 {j : Int} {μ : zM} {k : Int → Prop} : zAld 2 38 j μ k = (0 ≤ j ∧ j < 5 ∧ k (μ 38 j)) := rfl
theorem zAs_38 {j v : Int} {μ : zM} {k : zM → Prop} : zAst 2 38 j v μ k = (0 ≤ j ∧ j < 5 ∧ k (zu μ 38 j v)) := by simp only [zAst, zT_38, zN_38, true_and]
theorem zT_39 : zT 39 = 3 := rfl
theorem zN_39 : zN 39 = 6 := rfl
theorem zG_192_39 : zG 192 39 = 40 := rfl
theorem zGf_192_39 {μ : zM} {k : zV → Prop} : zGet (zG 192 39) 39 192 μ k = k (2, 40) := rfl
theorem zG_193_39 : zG 193 39 = 41 := rfl
theorem zGf_193_39 {μ : zM} {k : zV → Prop} : zGet (zG 193 39) 39 193 μ k = k (2, 41) := rfl
theorem zG_194_39 : zG 194 39 = (-2) := rfl
theorem zGf_194_39 {μ : zM} {k : zV → Prop} : zGet (zG 194 39) 39 194 μ k = k (0, μ 39 2) := zGet_z
theorem zPf_194_39 {v : Int} {μ : zM} {k : zM → Prop} : zPut (zG 194 39) 39 194 v μ k = ((v = 0 ∨ v = 1) ∧ k (zu μ 39 2 v)) := zPut_z
theorem zG_195_39 : zG 195 39 = 42 := rfl
theorem zGf_195_39 {μ : zM} {k : zV → Prop} : zGet (zG 195 39) 39 195 μ k = k (2, 42) := rfl
theorem zG_196_39 : zG 196 39 = 43 := rfl
theorem zGf_196_39 {μ : zM} {k : zV → Prop} : zGet (zG 196 39) 39 196 μ k = k (2, 43) := rfl
theorem zG_197_39 : zG 197 39 = 44 := rfl
theorem zGf_197_39 {μ : zM} {k : zV → Prop} : zGet (zG 197 39) 39 197 μ k = k (2, 44) := rfl
theorem zG_198_39 : zG 198 39 = (-1) := rfl
theorem zGf_198_39 {μ : zM} {k : zV → Prop} : zGet (zG 198 39) 39 198 μ k = k (0, μ 39 6) := zGet_n
theorem zPf_198_39 {v : Int} {μ : zM} {k : zM → Prop} : zPut (zG 198 39) 39 198 v μ k = k (zu μ 39 6 v) := zPut_n
theorem zG_199_39 : zG 199 39 = (-1) := rfl
theorem zGf_199_39 {μ : zM} {k : zV → Prop} : zGet (zG 199 39) 39 199 μ k = k (0, μ 39 7) := zGet_n
theorem zPf_199_39 {v : Int} {μ : zM} {k : zM → Prop} : zPut (zG 199 39) 39 199 v μ k = k (zu μ 39 7 v) := zPut_n
theorem zG_200_39 : zG 200 39 = (-1) := rfl
theorem zGf_200_39 {μ : zM} {k : zV → Prop} : zGet (zG 200 39) 39 200 μ k = k (0, μ 39 8) := zGet_n
theorem zPf_200_39 {v : Int} {μ : zM} {k : zM → Prop} : zPut (zG 200 39) 39 200 v μ k = k (zu μ 39 8 v) := zPut_n
theorem zG_201_39 : zG 201 39 = 45 := rfl
theorem zGf_201_39 {μ : zM} {k : zV → Prop} : zGet (zG 201 39) 39 201 μ k = k (2, 45) := rfl
theorem zG_202_39 : zG 202 39 = (-1) := rfl
theorem zGf_202_39 {μ : zM} {k : zV → Prop} : zGet (zG 202 39) 39 202 μ k = k (0, μ 39 10) := zGet_n
theorem zPf_202_39 {v : Int} {μ : zM} {k : zM → Prop} : zPut (zG 202 39) 39 202 v μ k = k (zu μ 39 10 v) := zPut_n
theorem zG_203_39 : zG 203 39 = 46 := rfl
theorem zGf_203_39 {μ : zM} {k : zV → Prop} : zGet (zG 203 39) 39 203 μ k = k (2, 46) := rfl
theorem zG_204_39 : zG 204 39 = (-1) := rfl
theorem zGf_204_39 {μ : zM} {k : zV → Prop} : zGet (zG 204 39) 39 204 μ k = k (0, μ 39 12) := zGet_n
theorem zPf_204_39 {v : Int} {μ : zM} {k : zM → Prop} : zPut (zG 204 39) 39 204 v μ k = k (zu μ 39 12 v) := zPut_n
theorem zG_205_39 : zG 205 39 = 47 := rfl
theorem zGf_205_39 {μ : zM} {k : zV → Prop} : zGet (zG 205 39) 39 205 μ k = k (2, 47) := rfl
theorem zG_206_39 : zG 206 39 = 48 := rfl
theorem zGf_206_39 {μ : zM} {k : zV → Prop} : zGet (zG 206 39) 39 206 μ k = k (2, 48) := rfl
theorem zG_207_39 : zG 207 39 = 49 := rfl
theorem zGf_207_39 {μ : zM} {k : zV → Prop} : zGet (zG 207 39) 39 207 μ k = k (2, 49) := rfl
theorem zG_208_39 : zG 208 39 = 50 := rfl
theorem zGf_208_39 {μ : zM} {k : zV → Prop} : zGet (zG 208 39) 39 208 μ k = k (2, 50) := rfl
theorem zG_209_39 : zG 209 39 = 51 := rfl
theorem zGf_209_39 {μ : zM} {k : zV → Prop} : zGet (zG 209 39) 39 209 μ k = k (2, 51) := rfl
theorem zG_210_39 : zG 210 39 = 52 := rfl
theorem zGf_210_39 {μ : zM} {k : zV → Prop} : zGet (zG 210 39) 39 210 μ k = k (2, 52) := rfl
theorem zG_211_39 : zG 211 39 = 53 := rfl
theorem zGf_211_39 {μ : zM} {k : zV → Prop} : zGet (zG 211 39) 39 211 μ k = k (2, 53) := rfl
theorem zG_212_39 : zG 212 39 = 54 := rfl
theorem zGf_212_39 {μ : zM} {k : zV → Prop} : zGet (zG 212 39) 39 212 μ k = k (2, 54) := rfl
theorem zG_213_39 : zG 213 39 = 55 := rfl
theorem zGf_213_39 {μ : zM} {k : zV → Prop} : zGet (zG 213 39) 39 213 μ k = k (2, 55) := rfl
theorem zG_214_39 : zG 214 39 = (-1) := rfl
theorem zGf_214_39 {μ : zM} {k : zV → Prop} : zGet (zG 214 39) 39 214 μ k = k (0, μ 39 22) := zGet_n
theorem zPf_214_39 {v : Int} {μ : zM} {k : zM → Prop} : zPut (zG 214 39) 39 214 v μ k = k (zu μ 39 22 v) := zPut_n
theorem zG_215_39 : zG 215 39 = 56 := rfl
theorem zGf_215_39 {μ : zM} {k : zV → Prop} : zGet (zG 215 39) 39 215 μ k = k (2, 56) := rfl
theorem zG_216_39 : zG 216 39 = 57 := rfl
theorem zGf_216_39 {μ : zM} {k : zV → Prop} : zGet (zG 216 39) 39 216 μ k = k (2, 57) := rfl
theorem zT_40 : zT 40 = 0 := rfl
theorem zN_40 : zN 40 = 195 := rfl
theorem zAl_40 {j : Int} {μ : zM} {k : Int → Prop} : zAld 0 40 j μ k = (0 ≤ j ∧ j < 195 ∧ k (μ 40 j)) := rfl
theorem zAs_40 {j v : Int} {μ : zM} {k : zM → Prop} : zAst 0 40 j v μ k = (0 ≤ j ∧ j < 195 ∧ k (zu μ 40 j v)) := by simp only [zAst, zT_40, zN_40, true_and]
theorem zT_41 : zT 41 = 0 := rfl
theorem zN_41 : zN 41 = 195 := rfl
theorem zAl_41 {j : Int} {μ : zM} {k : Int → Prop} : zAld 0 41 j μ k = (0 ≤ j ∧ j < 195 ∧ k (μ 41 j)) := rfl
theorem zAs_41 {j v : Int} {μ : zM} {k : zM → Prop} : zAst 0 41 j v μ k = (0 ≤ j ∧ j < 195 ∧ k (zu μ 41 j v)) := by simp only [zAst, zT_41, zN_41, true_and]
theorem zT_42 : zT 42 = 2 := rfl
theorem zN_42 : zN 42 = 5 := rfl
theorem zAl_42 {j : Int} {μ : zM} {k : Int → Prop} : zAld 2 42 j μ k = (0 ≤ j ∧ j < 5 ∧ k (μ 42 j)) := rfl
theorem zAs_42 {j v : Int} {μ : zM} {k : zM → Prop} : zAst 2 42 j v μ k = (0 ≤ j ∧ j < 5 ∧ k (zu μ 42 j v)) := by simp only [zAst, zT_42, zN_42, true_and]
theorem zT_43 : zT 43 = 2 := rfl
theorem zN_43 : zN 43 = 5 := rfl
theorem zAl_43 {j : Int} {μ : zM} {k : Int → Prop} : zAld 2 43 j μ k = (0 ≤ j ∧ j < 5 ∧ k (μ 43 j)) := rfl
theorem zAs_43 {j v : Int} {μ : zM} {k : zM → Prop} : zAst 2 43 j v μ k = (0 ≤ j ∧ j < 5 ∧ k (zu μ 43 j v)) := by simp only [zAst, zT_43, zN_43, true_and]
theorem zT_44 : zT 44 = 0 := rfl
theorem zN_44 : zN 44 = 60 := rfl
theorem zAl_44 {j : Int} {μ : zM} {k : Int → Prop} : zAld 0 44 j μ k = (0 ≤ j ∧ j < 60 ∧ k (μ 44 j)) := rfl
theorem zAs_44 {j v : Int} {μ : zM} {k : zM → Prop} : zAst 0 44 j v μ k = (0 ≤ j ∧ j < 60 ∧ k (zu μ 44 j v)) := by simp only [zAst, zT_44, zN_44, true_and]
theorem zT_45 : zT 45 = 0 := rfl
theorem zN_45 : zN 45 = 5 := rfl
theorem zAl_45 {j : Int} {μ : zM} {k : Int → Prop} : zAld 0 45 j μ k = (0 ≤ j ∧ j < 5 ∧ k (μ 45 j)) := rfl
theorem zAs_45 {j v : Int} {μ : zM} {k : zM → Prop} : zAst 0 45 j v μ k = (0 ≤ j ∧ j < 5 ∧ k (zu μ 45 j v)) := by simp only [zAst, zT_45, zN_45, true_and]
theorem zT_46 : zT 46 = 0 := rfl
theorem zN_46 : zN 46 = 320 := rfl
theorem zAl_46 {j : Int} {μ : zM} {k : Int → Prop} : zAld 0 46 j μ k = (0 ≤ j ∧ j < 320 ∧ k (μ 46 j)) := rfl
theorem zAs_46 {j v : Int} {μ : zM} {k : zM → Prop} : zAst 0 46 j v μ k = (0 ≤ j ∧ j < 320 ∧ k (zu μ 46 j v)) := by simp only [zAst, zT_46, zN_46, true_and]
theorem zT_47 : zT 47 = 0 := rfl
theorem zN_47 : zN 47 = 5 := rfl
theorem zAl_47 {j : Int} {μ : zM} {k : Int → Prop} : zAld 0 47 j μ k = (0 ≤ j ∧ j < 5 ∧ k (μ 47 j)) := rfl
theorem zAs_47 {j v : Int} {μ : zM} {k : zM → Prop} : zAst 0 47 j v μ k = (0 ≤ j ∧ j < 5 ∧ k (zu μ 47 j v)) := by simp only [zAst, zT_47, zN_47, true_and]
theorem zT_48 : zT 48 = 0 := rfl
theorem zN_48 : zN 48 = 25 := rfl
theorem zAl_48 {j : Int} {μ : zM} {k : Int → Prop} : zAld 0 48 j μ k = (0 ≤ j ∧ j < 25 ∧ k (μ 48 j)) := rfl
theorem zAs_48 {j v : Int} {μ : zM} {k : zM → Prop} : zAst 0 48 j v μ k = (0 ≤ j ∧ j < 25 ∧ k (zu μ 48 j v)) := by simp only [zAst, zT_48, zN_48, true_and]
theorem zT_49 : zT 49 = 0 := rfl
theorem zN_49 : zN 49 = 25 := rfl
theorem zAl_49 {j : Int} {μ : zM} {k : Int → Prop} : zAld 0 49 j μ k = (0 ≤ j ∧ j < 25 ∧ k (μ 49 j)) := rfl
theorem zAs_49 {j v : Int} {μ : zM} {k : zM → Prop} : zAst 0 49 j v μ k = (0 ≤ j ∧ j < 25 ∧ k (zu μ 49 j v)) := by simp only [zAst, zT_49, zN_49, true_and]
theorem zT_50 : zT 50 = 0 := rfl
theorem zN_50 : zN 50 = 25 := rfl
theorem zAl_50 {j : Int} {μ : zM} {k : Int → Prop} : zAld 0 50 j μ k = (0 ≤ j ∧ j < 25 ∧ k (μ 50 j)) := rfl
theorem zAs_50 {j v : Int} {μ : zM} {k : zM → Prop} : zAst 0 50 j v μ k = (0 ≤ j ∧ j < 25 ∧ k (zu μ 50 j v)) := by simp only [zAst, zT_50, zN_50, true_and]
theorem zT_51 : zT 51 = 0 := rfl
theorem zN_51 : zN 51 = 25 := rfl
theorem zAl_51 {j : Int} {μ : zM} {k : Int → Prop} : zAld 0 51 j μ k = (0 ≤ j ∧ j < 25 ∧ k (μ 51 j)) := rfl
theorem zAs_51 {j v : Int} {μ : zM} {k : zM → Prop} : zAst 0 51 j v μ k = (0 ≤ j ∧ j < 25 ∧ k (zu μ 51 j v)) := by simp only [zAst, zT_51, zN_51, true_and]
theorem zT_52 : zT 52 = 0 := rfl
theorem zN_52 : zN 52 = 25 := rfl
theorem zAl_52 {j : Int} {μ : zM} {k : Int → Prop} : zAld 0 52 j μ k = (0 ≤ j ∧ j < 25 ∧ k (μ 52 j)) := rfl
theorem zAs_52 {j v : Int} {μ : zM} {k : zM → Prop} : zAst 0 52 j v μ k = (0 ≤ j ∧ j < 25 ∧ k (zu μ 52 j v)) := by simp only [zAst, zT_52, zN_52, true_and]
theorem zT_53 : zT 53 = 0 := rfl
theorem zN_53 : zN 53 = 25 := rfl
theorem zAl_53 {j : Int} {μ : zM} {k : Int → Prop} : zAld 0 53 j μ k = (0 ≤ j ∧ j < 25 ∧ k (μ 53 j)) := rfl
theorem zAs_53 {j v : Int} {μ : zM} {k : zM → Prop} : zAst 0 53 j v μ k = (0 ≤ j ∧ j < 25 ∧ k (zu μ 53 j v)) := by simp only [zAst, zT_53, zN_53, true_and]
theorem zT_54 : zT 54 = 0 := rfl
theorem zN_54 : zN 54 = 195 := rfl
theorem zAl_54 {j : Int} {μ : zM} {k : Int → Prop} : zAld 0 54 j μ k = (0 ≤ j ∧ j < 195 ∧ k (μ 54 j)) := rfl
theorem zAs_54 {j v : Int} {μ : zM} {k : zM → Prop} : zAst 0 54 j v μ k = (0 ≤ j ∧ j < 195 ∧ k (zu μ 54 j v)) := by simp only [zAst, zT_54, zN_54, true_and]
theorem zT_55 : zT 55 = 0 := rfl
theorem zN_55 : zN 55 = 40 := rfl
theorem zAl_55 {j : Int} {μ : zM} {k : Int → Prop} : zAld 0 55 j μ k = (0 ≤ j ∧ j < 40 ∧ k (μ 55 j)) := rfl
theorem zAs_55 {j v : Int} {μ : zM} {k : zM → Prop} : zAst 0 55 j v μ k = (0 ≤ j ∧ j < 40 ∧ k (zu μ 55 j v)) := by simp only [zAst, zT_55, zN_55, true_and]
theorem zT_56 : zT 56 = 2 := rfl
theorem zN_56 : zN 56 = 48 := rfl
theorem zAl_56 {j : Int} {μ : zM} {k : Int → Prop} : zAld 2 56 j μ k = (0 ≤ j ∧ j < 48 ∧ k (μ 56 j)) := rfl
theorem zAs_56 {j v : Int} {μ : zM} {k : zM → Prop} : zAst 2 56 j v μ k = (0 ≤ j ∧ j < 48 ∧ k (zu μ 56 j v)) := by simp only [zAst, zT_56, zN_56, true_and]
theorem zT_57 : zT 57 = 0 := rfl
theorem zN_57 : zN 57 = 4 := rfl
theorem zAl_57 {j : Int} {μ : zM} {k : Int → Prop} : zAld 0 57 j μ k = (0 ≤ j ∧ j < 4 ∧ k (μ 57 j)) := rfl
theorem zAs_57 {j v : Int} {μ : zM} {k : zM → Prop} : zAst 0 57 j v μ k = (0 ≤ j ∧ j < 4 ∧ k (zu μ 57 j v)) := by simp only [zAst, zT_57, zN_57, true_and]
theorem zT_99 : zT 99 = 4 := rfl
end
section
/-! whole numbers and the machine's ints -/
def zi32 (z : Int) : Prop := -2147483648 ≤ z ∧ z < 2147483648
def zi64 (z : Int) : Prop := -9223372036854775808 ≤ z ∧ z < 9223372036854775808
theorem zw_in (z : Int) : zi32 (zw z) := by unfold zi32 zw; omega
theorem zx_in (z : Int) : zi64 (zx z) := by unfold zi64 zx; omega
theorem zb_in (z : Int) : zi32 (zb z) := by unfold zi32 zb; omega
theorem zw_id {z : Int} (h : zi32 z) : zw z = z := by unfold zi32 at h; unfold zw; omega
theorem zx_id {z : Int} (h : zi64 z) : zx z = z := by unfold zi64 at h; unfold zx; omega
theorem zt32 {z : Int} (h : zi32 z) : (Int32.ofInt z).toInt = z := Int32.toInt_ofInt_of_le h.1 h.2
theorem zt64 {z : Int} (h : zi64 z) : (Int64.ofInt z).toInt = z := Int64.toInt_ofInt_of_le h.1 h.2
theorem zin32 (x : Int32) : zi32 x.toInt := ⟨Int32.le_toInt x, Int32.toInt_lt x⟩
theorem zin64 (x : Int64) : zi64 x.toInt := ⟨Int64.le_toInt x, Int64.toInt_lt x⟩
theorem zw_of (z : Int) : Int32.ofInt (zw z) = Int32.ofInt z := by
  rw [← Int32.toInt_inj, zt32 (zw_in z), Int32.toInt_ofInt]
  unfold zw
  simp only [Int.bmod, Int32.size]
  omega
theorem zx_of (z : Int) : Int64.ofInt (zx z) = Int64.ofInt z := by
  rw [← Int64.toInt_inj, zt64 (zx_in z), Int64.toInt_ofInt]
  unfold zx
  simp only [Int.bmod, Int64.size]
  omega
theorem zo_add (a b : Int) : Int32.ofInt a + Int32.ofInt b = Int32.ofInt (zw (a + b)) := by rw [zw_of, Int32.ofInt_add]
theorem zo_sub (a b : Int) : Int32.ofInt a - Int32.ofInt b = Int32.ofInt (zw (a - b)) := by rw [zw_of, Int32.ofInt_sub]
theorem zo_mul (a b : Int) : Int32.ofInt a * Int32.ofInt b = Int32.ofInt (zw (a * b)) := by rw [zw_of, Int32.ofInt_mul]
theorem zo_neg (a : Int) : -Int32.ofInt a = Int32.ofInt (zw (-a)) := by rw [zw_of, Int32.ofInt_neg]
theorem zq_add (a b : Int) : Int64.ofInt a + Int64.ofInt b = Int64.ofInt (zx (a + b)) := by rw [zx_of, Int64.ofInt_add]
theorem zq_mul (a b : Int) : Int64.ofInt a * Int64.ofInt b = Int64.ofInt (zx (a * b)) := by rw [zx_of, Int64.ofInt_mul]
theorem zo_eq {a b : Int} (ha : zi32 a) (hb : zi32 b) : Int32.ofInt a = Int32.ofInt b ↔ a = b := by rw [← Int32.toInt_inj, zt32 ha, zt32 hb]
theorem zo_lt {a b : Int} (ha : zi32 a) (hb : zi32 b) : Int32.ofInt a < Int32.ofInt b ↔ a < b := by rw [Int32.lt_iff_toInt_lt, zt32 ha, zt32 hb]
theorem zo_le {a b : Int} (ha : zi32 a) (hb : zi32 b) : Int32.ofInt a ≤ Int32.ofInt b ↔ a ≤ b := by rw [Int32.le_iff_toInt_le, zt32 ha, zt32 hb]
theorem zq_eq {a b : Int} (ha : zi64 a) (hb : zi64 b) : Int64.ofInt a = Int64.ofInt b ↔ a = b := by rw [← Int64.toInt_inj, zt64 ha, zt64 hb]
theorem zq_lt {a b : Int} (ha : zi64 a) (hb : zi64 b) : Int64.ofInt a < Int64.ofInt b ↔ a < b := by rw [Int64.lt_iff_toInt_lt, zt64 ha, zt64 hb]
theorem zi0 : zi32 0 := by unfold zi32; omega
theorem zo_0 : Int32.ofInt 0 = 0 := by decide
theorem zo_div {a b : Int} (ha : zi32 a) (hb : zi32 b) : Int32.ofInt a / Int32.ofInt b = Int32.ofInt (zw (a.tdiv b)) := by
  rw [zw_of, ← Int32.toInt_inj, Int32.toInt_div, zt32 ha, zt32 hb, Int32.toInt_ofInt]
theorem zo_tmod_in {a b : Int} (ha : zi32 a) (hb : b ≠ 0) : zi32 (a.tmod b) := by
  have h1 := Int.natAbs_tmod a b
  have h2 : a.natAbs % b.natAbs ≤ a.natAbs := Nat.mod_le _ _
  have h3 : 0 ≤ a → 0 ≤ a.tmod b := Int.tmod_nonneg b
  have h4 : 0 ≤ -a → 0 ≤ (-a).tmod b := Int.tmod_nonneg b
  rw [Int.neg_tmod] at h4
  unfold zi32 at *
  omega
theorem zo_rem {a b : Int} (ha : zi32 a) (hb : zi32 b) (h0 : b ≠ 0) : Int32.ofInt a - Int32.ofInt a / Int32.ofInt b * Int32.ofInt b = Int32.ofInt (a.tmod b) := by
  rw [zo_div ha hb, zw_of, ← Int32.ofInt_mul, ← Int32.ofInt_sub]
  congr 1
  have := Int.tmod_add_mul_tdiv a b
  have h2 : b * a.tdiv b = a.tdiv b * b := Int.mul_comm _ _
  omega
theorem zo_i2l {a : Int} (ha : zi32 a) : (Int32.ofInt a).toInt64 = Int64.ofInt a := by
  have h : zi64 a := by unfold zi32 at ha; unfold zi64; omega
  rw [← Int64.toInt_inj, Int32.toInt_toInt64, zt32 ha, zt64 h]
theorem zo_l2i (a : Int) : (Int64.ofInt a).toInt32 = Int32.ofInt (zw a) := by rw [zw_of, Int64.toInt32_ofInt]
theorem zo_i2b {a : Int} (ha : zi32 a) : (Int32.ofInt a).toInt8.toInt32 = Int32.ofInt (zb a) := by
  rw [← Int32.toInt_inj, Int8.toInt_toInt32, Int32.toInt_toInt8, zt32 ha, zt32 (zb_in a)]
  unfold zb
  simp only [Int.bmod]
  omega
theorem zo_cmp {a b : Int} (ha : zi64 a) (hb : zi64 b) : lg_cmp (Int64.ofInt a) (Int64.ofInt b) = Int32.ofInt (zcmp a b) := by
  unfold lg_cmp zcmp
  simp only [gt_iff_lt, zq_lt hb ha, zq_eq ha hb]
  by_cases h1 : a < b
  · rw [if_neg (by omega), if_neg (by omega), if_pos h1]; decide
  · by_cases h2 : a = b
    · rw [if_neg (by omega), if_pos h2, if_neg h1, if_pos h2]; decide
    · rw [if_pos (by omega), if_neg h1, if_neg h2]; decide
theorem zcmp_in (a b : Int) : zi32 (zcmp a b) := by unfold zi32 zcmp; split <;> (try split) <;> omega
theorem zo_nat {j : Int} (hj : zi32 j) : (Int32.ofInt j).toNatClampNeg = j.toNat := by rw [← Int32.toNat_toInt, zt32 hj]
theorem zo_in {j : Int} {n : Nat} (hj : zi32 j) (h0 : 0 ≤ j) (hn : j < n) : vp_in (Int32.ofInt j) n := by
  unfold vp_in
  rw [zo_nat hj, ← zo_0, zo_lt hj zi0]
  omega
theorem zo_nn {j : Int} (hj : zi32 j) (h0 : 0 ≤ j) : ¬ Int32.ofInt j < 0 := by
  rw [← zo_0, zo_lt hj zi0]; omega
theorem zo_byte {a : Int} (ha : zi32 a) : vp_nar .byte (Int32.ofInt a) = Int32.ofInt (zb a) := zo_i2b ha
end
section
/-! the world: the cells of the heap as the memory says; locals and stack -/
def ztr (q : Nat → Nat) : zV → Value
  | (0, x) => .int (Int32.ofInt x)
  | (1, x) => .long (Int64.ofInt x)
  | (_, x) => .ref (q x.toNat)
def zok (v : zV) : Prop := (v.1 = 0 → zi32 v.2) ∧ (v.1 = 1 → zi64 v.2)
def zst (st : List zV) : Prop := ∀ v ∈ st, v.1 ≤ 2 ∧ zok v
def zfl (q : Nat → Nat) (μ : zM) (k : Nat) (x : Int × Nat) : Value := if 0 ≤ x.1 then .ref (q x.1.toNat) else .int (Int32.ofInt (μ k x.2))
def zcell (q : Nat → Nat) (cI cB cL : ClassId) (μ : zM) (k : Nat) : va_E :=
  if zT k = 0 then .inl (cI, (zN k).toNat, .inl (fun i => Int32.ofInt (μ k i))) else
  if zT k = 1 then .inl (cB, (zN k).toNat, .inl (fun i => Int32.ofInt (μ k i))) else
  if zT k = 2 then .inl (cL, (zN k).toNat, .inr (.inl (fun i => Int64.ofInt (μ k i)))) else
  .inr ((zN k).toNat, (zS k).2.2.zipIdx.map (zfl q μ k))
def zws (q : Nat → Nat) (cI cB cL : ClassId) (μ : zM) : va_W := (List.range 58).map (fun k => (q k, zcell q cI cB cL μ k))
def zA (q : Nat → Nat) : Nat → Prop := fun a => ∃ k, k < 58 ∧ q k = a
def zinj (q : Nat → Nat) : Prop := ∀ i j, i < 58 → j < 58 → q i = q j → i = j
def zrng (μ : zM) : Prop := ∀ a i, (zT a = 2 → zi64 (μ a i)) ∧ (¬ zT a = 2 → zi32 (μ a i))
def zscr (L : Nat) (xs : Nat → Int32) (μ : zM) : Prop := μ 98 0 = (L : Int) ∧ ∀ j : Int, 0 ≤ j → j < (L : Int) → μ 99 j = (xs j.toNat).toInt
theorem zst_nil : zst [] := fun _ h => by cases h
theorem zst_cons {v : zV} {st : List zV} (h1 : v.1 ≤ 2) (h2 : zok v) (h : zst st) : zst (v :: st) := fun w hw => by
  rcases List.mem_cons.mp hw with rfl | hw
  · exact ⟨h1, h2⟩
  · exact h w hw
theorem zst_i {x : Int} {st : List zV} (hx : zi32 x) (h : zst st) : zst ((0, x) :: st) := zst_cons (by simp) ⟨fun _ => hx, fun q => (by cases q)⟩ h
theorem zst_l {x : Int} {st : List zV} (hx : zi64 x) (h : zst st) : zst ((1, x) :: st) := zst_cons (by simp) ⟨fun q => (by cases q), fun _ => hx⟩ h
theorem zst_r {x : Int} {st : List zV} (h : zst st) : zst ((2, x) :: st) := zst_cons (by simp) ⟨fun q => (by cases q), fun q => (by cases q)⟩ h
theorem zst_tl {v : zV} {st : List zV} (h : zst (v :: st)) : zst st := fun w hw => h w (List.mem_cons_of_mem _ hw)
theorem zst_hi {x : Int} {st : List zV} (h : zst ((0, x) :: st)) : zi32 x := (h _ List.mem_cons_self).2.1 rfl
theorem zst_hl {x : Int} {st : List zV} (h : zst ((1, x) :: st)) : zi64 x := (h _ List.mem_cons_self).2.2 rfl
theorem zst_drop {st : List zV} (n : Nat) (h : zst st) : zst (st.drop n) := fun w hw => h w (List.mem_of_mem_drop hw)
theorem zws_at {q : Nat → Nat} {cI cB cL : ClassId} {μ : zM} {k : Nat} (h : k < 58) : (zws q cI cB cL μ)[k]? = some (q k, zcell q cI cB cL μ k) := by simp [zws, h]
theorem zws_no {q : Nat → Nat} {cI cB cL : ClassId} {μ : zM} {k : Nat} (h : 58 ≤ k) : (zws q cI cB cL μ)[k]? = none := by simp [zws, h]
theorem zws_get {q : Nat → Nat} {cI cB cL : ClassId} {μ : zM} {k : Nat} {x : Nat × va_E} (h : (zws q cI cB cL μ)[k]? = some x) : k < 58 ∧ x = (q k, zcell q cI cB cL μ k) := by
  rcases Nat.lt_or_ge k 58 with hk | hk
  · rw [zws_at hk] at h; cases h; exact ⟨hk, rfl⟩
  · rw [zws_no hk] at h; cases h
theorem zcell_eq {q : Nat → Nat} {cI cB cL : ClassId} {μ μ' : zM} {k : Nat} (h : ∀ i, μ' k i = μ k i) : zcell q cI cB cL μ' k = zcell q cI cB cL μ k := by
  have e : μ' k = μ k := funext h
  unfold zcell
  have e2 : zfl q μ' k = zfl q μ k := by funext x; unfold zfl; rw [e]
  rw [e, e2]
theorem zws_set {q : Nat → Nat} {cI cB cL : ClassId} {μ μ' : zM} {k : Nat} (hk : k < 58) (h : ∀ j : Nat, j ≠ k → ∀ i, μ' j i = μ j i) : (zws q cI cB cL μ).set k (q k, zcell q cI cB cL μ' k) = zws q cI cB cL μ' := by
  apply List.ext_getElem?
  intro i
  have hl : k < (zws q cI cB cL μ).length := by simp [zws, hk]
  by_cases hi : i = k
  · subst hi
    rw [List.getElem?_set_self hl, zws_at hk]
  · rw [List.getElem?_set_ne (Ne.symm hi)]
    rcases Nat.lt_or_ge i 58 with h1 | h1
    · rw [zws_at h1, zws_at h1, zcell_eq (h i hi)]
    · rw [zws_no h1, zws_no h1]
theorem zws_D {q : Nat → Nat} {cI cB cL : ClassId} {μ : zM} (hi : zinj q) : va_D (zA q) (zws q cI cB cL μ) := by
  refine ⟨fun i j x y h1 h2 e => ?_, fun k x h => ?_⟩
  · obtain ⟨a1, rfl⟩ := zws_get h1
    obtain ⟨a2, rfl⟩ := zws_get h2
    exact hi i j a1 a2 e
  · obtain ⟨a1, rfl⟩ := zws_get h
    exact ⟨k, a1, rfl⟩
/-- a cell of a kind: its number is that of a place in the table -/
theorem zS_nat {a : Int} (h : zT a ≠ 9) (h4 : zT a ≠ 4) : ∃ k : Nat, k < 58 ∧ a = (k : Int) := by
  unfold zT zS at h h4
  by_cases h1 : a = 99
  · rw [if_pos h1] at h4; exact absurd rfl h4
  · rw [if_neg h1] at h
    by_cases h2 : 0 ≤ a
    · rw [if_pos h2] at h
      refine ⟨a.toNat, ?_, by omega⟩
      rcases Nat.lt_or_ge a.toNat 58 with h3 | h3
      · exact h3
      · exfalso
        apply h
        rw [List.getD_eq_getElem?_getD, List.getElem?_eq_none (by rw [zSH_len]; exact h3)]
        rfl
    · rw [if_neg h2] at h; exact absurd rfl h
theorem zS_k {k : Nat} (h : k < 58) : zS (k : Int) = zSH.getD k (9, 0, []) := by
  unfold zS
  rw [if_neg (by omega), if_pos (by omega)]
  rfl
theorem zS_mem {k : Nat} (h : k < 58) : zS (k : Int) ∈ zSH := by
  have h2 : k < zSH.length := by rw [zSH_len]; exact h
  rw [zS_k h, List.getD_eq_getElem?_getD, List.getElem?_eq_getElem h2]
  exact List.getElem_mem h2
theorem zS_ok {k : Nat} (h : k < 58) : zcok (zS (k : Int)) = true := List.all_eq_true.mp zcok_c _ (zS_mem h)
theorem zN_pos {k : Nat} (h : k < 58) : 0 ≤ zN k := by
  have := zS_ok h
  unfold zcok at this
  unfold zN
  split at this
  · simp only [Bool.and_eq_true, decide_eq_true_eq] at this; exact this.1.1
  · simp only [decide_eq_true_eq] at this; exact this.2.1
theorem zcell_i {q : Nat → Nat} {cI cB cL : ClassId} {μ : zM} {k : Nat} (h : zT k = 0) : zcell q cI cB cL μ k = .inl (cI, (zN k).toNat, .inl (fun i => Int32.ofInt (μ k i))) := by unfold zcell; rw [if_pos h]
theorem zcell_b {q : Nat → Nat} {cI cB cL : ClassId} {μ : zM} {k : Nat} (h : zT k = 1) : zcell q cI cB cL μ k = .inl (cB, (zN k).toNat, .inl (fun i => Int32.ofInt (μ k i))) := by unfold zcell; rw [if_neg (by omega), if_pos h]
theorem zcell_l {q : Nat → Nat} {cI cB cL : ClassId} {μ : zM} {k : Nat} (h : zT k = 2) : zcell q cI cB cL μ k = .inl (cL, (zN k).toNat, .inr (.inl (fun i => Int64.ofInt (μ k i)))) := by unfold zcell; rw [if_neg (by omega), if_neg (by omega), if_pos h]
theorem zcell_o {q : Nat → Nat} {cI cB cL : ClassId} {μ : zM} {k : Nat} (h : zT k = 3) : zcell q cI cB cL μ k = .inr ((zN k).toNat, (zS k).2.2.zipIdx.map (zfl q μ k)) := by unfold zcell; rw [if_neg (by omega), if_neg (by omega), if_neg (by omega)]
theorem zu_at (μ : zM) (a i v : Int) : zu μ a i v a i = v := by simp [zu]
theorem zu_ne {μ : zM} {a i v b j : Int} (h : ¬ (b = a ∧ j = i)) : zu μ a i v b j = μ b j := by simp [zu, h]
theorem zu_rng {μ : zM} {a i v : Int} (h : zrng μ) (h2 : zT a = 2 → zi64 v) (h3 : ¬ zT a = 2 → zi32 v) : zrng (zu μ a i v) := by
  intro b j
  by_cases e : b = a ∧ j = i
  · obtain ⟨rfl, rfl⟩ := e
    rw [zu_at]; exact ⟨h2, h3⟩
  · rw [zu_ne e]; exact h b j
theorem zu_scr {L : Nat} {xs : Nat → Int32} {μ : zM} {k : Nat} {i v : Int} (hk : k < 58) (h : zscr L xs μ) : zscr L xs (zu μ k i v) := by
  refine ⟨?_, fun j h1 h2 => ?_⟩
  · rw [zu_ne (by omega)]; exact h.1
  · rw [zu_ne (by omega)]; exact h.2 j h1 h2
theorem zcp_rng {μ : zM} {a b sp dp n : Int} (hab : zT a = zT b) (h : zrng μ) : zrng (zcp μ a b sp dp n) := by
  intro c i
  unfold zcp
  split
  · rename_i e
    rw [e.1, ← hab]
    exact h a _
  · exact h c i
theorem zcp_scr {L : Nat} {xs : Nat → Int32} {μ : zM} {a : Int} {k : Nat} {sp dp n : Int} (hk : k < 58) (h : zscr L xs μ) : zscr L xs (zcp μ a k sp dp n) := by
  refine ⟨?_, fun j h1 h2 => ?_⟩
  · unfold zcp; rw [if_neg (by omega)]; exact h.1
  · unfold zcp; rw [if_neg (by omega)]; exact h.2 j h1 h2
/-! locals -/
def zasc (q : Nat → Nat) (lv : List zV) : List (Nat × Value) := (lv.zipIdx.filter (fun x => decide (x.1.1 ≤ 2))).map (fun x => (x.2, ztr q x.1))
theorem zasc_mem {q : Nat → Nat} {lv : List zV} {i : Nat} {w : Value} : (i, w) ∈ zasc q lv ↔ ∃ v, lv[i]? = some v ∧ v.1 ≤ 2 ∧ w = ztr q v := by
  unfold zasc
  simp only [List.mem_map, List.mem_filter, decide_eq_true_eq, Prod.exists, Prod.mk.injEq]
  constructor
  · rintro ⟨t, x, j, ⟨h1, h2⟩, rfl, rfl⟩
    exact ⟨t, x, by simpa [List.mem_zipIdx_iff_getElem?] using h1, h2, rfl⟩
  · rintro ⟨t, x, h1, h2, rfl⟩
    exact ⟨t, x, i, ⟨by simpa [List.mem_zipIdx_iff_getElem?] using h1, h2⟩, rfl, rfl⟩
def zlv (q : Nat → Nat) (ls : Array Slot) (n : Nat) (lv : List zV) : Prop := lv.length = n ∧ lv_has ls n (zasc q lv) ∧ ∀ v ∈ lv, zok v
theorem zcat {q : Nat → Nat} {v : zV} : (ztr q v).category = 2 ↔ v.1 = 1 := by
  obtain ⟨t, x⟩ := v
  match t with
  | 0 => simp [ztr, Value.category]
  | 1 => simp [ztr, Value.category]
  | t + 2 => simp [ztr, Value.category]
theorem zcat1 {q : Nat → Nat} {v : zV} (h : v.1 = 0 ∨ v.1 = 2) : (ztr q v).category = 1 := by
  rcases lv_cat (ztr q v) with h1 | h1
  · exact h1
  · rw [zcat] at h1; omega
theorem zgetD {lv : List zV} {n : Nat} (h : (lv.getD n (9, 0)).1 ≤ 2) : lv[n]? = some (lv.getD n (9, 0)) := by
  cases e : lv[n]? with
  | none => simp [List.getD_eq_getElem?_getD, e] at h
  | some v => simp [List.getD_eq_getElem?_getD, e]
theorem zlv_ld {q : Nat → Nat} {ls : Array Slot} {n : Nat} {lv : List zV} {i : Nat} (h : zlv q ls n lv) (ht : (lv.getD i (9, 0)).1 ≤ 2) : ls[i]? = some (.val (ztr q (lv.getD i (9, 0)))) ∧ zok (lv.getD i (9, 0)) := by
  have hg := zgetD ht
  exact ⟨h.2.1.2.2 _ (zasc_mem.mpr ⟨_, hg, ht, rfl⟩), h.2.2 _ (List.mem_of_getElem? hg)⟩
theorem zlv_set {q : Nat → Nat} {ls : Array Slot} {n : Nat} {lv : List zV} {i : Nat} {v : zV} (h : lv.length = n) (hk : ∀ v ∈ lv, zok v) (hp : (lv.getD (i - 1) (9, 0)).1 ≠ 1) (hv : zok v)
    (h2 : lv_has ls n ((i, ztr q v) :: (zasc q lv).filter (fun q => !(q.1 == i) && !(q.1 + 1 == i && q.2.category == 2)))) : zlv q ls n (lv.set i v) := by
  refine ⟨by simp [h], ⟨h2.1, h2.2.1, fun x hx => ?_⟩, fun w hw => ?_⟩
  · obtain ⟨j, w⟩ := x
    obtain ⟨v', h3, h4, rfl⟩ := zasc_mem.mp hx
    apply h2.2.2
    by_cases e : j = i
    · subst e
      have hl : j < lv.length := by
        have := (List.getElem?_eq_some_iff.mp h3).1
        simpa using this
      rw [List.getElem?_set_self hl] at h3
      cases h3
      exact List.mem_cons_self
    · rw [List.getElem?_set_ne (Ne.symm e)] at h3
      refine List.mem_cons_of_mem _ (List.mem_filter.mpr ⟨zasc_mem.mpr ⟨v', h3, h4, rfl⟩, ?_⟩)
      have e1 : (j == i) = false := by simpa using e
      have e2 : (j + 1 == i && (ztr q v').category == 2) = false := by
        by_cases e3 : j + 1 = i
        · have e4 : ¬ v'.1 = 1 := by
            intro e5
            apply hp
            have : i - 1 = j := by omega
            rw [this, List.getD_eq_getElem?_getD, h3]
            exact e5
          have e6 : ¬ (ztr q v').category = 2 := fun e7 => e4 (zcat.mp e7)
          simp [e6]
        · simp [e3]
      simp [e1, e2]
  · rcases List.mem_or_eq_of_mem_set hw with h3 | h3
    · exact hk w h3
    · rw [h3]; exact hv
theorem zlv_set2 {q : Nat → Nat} {ls : Array Slot} {n : Nat} {lv : List zV} {i : Nat} {v : zV} (h : lv.length = n) (hk : ∀ v ∈ lv, zok v) (hp : (lv.getD (i - 1) (9, 0)).1 ≠ 1) (hv : zok v)
    (h2 : lv_has ls n ((i, ztr q v) :: (zasc q lv).filter (fun q => !(q.1 == i) && (!(q.1 == i + 1) && !(q.1 + 1 == i && q.2.category == 2))))) : zlv q ls n ((lv.set i v).set (i + 1) (9, 0)) := by
  refine ⟨by simp [h], ⟨h2.1, h2.2.1, fun x hx => ?_⟩, fun w hw => ?_⟩
  · obtain ⟨j, w⟩ := x
    obtain ⟨v', h3, h4, rfl⟩ := zasc_mem.mp hx
    apply h2.2.2
    by_cases e0 : j = i + 1
    · subst e0
      have hl : i + 1 < (lv.set i v).length := by
        have := (List.getElem?_eq_some_iff.mp h3).1
        simpa using this
      rw [List.getElem?_set_self hl] at h3
      cases h3
      exact absurd h4 (by decide)
    · rw [List.getElem?_set_ne (Ne.symm e0)] at h3
      by_cases e : j = i
      · subst e
        have hl : j < lv.length := by
          have := (List.getElem?_eq_some_iff.mp h3).1
          simpa using this
        rw [List.getElem?_set_self hl] at h3
        cases h3
        exact List.mem_cons_self
      · rw [List.getElem?_set_ne (Ne.symm e)] at h3
        refine List.mem_cons_of_mem _ (List.mem_filter.mpr ⟨zasc_mem.mpr ⟨v', h3, h4, rfl⟩, ?_⟩)
        have e1 : (j == i) = false := by simpa using e
        have e0' : (j == i + 1) = false := by simpa using e0
        have e2 : (j + 1 == i && (ztr q v').category == 2) = false := by
          by_cases e3 : j + 1 = i
          · have e4 : ¬ v'.1 = 1 := by
              intro e5
              apply hp
              have : i - 1 = j := by omega
              rw [this, List.getD_eq_getElem?_getD, h3]
              exact e5
            have e6 : ¬ (ztr q v').category = 2 := fun e7 => e4 (zcat.mp e7)
            simp [e6]
          · simp [e3]
        simp [e1, e2, e0']
  · rcases List.mem_or_eq_of_mem_set hw with h3 | h3
    · rcases List.mem_or_eq_of_mem_set h3 with h4 | h4
      · exact hk w h4
      · rw [h4]; exact hv
    · rw [h3]; exact ⟨fun q => (by cases q), fun q => (by cases q)⟩
end
section
/-! one instruction of the machine is one of the kit's -/
def zWd (dC : Nat → ClassId) (dI : Nat → Nat → Nat) (q : Nat → Nat) (cI cB cL : ClassId) (L : Nat) (xs : Nat → Int32) (s : State) (μ : zM) (H : Heap) (locs : List Loc) : Prop := va_P (dC, dI) vwCl (zws q cI cB cL μ) H ∧ va_S (zA q) s.heap H locs ∧ zrng μ ∧ zscr L xs μ
def zGo (p : Program) (l : Launch) (e : Env) (R : Room) (s : State) (m : MethodId) (args : Array Value) (below : List Frame) (meth : Method) (c : Code) (cells slots : Nat) (Qw : State → Prop) (dC : Nat → ClassId) (dI : Nat → Nat → Nat) (q : Nat → Nat) (cI cB cL : ClassId) (L : Nat) (xs : Nat → Int32) (n pc : Nat) (lv st : List zV) (μ : zM) : Prop := ∀ (H : Heap) (locs : List Loc) (ls : Array Slot), zWd dC dI q cI cB cL L xs s μ H locs → zlv q ls n lv → zst st → W p l e R s m args below meth c H locs cells slots Qw (F0 m pc ls (st.map (ztr q)))
theorem sv_iload_n {p : Program} {l : Launch} {e : Env} {R : Room} {s : State} {m : MethodId} {args : Array Value} {below : List Frame} {meth : Method} {c : Code} {cells slots : Nat} {Qw : State → Prop} {dC : Nat → ClassId} {dI : Nat → Nat → Nat} {q : Nat → Nat} {cI cB cL : ClassId} {L : Nat} {xs : Nat → Int32} (hx : p.tables.exec = Jvm.exec) {cc : ByteArray} (hb : c.code = cc) {pc n : Nat} {lv st : List zV} {μ : zM} {K : List zV → List zV → zM → Prop} {k : Fin 4} (hd : decode cc pc = .ok (.iload_n k, 1)) (hK : ∀ lv st μ, K lv st μ → zGo p l e R s m args below meth c cells slots Qw dC dI q cI cB cL L xs n (pc + 1) lv st μ) (h : zLd 0 k.val lv (fun v => K lv (v :: st) μ)) : zGo p l e R s m args below meth c cells slots Qw dC dI q cI cB cL L xs n pc lv st μ := by
  intro H locs ls hw hl hs
  obtain ⟨h1, h3⟩ := h
  have h2 := zlv_ld (i := k.val) hl (by rw [h1]; decide)
  generalize lv.getD k.val (9, 0) = v at h1 h2 h3
  obtain ⟨t, x⟩ := v
  simp only at h1
  subst h1
  refine lv_iload_n hx hb hd rfl h2.1 ?_
  exact hK _ _ _ h3 H locs ls hw hl (zst_i (h2.2.1 rfl) hs)
theorem sv_iload {p : Program} {l : Launch} {e : Env} {R : Room} {s : State} {m : MethodId} {args : Array Value} {below : List Frame} {meth : Method} {c : Code} {cells slots : Nat} {Qw : State → Prop} {dC : Nat → ClassId} {dI : Nat → Nat → Nat} {q : Nat → Nat} {cI cB cL : ClassId} {L : Nat} {xs : Nat → Int32} (hx : p.tables.exec = Jvm.exec) {cc : ByteArray} (hb : c.code = cc) {pc n : Nat} {lv st : List zV} {μ : zM} {K : List zV → List zV → zM → Prop} {k : Nat} (hd : decode cc pc = .ok (.iload k, 2)) (hK : ∀ lv st μ, K lv st μ → zGo p l e R s m args below meth c cells slots Qw dC dI q cI cB cL L xs n (pc + 2) lv st μ) (h : zLd 0 k lv (fun v => K lv (v :: st) μ)) : zGo p l e R s m args below meth c cells slots Qw dC dI q cI cB cL L xs n pc lv st μ := by
  intro H locs ls hw hl hs
  obtain ⟨h1, h3⟩ := h
  have h2 := zlv_ld (i := k) hl (by rw [h1]; decide)
  generalize lv.getD k (9, 0) = v at h1 h2 h3
  obtain ⟨t, x⟩ := v
  simp only at h1
  subst h1
  refine lv_iload hx hb hd h2.1 ?_
  exact hK _ _ _ h3 H locs ls hw hl (zst_i (h2.2.1 rfl) hs)
theorem sv_lload_n {p : Program} {l : Launch} {e : Env} {R : Room} {s : State} {m : MethodId} {args : Array Value} {below : List Frame} {meth : Method} {c : Code} {cells slots : Nat} {Qw : State → Prop} {dC : Nat → ClassId} {dI : Nat → Nat → Nat} {q : Nat → Nat} {cI cB cL : ClassId} {L : Nat} {xs : Nat → Int32} (hx : p.tables.exec = Jvm.exec) {cc : ByteArray} (hb : c.code = cc) {pc n : Nat} {lv st : List zV} {μ : zM} {K : List zV → List zV → zM → Prop} {k : Fin 4} (hd : decode cc pc = .ok (.lload_n k, 1)) (hK : ∀ lv st μ, K lv st μ → zGo p l e R s m args below meth c cells slots Qw dC dI q cI cB cL L xs n (pc + 1) lv st μ) (h : zLd 1 k.val lv (fun v => K lv (v :: st) μ)) : zGo p l e R s m args below meth c cells slots Qw dC dI q cI cB cL L xs n pc lv st μ := by
  intro H locs ls hw hl hs
  obtain ⟨h1, h3⟩ := h
  have h2 := zlv_ld (i := k.val) hl (by rw [h1]; decide)
  generalize lv.getD k.val (9, 0) = v at h1 h2 h3
  obtain ⟨t, x⟩ := v
  simp only at h1
  subst h1
  refine lv_lload_n hx hb hd rfl h2.1 ?_
  exact hK _ _ _ h3 H locs ls hw hl (zst_l (h2.2.2 rfl) hs)
theorem sv_lload {p : Program} {l : Launch} {e : Env} {R : Room} {s : State} {m : MethodId} {args : Array Value} {below : List Frame} {meth : Method} {c : Code} {cells slots : Nat} {Qw : State → Prop} {dC : Nat → ClassId} {dI : Nat → Nat → Nat} {q : Nat → Nat} {cI cB cL : ClassId} {L : Nat} {xs : Nat → Int32} (hx : p.tables.exec = Jvm.exec) {cc : ByteArray} (hb : c.code = cc) {pc n : Nat} {lv st : List zV} {μ : zM} {K : List zV → List zV → zM → Prop} {k : Nat} (hd : decode cc pc = .ok (.lload k, 2)) (hK : ∀ lv st μ, K lv st μ → zGo p l e R s m args below meth c cells slots Qw dC dI q cI cB cL L xs n (pc + 2) lv st μ) (h : zLd 1 k lv (fun v => K lv (v :: st) μ)) : zGo p l e R s m args below meth c cells slots Qw dC dI q cI cB cL L xs n pc lv st μ := by
  intro H locs ls hw hl hs
  obtain ⟨h1, h3⟩ := h
  have h2 := zlv_ld (i := k) hl (by rw [h1]; decide)
  generalize lv.getD k (9, 0) = v at h1 h2 h3
  obtain ⟨t, x⟩ := v
  simp only at h1
  subst h1
  refine lv_lload hx hb hd h2.1 ?_
  exact hK _ _ _ h3 H locs ls hw hl (zst_l (h2.2.2 rfl) hs)
theorem sv_aload_n {p : Program} {l : Launch} {e : Env} {R : Room} {s : State} {m : MethodId} {args : Array Value} {below : List Frame} {meth : Method} {c : Code} {cells slots : Nat} {Qw : State → Prop} {dC : Nat → ClassId} {dI : Nat → Nat → Nat} {q : Nat → Nat} {cI cB cL : ClassId} {L : Nat} {xs : Nat → Int32} (hx : p.tables.exec = Jvm.exec) {cc : ByteArray} (hb : c.code = cc) {pc n : Nat} {lv st : List zV} {μ : zM} {K : List zV → List zV → zM → Prop} {k : Fin 4} (hd : decode cc pc = .ok (.aload_n k, 1)) (hK : ∀ lv st μ, K lv st μ → zGo p l e R s m args below meth c cells slots Qw dC dI q cI cB cL L xs n (pc + 1) lv st μ) (h : zLd 2 k.val lv (fun v => K lv (v :: st) μ)) : zGo p l e R s m args below meth c cells slots Qw dC dI q cI cB cL L xs n pc lv st μ := by
  intro H locs ls hw hl hs
  obtain ⟨h1, h3⟩ := h
  have h2 := zlv_ld (i := k.val) hl (by rw [h1]; decide)
  generalize lv.getD k.val (9, 0) = v at h1 h2 h3
  obtain ⟨t, x⟩ := v
  simp only at h1
  subst h1
  refine lv_aload_n hx hb hd rfl h2.1 ?_
  exact hK _ _ _ h3 H locs ls hw hl (zst_r hs)
theorem sv_aload {p : Program} {l : Launch} {e : Env} {R : Room} {s : State} {m : MethodId} {args : Array Value} {below : List Frame} {meth : Method} {c : Code} {cells slots : Nat} {Qw : State → Prop} {dC : Nat → ClassId} {dI : Nat → Nat → Nat} {q : Nat → Nat} {cI cB cL : ClassId} {L : Nat} {xs : Nat → Int32} (hx : p.tables.exec = Jvm.exec) {cc : ByteArray} (hb : c.code = cc) {pc n : Nat} {lv st : List zV} {μ : zM} {K : List zV → List zV → zM → Prop} {k : Nat} (hd : decode cc pc = .ok (.aload k, 2)) (hK : ∀ lv st μ, K lv st μ → zGo p l e R s m args below meth c cells slots Qw dC dI q cI cB cL L xs n (pc + 2) lv st μ) (h : zLd 2 k lv (fun v => K lv (v :: st) μ)) : zGo p l e R s m args below meth c cells slots Qw dC dI q cI cB cL L xs n pc lv st μ := by
  intro H locs ls hw hl hs
  obtain ⟨h1, h3⟩ := h
  have h2 := zlv_ld (i := k) hl (by rw [h1]; decide)
  generalize lv.getD k (9, 0) = v at h1 h2 h3
  obtain ⟨t, x⟩ := v
  simp only at h1
  subst h1
  refine lv_aload hx hb hd h2.1 ?_
  exact hK _ _ _ h3 H locs ls hw hl (zst_r hs)
theorem sv_istore_n {p : Program} {l : Launch} {e : Env} {R : Room} {s : State} {m : MethodId} {args : Array Value} {below : List Frame} {meth : Method} {c : Code} {cells slots : Nat} {Qw : State → Prop} {dC : Nat → ClassId} {dI : Nat → Nat → Nat} {q : Nat → Nat} {cI cB cL : ClassId} {L : Nat} {xs : Nat → Int32} (hx : p.tables.exec = Jvm.exec) {cc : ByteArray} (hb : c.code = cc) {pc n : Nat} {lv st : List zV} {μ : zM} {K : List zV → List zV → zM → Prop} {k : Fin 4} (hd : decode cc pc = .ok (.istore_n k, 1)) (hK : ∀ lv st μ, K lv st μ → zGo p l e R s m args below meth c cells slots Qw dC dI q cI cB cL L xs n (pc + 1) lv st μ) (h : zSt 0 k.val lv st (fun lv st => K lv st μ)) : zGo p l e R s m args below meth c cells slots Qw dC dI q cI cB cL L xs n pc lv st μ := by
  intro H locs ls hw hl hs
  rcases st with _ | ⟨⟨t, x⟩, r⟩
  · exact h.elim
  obtain ⟨h1, h2, h3, h4⟩ := h
  subst h1
  refine lv_istore_n hx hb hd rfl hl.2.1 (by rw [← hl.1]; exact h2) rfl (fun ls hl2 => ?_)
  exact hK _ _ _ h4 H locs ls hw (zlv_set (v := (0, x)) hl.1 hl.2.2 h3 ⟨fun _ => zst_hi hs, fun z => (by cases z)⟩ hl2) (zst_tl hs)
theorem sv_istore {p : Program} {l : Launch} {e : Env} {R : Room} {s : State} {m : MethodId} {args : Array Value} {below : List Frame} {meth : Method} {c : Code} {cells slots : Nat} {Qw : State → Prop} {dC : Nat → ClassId} {dI : Nat → Nat → Nat} {q : Nat → Nat} {cI cB cL : ClassId} {L : Nat} {xs : Nat → Int32} (hx : p.tables.exec = Jvm.exec) {cc : ByteArray} (hb : c.code = cc) {pc n : Nat} {lv st : List zV} {μ : zM} {K : List zV → List zV → zM → Prop} {k : Nat} (hd : decode cc pc = .ok (.istore k, 2)) (hK : ∀ lv st μ, K lv st μ → zGo p l e R s m args below meth c cells slots Qw dC dI q cI cB cL L xs n (pc + 2) lv st μ) (h : zSt 0 k lv st (fun lv st => K lv st μ)) : zGo p l e R s m args below meth c cells slots Qw dC dI q cI cB cL L xs n pc lv st μ := by
  intro H locs ls hw hl hs
  rcases st with _ | ⟨⟨t, x⟩, r⟩
  · exact h.elim
  obtain ⟨h1, h2, h3, h4⟩ := h
  subst h1
  refine lv_istore hx hb hd hl.2.1 (by rw [← hl.1]; exact h2) rfl (fun ls hl2 => ?_)
  exact hK _ _ _ h4 H locs ls hw (zlv_set (v := (0, x)) hl.1 hl.2.2 h3 ⟨fun _ => zst_hi hs, fun z => (by cases z)⟩ hl2) (zst_tl hs)
theorem sv_astore_n {p : Program} {l : Launch} {e : Env} {R : Room} {s : State} {m : MethodId} {args : Array Value} {below : List Frame} {meth : Method} {c : Code} {cells slots : Nat} {Qw : State → Prop} {dC : Nat → ClassId} {dI : Nat → Nat → Nat} {q : Nat → Nat} {cI cB cL : ClassId} {L : Nat} {xs : Nat → Int32} (hx : p.tables.exec = Jvm.exec) {cc : ByteArray} (hb : c.code = cc) {pc n : Nat} {lv st : List zV} {μ : zM} {K : List zV → List zV → zM → Prop} {k : Fin 4} (hd : decode cc pc = .ok (.astore_n k, 1)) (hK : ∀ lv st μ, K lv st μ → zGo p l e R s m args below meth c cells slots Qw dC dI q cI cB cL L xs n (pc + 1) lv st μ) (h : zSt 2 k.val lv st (fun lv st => K lv st μ)) : zGo p l e R s m args below meth c cells slots Qw dC dI q cI cB cL L xs n pc lv st μ := by
  intro H locs ls hw hl hs
  rcases st with _ | ⟨⟨t, x⟩, r⟩
  · exact h.elim
  obtain ⟨h1, h2, h3, h4⟩ := h
  subst h1
  refine lv_astore_n hx hb hd rfl hl.2.1 (by rw [← hl.1]; exact h2) rfl (fun ls hl2 => ?_)
  exact hK _ _ _ h4 H locs ls hw (zlv_set (v := (2, x)) hl.1 hl.2.2 h3 ⟨fun z => (by cases z), fun z => (by cases z)⟩ hl2) (zst_tl hs)
theorem sv_astore {p : Program} {l : Launch} {e : Env} {R : Room} {s : State} {m : MethodId} {args : Array Value} {below : List Frame} {meth : Method} {c : Code} {cells slots : Nat} {Qw : State → Prop} {dC : Nat → ClassId} {dI : Nat → Nat → Nat} {q : Nat → Nat} {cI cB cL : ClassId} {L : Nat} {xs : Nat → Int32} (hx : p.tables.exec = Jvm.exec) {cc : ByteArray} (hb : c.code = cc) {pc n : Nat} {lv st : List zV} {μ : zM} {K : List zV → List zV → zM → Prop} {k : Nat} (hd : decode cc pc = .ok (.astore k, 2)) (hK : ∀ lv st μ, K lv st μ → zGo p l e R s m args below meth c cells slots Qw dC dI q cI cB cL L xs n (pc + 2) lv st μ) (h : zSt 2 k lv st (fun lv st => K lv st μ)) : zGo p l e R s m args below meth c cells slots Qw dC dI q cI cB cL L xs n pc lv st μ := by
  intro H locs ls hw hl hs
  rcases st with _ | ⟨⟨t, x⟩, r⟩
  · exact h.elim
  obtain ⟨h1, h2, h3, h4⟩ := h
  subst h1
  refine lv_astore hx hb hd hl.2.1 (by rw [← hl.1]; exact h2) rfl (fun ls hl2 => ?_)
  exact hK _ _ _ h4 H locs ls hw (zlv_set (v := (2, x)) hl.1 hl.2.2 h3 ⟨fun z => (by cases z), fun z => (by cases z)⟩ hl2) (zst_tl hs)
theorem sv_lstore {p : Program} {l : Launch} {e : Env} {R : Room} {s : State} {m : MethodId} {args : Array Value} {below : List Frame} {meth : Method} {c : Code} {cells slots : Nat} {Qw : State → Prop} {dC : Nat → ClassId} {dI : Nat → Nat → Nat} {q : Nat → Nat} {cI cB cL : ClassId} {L : Nat} {xs : Nat → Int32} (hx : p.tables.exec = Jvm.exec) {cc : ByteArray} (hb : c.code = cc) {pc n : Nat} {lv st : List zV} {μ : zM} {K : List zV → List zV → zM → Prop} {k : Nat} (hd : decode cc pc = .ok (.lstore k, 2)) (hK : ∀ lv st μ, K lv st μ → zGo p l e R s m args below meth c cells slots Qw dC dI q cI cB cL L xs n (pc + 2) lv st μ) (h : zSt2 k lv st (fun lv st => K lv st μ)) : zGo p l e R s m args below meth c cells slots Qw dC dI q cI cB cL L xs n pc lv st μ := by
  intro H locs ls hw hl hs
  rcases st with _ | ⟨⟨t, x⟩, r⟩
  · exact h.elim
  obtain ⟨h1, h2, h3, h4⟩ := h
  subst h1
  refine lv_lstore hx hb hd hl.2.1 (by rw [← hl.1]; exact h2) rfl (fun ls hl2 => ?_)
  exact hK _ _ _ h4 H locs ls hw (zlv_set2 (v := (1, x)) hl.1 hl.2.2 h3 ⟨fun z => (by cases z), fun _ => zst_hl hs⟩ hl2) (zst_tl hs)
theorem sv_iinc {p : Program} {l : Launch} {e : Env} {R : Room} {s : State} {m : MethodId} {args : Array Value} {below : List Frame} {meth : Method} {c : Code} {cells slots : Nat} {Qw : State → Prop} {dC : Nat → ClassId} {dI : Nat → Nat → Nat} {q : Nat → Nat} {cI cB cL : ClassId} {L : Nat} {xs : Nat → Int32} (hx : p.tables.exec = Jvm.exec) {cc : ByteArray} (hb : c.code = cc) {pc n : Nat} {lv st : List zV} {μ : zM} {K : List zV → List zV → zM → Prop} {k : Nat} {z : Int} (hd : decode cc pc = .ok (.iinc k z, 3)) (hK : ∀ lv st μ, K lv st μ → zGo p l e R s m args below meth c cells slots Qw dC dI q cI cB cL L xs n (pc + 3) lv st μ) (h : zLd 0 k lv (fun v => k < lv.length ∧ (lv.getD (k - 1) (9, 0)).1 ≠ 1 ∧ K (lv.set k (0, zw (v.2 + z))) st μ)) : zGo p l e R s m args below meth c cells slots Qw dC dI q cI cB cL L xs n pc lv st μ := by
  intro H locs ls hw hl hs
  obtain ⟨h1, h3, h4, h5⟩ := h
  have hg := zgetD (lv := lv) (n := k) (by rw [h1]; decide)
  have h2 := zlv_ld (i := k) hl (by rw [h1]; decide)
  generalize lv.getD k (9, 0) = v at h1 h2 h5 hg
  obtain ⟨t, x⟩ := v
  simp only at h1
  subst h1
  obtain ⟨j, hj⟩ := List.getElem?_of_mem (zasc_mem (q := q) (w := .int (Int32.ofInt x)).mpr ⟨_, hg, by simp, rfl⟩)
  refine lv_iinc (v := Int32.ofInt (zw (x + z))) hx hb hd hl.2.1 hj (zo_add x z) (by rw [← hl.1]; exact h3) rfl (fun ls hl2 => ?_)
  exact hK _ _ _ h5 H locs ls hw (zlv_set (v := (0, zw (x + z))) hl.1 hl.2.2 h4 ⟨fun _ => zw_in _, fun z => (by cases z)⟩ hl2) hs
theorem sv_iconst {p : Program} {l : Launch} {e : Env} {R : Room} {s : State} {m : MethodId} {args : Array Value} {below : List Frame} {meth : Method} {c : Code} {cells slots : Nat} {Qw : State → Prop} {dC : Nat → ClassId} {dI : Nat → Nat → Nat} {q : Nat → Nat} {cI cB cL : ClassId} {L : Nat} {xs : Nat → Int32} (hx : p.tables.exec = Jvm.exec) {cc : ByteArray} (hb : c.code = cc) {pc n : Nat} {lv st : List zV} {μ : zM} {K : List zV → List zV → zM → Prop} {z : Int} (hz : zi32 z) (hd : decode cc pc = .ok (.iconst z, 1)) (hK : ∀ lv st μ, K lv st μ → zGo p l e R s m args below meth c cells slots Qw dC dI q cI cB cL L xs n (pc + 1) lv st μ) (h : K lv ((0, z) :: st) μ) : zGo p l e R s m args below meth c cells slots Qw dC dI q cI cB cL L xs n pc lv st μ := by
  intro H locs ls hw hl hs
  exact lv_iconst (v := Int32.ofInt z) hx hb hd rfl (hK _ _ _ h H locs ls hw hl (zst_i hz hs))
theorem sv_bipush {p : Program} {l : Launch} {e : Env} {R : Room} {s : State} {m : MethodId} {args : Array Value} {below : List Frame} {meth : Method} {c : Code} {cells slots : Nat} {Qw : State → Prop} {dC : Nat → ClassId} {dI : Nat → Nat → Nat} {q : Nat → Nat} {cI cB cL : ClassId} {L : Nat} {xs : Nat → Int32} (hx : p.tables.exec = Jvm.exec) {cc : ByteArray} (hb : c.code = cc) {pc n : Nat} {lv st : List zV} {μ : zM} {K : List zV → List zV → zM → Prop} {z : Int} (hz : zi32 z) (hz2 : (Int8.ofInt z).toInt32 = Int32.ofInt z) (hd : decode cc pc = .ok (.bipush z, 2)) (hK : ∀ lv st μ, K lv st μ → zGo p l e R s m args below meth c cells slots Qw dC dI q cI cB cL L xs n (pc + 2) lv st μ) (h : K lv ((0, z) :: st) μ) : zGo p l e R s m args below meth c cells slots Qw dC dI q cI cB cL L xs n pc lv st μ := by
  intro H locs ls hw hl hs
  exact lv_bipush (v := Int32.ofInt z) hx hb hd hz2 (hK _ _ _ h H locs ls hw hl (zst_i hz hs))
theorem sv_sipush {p : Program} {l : Launch} {e : Env} {R : Room} {s : State} {m : MethodId} {args : Array Value} {below : List Frame} {meth : Method} {c : Code} {cells slots : Nat} {Qw : State → Prop} {dC : Nat → ClassId} {dI : Nat → Nat → Nat} {q : Nat → Nat} {cI cB cL : ClassId} {L : Nat} {xs : Nat → Int32} (hx : p.tables.exec = Jvm.exec) {cc : ByteArray} (hb : c.code = cc) {pc n : Nat} {lv st : List zV} {μ : zM} {K : List zV → List zV → zM → Prop} {z : Int} (hz : zi32 z) (hz2 : (Int16.ofInt z).toInt32 = Int32.ofInt z) (hd : decode cc pc = .ok (.sipush z, 3)) (hK : ∀ lv st μ, K lv st μ → zGo p l e R s m args below meth c cells slots Qw dC dI q cI cB cL L xs n (pc + 3) lv st μ) (h : K lv ((0, z) :: st) μ) : zGo p l e R s m args below meth c cells slots Qw dC dI q cI cB cL L xs n pc lv st μ := by
  intro H locs ls hw hl hs
  exact lv_sipush (v := Int32.ofInt z) hx hb hd hz2 (hK _ _ _ h H locs ls hw hl (zst_i hz hs))
theorem sv_lconst {p : Program} {l : Launch} {e : Env} {R : Room} {s : State} {m : MethodId} {args : Array Value} {below : List Frame} {meth : Method} {c : Code} {cells slots : Nat} {Qw : State → Prop} {dC : Nat → ClassId} {dI : Nat → Nat → Nat} {q : Nat → Nat} {cI cB cL : ClassId} {L : Nat} {xs : Nat → Int32} (hx : p.tables.exec = Jvm.exec) {cc : ByteArray} (hb : c.code = cc) {pc n : Nat} {lv st : List zV} {μ : zM} {K : List zV → List zV → zM → Prop} {z : Fin 2} (hd : decode cc pc = .ok (.lconst z, 1)) (hK : ∀ lv st μ, K lv st μ → zGo p l e R s m args below meth c cells slots Qw dC dI q cI cB cL L xs n (pc + 1) lv st μ) (h : K lv ((1, (z.val : Int)) :: st) μ) : zGo p l e R s m args below meth c cells slots Qw dC dI q cI cB cL L xs n pc lv st μ := by
  intro H locs ls hw hl hs
  have hz : z = 0 ∨ z = 1 := by
    obtain ⟨z, hz⟩ := z
    rcases (show z = 0 ∨ z = 1 by omega) with rfl | rfl
    · exact Or.inl rfl
    · exact Or.inr rfl
  rcases hz with rfl | rfl
  · exact lv_lconst (v := Int64.ofInt 0) hx hb hd (by decide) (hK _ _ _ h H locs ls hw hl (zst_l (by unfold zi64; decide) hs))
  · exact lv_lconst (v := Int64.ofInt 1) hx hb hd (by decide) (hK _ _ _ h H locs ls hw hl (zst_l (by unfold zi64; decide) hs))
theorem sv_ldc {p : Program} {l : Launch} {e : Env} {R : Room} {s : State} {m : MethodId} {args : Array Value} {below : List Frame} {meth : Method} {c : Code} {cells slots : Nat} {Qw : State → Prop} {dC : Nat → ClassId} {dI : Nat → Nat → Nat} {q : Nat → Nat} {cI cB cL : ClassId} {L : Nat} {xs : Nat → Int32} (hx : p.tables.exec = Jvm.exec) {cc : ByteArray} (hb : c.code = cc) {pc n : Nat} {lv st : List zV} {μ : zM} {K : List zV → List zV → zM → Prop} {z : Int} {i : Nat} {own : String} (hown : s.vm.findClass own = some m.cls) (hz : zi32 z) (hcon : (Jvm.Cond.constant own i (Int32.ofInt z)).before args s = true) (hd : decode cc pc = .ok (.ldc i, 2)) (hK : ∀ lv st μ, K lv st μ → zGo p l e R s m args below meth c cells slots Qw dC dI q cI cB cL L xs n (pc + 2) lv st μ) (h : K lv ((0, z) :: st) μ) : zGo p l e R s m args below meth c cells slots Qw dC dI q cI cB cL L xs n pc lv st μ := by
  intro H locs ls hw hl hs
  exact lv_ldc (v := Int32.ofInt z) hx hb hown hcon hd (hK _ _ _ h H locs ls hw hl (zst_i hz hs))
theorem sv_ldc2_w {p : Program} {l : Launch} {e : Env} {R : Room} {s : State} {m : MethodId} {args : Array Value} {below : List Frame} {meth : Method} {c : Code} {cells slots : Nat} {Qw : State → Prop} {dC : Nat → ClassId} {dI : Nat → Nat → Nat} {q : Nat → Nat} {cI cB cL : ClassId} {L : Nat} {xs : Nat → Int32} (hx : p.tables.exec = Jvm.exec) {cc : ByteArray} (hb : c.code = cc) {pc n : Nat} {lv st : List zV} {μ : zM} {K : List zV → List zV → zM → Prop} {z : Int} {i : Nat} {own : String} (hown : s.vm.findClass own = some m.cls) (hz : zi64 z) (hcon : (Jvm.Cond.constantLong own i (Int64.ofInt z)).before args s = true) (hd : decode cc pc = .ok (.ldc2_w i, 3)) (hK : ∀ lv st μ, K lv st μ → zGo p l e R s m args below meth c cells slots Qw dC dI q cI cB cL L xs n (pc + 3) lv st μ) (h : K lv ((1, z) :: st) μ) : zGo p l e R s m args below meth c cells slots Qw dC dI q cI cB cL L xs n pc lv st μ := by
  intro H locs ls hw hl hs
  exact lv_ldc2 (v := Int64.ofInt z) hx hb hown hcon hd (hK _ _ _ h H locs ls hw hl (zst_l hz hs))
theorem sv_iadd {p : Program} {l : Launch} {e : Env} {R : Room} {s : State} {m : MethodId} {args : Array Value} {below : List Frame} {meth : Method} {c : Code} {cells slots : Nat} {Qw : State → Prop} {dC : Nat → ClassId} {dI : Nat → Nat → Nat} {q : Nat → Nat} {cI cB cL : ClassId} {L : Nat} {xs : Nat → Int32} (hx : p.tables.exec = Jvm.exec) {cc : ByteArray} (hb : c.code = cc) {pc n : Nat} {lv st : List zV} {μ : zM} {K : List zV → List zV → zM → Prop} (hd : decode cc pc = .ok (.iadd, 1)) (hK : ∀ lv st μ, K lv st μ → zGo p l e R s m args below meth c cells slots Qw dC dI q cI cB cL L xs n (pc + 1) lv st μ) (h : zD 0 0 st (fun a b r => K lv ((0, zw (a + b)) :: r) μ)) : zGo p l e R s m args below meth c cells slots Qw dC dI q cI cB cL L xs n pc lv st μ := by
  intro H locs ls hw hl hs
  rcases st with _ | ⟨⟨t1, b⟩, _ | ⟨⟨t2, a⟩, r⟩⟩
  · exact h.elim
  · exact h.elim
  obtain ⟨h1, h2, h3⟩ := h
  subst h1; subst h2
  have ib := zst_hi hs
  have ia := zst_hi (zst_tl hs)
  have hk := hK _ _ _ h3 H locs ls hw hl (zst_i (zw_in _) (zst_tl (zst_tl hs)))
  refine lv_iadd hx hb hd ?_
  rw [zo_add]
  exact hk
theorem sv_isub {p : Program} {l : Launch} {e : Env} {R : Room} {s : State} {m : MethodId} {args : Array Value} {below : List Frame} {meth : Method} {c : Code} {cells slots : Nat} {Qw : State → Prop} {dC : Nat → ClassId} {dI : Nat → Nat → Nat} {q : Nat → Nat} {cI cB cL : ClassId} {L : Nat} {xs : Nat → Int32} (hx : p.tables.exec = Jvm.exec) {cc : ByteArray} (hb : c.code = cc) {pc n : Nat} {lv st : List zV} {μ : zM} {K : List zV → List zV → zM → Prop} (hd : decode cc pc = .ok (.isub, 1)) (hK : ∀ lv st μ, K lv st μ → zGo p l e R s m args below meth c cells slots Qw dC dI q cI cB cL L xs n (pc + 1) lv st μ) (h : zD 0 0 st (fun a b r => K lv ((0, zw (a - b)) :: r) μ)) : zGo p l e R s m args below meth c cells slots Qw dC dI q cI cB cL L xs n pc lv st μ := by
  intro H locs ls hw hl hs
  rcases st with _ | ⟨⟨t1, b⟩, _ | ⟨⟨t2, a⟩, r⟩⟩
  · exact h.elim
  · exact h.elim
  obtain ⟨h1, h2, h3⟩ := h
  subst h1; subst h2
  have ib := zst_hi hs
  have ia := zst_hi (zst_tl hs)
  have hk := hK _ _ _ h3 H locs ls hw hl (zst_i (zw_in _) (zst_tl (zst_tl hs)))
  refine lv_isub hx hb hd ?_
  rw [zo_sub]
  exact hk
theorem sv_imul {p : Program} {l : Launch} {e : Env} {R : Room} {s : State} {m : MethodId} {args : Array Value} {below : List Frame} {meth : Method} {c : Code} {cells slots : Nat} {Qw : State → Prop} {dC : Nat → ClassId} {dI : Nat → Nat → Nat} {q : Nat → Nat} {cI cB cL : ClassId} {L : Nat} {xs : Nat → Int32} (hx : p.tables.exec = Jvm.exec) {cc : ByteArray} (hb : c.code = cc) {pc n : Nat} {lv st : List zV} {μ : zM} {K : List zV → List zV → zM → Prop} (hd : decode cc pc = .ok (.imul, 1)) (hK : ∀ lv st μ, K lv st μ → zGo p l e R s m args below meth c cells slots Qw dC dI q cI cB cL L xs n (pc + 1) lv st μ) (h : zD 0 0 st (fun a b r => K lv ((0, zw (a * b)) :: r) μ)) : zGo p l e R s m args below meth c cells slots Qw dC dI q cI cB cL L xs n pc lv st μ := by
  intro H locs ls hw hl hs
  rcases st with _ | ⟨⟨t1, b⟩, _ | ⟨⟨t2, a⟩, r⟩⟩
  · exact h.elim
  · exact h.elim
  obtain ⟨h1, h2, h3⟩ := h
  subst h1; subst h2
  have ib := zst_hi hs
  have ia := zst_hi (zst_tl hs)
  have hk := hK _ _ _ h3 H locs ls hw hl (zst_i (zw_in _) (zst_tl (zst_tl hs)))
  refine lv_imul hx hb hd ?_
  rw [zo_mul]
  exact hk
theorem sv_idiv {p : Program} {l : Launch} {e : Env} {R : Room} {s : State} {m : MethodId} {args : Array Value} {below : List Frame} {meth : Method} {c : Code} {cells slots : Nat} {Qw : State → Prop} {dC : Nat → ClassId} {dI : Nat → Nat → Nat} {q : Nat → Nat} {cI cB cL : ClassId} {L : Nat} {xs : Nat → Int32} (hx : p.tables.exec = Jvm.exec) {cc : ByteArray} (hb : c.code = cc) {pc n : Nat} {lv st : List zV} {μ : zM} {K : List zV → List zV → zM → Prop} (hd : decode cc pc = .ok (.idiv, 1)) (hK : ∀ lv st μ, K lv st μ → zGo p l e R s m args below meth c cells slots Qw dC dI q cI cB cL L xs n (pc + 1) lv st μ) (h : zD 0 0 st (fun a b r => ¬ b = 0 ∧ K lv ((0, zw (a.tdiv b)) :: r) μ)) : zGo p l e R s m args below meth c cells slots Qw dC dI q cI cB cL L xs n pc lv st μ := by
  intro H locs ls hw hl hs
  rcases st with _ | ⟨⟨t1, b⟩, _ | ⟨⟨t2, a⟩, r⟩⟩
  · exact h.elim
  · exact h.elim
  obtain ⟨h1, h2, h3⟩ := h
  subst h1; subst h2
  have ib := zst_hi hs
  have ia := zst_hi (zst_tl hs)
  have hk := hK _ _ _ h3.2 H locs ls hw hl (zst_i (zw_in _) (zst_tl (zst_tl hs)))
  refine lv_idiv hx hb hd (fun z => h3.1 ((zo_eq ib zi0).mp (by rw [zo_0]; exact z))) ?_
  rw [zo_div ia ib]
  exact hk
theorem sv_irem {p : Program} {l : Launch} {e : Env} {R : Room} {s : State} {m : MethodId} {args : Array Value} {below : List Frame} {meth : Method} {c : Code} {cells slots : Nat} {Qw : State → Prop} {dC : Nat → ClassId} {dI : Nat → Nat → Nat} {q : Nat → Nat} {cI cB cL : ClassId} {L : Nat} {xs : Nat → Int32} (hx : p.tables.exec = Jvm.exec) {cc : ByteArray} (hb : c.code = cc) {pc n : Nat} {lv st : List zV} {μ : zM} {K : List zV → List zV → zM → Prop} (hd : decode cc pc = .ok (.irem, 1)) (hK : ∀ lv st μ, K lv st μ → zGo p l e R s m args below meth c cells slots Qw dC dI q cI cB cL L xs n (pc + 1) lv st μ) (h : zD 0 0 st (fun a b r => ¬ b = 0 ∧ K lv ((0, a.tmod b) :: r) μ)) : zGo p l e R s m args below meth c cells slots Qw dC dI q cI cB cL L xs n pc lv st μ := by
  intro H locs ls hw hl hs
  rcases st with _ | ⟨⟨t1, b⟩, _ | ⟨⟨t2, a⟩, r⟩⟩
  · exact h.elim
  · exact h.elim
  obtain ⟨h1, h2, h3⟩ := h
  subst h1; subst h2
  have ib := zst_hi hs
  have ia := zst_hi (zst_tl hs)
  have hk := hK _ _ _ h3.2 H locs ls hw hl (zst_i (zo_tmod_in ia h3.1) (zst_tl (zst_tl hs)))
  refine lv_irem hx hb hd (fun z => h3.1 ((zo_eq ib zi0).mp (by rw [zo_0]; exact z))) ?_
  rw [zo_rem ia ib h3.1]
  exact hk
theorem sv_iand {p : Program} {l : Launch} {e : Env} {R : Room} {s : State} {m : MethodId} {args : Array Value} {below : List Frame} {meth : Method} {c : Code} {cells slots : Nat} {Qw : State → Prop} {dC : Nat → ClassId} {dI : Nat → Nat → Nat} {q : Nat → Nat} {cI cB cL : ClassId} {L : Nat} {xs : Nat → Int32} (hx : p.tables.exec = Jvm.exec) {cc : ByteArray} (hb : c.code = cc) {pc n : Nat} {lv st : List zV} {μ : zM} {K : List zV → List zV → zM → Prop} (hd : decode cc pc = .ok (.iand, 1)) (hK : ∀ lv st μ, K lv st μ → zGo p l e R s m args below meth c cells slots Qw dC dI q cI cB cL L xs n (pc + 1) lv st μ) (h : zD 0 0 st (fun a b r => K lv ((0, zand a b) :: r) μ)) : zGo p l e R s m args below meth c cells slots Qw dC dI q cI cB cL L xs n pc lv st μ := by
  intro H locs ls hw hl hs
  rcases st with _ | ⟨⟨t1, b⟩, _ | ⟨⟨t2, a⟩, r⟩⟩
  · exact h.elim
  · exact h.elim
  obtain ⟨h1, h2, h3⟩ := h
  subst h1; subst h2
  have ib := zst_hi hs
  have ia := zst_hi (zst_tl hs)
  have hk := hK _ _ _ h3 H locs ls hw hl (zst_i (by unfold zand; exact zin32 _) (zst_tl (zst_tl hs)))
  refine lv_iand hx hb hd ?_
  unfold zand at hk
  simp only [List.map_cons, ztr, Int32.ofInt_toInt] at hk ⊢
  exact hk
theorem sv_ior {p : Program} {l : Launch} {e : Env} {R : Room} {s : State} {m : MethodId} {args : Array Value} {below : List Frame} {meth : Method} {c : Code} {cells slots : Nat} {Qw : State → Prop} {dC : Nat → ClassId} {dI : Nat → Nat → Nat} {q : Nat → Nat} {cI cB cL : ClassId} {L : Nat} {xs : Nat → Int32} (hx : p.tables.exec = Jvm.exec) {cc : ByteArray} (hb : c.code = cc) {pc n : Nat} {lv st : List zV} {μ : zM} {K : List zV → List zV → zM → Prop} (hd : decode cc pc = .ok (.ior, 1)) (hK : ∀ lv st μ, K lv st μ → zGo p l e R s m args below meth c cells slots Qw dC dI q cI cB cL L xs n (pc + 1) lv st μ) (h : zD 0 0 st (fun a b r => K lv ((0, zor a b) :: r) μ)) : zGo p l e R s m args below meth c cells slots Qw dC dI q cI cB cL L xs n pc lv st μ := by
  intro H locs ls hw hl hs
  rcases st with _ | ⟨⟨t1, b⟩, _ | ⟨⟨t2, a⟩, r⟩⟩
  · exact h.elim
  · exact h.elim
  obtain ⟨h1, h2, h3⟩ := h
  subst h1; subst h2
  have ib := zst_hi hs
  have ia := zst_hi (zst_tl hs)
  have hk := hK _ _ _ h3 H locs ls hw hl (zst_i (by unfold zor; exact zin32 _) (zst_tl (zst_tl hs)))
  refine lv_ior hx hb hd ?_
  unfold zor at hk
  simp only [List.map_cons, ztr, Int32.ofInt_toInt] at hk ⊢
  exact hk
theorem sv_ixor {p : Program} {l : Launch} {e : Env} {R : Room} {s : State} {m : MethodId} {args : Array Value} {below : List Frame} {meth : Method} {c : Code} {cells slots : Nat} {Qw : State → Prop} {dC : Nat → ClassId} {dI : Nat → Nat → Nat} {q : Nat → Nat} {cI cB cL : ClassId} {L : Nat} {xs : Nat → Int32} (hx : p.tables.exec = Jvm.exec) {cc : ByteArray} (hb : c.code = cc) {pc n : Nat} {lv st : List zV} {μ : zM} {K : List zV → List zV → zM → Prop} (hd : decode cc pc = .ok (.ixor, 1)) (hK : ∀ lv st μ, K lv st μ → zGo p l e R s m args below meth c cells slots Qw dC dI q cI cB cL L xs n (pc + 1) lv st μ) (h : zD 0 0 st (fun a b r => K lv ((0, zxor a b) :: r) μ)) : zGo p l e R s m args below meth c cells slots Qw dC dI q cI cB cL L xs n pc lv st μ := by
  intro H locs ls hw hl hs
  rcases st with _ | ⟨⟨t1, b⟩, _ | ⟨⟨t2, a⟩, r⟩⟩
  · exact h.elim
  · exact h.elim
  obtain ⟨h1, h2, h3⟩ := h
  subst h1; subst h2
  have ib := zst_hi hs
  have ia := zst_hi (zst_tl hs)
  have hk := hK _ _ _ h3 H locs ls hw hl (zst_i (by unfold zxor; exact zin32 _) (zst_tl (zst_tl hs)))
  refine lv_ixor hx hb hd ?_
  unfold zxor at hk
  simp only [List.map_cons, ztr, Int32.ofInt_toInt] at hk ⊢
  exact hk
theorem sv_ishl {p : Program} {l : Launch} {e : Env} {R : Room} {s : State} {m : MethodId} {args : Array Value} {below : List Frame} {meth : Method} {c : Code} {cells slots : Nat} {Qw : State → Prop} {dC : Nat → ClassId} {dI : Nat → Nat → Nat} {q : Nat → Nat} {cI cB cL : ClassId} {L : Nat} {xs : Nat → Int32} (hx : p.tables.exec = Jvm.exec) {cc : ByteArray} (hb : c.code = cc) {pc n : Nat} {lv st : List zV} {μ : zM} {K : List zV → List zV → zM → Prop} (hd : decode cc pc = .ok (.ishl, 1)) (hK : ∀ lv st μ, K lv st μ → zGo p l e R s m args below meth c cells slots Qw dC dI q cI cB cL L xs n (pc + 1) lv st μ) (h : zD 0 0 st (fun a b r => K lv ((0, zshl a b) :: r) μ)) : zGo p l e R s m args below meth c cells slots Qw dC dI q cI cB cL L xs n pc lv st μ := by
  intro H locs ls hw hl hs
  rcases st with _ | ⟨⟨t1, b⟩, _ | ⟨⟨t2, a⟩, r⟩⟩
  · exact h.elim
  · exact h.elim
  obtain ⟨h1, h2, h3⟩ := h
  subst h1; subst h2
  have ib := zst_hi hs
  have ia := zst_hi (zst_tl hs)
  have hk := hK _ _ _ h3 H locs ls hw hl (zst_i (by unfold zshl; exact zin32 _) (zst_tl (zst_tl hs)))
  refine lv_ishl hx hb hd ?_
  unfold zshl at hk
  simp only [List.map_cons, ztr, Int32.ofInt_toInt] at hk ⊢
  exact hk
theorem sv_ishr {p : Program} {l : Launch} {e : Env} {R : Room} {s : State} {m : MethodId} {args : Array Value} {below : List Frame} {meth : Method} {c : Code} {cells slots : Nat} {Qw : State → Prop} {dC : Nat → ClassId} {dI : Nat → Nat → Nat} {q : Nat → Nat} {cI cB cL : ClassId} {L : Nat} {xs : Nat → Int32} (hx : p.tables.exec = Jvm.exec) {cc : ByteArray} (hb : c.code = cc) {pc n : Nat} {lv st : List zV} {μ : zM} {K : List zV → List zV → zM → Prop} (hd : decode cc pc = .ok (.ishr, 1)) (hK : ∀ lv st μ, K lv st μ → zGo p l e R s m args below meth c cells slots Qw dC dI q cI cB cL L xs n (pc + 1) lv st μ) (h : zD 0 0 st (fun a b r => K lv ((0, zshr a b) :: r) μ)) : zGo p l e R s m args below meth c cells slots Qw dC dI q cI cB cL L xs n pc lv st μ := by
  intro H locs ls hw hl hs
  rcases st with _ | ⟨⟨t1, b⟩, _ | ⟨⟨t2, a⟩, r⟩⟩
  · exact h.elim
  · exact h.elim
  obtain ⟨h1, h2, h3⟩ := h
  subst h1; subst h2
  have ib := zst_hi hs
  have ia := zst_hi (zst_tl hs)
  have hk := hK _ _ _ h3 H locs ls hw hl (zst_i (by unfold zshr; exact zin32 _) (zst_tl (zst_tl hs)))
  refine lv_ishr hx hb hd ?_
  unfold zshr at hk
  simp only [List.map_cons, ztr, Int32.ofInt_toInt] at hk ⊢
  exact hk
theorem sv_iushr {p : Program} {l : Launch} {e : Env} {R : Room} {s : State} {m : MethodId} {args : Array Value} {below : List Frame} {meth : Method} {c : Code} {cells slots : Nat} {Qw : State → Prop} {dC : Nat → ClassId} {dI : Nat → Nat → Nat} {q : Nat → Nat} {cI cB cL : ClassId} {L : Nat} {xs : Nat → Int32} (hx : p.tables.exec = Jvm.exec) {cc : ByteArray} (hb : c.code = cc) {pc n : Nat} {lv st : List zV} {μ : zM} {K : List zV → List zV → zM → Prop} (hd : decode cc pc = .ok (.iushr, 1)) (hK : ∀ lv st μ, K lv st μ → zGo p l e R s m args below meth c cells slots Qw dC dI q cI cB cL L xs n (pc + 1) lv st μ) (h : zD 0 0 st (fun a b r => K lv ((0, zushr a b) :: r) μ)) : zGo p l e R s m args below meth c cells slots Qw dC dI q cI cB cL L xs n pc lv st μ := by
  intro H locs ls hw hl hs
  rcases st with _ | ⟨⟨t1, b⟩, _ | ⟨⟨t2, a⟩, r⟩⟩
  · exact h.elim
  · exact h.elim
  obtain ⟨h1, h2, h3⟩ := h
  subst h1; subst h2
  have ib := zst_hi hs
  have ia := zst_hi (zst_tl hs)
  have hk := hK _ _ _ h3 H locs ls hw hl (zst_i (by unfold zushr; exact zin32 _) (zst_tl (zst_tl hs)))
  refine lv_iushr hx hb hd rfl ?_
  unfold zushr at hk
  simp only [List.map_cons, ztr, Int32.ofInt_toInt] at hk ⊢
  exact hk
theorem sv_ladd {p : Program} {l : Launch} {e : Env} {R : Room} {s : State} {m : MethodId} {args : Array Value} {below : List Frame} {meth : Method} {c : Code} {cells slots : Nat} {Qw : State → Prop} {dC : Nat → ClassId} {dI : Nat → Nat → Nat} {q : Nat → Nat} {cI cB cL : ClassId} {L : Nat} {xs : Nat → Int32} (hx : p.tables.exec = Jvm.exec) {cc : ByteArray} (hb : c.code = cc) {pc n : Nat} {lv st : List zV} {μ : zM} {K : List zV → List zV → zM → Prop} (hd : decode cc pc = .ok (.ladd, 1)) (hK : ∀ lv st μ, K lv st μ → zGo p l e R s m args below meth c cells slots Qw dC dI q cI cB cL L xs n (pc + 1) lv st μ) (h : zD 1 1 st (fun a b r => K lv ((1, zx (a + b)) :: r) μ)) : zGo p l e R s m args below meth c cells slots Qw dC dI q cI cB cL L xs n pc lv st μ := by
  intro H locs ls hw hl hs
  rcases st with _ | ⟨⟨t1, b⟩, _ | ⟨⟨t2, a⟩, r⟩⟩
  · exact h.elim
  · exact h.elim
  obtain ⟨h1, h2, h3⟩ := h
  subst h1; subst h2
  have ib := zst_hl hs
  have ia := zst_hl (zst_tl hs)
  have hk := hK _ _ _ h3 H locs ls hw hl (zst_l (zx_in _) (zst_tl (zst_tl hs)))
  refine lv_ladd hx hb hd ?_
  rw [zq_add]
  exact hk
theorem sv_lmul {p : Program} {l : Launch} {e : Env} {R : Room} {s : State} {m : MethodId} {args : Array Value} {below : List Frame} {meth : Method} {c : Code} {cells slots : Nat} {Qw : State → Prop} {dC : Nat → ClassId} {dI : Nat → Nat → Nat} {q : Nat → Nat} {cI cB cL : ClassId} {L : Nat} {xs : Nat → Int32} (hx : p.tables.exec = Jvm.exec) {cc : ByteArray} (hb : c.code = cc) {pc n : Nat} {lv st : List zV} {μ : zM} {K : List zV → List zV → zM → Prop} (hd : decode cc pc = .ok (.lmul, 1)) (hK : ∀ lv st μ, K lv st μ → zGo p l e R s m args below meth c cells slots Qw dC dI q cI cB cL L xs n (pc + 1) lv st μ) (h : zD 1 1 st (fun a b r => K lv ((1, zx (a * b)) :: r) μ)) : zGo p l e R s m args below meth c cells slots Qw dC dI q cI cB cL L xs n pc lv st μ := by
  intro H locs ls hw hl hs
  rcases st with _ | ⟨⟨t1, b⟩, _ | ⟨⟨t2, a⟩, r⟩⟩
  · exact h.elim
  · exact h.elim
  obtain ⟨h1, h2, h3⟩ := h
  subst h1; subst h2
  have ib := zst_hl hs
  have ia := zst_hl (zst_tl hs)
  have hk := hK _ _ _ h3 H locs ls hw hl (zst_l (zx_in _) (zst_tl (zst_tl hs)))
  refine lv_lmul hx hb hd ?_
  rw [zq_mul]
  exact hk
theorem sv_land {p : Program} {l : Launch} {e : Env} {R : Room} {s : State} {m : MethodId} {args : Array Value} {below : List Frame} {meth : Method} {c : Code} {cells slots : Nat} {Qw : State → Prop} {dC : Nat → ClassId} {dI : Nat → Nat → Nat} {q : Nat → Nat} {cI cB cL : ClassId} {L : Nat} {xs : Nat → Int32} (hx : p.tables.exec = Jvm.exec) {cc : ByteArray} (hb : c.code = cc) {pc n : Nat} {lv st : List zV} {μ : zM} {K : List zV → List zV → zM → Prop} (hd : decode cc pc = .ok (.land, 1)) (hK : ∀ lv st μ, K lv st μ → zGo p l e R s m args below meth c cells slots Qw dC dI q cI cB cL L xs n (pc + 1) lv st μ) (h : zD 1 1 st (fun a b r => K lv ((1, zland a b) :: r) μ)) : zGo p l e R s m args below meth c cells slots Qw dC dI q cI cB cL L xs n pc lv st μ := by
  intro H locs ls hw hl hs
  rcases st with _ | ⟨⟨t1, b⟩, _ | ⟨⟨t2, a⟩, r⟩⟩
  · exact h.elim
  · exact h.elim
  obtain ⟨h1, h2, h3⟩ := h
  subst h1; subst h2
  have ib := zst_hl hs
  have ia := zst_hl (zst_tl hs)
  have hk := hK _ _ _ h3 H locs ls hw hl (zst_l (by unfold zland; exact zin64 _) (zst_tl (zst_tl hs)))
  refine lv_land hx hb hd ?_
  unfold zland at hk
  simp only [List.map_cons, ztr, Int64.ofInt_toInt] at hk ⊢
  exact hk
theorem sv_lor {p : Program} {l : Launch} {e : Env} {R : Room} {s : State} {m : MethodId} {args : Array Value} {below : List Frame} {meth : Method} {c : Code} {cells slots : Nat} {Qw : State → Prop} {dC : Nat → ClassId} {dI : Nat → Nat → Nat} {q : Nat → Nat} {cI cB cL : ClassId} {L : Nat} {xs : Nat → Int32} (hx : p.tables.exec = Jvm.exec) {cc : ByteArray} (hb : c.code = cc) {pc n : Nat} {lv st : List zV} {μ : zM} {K : List zV → List zV → zM → Prop} (hd : decode cc pc = .ok (.lor, 1)) (hK : ∀ lv st μ, K lv st μ → zGo p l e R s m args below meth c cells slots Qw dC dI q cI cB cL L xs n (pc + 1) lv st μ) (h : zD 1 1 st (fun a b r => K lv ((1, zlor a b) :: r) μ)) : zGo p l e R s m args below meth c cells slots Qw dC dI q cI cB cL L xs n pc lv st μ := by
  intro H locs ls hw hl hs
  rcases st with _ | ⟨⟨t1, b⟩, _ | ⟨⟨t2, a⟩, r⟩⟩
  · exact h.elim
  · exact h.elim
  obtain ⟨h1, h2, h3⟩ := h
  subst h1; subst h2
  have ib := zst_hl hs
  have ia := zst_hl (zst_tl hs)
  have hk := hK _ _ _ h3 H locs ls hw hl (zst_l (by unfold zlor; exact zin64 _) (zst_tl (zst_tl hs)))
  refine lv_lor hx hb hd ?_
  unfold zlor at hk
  simp only [List.map_cons, ztr, Int64.ofInt_toInt] at hk ⊢
  exact hk
theorem sv_lshl {p : Program} {l : Launch} {e : Env} {R : Room} {s : State} {m : MethodId} {args : Array Value} {below : List Frame} {meth : Method} {c : Code} {cells slots : Nat} {Qw : State → Prop} {dC : Nat → ClassId} {dI : Nat → Nat → Nat} {q : Nat → Nat} {cI cB cL : ClassId} {L : Nat} {xs : Nat → Int32} (hx : p.tables.exec = Jvm.exec) {cc : ByteArray} (hb : c.code = cc) {pc n : Nat} {lv st : List zV} {μ : zM} {K : List zV → List zV → zM → Prop} (hd : decode cc pc = .ok (.lshl, 1)) (hK : ∀ lv st μ, K lv st μ → zGo p l e R s m args below meth c cells slots Qw dC dI q cI cB cL L xs n (pc + 1) lv st μ) (h : zD 0 1 st (fun a b r => K lv ((1, zlshl a b) :: r) μ)) : zGo p l e R s m args below meth c cells slots Qw dC dI q cI cB cL L xs n pc lv st μ := by
  intro H locs ls hw hl hs
  rcases st with _ | ⟨⟨t1, b⟩, _ | ⟨⟨t2, a⟩, r⟩⟩
  · exact h.elim
  · exact h.elim
  obtain ⟨h1, h2, h3⟩ := h
  subst h1; subst h2
  have ib := zst_hi hs
  have ia := zst_hl (zst_tl hs)
  have hk := hK _ _ _ h3 H locs ls hw hl (zst_l (by unfold zlshl; exact zin64 _) (zst_tl (zst_tl hs)))
  refine lv_lshl hx hb hd rfl ?_
  unfold zlshl at hk
  simp only [List.map_cons, ztr, Int64.ofInt_toInt] at hk ⊢
  exact hk
theorem sv_lcmp {p : Program} {l : Launch} {e : Env} {R : Room} {s : State} {m : MethodId} {args : Array Value} {below : List Frame} {meth : Method} {c : Code} {cells slots : Nat} {Qw : State → Prop} {dC : Nat → ClassId} {dI : Nat → Nat → Nat} {q : Nat → Nat} {cI cB cL : ClassId} {L : Nat} {xs : Nat → Int32} (hx : p.tables.exec = Jvm.exec) {cc : ByteArray} (hb : c.code = cc) {pc n : Nat} {lv st : List zV} {μ : zM} {K : List zV → List zV → zM → Prop} (hd : decode cc pc = .ok (.lcmp, 1)) (hK : ∀ lv st μ, K lv st μ → zGo p l e R s m args below meth c cells slots Qw dC dI q cI cB cL L xs n (pc + 1) lv st μ) (h : zD 1 1 st (fun a b r => K lv ((0, zcmp a b) :: r) μ)) : zGo p l e R s m args below meth c cells slots Qw dC dI q cI cB cL L xs n pc lv st μ := by
  intro H locs ls hw hl hs
  rcases st with _ | ⟨⟨t1, b⟩, _ | ⟨⟨t2, a⟩, r⟩⟩
  · exact h.elim
  · exact h.elim
  obtain ⟨h1, h2, h3⟩ := h
  subst h1; subst h2
  have ib := zst_hl hs
  have ia := zst_hl (zst_tl hs)
  have hk := hK _ _ _ h3 H locs ls hw hl (zst_i (zcmp_in _ _) (zst_tl (zst_tl hs)))
  refine W.lcmp hx hb hd ?_
  rw [zo_cmp ia ib]
  exact hk
theorem sv_ineg {p : Program} {l : Launch} {e : Env} {R : Room} {s : State} {m : MethodId} {args : Array Value} {below : List Frame} {meth : Method} {c : Code} {cells slots : Nat} {Qw : State → Prop} {dC : Nat → ClassId} {dI : Nat → Nat → Nat} {q : Nat → Nat} {cI cB cL : ClassId} {L : Nat} {xs : Nat → Int32} (hx : p.tables.exec = Jvm.exec) {cc : ByteArray} (hb : c.code = cc) {pc n : Nat} {lv st : List zV} {μ : zM} {K : List zV → List zV → zM → Prop} (hd : decode cc pc = .ok (.ineg, 1)) (hK : ∀ lv st μ, K lv st μ → zGo p l e R s m args below meth c cells slots Qw dC dI q cI cB cL L xs n (pc + 1) lv st μ) (h : zU 0 st (fun a r => K lv ((0, zw (-a)) :: r) μ)) : zGo p l e R s m args below meth c cells slots Qw dC dI q cI cB cL L xs n pc lv st μ := by
  intro H locs ls hw hl hs
  rcases st with _ | ⟨⟨t1, a⟩, r⟩
  · exact h.elim
  obtain ⟨h1, h3⟩ := h
  subst h1
  have ia := zst_hi hs
  have hk := hK _ _ _ h3 H locs ls hw hl (zst_i (zw_in _) (zst_tl hs))
  refine lv_ineg hx hb hd ?_
  have e : (0 : Int32) - Int32.ofInt a = Int32.ofInt (zw (-a)) := by rw [← zo_neg, Int32.zero_sub]
  first | (rw [zo_neg]; exact hk) | (rw [e]; exact hk)
theorem sv_i2l {p : Program} {l : Launch} {e : Env} {R : Room} {s : State} {m : MethodId} {args : Array Value} {below : List Frame} {meth : Method} {c : Code} {cells slots : Nat} {Qw : State → Prop} {dC : Nat → ClassId} {dI : Nat → Nat → Nat} {q : Nat → Nat} {cI cB cL : ClassId} {L : Nat} {xs : Nat → Int32} (hx : p.tables.exec = Jvm.exec) {cc : ByteArray} (hb : c.code = cc) {pc n : Nat} {lv st : List zV} {μ : zM} {K : List zV → List zV → zM → Prop} (hd : decode cc pc = .ok (.i2l, 1)) (hK : ∀ lv st μ, K lv st μ → zGo p l e R s m args below meth c cells slots Qw dC dI q cI cB cL L xs n (pc + 1) lv st μ) (h : zU 0 st (fun a r => K lv ((1, a) :: r) μ)) : zGo p l e R s m args below meth c cells slots Qw dC dI q cI cB cL L xs n pc lv st μ := by
  intro H locs ls hw hl hs
  rcases st with _ | ⟨⟨t1, a⟩, r⟩
  · exact h.elim
  obtain ⟨h1, h3⟩ := h
  subst h1
  have ia := zst_hi hs
  have hk := hK _ _ _ h3 H locs ls hw hl (zst_l (by unfold zi32 at ia; unfold zi64; omega) (zst_tl hs))
  exact lv_i2l hx hb hd (zo_i2l ia) hk
theorem sv_l2i {p : Program} {l : Launch} {e : Env} {R : Room} {s : State} {m : MethodId} {args : Array Value} {below : List Frame} {meth : Method} {c : Code} {cells slots : Nat} {Qw : State → Prop} {dC : Nat → ClassId} {dI : Nat → Nat → Nat} {q : Nat → Nat} {cI cB cL : ClassId} {L : Nat} {xs : Nat → Int32} (hx : p.tables.exec = Jvm.exec) {cc : ByteArray} (hb : c.code = cc) {pc n : Nat} {lv st : List zV} {μ : zM} {K : List zV → List zV → zM → Prop} (hd : decode cc pc = .ok (.l2i, 1)) (hK : ∀ lv st μ, K lv st μ → zGo p l e R s m args below meth c cells slots Qw dC dI q cI cB cL L xs n (pc + 1) lv st μ) (h : zU 1 st (fun a r => K lv ((0, zw a) :: r) μ)) : zGo p l e R s m args below meth c cells slots Qw dC dI q cI cB cL L xs n pc lv st μ := by
  intro H locs ls hw hl hs
  rcases st with _ | ⟨⟨t1, a⟩, r⟩
  · exact h.elim
  obtain ⟨h1, h3⟩ := h
  subst h1
  have ia := zst_hl hs
  have hk := hK _ _ _ h3 H locs ls hw hl (zst_i (zw_in _) (zst_tl hs))
  exact lv_l2i hx hb hd (zo_l2i a) hk
theorem sv_i2b {p : Program} {l : Launch} {e : Env} {R : Room} {s : State} {m : MethodId} {args : Array Value} {below : List Frame} {meth : Method} {c : Code} {cells slots : Nat} {Qw : State → Prop} {dC : Nat → ClassId} {dI : Nat → Nat → Nat} {q : Nat → Nat} {cI cB cL : ClassId} {L : Nat} {xs : Nat → Int32} (hx : p.tables.exec = Jvm.exec) {cc : ByteArray} (hb : c.code = cc) {pc n : Nat} {lv st : List zV} {μ : zM} {K : List zV → List zV → zM → Prop} (hd : decode cc pc = .ok (.i2b, 1)) (hK : ∀ lv st μ, K lv st μ → zGo p l e R s m args below meth c cells slots Qw dC dI q cI cB cL L xs n (pc + 1) lv st μ) (h : zU 0 st (fun a r => K lv ((0, zb a) :: r) μ)) : zGo p l e R s m args below meth c cells slots Qw dC dI q cI cB cL L xs n pc lv st μ := by
  intro H locs ls hw hl hs
  rcases st with _ | ⟨⟨t1, a⟩, r⟩
  · exact h.elim
  obtain ⟨h1, h3⟩ := h
  subst h1
  have ia := zst_hi hs
  have hk := hK _ _ _ h3 H locs ls hw hl (zst_i (zb_in _) (zst_tl hs))
  exact lv_i2b hx hb hd (zo_i2b ia) hk
theorem sv_dup {p : Program} {l : Launch} {e : Env} {R : Room} {s : State} {m : MethodId} {args : Array Value} {below : List Frame} {meth : Method} {c : Code} {cells slots : Nat} {Qw : State → Prop} {dC : Nat → ClassId} {dI : Nat → Nat → Nat} {q : Nat → Nat} {cI cB cL : ClassId} {L : Nat} {xs : Nat → Int32} (hx : p.tables.exec = Jvm.exec) {cc : ByteArray} (hb : c.code = cc) {pc n : Nat} {lv st : List zV} {μ : zM} {K : List zV → List zV → zM → Prop} {C : Nat → List zV → zM → (Int → zM → Prop) → Prop} {Q : Int → zM → Prop} {S : Nat → List zV → List zV → zM → Prop} {ex : Nat} {tb : List (Int × Nat)} (hd : decode cc pc = .ok (.dup, 1)) (hK : ∀ lv st μ, K lv st μ → zGo p l e R s m args below meth c cells slots Qw dC dI q cI cB cL L xs n (pc + 1) lv st μ) (h : zO C Q S .dup ex tb lv st μ K) : zGo p l e R s m args below meth c cells slots Qw dC dI q cI cB cL L xs n pc lv st μ := by
  intro H locs ls hw hl hs
  rcases st with _ | ⟨⟨t1, a⟩, r⟩
  · exact h.elim
  have h1 : t1 = 0 ∨ t1 = 2 := h.1
  have h3 : K lv ((t1, a) :: (t1, a) :: r) μ := h.2
  exact lv_dup hx hb hd (zcat1 h1) (hK _ _ _ h3 H locs ls hw hl (zst_cons (hs _ List.mem_cons_self).1 (hs _ List.mem_cons_self).2 hs))
theorem sv_dup2 {p : Program} {l : Launch} {e : Env} {R : Room} {s : State} {m : MethodId} {args : Array Value} {below : List Frame} {meth : Method} {c : Code} {cells slots : Nat} {Qw : State → Prop} {dC : Nat → ClassId} {dI : Nat → Nat → Nat} {q : Nat → Nat} {cI cB cL : ClassId} {L : Nat} {xs : Nat → Int32} (hx : p.tables.exec = Jvm.exec) {cc : ByteArray} (hb : c.code = cc) {pc n : Nat} {lv st : List zV} {μ : zM} {K : List zV → List zV → zM → Prop} {C : Nat → List zV → zM → (Int → zM → Prop) → Prop} {Q : Int → zM → Prop} {S : Nat → List zV → List zV → zM → Prop} {ex : Nat} {tb : List (Int × Nat)} (hd : decode cc pc = .ok (.dup2, 1)) (hK : ∀ lv st μ, K lv st μ → zGo p l e R s m args below meth c cells slots Qw dC dI q cI cB cL L xs n (pc + 1) lv st μ) (h : zO C Q S .dup2 ex tb lv st μ K) : zGo p l e R s m args below meth c cells slots Qw dC dI q cI cB cL L xs n pc lv st μ := by
  intro H locs ls hw hl hs
  rcases st with _ | ⟨⟨t1, a⟩, _ | ⟨⟨t2, b⟩, r⟩⟩
  · exact h.elim
  · exact h.elim
  have h1 : t1 = 0 ∨ t1 = 2 := h.1
  have h2 : t2 = 0 ∨ t2 = 2 := h.2.1
  have h3 : K lv ((t1, a) :: (t2, b) :: (t1, a) :: (t2, b) :: r) μ := h.2.2
  have q1 := hs _ List.mem_cons_self
  have q2 := hs _ (List.mem_cons_of_mem _ List.mem_cons_self)
  exact lv_dup2_11 hx hb hd (zcat1 h1) (zcat1 h2) (hK _ _ _ h3 H locs ls hw hl (zst_cons q1.1 q1.2 (zst_cons q2.1 q2.2 hs)))
theorem sv_goto {p : Program} {l : Launch} {e : Env} {R : Room} {s : State} {m : MethodId} {args : Array Value} {below : List Frame} {meth : Method} {c : Code} {cells slots : Nat} {Qw : State → Prop} {dC : Nat → ClassId} {dI : Nat → Nat → Nat} {q : Nat → Nat} {cI cB cL : ClassId} {L : Nat} {xs : Nat → Int32} (hx : p.tables.exec = Jvm.exec) {cc : ByteArray} (hb : c.code = cc) {pc n : Nat} {lv st : List zV} {μ : zM} {z : Int} {S : Nat → List zV → List zV → zM → Prop} {ex : Nat} (ht : (pc : Int) + z = (ex : Int)) (hS : ∀ L2 lv st μ, S L2 lv st μ → zGo p l e R s m args below meth c cells slots Qw dC dI q cI cB cL L xs n L2 lv st μ) (hd : decode cc pc = .ok (.goto z, 3))  (h : S ex lv st μ) : zGo p l e R s m args below meth c cells slots Qw dC dI q cI cB cL L xs n pc lv st μ := by
  intro H locs ls hw hl hs
  exact lv_goto hx hb hd ht (hS _ _ _ _ h H locs ls hw hl hs)
theorem sv_ifCond_eq {p : Program} {l : Launch} {e : Env} {R : Room} {s : State} {m : MethodId} {args : Array Value} {below : List Frame} {meth : Method} {c : Code} {cells slots : Nat} {Qw : State → Prop} {dC : Nat → ClassId} {dI : Nat → Nat → Nat} {q : Nat → Nat} {cI cB cL : ClassId} {L : Nat} {xs : Nat → Int32} (hx : p.tables.exec = Jvm.exec) {cc : ByteArray} (hb : c.code = cc) {pc n : Nat} {lv st : List zV} {μ : zM} {K : List zV → List zV → zM → Prop} {z : Int} {S : Nat → List zV → List zV → zM → Prop} {ex : Nat} (ht : (pc : Int) + z = (ex : Int)) (hS : ∀ L2 lv st μ, S L2 lv st μ → zGo p l e R s m args below meth c cells slots Qw dC dI q cI cB cL L xs n L2 lv st μ) (hd : decode cc pc = .ok (.ifCond .eq z, 3)) (hK : ∀ lv st μ, K lv st μ → zGo p l e R s m args below meth c cells slots Qw dC dI q cI cB cL L xs n (pc + 3) lv st μ) (h : zU 0 st (fun a r => zif (a = 0) (S ex lv r μ) (K lv r μ))) : zGo p l e R s m args below meth c cells slots Qw dC dI q cI cB cL L xs n pc lv st μ := by
  intro H locs ls hw hl hs
  rcases st with _ | ⟨⟨t1, a⟩, r⟩
  · exact h.elim
  obtain ⟨h1, h3⟩ := h
  subst h1
  have ia := zst_hi hs
  have hs2 := zst_tl hs
  have e := (zo_eq ia zi0)
  rw [zo_0] at e
  refine lv_if_eq hx hb hd ht (fun w => ?_) (fun w => ?_)
  · rw [e] at w
    exact hS _ _ _ _ (h3.1 (by omega)) H locs ls hw hl hs2
  · rw [e] at w
    exact hK _ _ _ (h3.2 (by omega)) H locs ls hw hl hs2
theorem sv_ifCond_ne {p : Program} {l : Launch} {e : Env} {R : Room} {s : State} {m : MethodId} {args : Array Value} {below : List Frame} {meth : Method} {c : Code} {cells slots : Nat} {Qw : State → Prop} {dC : Nat → ClassId} {dI : Nat → Nat → Nat} {q : Nat → Nat} {cI cB cL : ClassId} {L : Nat} {xs : Nat → Int32} (hx : p.tables.exec = Jvm.exec) {cc : ByteArray} (hb : c.code = cc) {pc n : Nat} {lv st : List zV} {μ : zM} {K : List zV → List zV → zM → Prop} {z : Int} {S : Nat → List zV → List zV → zM → Prop} {ex : Nat} (ht : (pc : Int) + z = (ex : Int)) (hS : ∀ L2 lv st μ, S L2 lv st μ → zGo p l e R s m args below meth c cells slots Qw dC dI q cI cB cL L xs n L2 lv st μ) (hd : decode cc pc = .ok (.ifCond .ne z, 3)) (hK : ∀ lv st μ, K lv st μ → zGo p l e R s m args below meth c cells slots Qw dC dI q cI cB cL L xs n (pc + 3) lv st μ) (h : zU 0 st (fun a r => zif (a = 0) (K lv r μ) (S ex lv r μ))) : zGo p l e R s m args below meth c cells slots Qw dC dI q cI cB cL L xs n pc lv st μ := by
  intro H locs ls hw hl hs
  rcases st with _ | ⟨⟨t1, a⟩, r⟩
  · exact h.elim
  obtain ⟨h1, h3⟩ := h
  subst h1
  have ia := zst_hi hs
  have hs2 := zst_tl hs
  have e := (zo_eq ia zi0)
  rw [zo_0] at e
  refine lv_if_ne hx hb hd ht (fun w => ?_) (fun w => ?_)
  · rw [e] at w
    exact hS _ _ _ _ (h3.2 (by omega)) H locs ls hw hl hs2
  · rw [e] at w
    exact hK _ _ _ (h3.1 (by omega)) H locs ls hw hl hs2
theorem sv_ifCond_lt {p : Program} {l : Launch} {e : Env} {R : Room} {s : State} {m : MethodId} {args : Array Value} {below : List Frame} {meth : Method} {c : Code} {cells slots : Nat} {Qw : State → Prop} {dC : Nat → ClassId} {dI : Nat → Nat → Nat} {q : Nat → Nat} {cI cB cL : ClassId} {L : Nat} {xs : Nat → Int32} (hx : p.tables.exec = Jvm.exec) {cc : ByteArray} (hb : c.code = cc) {pc n : Nat} {lv st : List zV} {μ : zM} {K : List zV → List zV → zM → Prop} {z : Int} {S : Nat → List zV → List zV → zM → Prop} {ex : Nat} (ht : (pc : Int) + z = (ex : Int)) (hS : ∀ L2 lv st μ, S L2 lv st μ → zGo p l e R s m args below meth c cells slots Qw dC dI q cI cB cL L xs n L2 lv st μ) (hd : decode cc pc = .ok (.ifCond .lt z, 3)) (hK : ∀ lv st μ, K lv st μ → zGo p l e R s m args below meth c cells slots Qw dC dI q cI cB cL L xs n (pc + 3) lv st μ) (h : zU 0 st (fun a r => zif (a < 0) (S ex lv r μ) (K lv r μ))) : zGo p l e R s m args below meth c cells slots Qw dC dI q cI cB cL L xs n pc lv st μ := by
  intro H locs ls hw hl hs
  rcases st with _ | ⟨⟨t1, a⟩, r⟩
  · exact h.elim
  obtain ⟨h1, h3⟩ := h
  subst h1
  have ia := zst_hi hs
  have hs2 := zst_tl hs
  have e := (zo_lt ia zi0)
  rw [zo_0] at e
  refine lv_if_lt hx hb hd ht (fun w => ?_) (fun w => ?_)
  · rw [e] at w
    exact hS _ _ _ _ (h3.1 (by omega)) H locs ls hw hl hs2
  · rw [e] at w
    exact hK _ _ _ (h3.2 (by omega)) H locs ls hw hl hs2
theorem sv_ifCond_ge {p : Program} {l : Launch} {e : Env} {R : Room} {s : State} {m : MethodId} {args : Array Value} {below : List Frame} {meth : Method} {c : Code} {cells slots : Nat} {Qw : State → Prop} {dC : Nat → ClassId} {dI : Nat → Nat → Nat} {q : Nat → Nat} {cI cB cL : ClassId} {L : Nat} {xs : Nat → Int32} (hx : p.tables.exec = Jvm.exec) {cc : ByteArray} (hb : c.code = cc) {pc n : Nat} {lv st : List zV} {μ : zM} {K : List zV → List zV → zM → Prop} {z : Int} {S : Nat → List zV → List zV → zM → Prop} {ex : Nat} (ht : (pc : Int) + z = (ex : Int)) (hS : ∀ L2 lv st μ, S L2 lv st μ → zGo p l e R s m args below meth c cells slots Qw dC dI q cI cB cL L xs n L2 lv st μ) (hd : decode cc pc = .ok (.ifCond .ge z, 3)) (hK : ∀ lv st μ, K lv st μ → zGo p l e R s m args below meth c cells slots Qw dC dI q cI cB cL L xs n (pc + 3) lv st μ) (h : zU 0 st (fun a r => zif (a < 0) (K lv r μ) (S ex lv r μ))) : zGo p l e R s m args below meth c cells slots Qw dC dI q cI cB cL L xs n pc lv st μ := by
  intro H locs ls hw hl hs
  rcases st with _ | ⟨⟨t1, a⟩, r⟩
  · exact h.elim
  obtain ⟨h1, h3⟩ := h
  subst h1
  have ia := zst_hi hs
  have hs2 := zst_tl hs
  have e := (zo_le zi0 ia)
  rw [zo_0] at e
  refine lv_if_ge hx hb hd ht (fun w => ?_) (fun w => ?_)
  · rw [e] at w
    exact hS _ _ _ _ (h3.2 (by omega)) H locs ls hw hl hs2
  · rw [e] at w
    exact hK _ _ _ (h3.1 (by omega)) H locs ls hw hl hs2
theorem sv_ifCond_gt {p : Program} {l : Launch} {e : Env} {R : Room} {s : State} {m : MethodId} {args : Array Value} {below : List Frame} {meth : Method} {c : Code} {cells slots : Nat} {Qw : State → Prop} {dC : Nat → ClassId} {dI : Nat → Nat → Nat} {q : Nat → Nat} {cI cB cL : ClassId} {L : Nat} {xs : Nat → Int32} (hx : p.tables.exec = Jvm.exec) {cc : ByteArray} (hb : c.code = cc) {pc n : Nat} {lv st : List zV} {μ : zM} {K : List zV → List zV → zM → Prop} {z : Int} {S : Nat → List zV → List zV → zM → Prop} {ex : Nat} (ht : (pc : Int) + z = (ex : Int)) (hS : ∀ L2 lv st μ, S L2 lv st μ → zGo p l e R s m args below meth c cells slots Qw dC dI q cI cB cL L xs n L2 lv st μ) (hd : decode cc pc = .ok (.ifCond .gt z, 3)) (hK : ∀ lv st μ, K lv st μ → zGo p l e R s m args below meth c cells slots Qw dC dI q cI cB cL L xs n (pc + 3) lv st μ) (h : zU 0 st (fun a r => zif (0 < a) (S ex lv r μ) (K lv r μ))) : zGo p l e R s m args below meth c cells slots Qw dC dI q cI cB cL L xs n pc lv st μ := by
  intro H locs ls hw hl hs
  rcases st with _ | ⟨⟨t1, a⟩, r⟩
  · exact h.elim
  obtain ⟨h1, h3⟩ := h
  subst h1
  have ia := zst_hi hs
  have hs2 := zst_tl hs
  have e := (zo_lt zi0 ia)
  rw [zo_0] at e
  refine lv_if_gt hx hb hd ht (fun w => ?_) (fun w => ?_)
  · rw [e] at w
    exact hS _ _ _ _ (h3.1 (by omega)) H locs ls hw hl hs2
  · rw [e] at w
    exact hK _ _ _ (h3.2 (by omega)) H locs ls hw hl hs2
theorem sv_ifCond_le {p : Program} {l : Launch} {e : Env} {R : Room} {s : State} {m : MethodId} {args : Array Value} {below : List Frame} {meth : Method} {c : Code} {cells slots : Nat} {Qw : State → Prop} {dC : Nat → ClassId} {dI : Nat → Nat → Nat} {q : Nat → Nat} {cI cB cL : ClassId} {L : Nat} {xs : Nat → Int32} (hx : p.tables.exec = Jvm.exec) {cc : ByteArray} (hb : c.code = cc) {pc n : Nat} {lv st : List zV} {μ : zM} {K : List zV → List zV → zM → Prop} {z : Int} {S : Nat → List zV → List zV → zM → Prop} {ex : Nat} (ht : (pc : Int) + z = (ex : Int)) (hS : ∀ L2 lv st μ, S L2 lv st μ → zGo p l e R s m args below meth c cells slots Qw dC dI q cI cB cL L xs n L2 lv st μ) (hd : decode cc pc = .ok (.ifCond .le z, 3)) (hK : ∀ lv st μ, K lv st μ → zGo p l e R s m args below meth c cells slots Qw dC dI q cI cB cL L xs n (pc + 3) lv st μ) (h : zU 0 st (fun a r => zif (0 < a) (K lv r μ) (S ex lv r μ))) : zGo p l e R s m args below meth c cells slots Qw dC dI q cI cB cL L xs n pc lv st μ := by
  intro H locs ls hw hl hs
  rcases st with _ | ⟨⟨t1, a⟩, r⟩
  · exact h.elim
  obtain ⟨h1, h3⟩ := h
  subst h1
  have ia := zst_hi hs
  have hs2 := zst_tl hs
  have e := (zo_le ia zi0)
  rw [zo_0] at e
  refine lv_if_le hx hb hd ht (fun w => ?_) (fun w => ?_)
  · rw [e] at w
    exact hS _ _ _ _ (h3.2 (by omega)) H locs ls hw hl hs2
  · rw [e] at w
    exact hK _ _ _ (h3.1 (by omega)) H locs ls hw hl hs2
theorem sv_if_icmp_eq {p : Program} {l : Launch} {e : Env} {R : Room} {s : State} {m : MethodId} {args : Array Value} {below : List Frame} {meth : Method} {c : Code} {cells slots : Nat} {Qw : State → Prop} {dC : Nat → ClassId} {dI : Nat → Nat → Nat} {q : Nat → Nat} {cI cB cL : ClassId} {L : Nat} {xs : Nat → Int32} (hx : p.tables.exec = Jvm.exec) {cc : ByteArray} (hb : c.code = cc) {pc n : Nat} {lv st : List zV} {μ : zM} {K : List zV → List zV → zM → Prop} {z : Int} {S : Nat → List zV → List zV → zM → Prop} {ex : Nat} (ht : (pc : Int) + z = (ex : Int)) (hS : ∀ L2 lv st μ, S L2 lv st μ → zGo p l e R s m args below meth c cells slots Qw dC dI q cI cB cL L xs n L2 lv st μ) (hd : decode cc pc = .ok (.if_icmp .eq z, 3)) (hK : ∀ lv st μ, K lv st μ → zGo p l e R s m args below meth c cells slots Qw dC dI q cI cB cL L xs n (pc + 3) lv st μ) (h : zD 0 0 st (fun a b r => zif (a = b) (S ex lv r μ) (K lv r μ))) : zGo p l e R s m args below meth c cells slots Qw dC dI q cI cB cL L xs n pc lv st μ := by
  intro H locs ls hw hl hs
  rcases st with _ | ⟨⟨t1, b⟩, _ | ⟨⟨t2, a⟩, r⟩⟩
  · exact h.elim
  · exact h.elim
  obtain ⟨h1, h2, h3⟩ := h
  subst h1; subst h2
  have ib := zst_hi hs
  have ia := zst_hi (zst_tl hs)
  have hs2 := zst_tl (zst_tl hs)
  have e := (zo_eq ia ib)
  refine lv_icmp_eq hx hb hd ht (fun w => ?_) (fun w => ?_)
  · rw [e] at w
    exact hS _ _ _ _ (h3.1 (by omega)) H locs ls hw hl hs2
  · rw [e] at w
    exact hK _ _ _ (h3.2 (by omega)) H locs ls hw hl hs2
theorem sv_if_icmp_ne {p : Program} {l : Launch} {e : Env} {R : Room} {s : State} {m : MethodId} {args : Array Value} {below : List Frame} {meth : Method} {c : Code} {cells slots : Nat} {Qw : State → Prop} {dC : Nat → ClassId} {dI : Nat → Nat → Nat} {q : Nat → Nat} {cI cB cL : ClassId} {L : Nat} {xs : Nat → Int32} (hx : p.tables.exec = Jvm.exec) {cc : ByteArray} (hb : c.code = cc) {pc n : Nat} {lv st : List zV} {μ : zM} {K : List zV → List zV → zM → Prop} {z : Int} {S : Nat → List zV → List zV → zM → Prop} {ex : Nat} (ht : (pc : Int) + z = (ex : Int)) (hS : ∀ L2 lv st μ, S L2 lv st μ → zGo p l e R s m args below meth c cells slots Qw dC dI q cI cB cL L xs n L2 lv st μ) (hd : decode cc pc = .ok (.if_icmp .ne z, 3)) (hK : ∀ lv st μ, K lv st μ → zGo p l e R s m args below meth c cells slots Qw dC dI q cI cB cL L xs n (pc + 3) lv st μ) (h : zD 0 0 st (fun a b r => zif (a = b) (K lv r μ) (S ex lv r μ))) : zGo p l e R s m args below meth c cells slots Qw dC dI q cI cB cL L xs n pc lv st μ := by
  intro H locs ls hw hl hs
  rcases st with _ | ⟨⟨t1, b⟩, _ | ⟨⟨t2, a⟩, r⟩⟩
  · exact h.elim
  · exact h.elim
  obtain ⟨h1, h2, h3⟩ := h
  subst h1; subst h2
  have ib := zst_hi hs
  have ia := zst_hi (zst_tl hs)
  have hs2 := zst_tl (zst_tl hs)
  have e := (zo_eq ia ib)
  refine lv_icmp_ne hx hb hd ht (fun w => ?_) (fun w => ?_)
  · rw [e] at w
    exact hS _ _ _ _ (h3.2 (by omega)) H locs ls hw hl hs2
  · rw [e] at w
    exact hK _ _ _ (h3.1 (by omega)) H locs ls hw hl hs2
theorem sv_if_icmp_lt {p : Program} {l : Launch} {e : Env} {R : Room} {s : State} {m : MethodId} {args : Array Value} {below : List Frame} {meth : Method} {c : Code} {cells slots : Nat} {Qw : State → Prop} {dC : Nat → ClassId} {dI : Nat → Nat → Nat} {q : Nat → Nat} {cI cB cL : ClassId} {L : Nat} {xs : Nat → Int32} (hx : p.tables.exec = Jvm.exec) {cc : ByteArray} (hb : c.code = cc) {pc n : Nat} {lv st : List zV} {μ : zM} {K : List zV → List zV → zM → Prop} {z : Int} {S : Nat → List zV → List zV → zM → Prop} {ex : Nat} (ht : (pc : Int) + z = (ex : Int)) (hS : ∀ L2 lv st μ, S L2 lv st μ → zGo p l e R s m args below meth c cells slots Qw dC dI q cI cB cL L xs n L2 lv st μ) (hd : decode cc pc = .ok (.if_icmp .lt z, 3)) (hK : ∀ lv st μ, K lv st μ → zGo p l e R s m args below meth c cells slots Qw dC dI q cI cB cL L xs n (pc + 3) lv st μ) (h : zD 0 0 st (fun a b r => zif (a < b) (S ex lv r μ) (K lv r μ))) : zGo p l e R s m args below meth c cells slots Qw dC dI q cI cB cL L xs n pc lv st μ := by
  intro H locs ls hw hl hs
  rcases st with _ | ⟨⟨t1, b⟩, _ | ⟨⟨t2, a⟩, r⟩⟩
  · exact h.elim
  · exact h.elim
  obtain ⟨h1, h2, h3⟩ := h
  subst h1; subst h2
  have ib := zst_hi hs
  have ia := zst_hi (zst_tl hs)
  have hs2 := zst_tl (zst_tl hs)
  have e := (zo_lt ia ib)
  refine lv_icmp_lt hx hb hd ht (fun w => ?_) (fun w => ?_)
  · rw [e] at w
    exact hS _ _ _ _ (h3.1 (by omega)) H locs ls hw hl hs2
  · rw [e] at w
    exact hK _ _ _ (h3.2 (by omega)) H locs ls hw hl hs2
theorem sv_if_icmp_ge {p : Program} {l : Launch} {e : Env} {R : Room} {s : State} {m : MethodId} {args : Array Value} {below : List Frame} {meth : Method} {c : Code} {cells slots : Nat} {Qw : State → Prop} {dC : Nat → ClassId} {dI : Nat → Nat → Nat} {q : Nat → Nat} {cI cB cL : ClassId} {L : Nat} {xs : Nat → Int32} (hx : p.tables.exec = Jvm.exec) {cc : ByteArray} (hb : c.code = cc) {pc n : Nat} {lv st : List zV} {μ : zM} {K : List zV → List zV → zM → Prop} {z : Int} {S : Nat → List zV → List zV → zM → Prop} {ex : Nat} (ht : (pc : Int) + z = (ex : Int)) (hS : ∀ L2 lv st μ, S L2 lv st μ → zGo p l e R s m args below meth c cells slots Qw dC dI q cI cB cL L xs n L2 lv st μ) (hd : decode cc pc = .ok (.if_icmp .ge z, 3)) (hK : ∀ lv st μ, K lv st μ → zGo p l e R s m args below meth c cells slots Qw dC dI q cI cB cL L xs n (pc + 3) lv st μ) (h : zD 0 0 st (fun a b r => zif (a < b) (K lv r μ) (S ex lv r μ))) : zGo p l e R s m args below meth c cells slots Qw dC dI q cI cB cL L xs n pc lv st μ := by
  intro H locs ls hw hl hs
  rcases st with _ | ⟨⟨t1, b⟩, _ | ⟨⟨t2, a⟩, r⟩⟩
  · exact h.elim
  · exact h.elim
  obtain ⟨h1, h2, h3⟩ := h
  subst h1; subst h2
  have ib := zst_hi hs
  have ia := zst_hi (zst_tl hs)
  have hs2 := zst_tl (zst_tl hs)
  have e := (zo_le ib ia)
  refine lv_icmp_ge hx hb hd ht (fun w => ?_) (fun w => ?_)
  · rw [e] at w
    exact hS _ _ _ _ (h3.2 (by omega)) H locs ls hw hl hs2
  · rw [e] at w
    exact hK _ _ _ (h3.1 (by omega)) H locs ls hw hl hs2
theorem sv_if_icmp_gt {p : Program} {l : Launch} {e : Env} {R : Room} {s : State} {m : MethodId} {args : Array Value} {below : List Frame} {meth : Method} {c : Code} {cells slots : Nat} {Qw : State → Prop} {dC : Nat → ClassId} {dI : Nat → Nat → Nat} {q : Nat → Nat} {cI cB cL : ClassId} {L : Nat} {xs : Nat → Int32} (hx : p.tables.exec = Jvm.exec) {cc : ByteArray} (hb : c.code = cc) {pc n : Nat} {lv st : List zV} {μ : zM} {K : List zV → List zV → zM → Prop} {z : Int} {S : Nat → List zV → List zV → zM → Prop} {ex : Nat} (ht : (pc : Int) + z = (ex : Int)) (hS : ∀ L2 lv st μ, S L2 lv st μ → zGo p l e R s m args below meth c cells slots Qw dC dI q cI cB cL L xs n L2 lv st μ) (hd : decode cc pc = .ok (.if_icmp .gt z, 3)) (hK : ∀ lv st μ, K lv st μ → zGo p l e R s m args below meth c cells slots Qw dC dI q cI cB cL L xs n (pc + 3) lv st μ) (h : zD 0 0 st (fun a b r => zif (b < a) (S ex lv r μ) (K lv r μ))) : zGo p l e R s m args below meth c cells slots Qw dC dI q cI cB cL L xs n pc lv st μ := by
  intro H locs ls hw hl hs
  rcases st with _ | ⟨⟨t1, b⟩, _ | ⟨⟨t2, a⟩, r⟩⟩
  · exact h.elim
  · exact h.elim
  obtain ⟨h1, h2, h3⟩ := h
  subst h1; subst h2
  have ib := zst_hi hs
  have ia := zst_hi (zst_tl hs)
  have hs2 := zst_tl (zst_tl hs)
  have e := (zo_lt ib ia)
  refine lv_icmp_gt hx hb hd ht (fun w => ?_) (fun w => ?_)
  · rw [e] at w
    exact hS _ _ _ _ (h3.1 (by omega)) H locs ls hw hl hs2
  · rw [e] at w
    exact hK _ _ _ (h3.2 (by omega)) H locs ls hw hl hs2
theorem sv_if_icmp_le {p : Program} {l : Launch} {e : Env} {R : Room} {s : State} {m : MethodId} {args : Array Value} {below : List Frame} {meth : Method} {c : Code} {cells slots : Nat} {Qw : State → Prop} {dC : Nat → ClassId} {dI : Nat → Nat → Nat} {q : Nat → Nat} {cI cB cL : ClassId} {L : Nat} {xs : Nat → Int32} (hx : p.tables.exec = Jvm.exec) {cc : ByteArray} (hb : c.code = cc) {pc n : Nat} {lv st : List zV} {μ : zM} {K : List zV → List zV → zM → Prop} {z : Int} {S : Nat → List zV → List zV → zM → Prop} {ex : Nat} (ht : (pc : Int) + z = (ex : Int)) (hS : ∀ L2 lv st μ, S L2 lv st μ → zGo p l e R s m args below meth c cells slots Qw dC dI q cI cB cL L xs n L2 lv st μ) (hd : decode cc pc = .ok (.if_icmp .le z, 3)) (hK : ∀ lv st μ, K lv st μ → zGo p l e R s m args below meth c cells slots Qw dC dI q cI cB cL L xs n (pc + 3) lv st μ) (h : zD 0 0 st (fun a b r => zif (b < a) (K lv r μ) (S ex lv r μ))) : zGo p l e R s m args below meth c cells slots Qw dC dI q cI cB cL L xs n pc lv st μ := by
  intro H locs ls hw hl hs
  rcases st with _ | ⟨⟨t1, b⟩, _ | ⟨⟨t2, a⟩, r⟩⟩
  · exact h.elim
  · exact h.elim
  obtain ⟨h1, h2, h3⟩ := h
  subst h1; subst h2
  have ib := zst_hi hs
  have ia := zst_hi (zst_tl hs)
  have hs2 := zst_tl (zst_tl hs)
  have e := (zo_le ia ib)
  refine lv_icmp_le hx hb hd ht (fun w => ?_) (fun w => ?_)
  · rw [e] at w
    exact hS _ _ _ _ (h3.2 (by omega)) H locs ls hw hl hs2
  · rw [e] at w
    exact hK _ _ _ (h3.1 (by omega)) H locs ls hw hl hs2
end
section
/-! fields, arrays, switches -/
theorem zcl_at {ci : Nat} (h : ci < 7) : vwCl[ci]? = some (zcl ci) := by
  rcases (show ci = 0 ∨ ci = 1 ∨ ci = 2 ∨ ci = 3 ∨ ci = 4 ∨ ci = 5 ∨ ci = 6 by omega) with rfl | rfl | rfl | rfl | rfl | rfl | rfl <;> rfl
theorem zcl_ws {ci : Nat} (h : ci < 7) : ∀ w ∈ u_ws (zcl ci).1 (zcl ci).2.1 (zcl ci).2.2, w ∈ zwG := by
  intro w hw
  have h1 := List.all_eq_true.mp zvw_c _ (List.mem_of_getElem? (zcl_at h))
  have h2 := List.all_eq_true.mp h1 w hw
  rw [Bool.and_eq_true, decide_eq_true_eq] at h2
  exact List.mem_filter.mpr h2
theorem zcl_ty {ci : Nat} (h : ci < 7) : ∃ ty : Nat → FieldType, (∀ k, k < (zcl ci).2.2 → parseFieldDescriptor ((zcl ci).2.1 k).2.2.1 = some (ty k)) ∧ ∀ a, a < (zcl ci).2.2 → ∀ b, b < (zcl ci).2.2 → a ≠ b → ((zcl ci).2.1 a).2.1 ≠ ((zcl ci).2.1 b).2.1 := by
  rcases (show ci = 0 ∨ ci = 1 ∨ ci = 2 ∨ ci = 3 ∨ ci = 4 ∨ ci = 5 ∨ ci = 6 by omega) with rfl | rfl | rfl | rfl | rfl | rfl | rfl
  · exact ⟨tyX0, tyX0_ok, nmX0⟩
  · exact ⟨tyX1, tyX1_ok, nmX1⟩
  · exact ⟨tyX2, tyX2_ok, nmX2⟩
  · exact ⟨tyX3, tyX3_ok, nmX3⟩
  · exact ⟨tyX4, tyX4_ok, nmX4⟩
  · exact ⟨tyX5, tyX5_ok, nmX5⟩
  · exact ⟨tyX6, tyX6_ok, nmX6⟩
theorem zT_obj {a : Int} (h : zT a = 3) : ∃ k : Nat, k < 58 ∧ a = (k : Int) := zS_nat (by omega) (by omega)
theorem zT_arr {a : Int} (h : zT a < 3) : ∃ k : Nat, k < 58 ∧ a = (k : Int) := zS_nat (by omega) (by omega)
theorem zT_scr {a : Int} (h : zT a = 4) : a = 99 := by
  unfold zT zS at h
  by_cases h1 : a = 99
  · exact h1
  · exfalso
    rw [if_neg h1] at h
    by_cases h2 : 0 ≤ a
    · rw [if_pos h2, List.getD_eq_getElem?_getD] at h
      cases e : zSH[a.toNat]? with
      | none => rw [e] at h; exact absurd h (by decide)
      | some v =>
        rw [e] at h
        have h3 := List.all_eq_true.mp zcok_c _ (List.mem_of_getElem? e)
        unfold zcok at h3
        simp only [Option.getD_some] at h
        rw [if_neg (by omega), decide_eq_true_eq] at h3
        omega
    · rw [if_neg h2] at h; exact absurd h (by decide)
/-- an object's field -/
theorem zG_sp {ex : Nat} {a : Int} (h : ¬ zG ex a = -9) : ∃ k : Nat, k < 58 ∧ a = (k : Int) ∧ zT k = 3 ∧ zN k = ((ex / 32 : Nat) : Int) ∧ ex / 32 < 7 ∧ (zS k).2.2.length = (zcl (ex / 32)).2.2 ∧ ex % 32 < (zS k).2.2.length ∧ (zS k).2.2[ex % 32]? = some (zG ex a) ∧ (zG ex a = -1 → ((zcl (ex / 32)).2.1 (ex % 32)).2.2 = ("I", false)) ∧ (zG ex a = -2 → ((zcl (ex / 32)).2.1 (ex % 32)).2.2 = ("Z", false)) := by
  have hg : zG ex a = if (zS a).1 = 3 ∧ (zS a).2.1 = ((ex / 32 : Nat) : Int) then (zS a).2.2.getD (ex % 32) (-9) else -9 := rfl
  by_cases e : (zS a).1 = 3 ∧ (zS a).2.1 = ((ex / 32 : Nat) : Int)
  · rw [if_pos e] at hg
    obtain ⟨k, hk, rfl⟩ := zT_obj e.1
    have h3 := zS_ok hk
    unfold zcok at h3
    rw [if_pos e.1] at h3
    simp only [Bool.and_eq_true, decide_eq_true_eq, List.all_eq_true, List.mem_range] at h3
    obtain ⟨⟨h4, h5⟩, h6, h7⟩ := h3
    rw [e.2] at h4 h5 h6 h7
    have hl : ex % 32 < (zS k).2.2.length := by
      rcases Nat.lt_or_ge (ex % 32) (zS k).2.2.length with q | q
      · exact q
      · exfalso; apply h; rw [hg, List.getD_eq_getElem?_getD, List.getElem?_eq_none q]; rfl
    have hgk : (zS k).2.2[ex % 32]? = some (zG ex k) := by
      rw [hg, List.getD_eq_getElem?_getD, List.getElem?_eq_getElem hl]; rfl
    have h8 := h7 (ex % 32) hl
    have hg0 : (zS k).2.2.getD (ex % 32) 0 = zG ex k := by rw [List.getD_eq_getElem?_getD, hgk]; rfl
    rw [hg0] at h8
    have hn : (((ex / 32 : Nat) : Int)).toNat = ex / 32 := by omega
    rw [hn] at h6 h8
    refine ⟨k, hk, rfl, e.1, e.2, by omega, h6, hl, hgk, fun q => ?_, fun q => ?_⟩
    · rw [if_pos q, decide_eq_true_eq] at h8; exact h8
    · rw [if_neg (by omega), if_pos q, decide_eq_true_eq] at h8; exact h8
  · rw [if_neg e] at hg; exact absurd hg h
theorem zFL_at {o i ex : Nat} (h : zFL.any (fun q => q.1 == o && (q.2.1 == i && (32 * q.2.2.1 + q.2.2.2.1 == ex))) = true) : zfw o i (ex / 32) (ex % 32) ∈ zwG := by
  obtain ⟨x, hx, hq⟩ := List.any_eq_true.mp h
  have h2 := List.all_eq_true.mp zFL_c x hx
  simp only [Bool.and_eq_true, decide_eq_true_eq, beq_iff_eq] at hq h2
  obtain ⟨h3, h4, h5⟩ := hq
  have h6 := zat_in h2.1
  rw [h3, h4] at h6
  have e1 : ex / 32 = x.2.2.1 := by omega
  have e2 : ex % 32 = x.2.2.2.1 := by omega
  rw [e1, e2]
  exact h6
theorem sv_getfield {p : Program} {l : Launch} {e : Env} {R : Room} {s : State} {m : MethodId} {args : Array Value} {below : List Frame} {meth : Method} {c : Code} {cells slots : Nat} {Qw : State → Prop} {dC : Nat → ClassId} {dI : Nat → Nat → Nat} {q : Nat → Nat} {cI cB cL : ClassId} {L : Nat} {xs : Nat → Int32} (hx : p.tables.exec = Jvm.exec) {cc : ByteArray} (hb : c.code = cc) {pc n : Nat} {lv st : List zV} {μ : zM} {K : List zV → List zV → zM → Prop} {o i ex : Nat} (hown : s.vm.findClass (zcN o) = some m.cls) (hts : ∀ w ∈ zwG, w.before args s = true) (hKK : va_K (dC, dI) vwCl [(cI, .int), (cB, .byte), (cL, .long)] s) (hF : zFL.any (fun q => q.1 == o && (q.2.1 == i && (32 * q.2.2.1 + q.2.2.2.1 == ex))) = true) (hd : decode cc pc = .ok (.getfield i, 3)) (hK : ∀ lv st μ, K lv st μ → zGo p l e R s m args below meth c cells slots Qw dC dI q cI cB cL L xs n (pc + 3) lv st μ) (h : zU 2 st (fun a r => zGet (zG ex a) a ex μ (fun v => K lv (v :: r) μ))) : zGo p l e R s m args below meth c cells slots Qw dC dI q cI cB cL L xs n pc lv st μ := by
  intro H locs ls hw hl hs
  rcases st with _ | ⟨⟨t1, a⟩, r⟩
  · exact h.elim
  obtain ⟨h1, h3⟩ := h
  subst h1
  have hn : ¬ zG ex a = -9 := by
    intro z
    unfold zGet at h3
    rw [z, if_neg (by omega)] at h3
    exact h3.1 rfl
  obtain ⟨k, hk, rfl, hT, hN, h7, hlen, hlt, hat, -, -⟩ := zG_sp hn
  have he : (zws q cI cB cL μ)[k]? = some (q k, .inr (ex / 32, (zS k).2.2.zipIdx.map (zfl q μ k))) := by
    rw [zws_at hk, zcell_o hT, hN]; rfl
  have hv : ((zS k).2.2.zipIdx.map (zfl q μ k))[ex % 32]? = some (zfl q μ k (zG ex k, ex % 32)) := by
    rw [List.getElem?_map, List.getElem?_zipIdx, hat]
    simp
  refine va_get (D := (dC, dI)) (ci := ex / 32) (C := (zcl (ex / 32)).1) (T := (zcl (ex / 32)).2.1) (N := (zcl (ex / 32)).2.2) hx hb hts (zcl_ws h7) hown hKK hw.1 k he (zcl_at h7) (ex % 32) (by omega) (hts _ (zFL_at hF)) (fun _ h9 => h9) hv hd ?_
  unfold zGet at h3
  by_cases hg : 0 ≤ zG ex k
  · rw [if_pos hg] at h3
    have e : zfl q μ k (zG ex k, ex % 32) = ztr q (2, zG ex k) := by unfold zfl; rw [if_pos hg]; rfl
    rw [e]
    exact hK _ _ _ h3 H locs ls hw hl (zst_r (zst_tl hs))
  · rw [if_neg hg] at h3
    have e : zfl q μ k (zG ex k, ex % 32) = ztr q (0, μ k ((ex % 32 : Nat) : Int)) := by unfold zfl; rw [if_neg hg]; rfl
    rw [e]
    exact hK _ _ _ h3.2 H locs ls hw hl (zst_i ((hw.2.2.1 k _).2 (by omega)) (zst_tl hs))
theorem sv_putfield {p : Program} {l : Launch} {e : Env} {R : Room} {s : State} {m : MethodId} {args : Array Value} {below : List Frame} {meth : Method} {c : Code} {cells slots : Nat} {Qw : State → Prop} {dC : Nat → ClassId} {dI : Nat → Nat → Nat} {q : Nat → Nat} {cI cB cL : ClassId} {L : Nat} {xs : Nat → Int32} (hx : p.tables.exec = Jvm.exec) {cc : ByteArray} (hb : c.code = cc) {pc n : Nat} {lv st : List zV} {μ : zM} {K : List zV → List zV → zM → Prop} {o i ex : Nat} (hown : s.vm.findClass (zcN o) = some m.cls) (hts : ∀ w ∈ zwG, w.before args s = true) (hKK : va_K (dC, dI) vwCl [(cI, .int), (cB, .byte), (cL, .long)] s) (hq : zinj q) (hF : zFL.any (fun q => q.1 == o && (q.2.1 == i && (32 * q.2.2.1 + q.2.2.2.1 == ex))) = true) (hd : decode cc pc = .ok (.putfield i, 3)) (hK : ∀ lv st μ, K lv st μ → zGo p l e R s m args below meth c cells slots Qw dC dI q cI cB cL L xs n (pc + 3) lv st μ) (h : zD 0 2 st (fun a v r => zPut (zG ex a) a ex v μ (fun μ => K lv r μ))) : zGo p l e R s m args below meth c cells slots Qw dC dI q cI cB cL L xs n pc lv st μ := by
  intro H locs ls hw hl hs
  rcases st with _ | ⟨⟨t1, v⟩, _ | ⟨⟨t2, a⟩, r⟩⟩
  · exact h.elim
  · exact h.elim
  obtain ⟨h1, h2, h3, h4⟩ := h
  subst h1; subst h2
  have iv := zst_hi hs
  have hn : ¬ zG ex a = -9 := by omega
  obtain ⟨k, hk, rfl, hT, hN, h7, hlen, hlt, hat, hi, hz⟩ := zG_sp hn
  obtain ⟨ty, hty, hnm⟩ := zcl_ty h7
  have he : (zws q cI cB cL μ)[k]? = some (q k, .inr (ex / 32, (zS k).2.2.zipIdx.map (zfl q μ k))) := by
    rw [zws_at hk, zcell_o hT, hN]; rfl
  have hneg : ¬ 0 ≤ zG ex k := by omega
  have hfld : ((zS k).2.2.zipIdx.map (zfl q μ k)).set (ex % 32) (.int (Int32.ofInt v)) = (zS k).2.2.zipIdx.map (zfl q (zu μ k ((ex % 32 : Nat) : Int) v) k) := by
    apply List.ext_getElem?
    intro j
    by_cases hj : j = ex % 32
    · subst hj
      rw [List.getElem?_set_self (by simpa using hlt), List.getElem?_map, List.getElem?_zipIdx, hat]
      simp only [Option.map_some, Nat.zero_add, zfl, if_neg hneg, zu_at]
    · rw [List.getElem?_set_ne (Ne.symm hj), List.getElem?_map, List.getElem?_map, List.getElem?_zipIdx]
      cases (zS k).2.2[j]? with
      | none => rfl
      | some w =>
        simp only [Option.map_some, Nat.zero_add, zfl]
        rw [zu_ne (by omega)]
  have hset : (zws q cI cB cL μ).set k (q k, .inr (ex / 32, ((zS k).2.2.zipIdx.map (zfl q μ k)).set (ex % 32) (.int (Int32.ofInt v)))) = zws q cI cB cL (zu μ k ((ex % 32 : Nat) : Int) v) := by
    rw [hfld, ← zws_set (μ := μ) (μ' := zu μ k ((ex % 32 : Nat) : Int) v) hk (fun j hj i => zu_ne (by omega)), zcell_o hT, hN]
    rfl
  have hrng : zrng (zu μ k ((ex % 32 : Nat) : Int) v) := zu_rng hw.2.2.1 (fun z => by omega) (fun _ => iv)
  have kk : ∀ (H1 : Heap) (locs1 : List Loc), va_P (dC, dI) vwCl ((zws q cI cB cL μ).set k (q k, .inr (ex / 32, ((zS k).2.2.zipIdx.map (zfl q μ k)).set (ex % 32) (.int (Int32.ofInt v))))) H1 → va_D (zA q) ((zws q cI cB cL μ).set k (q k, .inr (ex / 32, ((zS k).2.2.zipIdx.map (zfl q μ k)).set (ex % 32) (.int (Int32.ofInt v))))) → va_S (zA q) s.heap H1 locs1 → W p l e R s m args below meth c H1 locs1 cells slots Qw (F0 m (pc + 3) ls (r.map (ztr q))) := by
    intro H1 locs1 q1 q2 q3
    rw [hset] at q1
    exact hK _ _ _ h4 H1 locs1 ls ⟨q1, q3, hrng, zu_scr hk hw.2.2.2⟩ hl (zst_tl (zst_tl hs))
  rcases h3 with h3 | ⟨h3, h5⟩
  · have hdesc := hi h3
    exact va_put (D := (dC, dI)) (ci := ex / 32) (C := (zcl (ex / 32)).1) (T := (zcl (ex / 32)).2.1) (N := (zcl (ex / 32)).2.2) (ty := .int) hx hb hts (zcl_ws h7) ty hty hnm hown hKK hw.1 (zws_D hq) hw.2.1 k he (zcl_at h7) (ex % 32) (by omega) (hts _ (zFL_at hF)) (fun _ h9 => h9) (by rw [hdesc]) (by rw [hdesc]; decide +kernel) rfl rfl (by simpa using hlt) hd kk
  · have hdesc := hz h3
    have hnar : narrow .boolean (.int (Int32.ofInt v)) = .int (Int32.ofInt v) := by rcases h5 with rfl | rfl <;> decide +kernel
    have hfit : fits .boolean (.int (Int32.ofInt v)) = true := by rcases h5 with rfl | rfl <;> decide +kernel
    exact va_put (D := (dC, dI)) (ci := ex / 32) (C := (zcl (ex / 32)).1) (T := (zcl (ex / 32)).2.1) (N := (zcl (ex / 32)).2.2) (ty := .boolean) hx hb hts (zcl_ws h7) ty hty hnm hown hKK hw.1 (zws_D hq) hw.2.1 k he (zcl_at h7) (ex % 32) (by omega) (hts _ (zFL_at hF)) (fun _ h9 => h9) (by rw [hdesc]) (by rw [hdesc]; decide +kernel) hnar hfit (by simpa using hlt) hd kk
theorem sv_iaload {p : Program} {l : Launch} {e : Env} {R : Room} {s : State} {m : MethodId} {args : Array Value} {below : List Frame} {meth : Method} {c : Code} {cells slots : Nat} {Qw : State → Prop} {dC : Nat → ClassId} {dI : Nat → Nat → Nat} {q : Nat → Nat} {cI cB cL : ClassId} {L : Nat} {xs : Nat → Int32} (hx : p.tables.exec = Jvm.exec) {cc : ByteArray} (hb : c.code = cc) {pc n : Nat} {lv st : List zV} {μ : zM} {K : List zV → List zV → zM → Prop} {b : Nat} (hKK : va_K (dC, dI) vwCl [(cI, .int), (cB, .byte), (cL, .long)] s) (hX : va_X b L xs s s.heap) (hbl : b < s.heap.size) (hbA : ¬ zA q b) (hq9 : q 99 = b) (hd : decode cc pc = .ok (.iaload, 1)) (hK : ∀ lv st μ, K lv st μ → zGo p l e R s m args below meth c cells slots Qw dC dI q cI cB cL L xs n (pc + 1) lv st μ) (h : zD 0 2 st (fun a j r => zAld 0 a j μ (fun v => K lv ((0, v) :: r) μ))) : zGo p l e R s m args below meth c cells slots Qw dC dI q cI cB cL L xs n pc lv st μ := by
  intro H locs ls hw hl hs
  rcases st with _ | ⟨⟨t1, j⟩, _ | ⟨⟨t2, a⟩, r⟩⟩
  · exact h.elim
  · exact h.elim
  obtain ⟨h1, h2, h3⟩ := h
  subst h1; subst h2
  have ij := zst_hi hs
  unfold zAld at h3
  by_cases hT : zT a = 0
  · rw [if_pos hT] at h3
    obtain ⟨h4, h5, h6⟩ := h3
    obtain ⟨k, hk, rfl⟩ := zT_arr (a := a) (by omega)
    have he : (zws q cI cB cL μ)[k]? = some (q k, _) := zws_at hk
    rw [zcell_i hT] at he
    refine va_iald hx hb hKK hw.1 k 0 he rfl (zo_in ij h4 (by have := zN_pos hk; omega)) hd ?_
    have hk2 := hK _ _ _ h6 H locs ls hw hl (zst_i ((hw.2.2.1 k j).2 (by omega)) (zst_tl (zst_tl hs)))
    have e1 : ((Int32.ofInt j).toNatClampNeg : Int) = j := by rw [zo_nat ij]; omega
    rw [e1]
    exact hk2
  · rw [if_neg hT] at h3
    obtain ⟨-, h4, h5, h6, h7⟩ := h3
    have e9 := zT_scr h4
    subst e9
    have hrd := hw.2.2.2.2 j h5 (by rw [← hw.2.2.2.1]; exact h6)
    have hin : vp_in (Int32.ofInt j) L := zo_in ij h5 (by rw [← hw.2.2.2.1]; exact h6)
    show W p l e R s m args below meth c H locs cells slots Qw (F0 m pc ls (.int (Int32.ofInt j) :: .ref (q 99) :: r.map (ztr q)))
    rw [hq9]
    refine va_sld hx hb hX hbl hbA hw.2.1 hin hd ?_
    rw [zo_nat ij]
    have hk := hK _ _ _ h7 H locs ls hw hl (zst_i ((hw.2.2.1 99 j).2 (by decide)) (zst_tl (zst_tl hs)))
    have e2 : ztr q (0, μ 99 j) = .int (xs j.toNat) := by show Value.int (Int32.ofInt (μ 99 j)) = _; rw [hrd, Int32.ofInt_toInt]
    rw [List.map_cons, e2] at hk
    exact hk
theorem sv_baload {p : Program} {l : Launch} {e : Env} {R : Room} {s : State} {m : MethodId} {args : Array Value} {below : List Frame} {meth : Method} {c : Code} {cells slots : Nat} {Qw : State → Prop} {dC : Nat → ClassId} {dI : Nat → Nat → Nat} {q : Nat → Nat} {cI cB cL : ClassId} {L : Nat} {xs : Nat → Int32} (hx : p.tables.exec = Jvm.exec) {cc : ByteArray} (hb : c.code = cc) {pc n : Nat} {lv st : List zV} {μ : zM} {K : List zV → List zV → zM → Prop} {b : Nat} (hKK : va_K (dC, dI) vwCl [(cI, .int), (cB, .byte), (cL, .long)] s) (hX : va_X b L xs s s.heap) (hbl : b < s.heap.size) (hbA : ¬ zA q b) (hq9 : q 99 = b) (hd : decode cc pc = .ok (.baload, 1)) (hK : ∀ lv st μ, K lv st μ → zGo p l e R s m args below meth c cells slots Qw dC dI q cI cB cL L xs n (pc + 1) lv st μ) (h : zD 0 2 st (fun a j r => zAld 1 a j μ (fun v => K lv ((0, v) :: r) μ))) : zGo p l e R s m args below meth c cells slots Qw dC dI q cI cB cL L xs n pc lv st μ := by
  intro H locs ls hw hl hs
  rcases st with _ | ⟨⟨t1, j⟩, _ | ⟨⟨t2, a⟩, r⟩⟩
  · exact h.elim
  · exact h.elim
  obtain ⟨h1, h2, h3⟩ := h
  subst h1; subst h2
  have ij := zst_hi hs
  unfold zAld at h3
  by_cases hT : zT a = 1
  · rw [if_pos hT] at h3
    obtain ⟨h4, h5, h6⟩ := h3
    obtain ⟨k, hk, rfl⟩ := zT_arr (a := a) (by omega)
    have he : (zws q cI cB cL μ)[k]? = some (q k, _) := zws_at hk
    rw [zcell_b hT] at he
    refine va_bald hx hb hKK hw.1 k 1 he rfl (zo_in ij h4 (by have := zN_pos hk; omega)) hd ?_
    have hk2 := hK _ _ _ h6 H locs ls hw hl (zst_i ((hw.2.2.1 k j).2 (by omega)) (zst_tl (zst_tl hs)))
    have e1 : ((Int32.ofInt j).toNatClampNeg : Int) = j := by rw [zo_nat ij]; omega
    rw [e1]
    exact hk2
  · rw [if_neg hT] at h3
    exact absurd h3.1 (by decide)
theorem sv_laload {p : Program} {l : Launch} {e : Env} {R : Room} {s : State} {m : MethodId} {args : Array Value} {below : List Frame} {meth : Method} {c : Code} {cells slots : Nat} {Qw : State → Prop} {dC : Nat → ClassId} {dI : Nat → Nat → Nat} {q : Nat → Nat} {cI cB cL : ClassId} {L : Nat} {xs : Nat → Int32} (hx : p.tables.exec = Jvm.exec) {cc : ByteArray} (hb : c.code = cc) {pc n : Nat} {lv st : List zV} {μ : zM} {K : List zV → List zV → zM → Prop} {b : Nat} (hKK : va_K (dC, dI) vwCl [(cI, .int), (cB, .byte), (cL, .long)] s) (hX : va_X b L xs s s.heap) (hbl : b < s.heap.size) (hbA : ¬ zA q b) (hq9 : q 99 = b) (hd : decode cc pc = .ok (.laload, 1)) (hK : ∀ lv st μ, K lv st μ → zGo p l e R s m args below meth c cells slots Qw dC dI q cI cB cL L xs n (pc + 1) lv st μ) (h : zD 0 2 st (fun a j r => zAld 2 a j μ (fun v => K lv ((1, v) :: r) μ))) : zGo p l e R s m args below meth c cells slots Qw dC dI q cI cB cL L xs n pc lv st μ := by
  intro H locs ls hw hl hs
  rcases st with _ | ⟨⟨t1, j⟩, _ | ⟨⟨t2, a⟩, r⟩⟩
  · exact h.elim
  · exact h.elim
  obtain ⟨h1, h2, h3⟩ := h
  subst h1; subst h2
  have ij := zst_hi hs
  unfold zAld at h3
  by_cases hT : zT a = 2
  · rw [if_pos hT] at h3
    obtain ⟨h4, h5, h6⟩ := h3
    obtain ⟨k, hk, rfl⟩ := zT_arr (a := a) (by omega)
    have he : (zws q cI cB cL μ)[k]? = some (q k, _) := zws_at hk
    rw [zcell_l hT] at he
    refine va_lald hx hb hKK hw.1 k 2 he rfl (zo_in ij h4 (by have := zN_pos hk; omega)) hd ?_
    have hk2 := hK _ _ _ h6 H locs ls hw hl (zst_l ((hw.2.2.1 k j).1 (by omega)) (zst_tl (zst_tl hs)))
    have e1 : ((Int32.ofInt j).toNatClampNeg : Int) = j := by rw [zo_nat ij]; omega
    rw [e1]
    exact hk2
  · rw [if_neg hT] at h3
    exact absurd h3.1 (by decide)
theorem sv_iastore {p : Program} {l : Launch} {e : Env} {R : Room} {s : State} {m : MethodId} {args : Array Value} {below : List Frame} {meth : Method} {c : Code} {cells slots : Nat} {Qw : State → Prop} {dC : Nat → ClassId} {dI : Nat → Nat → Nat} {q : Nat → Nat} {cI cB cL : ClassId} {L : Nat} {xs : Nat → Int32} (hx : p.tables.exec = Jvm.exec) {cc : ByteArray} (hb : c.code = cc) {pc n : Nat} {lv st : List zV} {μ : zM} {K : List zV → List zV → zM → Prop} (hKK : va_K (dC, dI) vwCl [(cI, .int), (cB, .byte), (cL, .long)] s) (hq : zinj q) (hd : decode cc pc = .ok (.iastore, 1)) (hK : ∀ lv st μ, K lv st μ → zGo p l e R s m args below meth c cells slots Qw dC dI q cI cB cL L xs n (pc + 1) lv st μ) (h : zY 0 st (fun a j v r => zAst 0 a j (v) μ (fun μ => K lv r μ))) : zGo p l e R s m args below meth c cells slots Qw dC dI q cI cB cL L xs n pc lv st μ := by
  intro H locs ls hw hl hs
  rcases st with _ | ⟨⟨t1, v⟩, _ | ⟨⟨t2, j⟩, _ | ⟨⟨t3, a⟩, r⟩⟩⟩
  · exact h.elim
  · exact h.elim
  · exact h.elim
  obtain ⟨h1, h2, h3, hT, h4, h5, h6⟩ := h
  subst h1; subst h2; subst h3
  have iv := zst_hi hs
  have ij := zst_hi (zst_tl hs)
  obtain ⟨k, hk, rfl⟩ := zT_arr (a := a) (by omega)
  have he : (zws q cI cB cL μ)[k]? = some (q k, _) := zws_at hk
  rw [zcell_i hT] at he
  have hf : upd (fun i : Nat => Int32.ofInt (μ k i)) j.toNat (Int32.ofInt (v)) = (fun i : Nat => Int32.ofInt (zu μ k j (v) k i)) := by
    funext i
    unfold upd
    by_cases e : i = j.toNat
    · rw [if_pos e]
      have e2 : (i : Int) = j := by omega
      rw [e2, zu_at]
    · rw [if_neg e, zu_ne (by omega)]
  have hset : (zws q cI cB cL μ).set k (q k, .inl (cI, (zN k).toNat, .inl (upd (fun i : Nat => Int32.ofInt (μ k i)) j.toNat (Int32.ofInt (v))))) = zws q cI cB cL (zu μ k j (v)) := by
    rw [hf, ← zws_set (μ := μ) (μ' := zu μ k j (v)) hk (fun j2 hj i => zu_ne (by omega)), zcell_i hT]
  refine va_iast hx hb hKK hw.1 (zws_D hq) hw.2.1 k 0 he rfl (zo_in ij h4 (by have := zN_pos hk; omega)) hd (fun H1 locs1 q1 q2 q3 => ?_)
  rw [zo_nat ij] at q1
  rw [hset] at q1
  exact hK _ _ _ h6 H1 locs1 ls ⟨q1, q3, zu_rng hw.2.2.1 (fun z => by omega) (fun z => iv), zu_scr hk hw.2.2.2⟩ hl (zst_tl (zst_tl (zst_tl hs)))
theorem sv_bastore {p : Program} {l : Launch} {e : Env} {R : Room} {s : State} {m : MethodId} {args : Array Value} {below : List Frame} {meth : Method} {c : Code} {cells slots : Nat} {Qw : State → Prop} {dC : Nat → ClassId} {dI : Nat → Nat → Nat} {q : Nat → Nat} {cI cB cL : ClassId} {L : Nat} {xs : Nat → Int32} (hx : p.tables.exec = Jvm.exec) {cc : ByteArray} (hb : c.code = cc) {pc n : Nat} {lv st : List zV} {μ : zM} {K : List zV → List zV → zM → Prop} (hKK : va_K (dC, dI) vwCl [(cI, .int), (cB, .byte), (cL, .long)] s) (hq : zinj q) (hd : decode cc pc = .ok (.bastore, 1)) (hK : ∀ lv st μ, K lv st μ → zGo p l e R s m args below meth c cells slots Qw dC dI q cI cB cL L xs n (pc + 1) lv st μ) (h : zY 0 st (fun a j v r => zAst 1 a j (zb v) μ (fun μ => K lv r μ))) : zGo p l e R s m args below meth c cells slots Qw dC dI q cI cB cL L xs n pc lv st μ := by
  intro H locs ls hw hl hs
  rcases st with _ | ⟨⟨t1, v⟩, _ | ⟨⟨t2, j⟩, _ | ⟨⟨t3, a⟩, r⟩⟩⟩
  · exact h.elim
  · exact h.elim
  · exact h.elim
  obtain ⟨h1, h2, h3, hT, h4, h5, h6⟩ := h
  subst h1; subst h2; subst h3
  have iv := zst_hi hs
  have ij := zst_hi (zst_tl hs)
  obtain ⟨k, hk, rfl⟩ := zT_arr (a := a) (by omega)
  have he : (zws q cI cB cL μ)[k]? = some (q k, _) := zws_at hk
  rw [zcell_b hT] at he
  have hf : upd (fun i : Nat => Int32.ofInt (μ k i)) j.toNat (Int32.ofInt (zb v)) = (fun i : Nat => Int32.ofInt (zu μ k j (zb v) k i)) := by
    funext i
    unfold upd
    by_cases e : i = j.toNat
    · rw [if_pos e]
      have e2 : (i : Int) = j := by omega
      rw [e2, zu_at]
    · rw [if_neg e, zu_ne (by omega)]
  have hset : (zws q cI cB cL μ).set k (q k, .inl (cB, (zN k).toNat, .inl (upd (fun i : Nat => Int32.ofInt (μ k i)) j.toNat (Int32.ofInt (zb v))))) = zws q cI cB cL (zu μ k j (zb v)) := by
    rw [hf, ← zws_set (μ := μ) (μ' := zu μ k j (zb v)) hk (fun j2 hj i => zu_ne (by omega)), zcell_b hT]
  refine va_bast hx hb hKK hw.1 (zws_D hq) hw.2.1 k 1 he rfl (zo_in ij h4 (by have := zN_pos hk; omega)) hd (fun H1 locs1 q1 q2 q3 => ?_)
  rw [zo_nat ij, zo_byte iv] at q1
  rw [hset] at q1
  exact hK _ _ _ h6 H1 locs1 ls ⟨q1, q3, zu_rng hw.2.2.1 (fun z => by omega) (fun z => zb_in _), zu_scr hk hw.2.2.2⟩ hl (zst_tl (zst_tl (zst_tl hs)))
theorem sv_lastore {p : Program} {l : Launch} {e : Env} {R : Room} {s : State} {m : MethodId} {args : Array Value} {below : List Frame} {meth : Method} {c : Code} {cells slots : Nat} {Qw : State → Prop} {dC : Nat → ClassId} {dI : Nat → Nat → Nat} {q : Nat → Nat} {cI cB cL : ClassId} {L : Nat} {xs : Nat → Int32} (hx : p.tables.exec = Jvm.exec) {cc : ByteArray} (hb : c.code = cc) {pc n : Nat} {lv st : List zV} {μ : zM} {K : List zV → List zV → zM → Prop} (hKK : va_K (dC, dI) vwCl [(cI, .int), (cB, .byte), (cL, .long)] s) (hq : zinj q) (hd : decode cc pc = .ok (.lastore, 1)) (hK : ∀ lv st μ, K lv st μ → zGo p l e R s m args below meth c cells slots Qw dC dI q cI cB cL L xs n (pc + 1) lv st μ) (h : zY 1 st (fun a j v r => zAst 2 a j (v) μ (fun μ => K lv r μ))) : zGo p l e R s m args below meth c cells slots Qw dC dI q cI cB cL L xs n pc lv st μ := by
  intro H locs ls hw hl hs
  rcases st with _ | ⟨⟨t1, v⟩, _ | ⟨⟨t2, j⟩, _ | ⟨⟨t3, a⟩, r⟩⟩⟩
  · exact h.elim
  · exact h.elim
  · exact h.elim
  obtain ⟨h1, h2, h3, hT, h4, h5, h6⟩ := h
  subst h1; subst h2; subst h3
  have iv := zst_hl hs
  have ij := zst_hi (zst_tl hs)
  obtain ⟨k, hk, rfl⟩ := zT_arr (a := a) (by omega)
  have he : (zws q cI cB cL μ)[k]? = some (q k, _) := zws_at hk
  rw [zcell_l hT] at he
  have hf : vp_updL (fun i : Nat => Int64.ofInt (μ k i)) j.toNat (Int64.ofInt (v)) = (fun i : Nat => Int64.ofInt (zu μ k j (v) k i)) := by
    funext i
    unfold vp_updL
    by_cases e : i = j.toNat
    · rw [if_pos e]
      have e2 : (i : Int) = j := by omega
      rw [e2, zu_at]
    · rw [if_neg e, zu_ne (by omega)]
  have hset : (zws q cI cB cL μ).set k (q k, .inl (cL, (zN k).toNat, .inr (.inl (vp_updL (fun i : Nat => Int64.ofInt (μ k i)) j.toNat (Int64.ofInt (v)))))) = zws q cI cB cL (zu μ k j (v)) := by
    rw [hf, ← zws_set (μ := μ) (μ' := zu μ k j (v)) hk (fun j2 hj i => zu_ne (by omega)), zcell_l hT]
  refine va_last hx hb hKK hw.1 (zws_D hq) hw.2.1 k 2 he rfl (zo_in ij h4 (by have := zN_pos hk; omega)) hd (fun H1 locs1 q1 q2 q3 => ?_)
  rw [zo_nat ij] at q1
  rw [hset] at q1
  exact hK _ _ _ h6 H1 locs1 ls ⟨q1, q3, zu_rng hw.2.2.1 (fun z => iv) (fun z => absurd hT z), zu_scr hk hw.2.2.2⟩ hl (zst_tl (zst_tl (zst_tl hs)))
theorem sv_arraylength {p : Program} {l : Launch} {e : Env} {R : Room} {s : State} {m : MethodId} {args : Array Value} {below : List Frame} {meth : Method} {c : Code} {cells slots : Nat} {Qw : State → Prop} {dC : Nat → ClassId} {dI : Nat → Nat → Nat} {q : Nat → Nat} {cI cB cL : ClassId} {L : Nat} {xs : Nat → Int32} (hx : p.tables.exec = Jvm.exec) {cc : ByteArray} (hb : c.code = cc) {pc n : Nat} {lv st : List zV} {μ : zM} {K : List zV → List zV → zM → Prop} {b : Nat} (hKK : va_K (dC, dI) vwCl [(cI, .int), (cB, .byte), (cL, .long)] s) (hX : va_X b L xs s s.heap) (hbl : b < s.heap.size) (hbA : ¬ zA q b) (hq9 : q 99 = b) (hd : decode cc pc = .ok (.arraylength, 1)) (hK : ∀ lv st μ, K lv st μ → zGo p l e R s m args below meth c cells slots Qw dC dI q cI cB cL L xs n (pc + 1) lv st μ) (h : zU 2 st (fun a r => if zT a < 3 then K lv ((0, zN a) :: r) μ else zT a = 4 ∧ K lv ((0, μ 98 0) :: r) μ)) : zGo p l e R s m args below meth c cells slots Qw dC dI q cI cB cL L xs n pc lv st μ := by
  intro H locs ls hw hl hs
  rcases st with _ | ⟨⟨t1, a⟩, r⟩
  · exact h.elim
  obtain ⟨h1, h3⟩ := h
  subst h1
  by_cases hT : zT a < 3
  · rw [if_pos hT] at h3
    obtain ⟨k, hk, rfl⟩ := zT_arr hT
    have hp := zN_pos hk
    have hlt : zN k < 1000 := by
      have := zS_ok hk
      unfold zcok at this
      rw [if_neg (show ¬ (zS k).1 = 3 by unfold zT at hT; omega), decide_eq_true_eq] at this
      exact this.2.2
    have ev : Int32.ofNat (zN k).toNat = Int32.ofInt (zN k) := by
      rw [← Int32.ofInt_eq_ofNat]; congr 1; omega
    have hk2 := hK _ _ _ h3 H locs ls hw hl (zst_i (by unfold zi32; omega) (zst_tl hs))
    have he : (zws q cI cB cL μ)[k]? = some (q k, _) := zws_at hk
    rcases (show zT k = 0 ∨ zT k = 1 ∨ zT k = 2 by omega) with hT | hT | hT
    · rw [zcell_i hT] at he
      exact va_alen hx hb hKK hw.1 k 0 he rfl ev hd hk2
    · rw [zcell_b hT] at he
      exact va_alen hx hb hKK hw.1 k 1 he rfl ev hd hk2
    · rw [zcell_l hT] at he
      exact va_alen hx hb hKK hw.1 k 2 he rfl ev hd hk2
  · rw [if_neg hT] at h3
    have e9 := zT_scr h3.1
    subst e9
    show W p l e R s m args below meth c H locs cells slots Qw (F0 m pc ls (.ref (q 99) :: r.map (ztr q)))
    rw [hq9]
    refine va_slen hx hb hX hbl hbA hw.2.1 hd ?_
    have hk2 := hK _ _ _ h3.2 H locs ls hw hl (zst_i ((hw.2.2.1 98 0).2 (by decide)) (zst_tl hs))
    have e2 : ztr q (0, μ 98 0) = .int (Int32.ofNat L) := by show Value.int (Int32.ofInt (μ 98 0)) = _; rw [hw.2.2.2.1, Int32.ofInt_eq_ofNat]
    rw [List.map_cons, e2] at hk2
    exact hk2
end
section
/-! calls, switches, copies -/
theorem zcs {q : Nat → Nat} : ∀ {r : List zV} {n : Nat}, r.length ≤ n → (((r.map (ztr q)).map fun v => v.category)).sum ≤ 2 * n
  | [], n, _ => by simp
  | v :: r, n, h => by
    simp only [List.length_cons] at h
    have := zcs (q := q) (r := r) (n := n - 1) (by omega)
    simp only [List.map_cons, List.sum_cons]
    rcases lv_cat (ztr q v) with h1 | h1 <;> omega
theorem ztab_sw {pc : Nat} {x : Int} {d : Nat} {k : Nat → Prop} : ∀ (offs : List Int) (lo : Int) (tb : List (Int × Nat)), ztab pc lo offs tb = true → zSw tb x d k → (∀ (i : Nat) (off : Int), offs[i]? = some off → x = lo + i → ∃ t : Nat, (pc : Int) + off = (t : Int) ∧ k t) ∧ ((x < lo ∨ lo + offs.length ≤ x) → k d)
  | [], lo, [], _, h => ⟨fun i off hi => by simp at hi, fun _ => h⟩
  | [], lo, _ :: _, hc, _ => by simp [ztab] at hc
  | _ :: _, lo, [], hc, _ => by simp [ztab] at hc
  | o :: os, lo, (v, t) :: tb, hc, h => by
    unfold ztab zjmp at hc
    simp only [Bool.and_eq_true, decide_eq_true_eq] at hc
    obtain ⟨⟨h1, h2⟩, h3⟩ := hc
    refine ⟨fun i off hi hx => ?_, fun hx => ?_⟩
    · cases i with
      | zero =>
        simp only [List.getElem?_cons_zero, Option.some.injEq] at hi
        exact ⟨t, by rw [← hi]; exact h2, h.1 (by omega)⟩
      | succ i =>
        simp only [List.getElem?_cons_succ] at hi
        exact (ztab_sw os (lo + 1) tb h3 (h.2 (by omega))).1 i off hi (by omega)
    · simp only [List.length_cons] at hx
      exact (ztab_sw os (lo + 1) tb h3 (h.2 (by omega))).2 (by omega)
theorem zlkp_sw {pc : Nat} {x : Int} {d : Nat} {k : Nat → Prop} {dd : Int} (hd : (pc : Int) + dd = (d : Int)) : ∀ (ps : List (Int × Int)) (tb : List (Int × Nat)), zlkp pc ps tb = true → zSw tb x d k → ∃ t : Nat, (pc : Int) + Op.lookupswitch.offset ps dd x = (t : Int) ∧ k t
  | [], [], _, h => ⟨d, hd, h⟩
  | [], _ :: _, hc, _ => by simp [zlkp] at hc
  | _ :: _, [], hc, _ => by simp [zlkp] at hc
  | (a, o) :: os, (v, t) :: tb, hc, h => by
    unfold zlkp zjmp at hc
    simp only [Bool.and_eq_true, decide_eq_true_eq] at hc
    obtain ⟨⟨h1, h2⟩, h3⟩ := hc
    rw [Op.lookupswitch.offset_cons]
    by_cases e : a = x
    · rw [if_pos e]
      exact ⟨t, h2, h.1 (by omega)⟩
    · rw [if_neg e]
      exact zlkp_sw hd os tb h3 (h.2 (by omega))
theorem sv_tableswitch {p : Program} {l : Launch} {e : Env} {R : Room} {s : State} {m : MethodId} {args : Array Value} {below : List Frame} {meth : Method} {c : Code} {cells slots : Nat} {Qw : State → Prop} {dC : Nat → ClassId} {dI : Nat → Nat → Nat} {q : Nat → Nat} {cI cB cL : ClassId} {L : Nat} {xs : Nat → Int32} (hx : p.tables.exec = Jvm.exec) {cc : ByteArray} (hb : c.code = cc) {pc n : Nat} {lv st : List zV} {μ : zM} {d0 lo hi : Int} {offs : Array Int} {tb : List (Int × Nat)} {len : Nat} {S : Nat → List zV → List zV → zM → Prop} {ex : Nat} (ht : (pc : Int) + d0 = (ex : Int)) (htab : ztab pc lo offs.toList tb = true) (hhi : hi = lo + (offs.size : Int) - 1) (hS : ∀ L2 lv st μ, S L2 lv st μ → zGo p l e R s m args below meth c cells slots Qw dC dI q cI cB cL L xs n L2 lv st μ) (hd : decode cc pc = .ok (.tableswitch d0 lo hi offs, len))  (h : zU 0 st (fun a r => zSw tb a ex (fun t => S t lv r μ))) : zGo p l e R s m args below meth c cells slots Qw dC dI q cI cB cL L xs n pc lv st μ := by
  intro H locs ls hw hl hs
  rcases st with _ | ⟨⟨t1, a⟩, r⟩
  · exact h.elim
  obtain ⟨h1, h3⟩ := h
  subst h1
  have ia := zst_hi hs
  have hs2 := zst_tl hs
  obtain ⟨k1, k2⟩ := ztab_sw offs.toList lo tb htab h3
  by_cases e : a < lo ∨ hi < a
  · refine lv_tableOut hx hb hd (by rw [zt32 ia]; exact e) ht ?_
    exact hS _ _ _ _ (k2 (by rw [Array.length_toList]; omega)) H locs ls hw hl hs2
  · have hi2 : (a - lo).toNat < offs.toList.length := by rw [Array.length_toList]; omega
    obtain ⟨t, h4, h5⟩ := k1 (a - lo).toNat _ (List.getElem?_eq_getElem hi2) (by omega)
    refine lv_tableIn hx hb hd (by rw [zt32 ia]; omega) (by rw [zt32 ia]; omega) (by rw [zt32 ia, ← Array.getElem?_toList, List.getElem?_eq_getElem hi2]) h4 ?_
    exact hS _ _ _ _ h5 H locs ls hw hl hs2
theorem sv_lookupswitch {p : Program} {l : Launch} {e : Env} {R : Room} {s : State} {m : MethodId} {args : Array Value} {below : List Frame} {meth : Method} {c : Code} {cells slots : Nat} {Qw : State → Prop} {dC : Nat → ClassId} {dI : Nat → Nat → Nat} {q : Nat → Nat} {cI cB cL : ClassId} {L : Nat} {xs : Nat → Int32} (hx : p.tables.exec = Jvm.exec) {cc : ByteArray} (hb : c.code = cc) {pc n : Nat} {lv st : List zV} {μ : zM} {d0 : Int} {ps : Array (Int × Int)} {tb : List (Int × Nat)} {len : Nat} {S : Nat → List zV → List zV → zM → Prop} {ex : Nat} (ht : (pc : Int) + d0 = (ex : Int)) (htab : zlkp pc ps.toList tb = true) (hord : (ps.toList.zip (ps.toList.drop 1)).all (fun (a, next) => a.1 < next.1) = true) (hS : ∀ L2 lv st μ, S L2 lv st μ → zGo p l e R s m args below meth c cells slots Qw dC dI q cI cB cL L xs n L2 lv st μ) (hd : decode cc pc = .ok (.lookupswitch d0 ps, len))  (h : zU 0 st (fun a r => zSw tb a ex (fun t => S t lv r μ))) : zGo p l e R s m args below meth c cells slots Qw dC dI q cI cB cL L xs n pc lv st μ := by
  intro H locs ls hw hl hs
  rcases st with _ | ⟨⟨t1, a⟩, r⟩
  · exact h.elim
  obtain ⟨h1, h3⟩ := h
  subst h1
  have ia := zst_hi hs
  obtain ⟨t, h4, h5⟩ := zlkp_sw ht ps.toList tb htab h3
  refine lv_lookup hx hb hd hord rfl (by rw [zt32 ia]; exact h4) ?_
  exact hS _ _ _ _ h5 H locs ls hw hl (zst_tl hs)
theorem zCP_at {o i : Nat} (h : zCP.any (fun q => q.1 == o && q.2.1 == i) = true) : Cond.methodLink (zcN o) i arraycopyName ∈ zwG := by
  obtain ⟨x, hx, hq⟩ := List.any_eq_true.mp h
  have h2 := zat_in (List.all_eq_true.mp zCP_c x hx)
  simp only [Bool.and_eq_true, beq_iff_eq] at hq
  rw [hq.1, hq.2] at h2
  exact h2
theorem zML_at {o i k : Nat} (h : zML.any (fun q => q.1 == o && (q.2.1 == i && q.2.2.1 == k)) = true) : Cond.methodLink (zcN o) i (zmth k) ∈ zwG := by
  obtain ⟨x, hx, hq⟩ := List.any_eq_true.mp h
  have h2 := zat_in (List.all_eq_true.mp zML_c x hx)
  simp only [Bool.and_eq_true, beq_iff_eq] at hq
  rw [hq.1, hq.2.1, hq.2.2] at h2
  exact h2
theorem sv_copy {p : Program} {l : Launch} {e : Env} {R : Room} {s : State} {m : MethodId} {args : Array Value} {below : List Frame} {meth : Method} {c : Code} {cells slots : Nat} {Qw : State → Prop} {dC : Nat → ClassId} {dI : Nat → Nat → Nat} {q : Nat → Nat} {cI cB cL : ClassId} {L : Nat} {xs : Nat → Int32} (hx : p.tables.exec = Jvm.exec) {cc : ByteArray} (hb : c.code = cc) {pc n : Nat} {lv st : List zV} {μ : zM} {K : List zV → List zV → zM → Prop} {o i : Nat} (hown : s.vm.findClass (zcN o) = some m.cls) (hts : ∀ w ∈ zwG, w.before args s = true) (hKK : va_K (dC, dI) vwCl [(cI, .int), (cB, .byte), (cL, .long)] s) (hq : zinj q) (hml : c.maxLocals = n) (hfr : 1 ≤ R.frames) (hlo : 100 ≤ R.locals) (hF : zCP.any (fun q => q.1 == o && q.2.1 == i) = true) (hd : decode cc pc = .ok (.invokestatic i, 3)) (hK : ∀ lv st μ, K lv st μ → zGo p l e R s m args below meth c cells slots Qw dC dI q cI cB cL L xs n (pc + 3) lv st μ) (h : zCopy st μ (fun st μ => K lv st μ)) : zGo p l e R s m args below meth c cells slots Qw dC dI q cI cB cL L xs n pc lv st μ := by
  intro H locs ls hw hl hs
  unfold zCopy at h
  split at h
  case h_2 => exact h.elim
  rename_i t1 nn t2 dp t3 bb t4 sp t5 aa r
  obtain ⟨⟨h1, h2, h3, h4, h5⟩, hT, hT2, p1, p2, p3, p4, p5, p6, h6⟩ := h
  subst h1; subst h2; subst h3; subst h4; subst h5
  have inn := zst_hi hs
  have idp := zst_hi (zst_tl hs)
  have isp := zst_hi (zst_tl (zst_tl (zst_tl hs)))
  have hs2 := zst_tl (zst_tl (zst_tl (zst_tl (zst_tl hs))))
  obtain ⟨ka, hka, rfl⟩ := zT_arr (a := aa) (by omega)
  obtain ⟨kb, hkb, rfl⟩ := zT_arr (a := bb) (by omega)
  have hea : (zws q cI cB cL μ)[ka]? = some (q ka, _) := zws_at hka
  have heb : (zws q cI cB cL μ)[kb]? = some (q kb, _) := zws_at hkb
  have nea := zN_pos hka
  have neb := zN_pos hkb
  have hlink := hts _ (zCP_at hF)
  have hsum : (((r.map (ztr q)).map fun v => v.category)).sum + (nativeFrameWords "java/lang/System" "arraycopy" 5 + 11) ≤ R.locals := by
    have := zcs (q := q) p6
    have e : nativeFrameWords "java/lang/System" "arraycopy" 5 = 7 := by decide
    omega
  have hml2 : c.maxLocals = ls.size := by rw [hml, hl.2.1.1]
  have fin : ∀ (H1 : Heap) (locs1 : List Loc), va_P (dC, dI) vwCl (zws q cI cB cL (zcp μ ka kb sp dp nn)) H1 → va_S (zA q) s.heap H1 locs1 → W p l e R s m args below meth c H1 locs1 cells slots Qw (F0 m (pc + 3) ls (r.map (ztr q))) := fun H1 locs1 q1 q3 => hK _ _ _ h6 H1 locs1 ls ⟨q1, q3, zcp_rng hT hw.2.2.1, zcp_scr hkb hw.2.2.2⟩ hl hs2
  have oth : ∀ j : Nat, j ≠ kb → ∀ i, zcp μ ka kb sp dp nn j i = μ j i := by
    intro j hj i
    unfold zcp
    rw [if_neg (by omega)]
  have cpy : ∀ {α : Type} (F : Int → α), va_cpy (fun i : Nat => F (μ ka i)) (fun i : Nat => F (μ kb i)) sp.toNat dp.toNat nn.toNat = fun i : Nat => F (zcp μ ka kb sp dp nn kb i) := by
    intro α F
    funext i
    unfold va_cpy zcp
    by_cases e1 : dp.toNat ≤ i ∧ i < dp.toNat + nn.toNat
    · have e2 : ((sp.toNat + (i - dp.toNat) : Nat) : Int) = sp + ((i : Int) - dp) := by omega
      rw [if_pos e1, if_pos (by omega)]
      show F (μ ka ((sp.toNat + (i - dp.toNat) : Nat) : Int)) = _
      rw [e2]
    · rw [if_neg e1, if_neg (by omega)]
  rcases hT2 with hT2 | hT2
  · have hTb : zT kb = 0 := by omega
    rw [zcell_i hT2] at hea
    rw [zcell_i hTb] at heb
    refine va_copyi hx hb hml2 hown hlink (hts _ (zsy_c _ (by simp))) (hts _ (zsy_c _ (by simp))) (hts _ (zsy_c _ (by simp))) hKK hw.1 (zws_D hq) hw.2.1 ka kb 0 0 hea heb rfl rfl rfl (zo_nn isp p1) (zo_nn idp p2) (zo_nn inn p3) (by rw [zo_nat isp, zo_nat inn]; omega) (by rw [zo_nat idp, zo_nat inn]; omega) (fun _ _ => rfl) hfr hsum hd (fun H1 locs1 q1 q2 q3 => fin H1 locs1 ?_ q3)
    rw [zo_nat isp, zo_nat idp, zo_nat inn, cpy Int32.ofInt] at q1
    rw [← zws_set (μ := μ) (μ' := zcp μ ka kb sp dp nn) hkb oth, zcell_i hTb]
    exact q1
  · have hTb : zT kb = 2 := by omega
    rw [zcell_l hT2] at hea
    rw [zcell_l hTb] at heb
    refine va_copyl hx hb hml2 hown hlink (hts _ (zsy_c _ (by simp))) (hts _ (zsy_c _ (by simp))) (hts _ (zsy_c _ (by simp))) hKK hw.1 (zws_D hq) hw.2.1 ka kb 2 2 hea heb rfl rfl rfl (zo_nn isp p1) (zo_nn idp p2) (zo_nn inn p3) (by rw [zo_nat isp, zo_nat inn]; omega) (by rw [zo_nat idp, zo_nat inn]; omega) (fun _ _ => rfl) hfr hsum hd (fun H1 locs1 q1 q2 q3 => fin H1 locs1 ?_ q3)
    rw [zo_nat isp, zo_nat idp, zo_nat inn, cpy Int64.ofInt] at q1
    rw [← zws_set (μ := μ) (μ' := zcp μ ka kb sp dp nn) hkb oth, zcell_l hTb]
    exact q1
theorem sv_mabs {p : Program} {l : Launch} {e : Env} {R : Room} {s : State} {m : MethodId} {args : Array Value} {below : List Frame} {meth : Method} {c : Code} {cells slots : Nat} {Qw : State → Prop} {dC : Nat → ClassId} {dI : Nat → Nat → Nat} {q : Nat → Nat} {cI cB cL : ClassId} {L : Nat} {xs : Nat → Int32} (hx : p.tables.exec = Jvm.exec) {cc : ByteArray} (hb : c.code = cc) {pc n : Nat} {lv st : List zV} {μ : zM} {K : List zV → List zV → zM → Prop} {o i : Nat} (hown : s.vm.findClass (zcN o) = some m.cls) (hts : ∀ w ∈ zwG, w.before args s = true) (hKK : va_K (dC, dI) vwCl [(cI, .int), (cB, .byte), (cL, .long)] s) (hml : c.maxLocals = n) (hfr : 1 ≤ R.frames) (hlo : 100 ≤ R.locals) (hce : cells ≤ R.cells) (hsl : slots ≤ R.slots) (hF : zML.any (fun q => q.1 == o && (q.2.1 == i && q.2.2.1 == 10)) = true) (hd : decode cc pc = .ok (.invokestatic i, 3)) (hK : ∀ lv st μ, K lv st μ → zGo p l e R s m args below meth c cells slots Qw dC dI q cI cB cL L xs n (pc + 3) lv st μ) (h : zU 0 st (fun a r => r.length ≤ 4 ∧ K lv ((0, if 0 ≤ a then a else zw (0 - a)) :: r) μ)) : zGo p l e R s m args below meth c cells slots Qw dC dI q cI cB cL L xs n pc lv st μ := by
  intro H locs ls hw hl hs
  rcases st with _ | ⟨⟨t1, a⟩, r⟩
  · exact h.elim
  obtain ⟨h1, h3, h4⟩ := h
  subst h1
  have ia := zst_hi hs
  have hs2 := zst_tl hs
  have hk := hK _ _ _ h4 H locs ls hw hl (zst_i (by split; exact ia; exact zw_in _) hs2)
  have e : (if (0 : Int32) ≤ Int32.ofInt a then Int32.ofInt a else 0 - Int32.ofInt a) = Int32.ofInt (if 0 ≤ a then a else zw (0 - a)) := by
    have e1 := zo_le zi0 ia
    rw [zo_0] at e1
    by_cases e2 : 0 ≤ a
    · rw [if_pos (e1.mpr e2), if_pos e2]
    · rw [if_neg (fun z => e2 (e1.mp z)), if_neg e2, ← zo_sub, zo_0]
  have hsum := zcs (q := q) h3
  refine va_mabs hx hb (by rw [hml, hl.2.1.1]) hown (hts _ (zML_at hF)) (hts _ (zat_in zMa_c.1)) (hts _ (zat_in zMa_c.2.2.1)) (hts _ (zat_in zMa_c.2.1)) hfr (by omega) hce hsl hd ?_
  rw [e]
  exact hk
theorem sv_mmin {p : Program} {l : Launch} {e : Env} {R : Room} {s : State} {m : MethodId} {args : Array Value} {below : List Frame} {meth : Method} {c : Code} {cells slots : Nat} {Qw : State → Prop} {dC : Nat → ClassId} {dI : Nat → Nat → Nat} {q : Nat → Nat} {cI cB cL : ClassId} {L : Nat} {xs : Nat → Int32} (hx : p.tables.exec = Jvm.exec) {cc : ByteArray} (hb : c.code = cc) {pc n : Nat} {lv st : List zV} {μ : zM} {K : List zV → List zV → zM → Prop} {o i : Nat} (hown : s.vm.findClass (zcN o) = some m.cls) (hts : ∀ w ∈ zwG, w.before args s = true) (hKK : va_K (dC, dI) vwCl [(cI, .int), (cB, .byte), (cL, .long)] s) (hml : c.maxLocals = n) (hfr : 1 ≤ R.frames) (hlo : 100 ≤ R.locals) (hce : cells ≤ R.cells) (hsl : slots ≤ R.slots) (hF : zML.any (fun q => q.1 == o && (q.2.1 == i && q.2.2.1 == 11)) = true) (hd : decode cc pc = .ok (.invokestatic i, 3)) (hK : ∀ lv st μ, K lv st μ → zGo p l e R s m args below meth c cells slots Qw dC dI q cI cB cL L xs n (pc + 3) lv st μ) (h : zD 0 0 st (fun a b r => r.length ≤ 4 ∧ K lv ((0, if b < a then b else a) :: r) μ)) : zGo p l e R s m args below meth c cells slots Qw dC dI q cI cB cL L xs n pc lv st μ := by
  intro H locs ls hw hl hs
  rcases st with _ | ⟨⟨t1, b⟩, _ | ⟨⟨t2, a⟩, r⟩⟩
  · exact h.elim
  · exact h.elim
  obtain ⟨h1, h2, h3, h4⟩ := h
  subst h1; subst h2
  have ib := zst_hi hs
  have ia := zst_hi (zst_tl hs)
  have hs2 := zst_tl (zst_tl hs)
  have hk := hK _ _ _ h4 H locs ls hw hl (zst_i (by split; exact ib; exact ia) hs2)
  have e : (if Int32.ofInt b < Int32.ofInt a then Int32.ofInt b else Int32.ofInt a) = Int32.ofInt (if b < a then b else a) := by
    by_cases e2 : b < a
    · rw [if_pos ((zo_lt ib ia).mpr e2), if_pos e2]
    · rw [if_neg (fun z => e2 ((zo_lt ib ia).mp z)), if_neg e2]
  have hsum := zcs (q := q) h3
  refine va_mmin hx hb (by rw [hml, hl.2.1.1]) hown (hts _ (zML_at hF)) (hts _ (zat_in zMa_c.2.2.2.1)) (hts _ (zat_in zMa_c.2.2.1)) (hts _ (zat_in zMa_c.2.2.2.2.1)) hfr (by omega) hce hsl hd ?_
  rw [e]
  exact hk
theorem sv_mminl {p : Program} {l : Launch} {e : Env} {R : Room} {s : State} {m : MethodId} {args : Array Value} {below : List Frame} {meth : Method} {c : Code} {cells slots : Nat} {Qw : State → Prop} {dC : Nat → ClassId} {dI : Nat → Nat → Nat} {q : Nat → Nat} {cI cB cL : ClassId} {L : Nat} {xs : Nat → Int32} (hx : p.tables.exec = Jvm.exec) {cc : ByteArray} (hb : c.code = cc) {pc n : Nat} {lv st : List zV} {μ : zM} {K : List zV → List zV → zM → Prop} {o i : Nat} (hown : s.vm.findClass (zcN o) = some m.cls) (hts : ∀ w ∈ zwG, w.before args s = true) (hKK : va_K (dC, dI) vwCl [(cI, .int), (cB, .byte), (cL, .long)] s) (hml : c.maxLocals = n) (hfr : 1 ≤ R.frames) (hlo : 100 ≤ R.locals) (hce : cells ≤ R.cells) (hsl : slots ≤ R.slots) (hF : zML.any (fun q => q.1 == o && (q.2.1 == i && q.2.2.1 == 12)) = true) (hd : decode cc pc = .ok (.invokestatic i, 3)) (hK : ∀ lv st μ, K lv st μ → zGo p l e R s m args below meth c cells slots Qw dC dI q cI cB cL L xs n (pc + 3) lv st μ) (h : zD 1 1 st (fun a b r => r.length ≤ 4 ∧ K lv ((1, if b < a then b else a) :: r) μ)) : zGo p l e R s m args below meth c cells slots Qw dC dI q cI cB cL L xs n pc lv st μ := by
  intro H locs ls hw hl hs
  rcases st with _ | ⟨⟨t1, b⟩, _ | ⟨⟨t2, a⟩, r⟩⟩
  · exact h.elim
  · exact h.elim
  obtain ⟨h1, h2, h3, h4⟩ := h
  subst h1; subst h2
  have ib := zst_hl hs
  have ia := zst_hl (zst_tl hs)
  have hs2 := zst_tl (zst_tl hs)
  have hk := hK _ _ _ h4 H locs ls hw hl (zst_l (by split; exact ib; exact ia) hs2)
  have e : (if Int64.ofInt b < Int64.ofInt a then Int64.ofInt b else Int64.ofInt a) = Int64.ofInt (if b < a then b else a) := by
    by_cases e2 : b < a
    · rw [if_pos ((zq_lt ib ia).mpr e2), if_pos e2]
    · rw [if_neg (fun z => e2 ((zq_lt ib ia).mp z)), if_neg e2]
  have hsum := zcs (q := q) h3
  refine va_mmin_long hx hb (by rw [hml, hl.2.1.1]) hown (hts _ (zML_at hF)) (hts _ (zat_in zMa_c.2.2.2.2.2.1)) (hts _ (zat_in zMa_c.2.2.1)) (hts _ (zat_in zMa_c.2.2.2.2.2.2)) hfr (by omega) hce hsl hd ?_
  rw [e]
  exact hk
end
section
/-! contracts of the methods, and calls -/
def zPre (dC : Nat → ClassId) (dI : Nat → Nat → Nat) (q : Nat → Nat) (cI cB cL : ClassId) (L b : Nat) (xs : Nat → Int32) (as : List zV) (μ : zM) : Array Value → State → Prop := va_Pc (as.map (ztr q)) (fun U => va_P (dC, dI) vwCl (zws q cI cB cL μ) U.heap ∧ va_K (dC, dI) vwCl [(cI, .int), (cB, .byte), (cL, .long)] U ∧ (∀ w ∈ znw, va_Nw w U) ∧ va_X b L xs U U.heap ∧ b < U.heap.size)
def zBu (dC : Nat → ClassId) (dI : Nat → Nat → Nat) (q : Nat → Nat) (cI cB cL : ClassId) (u : zM) (t : State) : Prop := va_P (dC, dI) vwCl (zws q cI cB cL u) t.heap
def zPo (dC : Nat → ClassId) (dI : Nat → Nat → Nat) (q : Nat → Nat) (cI cB cL : ClassId) (L : Nat) (xs : Nat → Int32) (k : Nat) (P : Int → zM → Prop) : Array Value → State → Outcome → State → Prop :=
  if k = 0 then va_Qv (fun u : zM => P 0 u ∧ zrng u ∧ zscr L xs u) (zBu dC dI q cI cB cL) (zA q) else
  if k = 2 then va_Ql (fun (r : Int64) (u : zM) => (∃ v, r = Int64.ofInt v ∧ zi64 v ∧ P v u) ∧ zrng u ∧ zscr L xs u) (zBu dC dI q cI cB cL) (zA q) else
  if k = 3 then va_Qr (fun u : zM => zrng u ∧ zscr L xs u) (fun u a t => (∃ v : Int, a = q v.toNat ∧ P v u) ∧ zBu dC dI q cI cB cL u t) (zA q) else
  va_Qi (fun (r : Int32) (u : zM) => (∃ v, r = Int32.ofInt v ∧ zi32 v ∧ P v u) ∧ zrng u ∧ zscr L xs u) (zBu dC dI q cI cB cL) (zA q)
def zrm (d : Nat) : Room := { frames := d + 1, cells := 0, slots := 0, locals := 100 * (d + 1) }
def zMt (l : Launch) (dC : Nat → ClassId) (dI : Nat → Nat → Nat) (q : Nat → Nat) (cI cB cL : ClassId) (L b : Nat) (xs : Nat → Int32) (d z : Nat) (as : List zV) (μ : zM) (P : Int → zM → Prop) : Prop := Met l (zmN z) (zW z) (zrm d) (zPre dC dI q cI cB cL L b xs as μ) (zPo dC dI q cI cB cL L xs (zmK z) P) 0 0 (zA q)
theorem zPre_blind {dC : Nat → ClassId} {dI : Nat → Nat → Nat} {q : Nat → Nat} {cI cB cL : ClassId} {L b : Nat} {xs : Nat → Int32} {as : List zV} {μ : zM} : FrameBlind (zPre dC dI q cI cB cL L b xs as μ) := by
  intro a U g mk h
  obtain ⟨h1, h2, h3, h4, h5, h6⟩ := h
  exact ⟨h1, h2, va_K.moved (u := U) (U := U.calling g mk a) (Vm.Alike.refl U.vm) h3, fun w hw => (by obtain ⟨x, -, rfl⟩ := List.mem_map.mp hw; exact va_Nw.same (u := U) rfl rfl (h4 _ hw)), va_X.moved (u := U) (U := U.calling g mk a) (Vm.Alike.refl U.vm) h5, h6⟩
theorem zmw_all {z : Nat} (h : z < 193) : zmw z = true := by
  have hm : ∀ {a n : Nat}, ((List.range' a n).all zmw = true) → a ≤ z → z < a + n → zmw z = true := fun h1 h2 h3 => List.all_eq_true.mp h1 z (by rw [List.mem_range'_1]; exact ⟨h2, h3⟩)
  rcases Nat.lt_or_ge z 14 with h0 | h0
  · exact hm zmw_0 (by omega) (by omega)
  rcases Nat.lt_or_ge z 28 with h14 | h14
  · exact hm zmw_14 (by omega) (by omega)
  rcases Nat.lt_or_ge z 42 with h28 | h28
  · exact hm zmw_28 (by omega) (by omega)
  rcases Nat.lt_or_ge z 56 with h42 | h42
  · exact hm zmw_42 (by omega) (by omega)
  rcases Nat.lt_or_ge z 70 with h56 | h56
  · exact hm zmw_56 (by omega) (by omega)
  rcases Nat.lt_or_ge z 84 with h70 | h70
  · exact hm zmw_70 (by omega) (by omega)
  rcases Nat.lt_or_ge z 98 with h84 | h84
  · exact hm zmw_84 (by omega) (by omega)
  rcases Nat.lt_or_ge z 112 with h98 | h98
  · exact hm zmw_98 (by omega) (by omega)
  rcases Nat.lt_or_ge z 126 with h112 | h112
  · exact hm zmw_112 (by omega) (by omega)
  rcases Nat.lt_or_ge z 140 with h126 | h126
  · exact hm zmw_126 (by omega) (by omega)
  rcases Nat.lt_or_ge z 154 with h140 | h140
  · exact hm zmw_140 (by omega) (by omega)
  rcases Nat.lt_or_ge z 168 with h154 | h154
  · exact hm zmw_154 (by omega) (by omega)
  rcases Nat.lt_or_ge z 182 with h168 | h168
  · exact hm zmw_168 (by omega) (by omega)
  rcases Nat.lt_or_ge z 193 with h182 | h182
  · exact hm zmw_182 (by omega) (by omega)
  · omega
theorem zmw_sp {z : Nat} (h : z < 193) : Cond.code (zmN z) (zmC z) (zmL z) (zmR z) ∈ zwG ∧ (zmS z = 1 → Cond.static (zmN z) ∈ zwG) ∧ (¬ zmS z = 1 → Cond.instanceMethod (zmN z) ∈ zwG ∧ Cond.selects (zmN z).cls (zmN z) (zmN z) ∈ zwG) ∧ Cond.initialized (zmN z).cls ∈ zwG ∧ (zmN z).cls = zcN (zmO z) ∧ (parseMethodDescriptor (zmN z).desc).map (fun d => d.parameters.length) = some (zmA z + zmS z - 1) ∧ ((zmN z).cls ≠ "java/lang/invoke/MethodHandle" ∧ (zmN z).cls ≠ "java/lang/invoke/VarHandle") ∧ plainName (zmN z).cls = true ∧ zret (zmK z) (zmR z) = true ∧ zmL z ≤ 60 ∧ (zmO z < 7 ∨ zmS z = 1) ∧ (0 < zmA z ∨ zmS z = 1) := by
  have h1 := zmw_all h
  unfold zmw at h1
  simp only [Bool.and_eq_true, decide_eq_true_eq] at h1
  obtain ⟨g1, g2, g3, g4, g5, g6, g7, g8, g9, g10, g11⟩ := h1
  refine ⟨zat_in g1, fun e => ?_, fun e => ?_, zat_in g3, g4, g5, g6, g7, g8, g9, g10, g11⟩
  · rw [if_pos e] at g2; exact zat_in g2
  · rw [if_neg e, Bool.and_eq_true] at g2; exact ⟨zat_in g2.1, zat_in g2.2⟩
theorem zcN_cl {ci : Nat} (h : ci < 7) : zcN ci = (zcl ci).1 := by
  rcases (show ci = 0 ∨ ci = 1 ∨ ci = 2 ∨ ci = 3 ∨ ci = 4 ∨ ci = 5 ∨ ci = 6 by omega) with rfl | rfl | rfl | rfl | rfl | rfl | rfl <;> rfl
theorem zgood {z : Nat} (h : z < 193) : GoodIn zwG (zW z) := by
  intro w hw
  have hm : w ∈ zwG := by
    rcases List.mem_cons.mp hw with rfl | hw
    · exact (zmw_sp h).1
    · exact hw
  exact ⟨hm, zwG_good hm⟩
theorem zCL_at {o i z : Nat} (h : zCL.any (fun q => q.1 == o && (q.2.1 == i && q.2.2.1 == z)) = true) : Cond.methodLink (zcN o) i (zmN z) ∈ zwG := by
  obtain ⟨x, hx, hq⟩ := List.any_eq_true.mp h
  have h2 := zat_in (List.all_eq_true.mp zCL_c x hx)
  simp only [Bool.and_eq_true, beq_iff_eq] at hq
  rw [hq.1, hq.2.1, hq.2.2] at h2
  exact h2
theorem zNL_at {o i z : Nat} (h : zNL.any (fun q => q.1 == o && (q.2.1 == i && q.2.2 == z)) = true) : Cond.methodLinkNest (zcN o) i (zmN z) "FusionRules" ∈ znw := by
  obtain ⟨x, hx, hq⟩ := List.any_eq_true.mp h
  simp only [Bool.and_eq_true, beq_iff_eq] at hq
  refine List.mem_map.mpr ⟨x, hx, ?_⟩
  rw [hq.1, hq.2.1, hq.2.2]
theorem znw_warm {s U : State} (hW : s.WarmedH U.vm) (h : ∀ w ∈ znw, va_Nw w s) : ∀ w ∈ znw, va_Nw w U := by
  intro w hw
  have h1 := h w hw
  obtain ⟨x, -, rfl⟩ := List.mem_map.mp hw
  exact va_Nw.warmM hW h1
theorem sv_behind {p : Program} {l : Launch} {e : Env} {R : Room} {s : State} {m : MethodId} {args : Array Value} {below : List Frame} {meth : Method} {c : Code} {cells slots : Nat} {Qw : State → Prop} {dC : Nat → ClassId} {dI : Nat → Nat → Nat} {q : Nat → Nat} {cI cB cL : ClassId} {L : Nat} {xs : Nat → Int32} (hx : p.tables.exec = Jvm.exec) {cc : ByteArray} (hb : c.code = cc) {pc n : Nat} {lv : List zV} {K : List zV → List zV → zM → Prop} {P : Int → zM → Prop} {k : Nat} {rest : List zV} {ls : Array Slot} {H : Heap} {locs : List Loc} {st0 : List Value} {a : Array Value} (hK : ∀ lv st μ, K lv st μ → zGo p l e R s m args below meth c cells slots Qw dC dI q cI cB cL L xs n (pc + 3) lv st μ) (hk4 : k ≤ 4) (h : ∀ r u, P r u → K lv (zP k r rest) u) (hS : va_S (zA q) s.heap H locs) (hl : zlv q ls n lv) (hs : zst rest)
    (hr : va_Run p l e R s m args below meth c H locs cells slots 0 0 (F0 m pc ls st0) (rest.map (ztr q)) (zPo dC dI q cI cB cL L xs k P a) (zA q)) : W p l e R s m args below meth c H locs cells slots Qw (F0 m pc ls st0) := by
  have hA : ∀ x, x < H.size → zA q x → zA q x := fun _ _ h => h
  have hf : ∀ x, zA q x → zA q x := fun _ h => h
  unfold zPo at hr
  by_cases k0 : k = 0
  · rw [if_pos k0] at hr
    subst k0
    exact va_callv hr hS hA hf (fun u t H1 locs1 ht hvm hw hB hz hk2 hS2 => hK _ _ _ (h 0 u hw.1) H1 locs1 ls ⟨by rw [← ht]; exact hB, hS2, hw.2⟩ hl hs)
  · rw [if_neg k0] at hr
    by_cases k2 : k = 2
    · rw [if_pos k2] at hr
      subst k2
      refine va_calll hr hS hA hf (fun r u t H1 locs1 ht hvm hw hB hz hk2 hS2 => ?_)
      obtain ⟨⟨v, rfl, iv, hP⟩, hw2⟩ := hw
      exact hK _ _ _ (h v u hP) H1 locs1 ls ⟨by rw [← ht]; exact hB, hS2, hw2⟩ hl (zst_l iv hs)
    · rw [if_neg k2] at hr
      by_cases k3 : k = 3
      · rw [if_pos k3] at hr
        subst k3
        refine va_callr hr hS hA hf (fun u ra t H1 locs1 ht hvm hw hB hz hk2 hS2 => ?_)
        obtain ⟨⟨v, rfl, hP⟩, hB⟩ := hB
        exact hK _ _ _ (h v u hP) H1 locs1 ls ⟨by rw [← ht]; exact hB, hS2, hw⟩ hl (zst_r hs)
      · rw [if_neg k3] at hr
        have hp : ∀ r, zP k r rest = (0, r) :: rest := fun r => by
          unfold zP
          rw [if_neg (by omega), if_neg (by omega), if_neg (by omega)]
        refine va_calli hr hS hA hf (fun r u t H1 locs1 ht hvm hw hB hz hk2 hS2 => ?_)
        obtain ⟨⟨v, rfl, iv, hP⟩, hw2⟩ := hw
        have h2 := h v u hP
        rw [hp] at h2
        exact hK _ _ _ h2 H1 locs1 ls ⟨by rw [← ht]; exact hB, hS2, hw2⟩ hl (zst_i iv hs)
theorem zpre_at {s : State} {dC : Nat → ClassId} {dI : Nat → Nat → Nat} {q : Nat → Nat} {cI cB cL : ClassId} {L b : Nat} {xs : Nat → Int32} (hnw : ∀ w ∈ znw, va_Nw w s) (hKK : va_K (dC, dI) vwCl [(cI, .int), (cB, .byte), (cL, .long)] s) (hX : va_X b L xs s s.heap) (hbl : b < s.heap.size) (hbA : ¬ zA q b)  {as : List zV} {μ : zM} {H : Heap} {locs : List Loc} (hw : zWd dC dI q cI cB cL L xs s μ H locs) : ∀ U : State, U.heap = H → s.WarmedH U.vm → zPre dC dI q cI cB cL L b xs as μ (as.map (ztr q)).toArray U := by
  intro U hU hW
  have e : H[b]? = s.heap[b]? := hw.2.1.2.1 b hbl hbA
  refine ⟨rfl, by rw [hU]; exact hw.1, va_K.moved hW.alike hKK, znw_warm hW hnw, ?_, ?_⟩
  · rw [hU]; exact (hX.kept e).moved hW.alike
  · rw [hU]; exact Nat.lt_of_lt_of_le hbl hw.2.1.1
theorem sv_virt {p : Program} {l : Launch} {e : Env} {R : Room} {s : State} {m : MethodId} {args : Array Value} {below : List Frame} {meth : Method} {c : Code} {cells slots : Nat} {Qw : State → Prop} {dC : Nat → ClassId} {dI : Nat → Nat → Nat} {q : Nat → Nat} {cI cB cL : ClassId} {L : Nat} {xs : Nat → Int32} (hx : p.tables.exec = Jvm.exec) {cc : ByteArray} (hb : c.code = cc) {pc n : Nat} {lv st : List zV} {μ : zM} {K : List zV → List zV → zM → Prop} {C : Nat → List zV → zM → (Int → zM → Prop) → Prop} {tb : List (Int × Nat)} {o i z b : Nat} (hown : s.vm.findClass (zcN o) = some m.cls) (hts : ∀ w ∈ zwG, w.before args s = true) (hnw : ∀ w ∈ znw, va_Nw w s) (hKK : va_K (dC, dI) vwCl [(cI, .int), (cB, .byte), (cL, .long)] s) (hX : va_X b L xs s s.heap) (hbl : b < s.heap.size) (hbA : ¬ zA q b) (hq9 : q 99 = b) (hml : c.maxLocals = n) {d : Nat} (hfr : d + 2 ≤ R.frames) (hlo : 100 * (d + 2) ≤ R.locals) (hce : cells ≤ R.cells) (hsl : slots ≤ R.slots) (hz : z < 193) (hS0 : zmS z = 0) (htb : tb = [(((zmK z : Nat) : Int), zmA z), (((zmO z : Nat) : Int), 0)]) (hM : ∀ as μ P, C z as μ P → as.length = zmA z → (∀ v ∈ as, v.1 ≤ 2 ∧ zok v) → zrng μ → zscr L xs μ → zMt l dC dI q cI cB cL L b xs d z as μ P) (hF : zCL.any (fun q => q.1 == o && (q.2.1 == i && q.2.2.1 == z)) = true) (hd : decode cc pc = .ok (.invokevirtual i, 3)) (hK : ∀ lv st μ, K lv st μ → zGo p l e R s m args below meth c cells slots Qw dC dI q cI cB cL L xs n (pc + 3) lv st μ) (h : zVirt C z tb st μ (fun st μ => K lv st μ)) : zGo p l e R s m args below meth c cells slots Qw dC dI q cI cB cL L xs n pc lv st μ := by
  intro H locs ls hw hl hs
  subst htb
  obtain ⟨⟨h1, h2, h3⟩, h4, h5, h6, h7⟩ := h
  obtain ⟨g1, -, g3, g4, g5, g6, g7, g8, g9, g10, g11, g12⟩ := zmw_sp hz
  obtain ⟨g3a, g3b⟩ := g3 (by omega)
  have hO : zmO z < 7 := by omega
  have hlenT : (st.take (zmA z)).length = zmA z := by rw [List.length_take]; omega
  obtain ⟨v0, as', eas⟩ : ∃ v0 as', (st.take (zmA z)).reverse = v0 :: as' := by
    cases e : (st.take (zmA z)).reverse with
    | nil =>
      have := congrArg List.length e
      rw [List.length_reverse, hlenT] at this
      simp at this
      omega
    | cons v0 as' => exact ⟨v0, as', rfl⟩
  have hlen' : as'.length + 1 = zmA z := by
    have := congrArg List.length eas
    rw [List.length_reverse, hlenT] at this
    simpa using this.symm
  have etk : st.take (zmA z) = as'.reverse ++ [v0] := by
    have := congrArg List.reverse eas
    rw [List.reverse_reverse, List.reverse_cons] at this
    exact this
  have est : st = as'.reverse ++ v0 :: st.drop (zmA z) := by
    have := (List.take_append_drop (zmA z) st).symm
    rw [etk] at this
    simpa using this
  have hv0 : st.getD (zmA z - 1) (9, 0) = v0 := by
    have e : st[zmA z - 1]? = some v0 := by
      rw [est, List.getElem?_append_right (by rw [List.length_reverse]; omega), List.length_reverse]
      have : zmA z - 1 - as'.length = 0 := by omega
      rw [this]; rfl
    rw [List.getD_eq_getElem?_getD, e]; rfl
  rw [hv0] at h1 h2 h3
  obtain ⟨t0, a0⟩ := v0
  simp only at h1 h2 h3
  subst h1
  obtain ⟨k, hk, rfl⟩ := zT_obj h2
  have he : (zws q cI cB cL μ)[k]? = some (q k, .inr (zmO z, (zS k).2.2.zipIdx.map (zfl q μ k))) := by
    rw [zws_at hk, zcell_o h2, h3]; rfl
  have hrec := va_recv hKK hw.1 (zcl_at hO) he
  rw [← zcN_cl hO, ← g5] at hrec
  rw [eas] at h7
  have hM2 : zMt l dC dI q cI cB cL L b xs d z ((2, (k : Int)) :: as') μ (fun r μ' => K lv (zP (zmK z : Nat) r (st.drop (zmA z))) μ') := hM _ _ _ h7 (by rw [List.length_cons]; omega) (fun v hv => hs v (by
    have : v ∈ (st.take (zmA z)).reverse := by rw [eas]; exact hv
    exact List.mem_of_mem_take (List.mem_reverse.mp this))) hw.2.2.1 hw.2.2.2
  have hk4 : zmK z ≤ 4 := by
    unfold zret at g9
    split at g9 <;> first | omega | exact absurd g9 (by decide)
  have hW8 : 2 * (F0 m pc ls (st.map (ztr q))).monitorRoom + (((st.drop (zmA z)).map (ztr q)).map fun v => v.category).sum ≤ 8 := by
    refine lv_room ?_
    exact zcs h6
  have hr := va_runV (p := p) (l := l) (e := e) (R := R) (s := s) (m := m) (args := args) (below := below) (meth := meth) (c := c) (H := H) (locs := locs) (cells := cells) (slots := slots) (g := F0 m pc ls (st.map (ztr q))) (As := as'.map (ztr q)) (rest := (st.drop (zmA z)).map (ztr q)) (Ts := zwG) (b := q k) (nL := n) (n := zmA z - 1) ⟨hx, hb, hml, hown, hts⟩ hM2
    (bytes := zmC z) (maxL := zmL z) (ret := zmR z) (C := (zmN z).cls) ⟨callB_of (ws' := zwG) (zmA z - 1) hts (zgood hz) rfl rfl rfl (hts _ g4) (hts _ (zCL_at hF)) ⟨g7.1, g7.2, by rw [g6]; congr 1; omega⟩ ⟨by show d + 1 + 1 ≤ _; omega, by show 8 + (zmL z + 11) + 100 * (d + 1) ≤ _; omega⟩, hts _ g3a, hts _ g3b⟩
    ⟨zPre_blind, hrec, zpre_at hnw hKK hX hbl hbA hw⟩ rfl (by rw [List.length_map]; omega) hl.2.1.1 (by
      show st.map (ztr q) = _
      conv => lhs; rw [est]
      rw [List.map_append, List.map_cons, List.map_reverse]
      rfl) hW8 hd ⟨hce, hsl⟩
  exact sv_behind hx hb (k := zmK z) (rest := st.drop (zmA z)) hK hk4 (fun r u hP => hP) hw.2.1 hl (zst_drop _ hs) hr
theorem sv_stat {p : Program} {l : Launch} {e : Env} {R : Room} {s : State} {m : MethodId} {args : Array Value} {below : List Frame} {meth : Method} {c : Code} {cells slots : Nat} {Qw : State → Prop} {dC : Nat → ClassId} {dI : Nat → Nat → Nat} {q : Nat → Nat} {cI cB cL : ClassId} {L : Nat} {xs : Nat → Int32} (hx : p.tables.exec = Jvm.exec) {cc : ByteArray} (hb : c.code = cc) {pc n : Nat} {lv st : List zV} {μ : zM} {K : List zV → List zV → zM → Prop} {C : Nat → List zV → zM → (Int → zM → Prop) → Prop} {tb : List (Int × Nat)} {o i z b : Nat} (hown : s.vm.findClass (zcN o) = some m.cls) (hts : ∀ w ∈ zwG, w.before args s = true) (hnw : ∀ w ∈ znw, va_Nw w s) (hKK : va_K (dC, dI) vwCl [(cI, .int), (cB, .byte), (cL, .long)] s) (hX : va_X b L xs s s.heap) (hbl : b < s.heap.size) (hbA : ¬ zA q b) (hq9 : q 99 = b) (hml : c.maxLocals = n) {d : Nat} (hfr : d + 2 ≤ R.frames) (hlo : 100 * (d + 2) ≤ R.locals) (hce : cells ≤ R.cells) (hsl : slots ≤ R.slots) (hz : z < 193) (hS1 : zmS z = 1) (htb : tb = [(((zmK z : Nat) : Int), zmA z)]) (hM : ∀ as μ P, C z as μ P → as.length = zmA z → (∀ v ∈ as, v.1 ≤ 2 ∧ zok v) → zrng μ → zscr L xs μ → zMt l dC dI q cI cB cL L b xs d z as μ P) (hF : zCL.any (fun q => q.1 == o && (q.2.1 == i && q.2.2.1 == z)) = true ∨ zNL.any (fun q => q.1 == o && (q.2.1 == i && q.2.2 == z)) = true) (hd : decode cc pc = .ok (.invokestatic i, 3)) (hK : ∀ lv st μ, K lv st μ → zGo p l e R s m args below meth c cells slots Qw dC dI q cI cB cL L xs n (pc + 3) lv st μ) (h : zCall C z tb st μ (fun st μ => K lv st μ)) : zGo p l e R s m args below meth c cells slots Qw dC dI q cI cB cL L xs n pc lv st μ := by
  intro H locs ls hw hl hs
  subst htb
  obtain ⟨h5, h6, h7⟩ := h
  obtain ⟨g1, g2, -, g4, g5, g6, g7, g8, g9, g10, g11, g12⟩ := zmw_sp hz
  have hlenT : (st.take (zmA z)).length = zmA z := by rw [List.length_take]; omega
  have hM2 : zMt l dC dI q cI cB cL L b xs d z (st.take (zmA z)).reverse μ (fun r μ' => K lv (zP (zmK z : Nat) r (st.drop (zmA z))) μ') := hM _ _ _ h7 (by rw [List.length_reverse]; exact hlenT) (fun v hv => hs v (List.mem_of_mem_take (List.mem_reverse.mp hv))) hw.2.2.1 hw.2.2.2
  have hk4 : zmK z ≤ 4 := by
    unfold zret at g9
    split at g9 <;> first | omega | exact absurd g9 (by decide)
  have hW8 : 2 * (F0 m pc ls (st.map (ztr q))).monitorRoom + (((st.drop (zmA z)).map (ztr q)).map fun v => v.category).sum ≤ 8 := by
    refine lv_room ?_
    exact zcs h6
  have hstk : st.map (ztr q) = (((st.take (zmA z)).reverse).map (ztr q)).reverse ++ (st.drop (zmA z)).map (ztr q) := by
    rw [← List.map_reverse, List.reverse_reverse, ← List.map_append, List.take_append_drop]
  refine sv_behind hx hb (k := zmK z) (rest := st.drop (zmA z)) (a := (((st.take (zmA z)).reverse).map (ztr q)).toArray) hK hk4 (fun r u hP => hP) hw.2.1 hl (zst_drop _ hs) ?_
  rcases hF with hF | hF
  · exact va_runS (p := p) (l := l) (e := e) (R := R) (s := s) (m := m) (args := args) (below := below) (meth := meth) (c := c) (H := H) (locs := locs) (cells := cells) (slots := slots) (g := F0 m pc ls (st.map (ztr q))) (As := ((st.take (zmA z)).reverse).map (ztr q)) (rest := (st.drop (zmA z)).map (ztr q)) (Ts := zwG) (nL := n) (n := zmA z) ⟨hx, hb, hml, hown, hts⟩ hM2
      (bytes := zmC z) (maxL := zmL z) (ret := zmR z) ⟨callB_of (ws' := zwG) (zmA z) hts (zgood hz) rfl rfl rfl (hts _ g4) (hts _ (zCL_at hF)) ⟨g7.1, g7.2, by rw [g6]; congr 1; omega⟩ ⟨by show d + 1 + 1 ≤ _; omega, by show 8 + (zmL z + 11) + 100 * (d + 1) ≤ _; omega⟩, hts _ (g2 hS1)⟩
      ⟨zPre_blind, zpre_at hnw hKK hX hbl hbA hw⟩ rfl (by rw [List.length_map, List.length_reverse]; exact hlenT) hl.2.1.1 hstk hW8 hd ⟨hce, hsl⟩
  · exact va_runSN (p := p) (l := l) (e := e) (R := R) (s := s) (m := m) (args := args) (below := below) (meth := meth) (c := c) (H := H) (locs := locs) (cells := cells) (slots := slots) (g := F0 m pc ls (st.map (ztr q))) (As := ((st.take (zmA z)).reverse).map (ztr q)) (rest := (st.drop (zmA z)).map (ztr q)) (Ts := zwG) (nL := n) (n := zmA z) (host := "FusionRules") ⟨hx, hb, hml, hown, hts⟩ hM2
      (bytes := zmC z) (maxL := zmL z) (ret := zmR z) ⟨va_cnB (ws' := zwG) (zmA z) hts (zgood hz) rfl rfl rfl (hnw _ (zNL_at hF)) (hts _ g4) ⟨g7.1, g7.2, by rw [g6]; congr 1; omega⟩ ⟨by show d + 1 + 1 ≤ _; omega, by show 8 + (zmL z + 11) + 100 * (d + 1) ≤ _; omega⟩, hts _ (g2 hS1), trivial⟩
      ⟨zPre_blind, zpre_at hnw hKK hX hbl hbA hw⟩ rfl (by rw [List.length_map, List.length_reverse]; exact hlenT) hl.2.1.1 hstk hW8 hd ⟨hce, hsl⟩
end
section
/-! soundness: a run of the machine is a run of the JVM -/
def zHy (p : Program) (R : Room) (s : State) (m : MethodId) (args : Array Value) (c : Code) (z d cells slots : Nat) (dC : Nat → ClassId) (dI : Nat → Nat → Nat) (q : Nat → Nat) (cI cB cL : ClassId) (L b : Nat) (xs : Nat → Int32) : Prop := p.tables.exec = Jvm.exec ∧ c.code = zmC z ∧ c.maxLocals = zmL z ∧ s.vm.findClass (zcN (zmO z)) = some m.cls ∧ (∀ w ∈ zwG, w.before args s = true) ∧ (∀ w ∈ znw, va_Nw w s) ∧ va_K (dC, dI) vwCl [(cI, .int), (cB, .byte), (cL, .long)] s ∧ zinj q ∧ d + 1 ≤ R.frames ∧ 100 * (d + 1) ≤ R.locals ∧ cells ≤ R.cells ∧ slots ≤ R.slots ∧ va_X b L xs s s.heap ∧ b < s.heap.size ∧ ¬ zA q b ∧ q 99 = b
def zri (k : Nat) : Instr := if k = 0 then .return_ else if k = 2 then .lreturn else if k = 3 then .areturn else .ireturn
def zRt (p : Program) (l : Launch) (e : Env) (R : Room) (s : State) (m : MethodId) (args : Array Value) (below : List Frame) (meth : Method) (c : Code) (cells slots : Nat) (Qw : State → Prop) (dC : Nat → ClassId) (dI : Nat → Nat → Nat) (q : Nat → Nat) (cI cB cL : ClassId) (L : Nat) (xs : Nat → Int32) (z : Nat) (Q : Int → zM → Prop) : Prop := ∀ (r : Int) (u : zM) (H : Heap) (locs : List Loc) (ls : Array Slot) (pc : Nat), Q r u → zWd dC dI q cI cB cL L xs s u H locs → (zmK z = 1 → zi32 r) → (zmK z = 4 → r = 0 ∨ r = 1) → (zmK z = 2 → zi64 r) → (zmK z = 0 → r = 0) → decode (zmC z) pc = .ok (zri (zmK z), 1) → W p l e R s m args below meth c H locs cells slots Qw (F0 m pc ls ((zP (zmK z : Nat) r []).map (ztr q)))
set_option maxHeartbeats 4000000 in
theorem sO {p : Program} {l : Launch} {e : Env} {R : Room} {s : State} {m : MethodId} {args : Array Value} {below : List Frame} {meth : Method} {c : Code} {cells slots : Nat} {Qw : State → Prop} {dC : Nat → ClassId} {dI : Nat → Nat → Nat} {q : Nat → Nat} {cI cB cL : ClassId} {L : Nat} {xs : Nat → Int32} {b : Nat} {z d : Nat} (hy : zHy p R s m args c z d cells slots dC dI q cI cB cL L b xs) (hM : ∀ z2 as μ P, zC d z2 as μ P → z2 < 193 → as.length = zmA z2 → (∀ v ∈ as, v.1 ≤ 2 ∧ zok v) → zrng μ → zscr L xs μ → ∃ d2, d = d2 + 1 ∧ zMt l dC dI q cI cB cL L b xs d2 z2 as μ P) {Q : Int → zM → Prop} {S : Nat → List zV → List zV → zM → Prop} {K : List zV → List zV → zM → Prop} (hR : zRt p l e R s m args below meth c cells slots Qw dC dI q cI cB cL L xs z Q) {pc len : Nat} {op : Instr} {ex : Nat} {tb : List (Int × Nat)} {lv st : List zV} {μ : zM} (hd : decode (zmC z) pc = .ok (op, len)) (hlen : (zsw op || zlen op == len) = true) (hc : zchkO z op ex tb pc = true) (hK : ∀ lv st μ, K lv st μ → zGo p l e R s m args below meth c cells slots Qw dC dI q cI cB cL L xs (zmL z) (pc + len) lv st μ) (hS : ∀ L2 lv st μ, S L2 lv st μ → zGo p l e R s m args below meth c cells slots Qw dC dI q cI cB cL L xs (zmL z) L2 lv st μ) (h : zO (zC d) Q S op ex tb lv st μ K) : zGo p l e R s m args below meth c cells slots Qw dC dI q cI cB cL L xs (zmL z) pc lv st μ := by
  obtain ⟨hx, hb, hml, hown, hts, hnw, hKK, hq, hfr, hlo, hce, hsl, hX, hbl, hbA, hq9⟩ := hy
  cases op
  case iadd =>
    have e0 : 1 = len := by simpa [zsw, zlen] using hlen
    subst e0
    dsimp only [zO] at h
    exact sv_iadd hx hb hd hK h
  case isub =>
    have e0 : 1 = len := by simpa [zsw, zlen] using hlen
    subst e0
    dsimp only [zO] at h
    exact sv_isub hx hb hd hK h
  case imul =>
    have e0 : 1 = len := by simpa [zsw, zlen] using hlen
    subst e0
    dsimp only [zO] at h
    exact sv_imul hx hb hd hK h
  case idiv =>
    have e0 : 1 = len := by simpa [zsw, zlen] using hlen
    subst e0
    dsimp only [zO] at h
    exact sv_idiv hx hb hd hK h
  case irem =>
    have e0 : 1 = len := by simpa [zsw, zlen] using hlen
    subst e0
    dsimp only [zO] at h
    exact sv_irem hx hb hd hK h
  case ineg =>
    have e0 : 1 = len := by simpa [zsw, zlen] using hlen
    subst e0
    dsimp only [zO] at h
    exact sv_ineg hx hb hd hK h
  case iand =>
    have e0 : 1 = len := by simpa [zsw, zlen] using hlen
    subst e0
    dsimp only [zO] at h
    exact sv_iand hx hb hd hK h
  case ior =>
    have e0 : 1 = len := by simpa [zsw, zlen] using hlen
    subst e0
    dsimp only [zO] at h
    exact sv_ior hx hb hd hK h
  case ixor =>
    have e0 : 1 = len := by simpa [zsw, zlen] using hlen
    subst e0
    dsimp only [zO] at h
    exact sv_ixor hx hb hd hK h
  case ishl =>
    have e0 : 1 = len := by simpa [zsw, zlen] using hlen
    subst e0
    dsimp only [zO] at h
    exact sv_ishl hx hb hd hK h
  case ishr =>
    have e0 : 1 = len := by simpa [zsw, zlen] using hlen
    subst e0
    dsimp only [zO] at h
    exact sv_ishr hx hb hd hK h
  case iushr =>
    have e0 : 1 = len := by simpa [zsw, zlen] using hlen
    subst e0
    dsimp only [zO] at h
    exact sv_iushr hx hb hd hK h
  case ladd =>
    have e0 : 1 = len := by simpa [zsw, zlen] using hlen
    subst e0
    dsimp only [zO] at h
    exact sv_ladd hx hb hd hK h
  case lmul =>
    have e0 : 1 = len := by simpa [zsw, zlen] using hlen
    subst e0
    dsimp only [zO] at h
    exact sv_lmul hx hb hd hK h
  case land =>
    have e0 : 1 = len := by simpa [zsw, zlen] using hlen
    subst e0
    dsimp only [zO] at h
    exact sv_land hx hb hd hK h
  case lor =>
    have e0 : 1 = len := by simpa [zsw, zlen] using hlen
    subst e0
    dsimp only [zO] at h
    exact sv_lor hx hb hd hK h
  case lshl =>
    have e0 : 1 = len := by simpa [zsw, zlen] using hlen
    subst e0
    dsimp only [zO] at h
    exact sv_lshl hx hb hd hK h
  case lcmp =>
    have e0 : 1 = len := by simpa [zsw, zlen] using hlen
    subst e0
    dsimp only [zO] at h
    exact sv_lcmp hx hb hd hK h
  case i2l =>
    have e0 : 1 = len := by simpa [zsw, zlen] using hlen
    subst e0
    dsimp only [zO] at h
    exact sv_i2l hx hb hd hK h
  case l2i =>
    have e0 : 1 = len := by simpa [zsw, zlen] using hlen
    subst e0
    dsimp only [zO] at h
    exact sv_l2i hx hb hd hK h
  case i2b =>
    have e0 : 1 = len := by simpa [zsw, zlen] using hlen
    subst e0
    dsimp only [zO] at h
    exact sv_i2b hx hb hd hK h
  case dup =>
    have e0 : 1 = len := by simpa [zsw, zlen] using hlen
    subst e0
    exact sv_dup hx hb hd hK h
  case dup2 =>
    have e0 : 1 = len := by simpa [zsw, zlen] using hlen
    subst e0
    exact sv_dup2 hx hb hd hK h
  case iload_n k =>
    have e0 : 1 = len := by simpa [zsw, zlen] using hlen
    subst e0
    dsimp only [zO] at h
    exact sv_iload_n hx hb hd hK h
  case lload_n k =>
    have e0 : 1 = len := by simpa [zsw, zlen] using hlen
    subst e0
    dsimp only [zO] at h
    exact sv_lload_n hx hb hd hK h
  case aload_n k =>
    have e0 : 1 = len := by simpa [zsw, zlen] using hlen
    subst e0
    dsimp only [zO] at h
    exact sv_aload_n hx hb hd hK h
  case istore_n k =>
    have e0 : 1 = len := by simpa [zsw, zlen] using hlen
    subst e0
    dsimp only [zO] at h
    exact sv_istore_n hx hb hd hK h
  case astore_n k =>
    have e0 : 1 = len := by simpa [zsw, zlen] using hlen
    subst e0
    dsimp only [zO] at h
    exact sv_astore_n hx hb hd hK h
  case iload k =>
    have e0 : 2 = len := by simpa [zsw, zlen] using hlen
    subst e0
    dsimp only [zO] at h
    exact sv_iload hx hb hd hK h
  case lload k =>
    have e0 : 2 = len := by simpa [zsw, zlen] using hlen
    subst e0
    dsimp only [zO] at h
    exact sv_lload hx hb hd hK h
  case aload k =>
    have e0 : 2 = len := by simpa [zsw, zlen] using hlen
    subst e0
    dsimp only [zO] at h
    exact sv_aload hx hb hd hK h
  case istore k =>
    have e0 : 2 = len := by simpa [zsw, zlen] using hlen
    subst e0
    dsimp only [zO] at h
    exact sv_istore hx hb hd hK h
  case astore k =>
    have e0 : 2 = len := by simpa [zsw, zlen] using hlen
    subst e0
    dsimp only [zO] at h
    exact sv_astore hx hb hd hK h
  case lstore k =>
    have e0 : 2 = len := by simpa [zsw, zlen] using hlen
    subst e0
    dsimp only [zO] at h
    exact sv_lstore hx hb hd hK h
  case iinc k v =>
    have e0 : 3 = len := by simpa [zsw, zlen] using hlen
    subst e0
    dsimp only [zO] at h
    exact sv_iinc hx hb hd hK h
  case iconst v =>
    have e0 : 1 = len := by simpa [zsw, zlen] using hlen
    subst e0
    have hz : zi32 v := by
      simp only [zchkO, zin, Bool.and_eq_true, decide_eq_true_eq] at hc
      exact hc
    dsimp only [zO] at h
    exact sv_iconst hx hb hz hd hK h
  case bipush v =>
    have e0 : 2 = len := by simpa [zsw, zlen] using hlen
    subst e0
    simp only [zchkO, zin, Bool.and_eq_true, decide_eq_true_eq] at hc
    dsimp only [zO] at h
    exact sv_bipush hx hb hc.1 hc.2 hd hK h
  case sipush v =>
    have e0 : 3 = len := by simpa [zsw, zlen] using hlen
    subst e0
    simp only [zchkO, zin, Bool.and_eq_true, decide_eq_true_eq] at hc
    dsimp only [zO] at h
    exact sv_sipush hx hb hc.1 hc.2 hd hK h
  case lconst v =>
    have e0 : 1 = len := by simpa [zsw, zlen] using hlen
    subst e0
    dsimp only [zO] at h
    exact sv_lconst hx hb hd hK h
  case ldc i =>
    have e0 : 2 = len := by simpa [zsw, zlen] using hlen
    subst e0
    rcases tb with _ | ⟨⟨v, t⟩, _ | ⟨w, r⟩⟩
    · exact h.elim
    · simp only [zchkO, zin, Bool.and_eq_true, decide_eq_true_eq] at hc
      obtain ⟨hc1, hc2⟩ := hc
      obtain ⟨x, hx1, hq1⟩ := List.any_eq_true.mp hc2
      have h2 := zat_in (List.all_eq_true.mp zKI_c x hx1)
      simp only [Bool.and_eq_true, beq_iff_eq] at hq1
      rw [hq1.1, hq1.2.1, hq1.2.2] at h2
      exact sv_ldc hx hb hown hc1 (hts _ h2) hd hK h
    · exact h.elim
  case ldc2_w i =>
    have e0 : 3 = len := by simpa [zsw, zlen] using hlen
    subst e0
    rcases tb with _ | ⟨⟨v, t⟩, _ | ⟨w, r⟩⟩
    · exact h.elim
    · simp only [zchkO, zin, Bool.and_eq_true, decide_eq_true_eq] at hc
      obtain ⟨hc1, hc2⟩ := hc
      obtain ⟨x, hx1, hq1⟩ := List.any_eq_true.mp hc2
      have h2 := zat_in (List.all_eq_true.mp zKL_c x hx1)
      simp only [Bool.and_eq_true, beq_iff_eq] at hq1
      rw [hq1.1, hq1.2.1, hq1.2.2] at h2
      exact sv_ldc2_w hx hb hown hc1 (hts _ h2) hd hK h
    · exact h.elim
  case goto o =>
    have e0 : 3 = len := by simpa [zsw, zlen] using hlen
    subst e0
    have ht : (pc : Int) + o = (ex : Int) := by simpa [zchkO, zjmp] using hc
    exact sv_goto hx hb ht hS hd h
  case ifCond cd o =>
    have e0 : 3 = len := by simpa [zsw, zlen] using hlen
    subst e0
    have ht : (pc : Int) + o = (ex : Int) := by simpa [zchkO, zjmp] using hc
    cases cd
    case eq => exact sv_ifCond_eq hx hb ht hS hd hK h
    case ne => exact sv_ifCond_ne hx hb ht hS hd hK h
    case lt => exact sv_ifCond_lt hx hb ht hS hd hK h
    case ge => exact sv_ifCond_ge hx hb ht hS hd hK h
    case gt => exact sv_ifCond_gt hx hb ht hS hd hK h
    case le => exact sv_ifCond_le hx hb ht hS hd hK h
  case if_icmp cd o =>
    have e0 : 3 = len := by simpa [zsw, zlen] using hlen
    subst e0
    have ht : (pc : Int) + o = (ex : Int) := by simpa [zchkO, zjmp] using hc
    cases cd
    case eq => exact sv_if_icmp_eq hx hb ht hS hd hK h
    case ne => exact sv_if_icmp_ne hx hb ht hS hd hK h
    case lt => exact sv_if_icmp_lt hx hb ht hS hd hK h
    case ge => exact sv_if_icmp_ge hx hb ht hS hd hK h
    case gt => exact sv_if_icmp_gt hx hb ht hS hd hK h
    case le => exact sv_if_icmp_le hx hb ht hS hd hK h
  case getfield i =>
    have e0 : 3 = len := by simpa [zsw, zlen] using hlen
    subst e0
    exact sv_getfield hx hb hown hts hKK hc hd hK h
  case putfield i =>
    have e0 : 3 = len := by simpa [zsw, zlen] using hlen
    subst e0
    exact sv_putfield hx hb hown hts hKK hq hc hd hK h
  case iaload =>
    have e0 : 1 = len := by simpa [zsw, zlen] using hlen
    subst e0
    exact sv_iaload hx hb hKK hX hbl hbA hq9 hd hK h
  case baload =>
    have e0 : 1 = len := by simpa [zsw, zlen] using hlen
    subst e0
    exact sv_baload hx hb hKK hX hbl hbA hq9 hd hK h
  case laload =>
    have e0 : 1 = len := by simpa [zsw, zlen] using hlen
    subst e0
    exact sv_laload hx hb hKK hX hbl hbA hq9 hd hK h
  case iastore =>
    have e0 : 1 = len := by simpa [zsw, zlen] using hlen
    subst e0
    exact sv_iastore hx hb hKK hq hd hK h
  case bastore =>
    have e0 : 1 = len := by simpa [zsw, zlen] using hlen
    subst e0
    exact sv_bastore hx hb hKK hq hd hK h
  case lastore =>
    have e0 : 1 = len := by simpa [zsw, zlen] using hlen
    subst e0
    exact sv_lastore hx hb hKK hq hd hK h
  case arraylength =>
    have e0 : 1 = len := by simpa [zsw, zlen] using hlen
    subst e0
    exact sv_arraylength hx hb hKK hX hbl hbA hq9 hd hK h
  case invokevirtual i =>
    have e0 : 3 = len := by simpa [zsw, zlen] using hlen
    subst e0
    simp only [zchkO, Bool.and_eq_true, decide_eq_true_eq, beq_iff_eq] at hc
    obtain ⟨hc1, hc2, hc3, hc4⟩ := hc
    dsimp only [zO] at h
    cases d with
    | zero =>
      exfalso
      rw [hc2] at h
      exact h.2.2.2.2
    | succ d => exact sv_virt (o := zmO z) hx hb hown hts hnw hKK hX hbl hbA hq9 hml (d := d) (by omega) (by omega) hce hsl hc4 hc3 hc2 (fun as μ P h1 h2 h3 h4 h5 => by
        obtain ⟨d2, e1, e2⟩ := hM ex as μ P h1 hc4 h2 h3 h4 h5
        have e3 : d = d2 := by omega
        rw [e3]; exact e2) hc1 hd hK h
  case invokestatic i =>
    have e0 : 3 = len := by simpa [zsw, zlen] using hlen
    subst e0
    dsimp only [zO] at h
    dsimp only [zchkO] at hc
    by_cases t9 : tb = [(9, 5)]
    · rw [if_pos t9] at hc
      exact sv_copy (o := zmO z) hx hb hown hts hKK hq hml (by omega) (by omega) hc hd hK (h.1 t9)
    rw [if_neg t9] at hc
    replace h := h.2 t9
    by_cases t10 : tb = [(10, 1)]
    · rw [if_pos t10] at hc
      exact sv_mabs (o := zmO z) hx hb hown hts hKK hml (by omega) (by omega) hce hsl hc hd hK (h.1 t10)
    rw [if_neg t10] at hc
    replace h := h.2 t10
    by_cases t11 : tb = [(11, 2)]
    · rw [if_pos t11] at hc
      exact sv_mmin (o := zmO z) hx hb hown hts hKK hml (by omega) (by omega) hce hsl hc hd hK (h.1 t11)
    rw [if_neg t11] at hc
    replace h := h.2 t11
    by_cases t12 : tb = [(12, 2)]
    · rw [if_pos t12] at hc
      exact sv_mminl (o := zmO z) hx hb hown hts hKK hml (by omega) (by omega) hce hsl hc hd hK (h.1 t12)
    rw [if_neg t12] at hc
    replace h := h.2 t12
    simp only [Bool.and_eq_true, Bool.or_eq_true, decide_eq_true_eq, beq_iff_eq] at hc
    obtain ⟨hc1, hc2, hc3, hc4⟩ := hc
    cases d with
    | zero =>
      exfalso
      rw [hc2] at h
      exact h.2.2
    | succ d => exact sv_stat (o := zmO z) hx hb hown hts hnw hKK hX hbl hbA hq9 hml (d := d) (by omega) (by omega) hce hsl hc4 hc3 hc2 (fun as μ P h1 h2 h3 h4 h5 => by
        obtain ⟨d2, e1, e2⟩ := hM ex as μ P h1 hc4 h2 h3 h4 h5
        have e3 : d = d2 := by omega
        rw [e3]; exact e2) hc1 hd hK h
  case ireturn =>
    have e0 : 1 = len := by simpa [zsw, zlen] using hlen
    subst e0
    simp only [zchkO, Bool.and_eq_true, Bool.or_eq_true, beq_iff_eq] at hc
    intro H locs ls hw hl hs
    rcases st with _ | ⟨⟨t1, v⟩, r⟩
    · exact h.elim
    obtain ⟨h1, h2, h3⟩ := h
    subst h1; subst h2
    have iv := zst_hi hs
    have e1 : zri (zmK z) = .ireturn := by unfold zri; rw [if_neg (by omega), if_neg (by omega), if_neg (by omega)]
    have e2 : zP (zmK z : Nat) v [] = [(0, v)] := by unfold zP; rw [if_neg (by omega), if_neg (by omega), if_neg (by omega)]
    have k := hR v μ H locs ls pc h3.2 hw (fun _ => iv) (fun z4 => h3.1 (by omega)) (fun z4 => by omega) (fun z4 => by omega) (by rw [e1]; exact hd)
    rw [e2] at k
    exact k
  case lreturn =>
    have e0 : 1 = len := by simpa [zsw, zlen] using hlen
    subst e0
    simp only [zchkO, beq_iff_eq] at hc
    intro H locs ls hw hl hs
    rcases st with _ | ⟨⟨t1, v⟩, r⟩
    · exact h.elim
    obtain ⟨h1, h2, h3⟩ := h
    subst h1; subst h2
    have iv := zst_hl hs
    have e1 : zri (zmK z) = .lreturn := by rw [hc]; rfl
    have e2 : zP (zmK z : Nat) v [] = [(1, v)] := by rw [hc]; rfl
    have k := hR v μ H locs ls pc h3 hw (fun z4 => by omega) (fun z4 => by omega) (fun z4 => iv) (fun z4 => by omega) (by rw [e1]; exact hd)
    rw [e2] at k
    exact k
  case areturn =>
    have e0 : 1 = len := by simpa [zsw, zlen] using hlen
    subst e0
    simp only [zchkO, beq_iff_eq] at hc
    intro H locs ls hw hl hs
    rcases st with _ | ⟨⟨t1, v⟩, r⟩
    · exact h.elim
    obtain ⟨h1, h2, h3⟩ := h
    subst h1; subst h2
    have e1 : zri (zmK z) = .areturn := by rw [hc]; rfl
    have e2 : zP (zmK z : Nat) v [] = [(2, v)] := by rw [hc]; rfl
    have k := hR v μ H locs ls pc h3 hw (fun z4 => by omega) (fun z4 => by omega) (fun z4 => by omega) (fun z4 => by omega) (by rw [e1]; exact hd)
    rw [e2] at k
    exact k
  case return_ =>
    have e0 : 1 = len := by simpa [zsw, zlen] using hlen
    subst e0
    simp only [zchkO, beq_iff_eq] at hc
    intro H locs ls hw hl hs
    obtain ⟨h1, h3⟩ := h
    subst h1
    have e1 : zri (zmK z) = .return_ := by rw [hc]; rfl
    have e2 : zP (zmK z : Nat) 0 [] = [] := by rw [hc]; rfl
    have k := hR 0 μ H locs ls pc h3 hw (fun z4 => by omega) (fun z4 => by omega) (fun z4 => by omega) (fun z4 => rfl) (by rw [e1]; exact hd)
    rw [e2] at k
    exact k
  case tableswitch d0 lo hi offs =>
    simp only [zchkO, zjmp, Bool.and_eq_true, decide_eq_true_eq] at hc
    exact sv_tableswitch hx hb hc.1 hc.2.1 hc.2.2 hS hd h
  case lookupswitch d0 ps =>
    simp only [zchkO, zjmp, Bool.and_eq_true, decide_eq_true_eq] at hc
    exact sv_lookupswitch hx hb hc.1 hc.2.1 hc.2.2 hS hd h
  case nop => exact absurd hc (by simp [zchkO])
  all_goals exact False.elim h
theorem sB {p : Program} {l : Launch} {e : Env} {R : Room} {s : State} {m : MethodId} {args : Array Value} {below : List Frame} {meth : Method} {c : Code} {cells slots : Nat} {Qw : State → Prop} {dC : Nat → ClassId} {dI : Nat → Nat → Nat} {q : Nat → Nat} {cI cB cL : ClassId} {L : Nat} {xs : Nat → Int32} {b : Nat} {z d : Nat} (hy : zHy p R s m args c z d cells slots dC dI q cI cB cL L b xs) (hM : ∀ z2 as μ P, zC d z2 as μ P → z2 < 193 → as.length = zmA z2 → (∀ v ∈ as, v.1 ≤ 2 ∧ zok v) → zrng μ → zscr L xs μ → ∃ d2, d = d2 + 1 ∧ zMt l dC dI q cI cB cL L b xs d2 z2 as μ P) {Q : Int → zM → Prop} {S : Nat → List zV → List zV → zM → Prop} (hR : zRt p l e R s m args below meth c cells slots Qw dC dI q cI cB cL L xs z Q) (hS : ∀ L2 lv st μ, S L2 lv st μ → zGo p l e R s m args below meth c cells slots Qw dC dI q cI cB cL L xs (zmL z) L2 lv st μ) : ∀ (is : List zI) (pc : Nat) (lv st : List zV) (μ : zM), zchkB z pc is = true → zB (zC d) Q S is lv st μ → zGo p l e R s m args below meth c cells slots Qw dC dI q cI cB cL L xs (zmL z) pc lv st μ
  | [], _, _, _, _, _, h => h.elim
  | (op, ex, tb) :: is, pc, lv, st, μ, hc, h => by
    unfold zchkB at hc
    by_cases hn : op = .nop
    · subst hn
      simp only [decide_true, beq_iff_eq] at hc
      subst hc
      exact hS _ _ _ _ h
    · simp only [hn, decide_false] at hc
      split at hc
      · rename_i op2 len hd
        simp only [Bool.and_eq_true, decide_eq_true_eq] at hc
        obtain ⟨h1, h2, h3, h4⟩ := hc
        subst h1
        exact sO hy hM hR hd h2 h3 (fun lv st μ hk => sB hy hM hR hS is (pc + len) lv st μ h4 hk) hS h
      · exact absurd hc (by decide)
theorem zck_all {z : Nat} (h : z < 193) : zchkM z = true := by
  have hm : ∀ {a n : Nat}, ((List.range' a n).all zchkM = true) → a ≤ z → z < a + n → zchkM z = true := fun h1 h2 h3 => List.all_eq_true.mp h1 z (by rw [List.mem_range'_1]; exact ⟨h2, h3⟩)
  rcases Nat.lt_or_ge z 14 with h0 | h0
  · exact hm zck_0 (by omega) (by omega)
  rcases Nat.lt_or_ge z 28 with h14 | h14
  · exact hm zck_14 (by omega) (by omega)
  rcases Nat.lt_or_ge z 42 with h28 | h28
  · exact hm zck_28 (by omega) (by omega)
  rcases Nat.lt_or_ge z 56 with h42 | h42
  · exact hm zck_42 (by omega) (by omega)
  rcases Nat.lt_or_ge z 70 with h56 | h56
  · exact hm zck_56 (by omega) (by omega)
  rcases Nat.lt_or_ge z 84 with h70 | h70
  · exact hm zck_70 (by omega) (by omega)
  rcases Nat.lt_or_ge z 98 with h84 | h84
  · exact hm zck_84 (by omega) (by omega)
  rcases Nat.lt_or_ge z 112 with h98 | h98
  · exact hm zck_98 (by omega) (by omega)
  rcases Nat.lt_or_ge z 126 with h112 | h112
  · exact hm zck_112 (by omega) (by omega)
  rcases Nat.lt_or_ge z 140 with h126 | h126
  · exact hm zck_126 (by omega) (by omega)
  rcases Nat.lt_or_ge z 154 with h140 | h140
  · exact hm zck_140 (by omega) (by omega)
  rcases Nat.lt_or_ge z 168 with h154 | h154
  · exact hm zck_154 (by omega) (by omega)
  rcases Nat.lt_or_ge z 182 with h168 | h168
  · exact hm zck_168 (by omega) (by omega)
  rcases Nat.lt_or_ge z 193 with h182 | h182
  · exact hm zck_182 (by omega) (by omega)
  · omega
theorem zck_law : zchkM 193 = true := by
  have e : zbs.getD 193 [] = zb193 := rfl
  unfold zchkM
  rw [e, List.all_eq_true]
  intro x hx
  obtain ⟨i, hi⟩ := List.getElem?_of_mem hx
  have hl : i < 41 := (List.getElem?_eq_some_iff.mp hi).1
  have key : ∀ a n : Nat, ((zb193.drop a).take n).all (fun b => zchkB 193 b.1 b.2) = true → a ≤ i → i < a + n → zchkB 193 x.1 x.2 = true := by
    intro a n h1 h2 h3
    refine List.all_eq_true.mp h1 x (List.mem_of_getElem? (i := i - a) ?_)
    rw [List.getElem?_take, if_pos (by omega), List.getElem?_drop, show a + (i - a) = i by omega]
    exact hi
  rcases Nat.lt_or_ge i 8 with q | q
  · exact key 0 8 zckL_0 (by omega) (by omega)
  rcases Nat.lt_or_ge i 16 with q | q
  · exact key 8 8 zckL_8 (by omega) (by omega)
  rcases Nat.lt_or_ge i 24 with q | q
  · exact key 16 8 zckL_16 (by omega) (by omega)
  rcases Nat.lt_or_ge i 32 with q | q
  · exact key 24 8 zckL_24 (by omega) (by omega)
  rcases Nat.lt_or_ge i 40 with q | q
  · exact key 32 8 zckL_32 (by omega) (by omega)
  · exact key 40 1 zckL_40 (by omega) (by omega)
theorem zblk_ok {z : Nat} (hz : z ≤ 193) (L0 : Nat) : zchkB z L0 (zblk z L0) = true := by
  have hm : zchkM z = true := by
    rcases Nat.lt_or_ge z 193 with h | h
    · exact zck_all h
    · have e : z = 193 := by omega
      rw [e]; exact zck_law
  unfold zblk
  split
  · rename_i x hx
    have h1 := List.mem_of_find?_eq_some hx
    have h2 := List.find?_some hx
    simp only [beq_iff_eq] at h2
    have h3 := List.all_eq_true.mp hm x h1
    rw [← h2]; exact h3
  · rfl
theorem zlay_len {q : Nat → Nat} : ∀ (as : List zV), (lg_sl (as.map (ztr q))).length = (zlay as).length
  | [] => rfl
  | v :: r => by
    have ih := zlay_len (q := q) r
    unfold lg_sl at ih ⊢
    rw [List.map_cons, List.flatMap_cons, List.length_append, ih]
    by_cases e : v.1 = 1
    · rw [if_pos (zcat.mpr e)]
      simp only [zlay, if_pos e, List.length_cons, List.length_nil]
      omega
    · rw [if_neg (fun z => e (zcat.mp z))]
      simp only [zlay, if_neg e, List.length_cons, List.length_nil]
      omega
theorem zlay_at {q : Nat → Nat} : ∀ (as : List zV) (i j : Nat) (v : zV), (zlay as)[j]? = some v → v.1 ≤ 2 → (i + j, ztr q v) ∈ lv_args i (as.map (ztr q))
  | [], i, j, v, h, _ => by simp [zlay] at h
  | w :: r, i, j, v, h, hv => by
    rw [List.map_cons]
    unfold lv_args
    by_cases e : w.1 = 1
    · simp only [zlay, if_pos e] at h
      rw [if_pos (zcat.mpr e)]
      match j, h with
      | 0, h =>
        simp only [List.getElem?_cons_zero, Option.some.injEq] at h
        subst h
        exact List.mem_cons_self
      | 1, h =>
        simp only [List.getElem?_cons_succ, List.getElem?_cons_zero, Option.some.injEq] at h
        subst h
        exact absurd hv (by decide)
      | j + 2, h =>
        simp only [List.getElem?_cons_succ] at h
        have := zlay_at (q := q) r (i + 2) j v h hv
        rw [show i + (j + 2) = i + 2 + j by omega]
        exact List.mem_cons_of_mem _ this
    · simp only [zlay, if_neg e] at h
      rw [if_neg (fun z => e (zcat.mp z))]
      match j, h with
      | 0, h =>
        simp only [List.getElem?_cons_zero, Option.some.injEq] at h
        subst h
        exact List.mem_cons_self
      | j + 1, h =>
        simp only [List.getElem?_cons_succ] at h
        have := zlay_at (q := q) r (i + 1) j v h hv
        rw [show i + (j + 1) = i + 1 + j by omega]
        exact List.mem_cons_of_mem _ this
theorem zlay_ok : ∀ (as : List zV), (∀ v ∈ as, zok v) → ∀ v ∈ zlay as, zok v
  | [], _, v, h => by simp [zlay] at h
  | w :: r, ha, v, h => by
    have h9 : zok (9, 0) := ⟨fun q => (by cases q), fun q => (by cases q)⟩
    have hr := zlay_ok r (fun v hv => ha v (List.mem_cons_of_mem _ hv))
    unfold zlay at h
    split at h
    · rcases List.mem_cons.mp h with rfl | h
      · exact ha _ List.mem_cons_self
      · rcases List.mem_cons.mp h with rfl | h
        · exact h9
        · exact hr v h
    · rcases List.mem_cons.mp h with rfl | h
      · exact ha _ List.mem_cons_self
      · exact hr v h
theorem zent_lv {q : Nat → Nat} {z : Nat} {as : List zV} {ls : Array Slot} (hlen : (zlay as).length ≤ zmL z) (ha : ∀ v ∈ as, v.1 ≤ 2 ∧ zok v) (hl : lv_has ls (zmL z) (lv_args 0 (as.map (ztr q)))) : zlv q ls (zmL z) (zent z as) := by
  refine ⟨by unfold zent; rw [List.length_append, List.length_replicate]; omega, ⟨hl.1, hl.2.1, fun x hx => ?_⟩, fun v hv => ?_⟩
  · obtain ⟨j, w⟩ := x
    obtain ⟨v, h3, h4, rfl⟩ := zasc_mem.mp hx
    apply hl.2.2
    unfold zent at h3
    rcases Nat.lt_or_ge j (zlay as).length with hj | hj
    · rw [List.getElem?_append_left hj] at h3
      have := zlay_at (q := q) as 0 j v h3 h4
      rw [Nat.zero_add] at this
      exact this
    · rw [List.getElem?_append_right hj, List.getElem?_replicate] at h3
      split at h3
      · cases h3; exact absurd h4 (by decide)
      · cases h3
  · unfold zent at hv
    rcases List.mem_append.mp hv with h | h
    · exact zlay_ok as (fun v hv => (ha v hv).2) v h
    · have := (List.mem_replicate.mp h).2
      rw [this]
      exact ⟨fun q => (by cases q), fun q => (by cases q)⟩
/-- a run from a leader, given the calls' contracts -/
theorem sL {p : Program} {l : Launch} {e : Env} {R : Room} {s : State} {m : MethodId} {args : Array Value} {below : List Frame} {meth : Method} {c : Code} {cells slots : Nat} {Qw : State → Prop} {dC : Nat → ClassId} {dI : Nat → Nat → Nat} {q : Nat → Nat} {cI cB cL : ClassId} {L : Nat} {xs : Nat → Int32} {b : Nat} {z d : Nat} (hz : z ≤ 193) (hy : zHy p R s m args c z d cells slots dC dI q cI cB cL L b xs) (hM : ∀ z2 as μ P, zC d z2 as μ P → z2 < 193 → as.length = zmA z2 → (∀ v ∈ as, v.1 ≤ 2 ∧ zok v) → zrng μ → zscr L xs μ → ∃ d2, d = d2 + 1 ∧ zMt l dC dI q cI cB cL L b xs d2 z2 as μ P) {Q : Int → zM → Prop} (hR : zRt p l e R s m args below meth c cells slots Qw dC dI q cI cB cL L xs z Q) {L0 : Nat} {lv st : List zV} {μ : zM} (h : zR d z Q L0 lv st μ) : zGo p l e R s m args below meth c cells slots Qw dC dI q cI cB cL L xs (zmL z) L0 lv st μ := by
  rw [zR_eq] at h
  exact h (fun L0 lv st μ => zGo p l e R s m args below meth c cells slots Qw dC dI q cI cB cL L xs (zmL z) L0 lv st μ) (fun L0 lv st μ hB => sB hy hM hR (fun _ _ _ _ w => w) (zblk z L0) L0 lv st μ (zblk_ok hz L0) hB)
set_option maxHeartbeats 4000000 in
theorem sM0 (l : Launch) {dC : Nat → ClassId} {dI : Nat → Nat → Nat} {q : Nat → Nat} {cI cB cL : ClassId} {L b : Nat} {xs : Nat → Int32} (hq : zinj q) (hbA : ¬ zA q b) (hq9 : q 99 = b) (d : Nat) (hM : ∀ z2 as μ P, zC d z2 as μ P → z2 < 193 → as.length = zmA z2 → (∀ v ∈ as, v.1 ≤ 2 ∧ zok v) → zrng μ → zscr L xs μ → ∃ d2, d = d2 + 1 ∧ zMt l dC dI q cI cB cL L b xs d2 z2 as μ P) : ∀ (z : Nat) (as : List zV) (μ : zM) (P : Int → zM → Prop), z < 193 → (zlay as).length ≤ zmL z → (∀ v ∈ as, v.1 ≤ 2 ∧ zok v) → zrng μ → zscr L xs μ → zR d z P 0 (zent z as) [] μ → zMt l dC dI q cI cB cL L b xs d z as μ P := by
  intro z as μ P hz hlen ha hrng hscr h
  obtain ⟨g1, g2, g3, g4, g5, g6, g7, g8, g9, g10, g11, g12⟩ := zmw_sp hz
  unfold zMt
  refine Met.ofW (cc := zmC z) (maxL := zmL z) (ret := zmR z) g8 rfl ?_
  intro p e s m args below meth c s₁ B hml hv
  obtain ⟨rfl, hP, hKK, hnw, hX, hbl⟩ := hv
  have hx := B.exec
  have hb := B.bytes
  have hr := B.returns
  have hts0 := atoms_spec (ws := zW z) B.pre
  have hts : ∀ w ∈ zwG, w.before (as.map (ztr q)).toArray s = true := fun w hw => hts0 w (List.mem_cons_of_mem _ hw)
  have hown0 : s.vm.findClass (zmN z).cls = some m.cls := findClass_of_methodNamed B.named
  have hown : s.vm.findClass (zcN (zmO z)) = some m.cls := by rw [← g5]; exact hown0
  have hlocks := B.notSynchronized
  have hS : va_S (zA q) s.heap s.heap [] := va_S.rf
  have hl := lv_entry (as.map (ztr q)) (n := zmL z) (by rw [zlay_len]; exact hlen)
  rw [lg_entry_eq]
  generalize (lg_sl (as.map (ztr q)) ++ List.replicate (zmL z - (lg_sl (as.map (ztr q))).length) Slot.unset).toArray = ls at hl ⊢
  have hy : zHy p (headSpec (zW z) (zrm d)).room s m (as.map (ztr q)).toArray c z d 0 0 dC dI q cI cB cL L b xs := ⟨hx, hb, hml, hown, hts, hnw, hKK, hq, Nat.le_refl _, Nat.le_refl _, Nat.zero_le _, Nat.zero_le _, hX, hbl, hbA, hq9⟩
  have hR : zRt p l e (headSpec (zW z) (zrm d)).room s m (as.map (ztr q)).toArray below meth c 0 0 (MQ below (zPo dC dI q cI cB cL L xs (zmK z) P) (as.map (ztr q)).toArray s 0 0 (zA q)) dC dI q cI cB cL L xs z P := by
    intro r u H locs ls2 pc hPr hw k1 k4 k2 k0 hd
    have hk : ∀ k, zmK z = k → zret k (zmR z) = true := fun k hk => by rw [← hk]; exact g9
    have hf : ∀ x ∈ locs, zA q x.base := hw.2.1.2.2
    have hF : ∀ t : State, t.heap = H → va_F (zA q) s t := fun t ht => hw.2.1.F ht
    have hBu : ∀ t : State, t.heap = H → zBu dC dI q cI cB cL u t := fun t ht => by unfold zBu; rw [ht]; exact hw.1
    have hsc : zrng u ∧ zscr L xs u := hw.2.2
    rcases (show zmK z = 0 ∨ zmK z = 1 ∨ zmK z = 2 ∨ zmK z = 3 ∨ zmK z = 4 ∨ 5 ≤ zmK z by omega) with e | e | e | e | e | e
    · have hrt : zmR z = none := by
        have := hk 0 e
        cases er : zmR z with
        | none => rfl
        | some x => rw [er] at this; simp [zret] at this
      rw [e] at hd ⊢
      have e0 := k0 e
      subst e0
      refine W.vret (cc := zmC z) hx hb (by rw [hr, hrt]) (fun t ht hWt => ?_) hf hd hlocks
      unfold zPo
      rw [if_pos rfl]
      exact ⟨⟨u, rfl, ⟨hPr, hsc⟩, hBu t ht⟩, hF t ht⟩
    · have hrt : zmR z = some .int := by
        have := hk 1 e
        cases er : zmR z with
        | none => rw [er] at this; simp [zret] at this
        | some x => rw [er] at this; cases x <;> first | rfl | (simp [zret] at this; done)
      rw [e] at hd ⊢
      refine W.iret (cc := zmC z) (v := Int32.ofInt r) hx hb (by rw [hr, hrt]) (fun t ht hWt => ?_) hf hd hlocks
      unfold zPo
      rw [if_neg (by decide), if_neg (by decide), if_neg (by decide)]
      exact ⟨⟨_, u, rfl, ⟨⟨r, rfl, k1 e, hPr⟩, hsc⟩, hBu t ht⟩, hF t ht⟩
    · have hrt : zmR z = some .long := by
        have := hk 2 e
        cases er : zmR z with
        | none => rw [er] at this; simp [zret] at this
        | some x => rw [er] at this; cases x <;> first | rfl | (simp [zret] at this; done)
      rw [e] at hd ⊢
      refine W.lret (cc := zmC z) (v := Int64.ofInt r) hx hb (by rw [hr, hrt]) (fun t ht hWt => ?_) hf hd hlocks
      unfold zPo
      rw [if_neg (by decide), if_pos rfl]
      exact ⟨⟨_, u, rfl, ⟨⟨r, rfl, k2 e, hPr⟩, hsc⟩, hBu t ht⟩, hF t ht⟩
    · have hrt : ∃ nm, zmR z = some (.object nm) := by
        have := hk 3 e
        cases er : zmR z with
        | none => rw [er] at this; simp [zret] at this
        | some x => rw [er] at this; cases x <;> first | exact ⟨_, rfl⟩ | (simp [zret] at this; done)
      obtain ⟨nm, hrt⟩ := hrt
      rw [e] at hd ⊢
      refine W.aret (cc := zmC z) (v := .ref (q r.toNat)) hx hb (by rw [hr, hrt]) (Or.inl ⟨nm, rfl⟩) (Or.inr ⟨_, rfl⟩) (fun t ht hWt => ?_) hf hd hlocks
      unfold zPo
      rw [if_neg (by decide), if_neg (by decide), if_pos rfl]
      exact ⟨⟨u, _, rfl, hsc, ⟨r, rfl, hPr⟩, hBu t ht⟩, hF t ht⟩
    · have hrt : zmR z = some .boolean := by
        have := hk 4 e
        cases er : zmR z with
        | none => rw [er] at this; simp [zret] at this
        | some x => rw [er] at this; cases x <;> first | rfl | (simp [zret] at this; done)
      rw [e] at hd ⊢
      have h01 := k4 e
      have hnar : narrow .boolean (.int (Int32.ofInt r)) = .int (Int32.ofInt r) := by rcases h01 with rfl | rfl <;> decide +kernel
      have ir : zi32 r := by rcases h01 with rfl | rfl <;> (unfold zi32; omega)
      refine W.zret (cc := zmC z) (v := Int32.ofInt r) hx hb (by rw [hr, hrt]) hnar (fun t ht hWt => ?_) hf hd hlocks
      unfold zPo
      rw [if_neg (by decide), if_neg (by decide), if_neg (by decide)]
      exact ⟨⟨_, u, rfl, ⟨⟨r, rfl, ir, hPr⟩, hsc⟩, hBu t ht⟩, hF t ht⟩
    · exfalso
      unfold zret at g9
      split at g9 <;> first | omega | exact absurd g9 (by decide)
  exact sL (Nat.le_of_lt hz) hy hM hR h s.heap [] ls ⟨hP, hS, hrng, hscr⟩ (zent_lv hlen ha hl) zst_nil
set_option maxHeartbeats 4000000 in
/-- the contract of each method, by the depth of its calls -/
theorem sM (l : Launch) {dC : Nat → ClassId} {dI : Nat → Nat → Nat} {q : Nat → Nat} {cI cB cL : ClassId} {L b : Nat} {xs : Nat → Int32} (hq : zinj q) (hbA : ¬ zA q b) (hq9 : q 99 = b) : ∀ (d z : Nat) (as : List zV) (μ : zM) (P : Int → zM → Prop), z < 193 → (zlay as).length ≤ zmL z → (∀ v ∈ as, v.1 ≤ 2 ∧ zok v) → zrng μ → zscr L xs μ → zR d z P 0 (zent z as) [] μ → zMt l dC dI q cI cB cL L b xs d z as μ P := by
  intro d
  induction d with
  | zero => exact sM0 l hq hbA hq9 0 (fun z2 as μ P h => False.elim h)
  | succ d ih => exact sM0 l hq hbA hq9 (d + 1) (fun z2 as μ P h h1 h2 h3 h4 h5 => ⟨d, rfl, ih z2 as μ P h1 h.1 h3 h4 h5 h.2⟩)
end
section
/-! the machine is determined: two ends of one run are one -/
theorem zLd_det {G : Prop} {t n : Nat} {lv : List zV} {k k' : zV → Prop} (h : zLd t n lv k) (h' : zLd t n lv k') (g : ∀ v, k v → k' v → G) : G := g _ h.2 h'.2
theorem zSt_det {G : Prop} {t n : Nat} {lv st : List zV} {k k' : List zV → List zV → Prop} (h : zSt t n lv st k) (h' : zSt t n lv st k') (g : ∀ a b, k a b → k' a b → G) : G := by
  cases st with
  | nil => exact h.elim
  | cons v r => exact g _ _ h.2.2.2 h'.2.2.2
theorem zSt2_det {G : Prop} {n : Nat} {lv st : List zV} {k k' : List zV → List zV → Prop} (h : zSt2 n lv st k) (h' : zSt2 n lv st k') (g : ∀ a b, k a b → k' a b → G) : G := by
  cases st with
  | nil => exact h.elim
  | cons v r => exact g _ _ h.2.2.2 h'.2.2.2
theorem zU_det {G : Prop} {t : Nat} {st : List zV} {k k' : Int → List zV → Prop} (h : zU t st k) (h' : zU t st k') (g : ∀ a b, k a b → k' a b → G) : G := by
  cases st with
  | nil => exact h.elim
  | cons v r => exact g _ _ h.2 h'.2
theorem zD_det {G : Prop} {t1 t2 : Nat} {st : List zV} {k k' : Int → Int → List zV → Prop} (h : zD t1 t2 st k) (h' : zD t1 t2 st k') (g : ∀ a b c, k a b c → k' a b c → G) : G := by
  cases st with
  | nil => exact h.elim
  | cons v r =>
    cases r with
    | nil => exact h.elim
    | cons v2 r => exact g _ _ _ h.2.2 h'.2.2
theorem zY_det {G : Prop} {t1 : Nat} {st : List zV} {k k' : Int → Int → Int → List zV → Prop} (h : zY t1 st k) (h' : zY t1 st k') (g : ∀ a b c e, k a b c e → k' a b c e → G) : G := by
  cases st with
  | nil => exact h.elim
  | cons v r =>
    cases r with
    | nil => exact h.elim
    | cons v2 r =>
      cases r with
      | nil => exact h.elim
      | cons v3 r => exact g _ _ _ _ h.2.2.2 h'.2.2.2
theorem zif_det {G c p p' q q' : Prop} (h : zif c p q) (h' : zif c p' q') (g1 : p → p' → G) (g2 : q → q' → G) : G := by
  by_cases hc : c
  · exact g1 (h.1 hc) (h'.1 hc)
  · exact g2 (h.2 hc) (h'.2 hc)
theorem zSw_det {G : Prop} {k k' : Nat → Prop} (g : ∀ t, k t → k' t → G) {x : Int} {d : Nat} : ∀ {tb : List (Int × Nat)}, zSw tb x d k → zSw tb x d k' → G
  | [], h, h' => g _ h h'
  | (v, t) :: r, h, h' => by
    by_cases e : x = v
    · exact g t (h.1 e) (h'.1 e)
    · exact zSw_det g (h.2 e) (h'.2 e)
theorem zCall_det {G : Prop} {C : Nat → List zV → zM → (Int → zM → Prop) → Prop} (hC : ∀ z as μ P P', C z as μ P → C z as μ P' → ∃ r u, P r u ∧ P' r u) {ex : Nat} {tb : List (Int × Nat)} {st : List zV} {μ : zM} {k k' : List zV → zM → Prop} (h : zCall C ex tb st μ k) (h' : zCall C ex tb st μ k') (g : ∀ a b, k a b → k' a b → G) : G := by
  cases tb with
  | nil => exact h.elim
  | cons v r =>
    cases r with
    | nil =>
      obtain ⟨r, u, h1, h2⟩ := hC _ _ _ _ _ h.2.2 h'.2.2
      exact g _ _ h1 h2
    | cons v2 r => exact h.elim
theorem zVirt_det {G : Prop} {C : Nat → List zV → zM → (Int → zM → Prop) → Prop} (hC : ∀ z as μ P P', C z as μ P → C z as μ P' → ∃ r u, P r u ∧ P' r u) {ex : Nat} {tb : List (Int × Nat)} {st : List zV} {μ : zM} {k k' : List zV → zM → Prop} (h : zVirt C ex tb st μ k) (h' : zVirt C ex tb st μ k') (g : ∀ a b, k a b → k' a b → G) : G := by
  cases tb with
  | nil => exact h.elim
  | cons v r =>
    cases r with
    | nil => exact h.elim
    | cons v2 r =>
      cases r with
      | nil => exact zCall_det hC h.2.2 h'.2.2 g
      | cons v3 r => exact h.elim
theorem zCopy_det {G : Prop} {st : List zV} {μ : zM} {k k' : List zV → zM → Prop} (h : zCopy st μ k) (h' : zCopy st μ k') (g : ∀ a b, k a b → k' a b → G) : G := by
  unfold zCopy at h h'
  split at h
  · obtain ⟨-, -, -, -, -, -, -, -, -, h10⟩ := h
    obtain ⟨-, -, -, -, -, -, -, -, -, h11⟩ := h'
    exact g _ _ h10 h11
  · exact h.elim
theorem zGet_det {G : Prop} {q a : Int} {ex : Nat} {μ : zM} {k k' : zV → Prop} (h : zGet q a ex μ k) (h' : zGet q a ex μ k') (g : ∀ v, k v → k' v → G) : G := by
  unfold zGet at h h'
  split at h
  · rename_i e; rw [if_pos e] at h'; exact g _ h h'
  · rename_i e; rw [if_neg e] at h'; exact g _ h.2 h'.2
theorem zPut_det {G : Prop} {q a : Int} {ex : Nat} {v : Int} {μ : zM} {k k' : zM → Prop} (h : zPut q a ex v μ k) (h' : zPut q a ex v μ k') (g : ∀ v, k v → k' v → G) : G := g _ h.2 h'.2
theorem zAld_det {G : Prop} {t : Nat} {a j : Int} {μ : zM} {k k' : Int → Prop} (h : zAld t a j μ k) (h' : zAld t a j μ k') (g : ∀ v, k v → k' v → G) : G := by
  unfold zAld at h h'
  split at h
  · rename_i e; rw [if_pos e] at h'; exact g _ h.2.2 h'.2.2
  · rename_i e; rw [if_neg e] at h'; exact g _ h.2.2.2.2 h'.2.2.2.2
theorem zAst_det {G : Prop} {t : Nat} {a j v : Int} {μ : zM} {k k' : zM → Prop} (h : zAst t a j v μ k) (h' : zAst t a j v μ k') (g : ∀ v, k v → k' v → G) : G := g _ h.2.2.2 h'.2.2.2
set_option maxHeartbeats 4000000 in
theorem zO_det {G : Prop} {C : Nat → List zV → zM → (Int → zM → Prop) → Prop} {Q Q' : Int → zM → Prop} {S S' : Nat → List zV → List zV → zM → Prop} {K K' : List zV → List zV → zM → Prop} (hC : ∀ z as μ P P', C z as μ P → C z as μ P' → ∃ r u, P r u ∧ P' r u) (hQ : ∀ r μ, Q r μ → Q' r μ → G) (hS : ∀ L lv st μ, S L lv st μ → S' L lv st μ → G) (hK : ∀ lv st μ, K lv st μ → K' lv st μ → G) (op : Instr) (ex : Nat) (tb : List (Int × Nat)) (lv st : List zV) (μ : zM) (h : zO C Q S op ex tb lv st μ K) (h' : zO C Q' S' op ex tb lv st μ K') : G := by
  cases op
  case nop => dsimp only [zO] at h h'; exact hS _ _ _ _ h h'
  case goto => dsimp only [zO] at h h'; exact hS _ _ _ _ h h'
  case iload_n => dsimp only [zO] at h h'; exact zLd_det h h' (fun _ => hK _ _ _)
  case iload => dsimp only [zO] at h h'; exact zLd_det h h' (fun _ => hK _ _ _)
  case lload_n => dsimp only [zO] at h h'; exact zLd_det h h' (fun _ => hK _ _ _)
  case lload => dsimp only [zO] at h h'; exact zLd_det h h' (fun _ => hK _ _ _)
  case aload_n => dsimp only [zO] at h h'; exact zLd_det h h' (fun _ => hK _ _ _)
  case aload => dsimp only [zO] at h h'; exact zLd_det h h' (fun _ => hK _ _ _)
  case istore_n => dsimp only [zO] at h h'; exact zSt_det h h' (fun _ _ => hK _ _ _)
  case istore => dsimp only [zO] at h h'; exact zSt_det h h' (fun _ _ => hK _ _ _)
  case astore_n => dsimp only [zO] at h h'; exact zSt_det h h' (fun _ _ => hK _ _ _)
  case astore => dsimp only [zO] at h h'; exact zSt_det h h' (fun _ _ => hK _ _ _)
  case lstore => dsimp only [zO] at h h'; exact zSt2_det h h' (fun _ _ => hK _ _ _)
  case iinc => dsimp only [zO] at h h'; exact zLd_det h h' (fun _ a b => hK _ _ _ a.2.2 b.2.2)
  case iconst => dsimp only [zO] at h h'; exact hK _ _ _ h h'
  case bipush => dsimp only [zO] at h h'; exact hK _ _ _ h h'
  case sipush => dsimp only [zO] at h h'; exact hK _ _ _ h h'
  case lconst => dsimp only [zO] at h h'; exact hK _ _ _ h h'
  case ldc =>
    cases tb with
    | nil => exact h.elim
    | cons v r =>
      cases r with
      | nil => exact hK _ _ _ h h'
      | cons v2 r => exact h.elim
  case ldc2_w =>
    cases tb with
    | nil => exact h.elim
    | cons v r =>
      cases r with
      | nil => exact hK _ _ _ h h'
      | cons v2 r => exact h.elim
  case iadd => dsimp only [zO] at h h'; exact zD_det h h' (fun _ _ _ => hK _ _ _)
  case isub => dsimp only [zO] at h h'; exact zD_det h h' (fun _ _ _ => hK _ _ _)
  case imul => dsimp only [zO] at h h'; exact zD_det h h' (fun _ _ _ => hK _ _ _)
  case iand => dsimp only [zO] at h h'; exact zD_det h h' (fun _ _ _ => hK _ _ _)
  case ior => dsimp only [zO] at h h'; exact zD_det h h' (fun _ _ _ => hK _ _ _)
  case ixor => dsimp only [zO] at h h'; exact zD_det h h' (fun _ _ _ => hK _ _ _)
  case ishl => dsimp only [zO] at h h'; exact zD_det h h' (fun _ _ _ => hK _ _ _)
  case ishr => dsimp only [zO] at h h'; exact zD_det h h' (fun _ _ _ => hK _ _ _)
  case iushr => dsimp only [zO] at h h'; exact zD_det h h' (fun _ _ _ => hK _ _ _)
  case ladd => dsimp only [zO] at h h'; exact zD_det h h' (fun _ _ _ => hK _ _ _)
  case lmul => dsimp only [zO] at h h'; exact zD_det h h' (fun _ _ _ => hK _ _ _)
  case land => dsimp only [zO] at h h'; exact zD_det h h' (fun _ _ _ => hK _ _ _)
  case lor => dsimp only [zO] at h h'; exact zD_det h h' (fun _ _ _ => hK _ _ _)
  case lshl => dsimp only [zO] at h h'; exact zD_det h h' (fun _ _ _ => hK _ _ _)
  case lcmp => dsimp only [zO] at h h'; exact zD_det h h' (fun _ _ _ => hK _ _ _)
  case idiv => dsimp only [zO] at h h'; exact zD_det h h' (fun _ _ _ a b => hK _ _ _ a.2 b.2)
  case irem => dsimp only [zO] at h h'; exact zD_det h h' (fun _ _ _ a b => hK _ _ _ a.2 b.2)
  case ineg => dsimp only [zO] at h h'; exact zU_det h h' (fun _ _ => hK _ _ _)
  case i2l => dsimp only [zO] at h h'; exact zU_det h h' (fun _ _ => hK _ _ _)
  case l2i => dsimp only [zO] at h h'; exact zU_det h h' (fun _ _ => hK _ _ _)
  case i2b => dsimp only [zO] at h h'; exact zU_det h h' (fun _ _ => hK _ _ _)
  case dup =>
    cases st with
    | nil => exact h.elim
    | cons v r => exact hK _ _ _ h.2 h'.2
  case dup2 =>
    cases st with
    | nil => exact h.elim
    | cons v r =>
      cases r with
      | nil => exact h.elim
      | cons v2 r => exact hK _ _ _ h.2.2 h'.2.2
  case ifCond cd _ => cases cd <;> dsimp only [zO] at h h' <;> exact zU_det h h' (fun _ _ a b => zif_det a b (fun p q => by first | exact hS _ _ _ _ p q | exact hK _ _ _ p q) (fun p q => by first | exact hS _ _ _ _ p q | exact hK _ _ _ p q))
  case if_icmp cd _ => cases cd <;> dsimp only [zO] at h h' <;> exact zD_det h h' (fun _ _ _ a b => zif_det a b (fun p q => by first | exact hS _ _ _ _ p q | exact hK _ _ _ p q) (fun p q => by first | exact hS _ _ _ _ p q | exact hK _ _ _ p q))
  case getfield => dsimp only [zO] at h h'; exact zU_det h h' (fun _ _ a b => zGet_det a b (fun _ => hK _ _ _))
  case putfield => dsimp only [zO] at h h'; exact zD_det h h' (fun _ _ _ a b => zPut_det a b (fun _ => hK _ _ _))
  case iaload => dsimp only [zO] at h h'; exact zD_det h h' (fun _ _ _ a b => zAld_det a b (fun _ => hK _ _ _))
  case baload => dsimp only [zO] at h h'; exact zD_det h h' (fun _ _ _ a b => zAld_det a b (fun _ => hK _ _ _))
  case laload => dsimp only [zO] at h h'; exact zD_det h h' (fun _ _ _ a b => zAld_det a b (fun _ => hK _ _ _))
  case iastore => dsimp only [zO] at h h'; exact zY_det h h' (fun _ _ _ _ a b => zAst_det a b (fun _ => hK _ _ _))
  case bastore => dsimp only [zO] at h h'; exact zY_det h h' (fun _ _ _ _ a b => zAst_det a b (fun _ => hK _ _ _))
  case lastore => dsimp only [zO] at h h'; exact zY_det h h' (fun _ _ _ _ a b => zAst_det a b (fun _ => hK _ _ _))
  case arraylength =>
    dsimp only [zO] at h h'
    refine zU_det h h' (fun a r p q => ?_)
    by_cases e : zT a < 3
    · rw [if_pos e] at p q; exact hK _ _ _ p q
    · rw [if_neg e] at p q; exact hK _ _ _ p.2 q.2
  case invokevirtual => dsimp only [zO] at h h'; exact zVirt_det hC h h' (fun _ _ => hK _ _ _)
  case invokestatic => dsimp only [zO] at h h'; exact zif_det h h' (fun a b => zCopy_det a b (fun _ _ => hK _ _ _)) (fun a b => zif_det a b (fun a b => zU_det a b (fun _ _ p q => hK _ _ _ p.2 q.2)) (fun a b => zif_det a b (fun a b => zD_det a b (fun _ _ _ p q => hK _ _ _ p.2 q.2)) (fun a b => zif_det a b (fun a b => zD_det a b (fun _ _ _ p q => hK _ _ _ p.2 q.2)) (fun a b => zCall_det hC a b (fun _ _ => hK _ _ _)))))
  case ireturn => dsimp only [zO] at h h'; exact zU_det h h' (fun _ _ a b => hQ _ _ a.2.2 b.2.2)
  case lreturn => dsimp only [zO] at h h'; exact zU_det h h' (fun _ _ a b => hQ _ _ a.2 b.2)
  case areturn => dsimp only [zO] at h h'; exact zU_det h h' (fun _ _ a b => hQ _ _ a.2 b.2)
  case return_ => dsimp only [zO] at h h'; exact hQ _ _ h.2 h'.2
  case tableswitch => dsimp only [zO] at h h'; exact zU_det h h' (fun _ _ a b => zSw_det (fun _ => hS _ _ _ _) a b)
  case lookupswitch => dsimp only [zO] at h h'; exact zU_det h h' (fun _ _ a b => zSw_det (fun _ => hS _ _ _ _) a b)
  all_goals exact False.elim h
theorem zB_det {G : Prop} {C : Nat → List zV → zM → (Int → zM → Prop) → Prop} {Q Q' : Int → zM → Prop} {S S' : Nat → List zV → List zV → zM → Prop} (hC : ∀ z as μ P P', C z as μ P → C z as μ P' → ∃ r u, P r u ∧ P' r u) (hQ : ∀ r μ, Q r μ → Q' r μ → G) (hS : ∀ L lv st μ, S L lv st μ → S' L lv st μ → G) : ∀ (is : List zI) (lv st : List zV) (μ : zM), zB C Q S is lv st μ → zB C Q' S' is lv st μ → G
  | [], _, _, _, h, _ => h.elim
  | i :: is, lv, st, μ, h, h' => zO_det hC hQ hS (fun lv st μ => zB_det hC hQ hS is lv st μ) i.1 i.2.1 i.2.2 lv st μ h h'
theorem zR_det0 (d : Nat) (hC : ∀ z as μ P P', zC d z as μ P → zC d z as μ P' → ∃ r u, P r u ∧ P' r u) (z : Nat) (Q Q' : Int → zM → Prop) (L : Nat) (lv st : List zV) (μ : zM) (h : zR d z Q L lv st μ) (h' : zR d z Q' L lv st μ) : ∃ r u, Q r u ∧ Q' r u := by
  rw [zR_eq] at h
  refine h (fun L lv st μ => zR d z Q' L lv st μ → ∃ r u, Q r u ∧ Q' r u) (fun L lv st μ hB h2 => ?_) h'
  exact zB_det hC (fun r u a b => ⟨r, u, a, b⟩) (fun _ _ _ _ a b => a b) _ _ _ _ hB (zR_iff.mp h2)
theorem zC_det : ∀ (d z : Nat) (as : List zV) (μ : zM) (P P' : Int → zM → Prop), zC d z as μ P → zC d z as μ P' → ∃ r u, P r u ∧ P' r u
  | 0, _, _, _, _, _, h, _ => h.elim
  | d + 1, z, as, μ, P, P', h, h' => zR_det0 d (zC_det d) z P P' 0 _ _ μ h.2 h'.2
/-- what is answered, and only that -/
theorem zC_is {d z : Nat} {as : List zV} {μ : zM} {v : Int} {u : zM} (h : zC d z as μ (fun r w => r = v ∧ w = u)) {P : Int → zM → Prop} : zC d z as μ P ↔ P v u := by
  refine ⟨fun k => ?_, fun k => zC_mono d z as μ _ P (fun r w e => by rw [e.1, e.2]; exact k) h⟩
  obtain ⟨r, w, ⟨e1, e2⟩, k2⟩ := zC_det d z as μ _ _ h k
  rw [e1, e2] at k2
  exact k2
end
section
/-! small methods: what they answer -/
theorem zcmp_lt {a b : Int} : zcmp a b < 0 ↔ a < b := by unfold zcmp; split <;> (try split) <;> omega
theorem zcmp_gt {a b : Int} : 0 < zcmp a b ↔ b < a := by unfold zcmp; split <;> (try split) <;> omega
theorem zcmp_eq {a b : Int} : zcmp a b = 0 ↔ a = b := by unfold zcmp; split <;> (try split) <;> omega
def z01 (c : Prop) (h : Decidable c) : Int := @ite _ c h 1 0
theorem zuse {d z : Nat} {as : List zV} {μ : zM} {P P' : Int → zM → Prop} (h : zC d z as μ P) (k : ∀ r u, P r u → P' r u) : zC d z as μ P' := zC_mono d z as μ P P' k h
theorem zif_e {c p q : Prop} [h : Decidable c] : ((c → p) ∧ (¬ c → q)) ↔ (if c then p else q) := by
  by_cases hc : c <;> simp [hc]
theorem ite10_0 {c : Prop} {h : Decidable c} : ((@ite Int c h 1 0) = 0) ↔ ¬ c := by by_cases hc : c <;> simp [hc]
theorem ite10_1 {c : Prop} {h : Decidable c} : ((@ite Int c h 1 0) = 1) ↔ c := by by_cases hc : c <;> simp [hc]
theorem ite10_b {c : Prop} {h : Decidable c} : ((@ite Int c h 1 0) = 0 ∨ (@ite Int c h 1 0) = 1) ↔ True := by by_cases hc : c <;> simp [hc]
theorem zem {c : Prop} : (¬ c ∨ c) ↔ True := ⟨fun _ => trivial, fun _ => (Classical.em c).symm⟩
theorem zem2 {c : Prop} : (c ∨ ¬ c) ↔ True := ⟨fun _ => trivial, fun _ => Classical.em c⟩
theorem L_in {d : Nat} {v a b : Int} {μ : zM} {P : Int → zM → Prop} : zC (d + 1) 108 [(1, v), (1, a), (1, b)] μ P ↔ P (if a ≤ v ∧ v ≤ b then 1 else 0) μ := by
  simp only [e108, k108_0, u108_17, k108_17, u108_18, k108_18, zO_nop, zO_goto, zO_iload_n0, zO_iload_n1, zO_iload_n2, zO_iload_n3, zO_iload, zO_lload_n0, zO_lload_n1, zO_lload_n2, zO_lload_n3, zO_lload, zO_aload_n0, zO_aload_n1, zO_aload_n2, zO_aload_n3, zO_aload, zO_istore_n0, zO_istore_n1, zO_istore_n2, zO_istore_n3, zO_istore, zO_astore_n0, zO_astore_n1, zO_astore_n2, zO_astore_n3, zO_astore, zO_lstore, zO_iinc, zO_iconst, zO_bipush, zO_sipush, zO_lconst0, zO_lconst1, zO_ldc, zO_ldc2_w, zO_iadd, zO_isub, zO_imul, zO_idiv, zO_irem, zO_ineg, zO_iand, zO_ior, zO_ixor, zO_ishl, zO_ishr, zO_iushr, zO_ladd, zO_lmul, zO_land, zO_lor, zO_lshl, zO_lcmp, zO_i2l, zO_l2i, zO_i2b, zO_dup0, zO_dup2, zO_dup200, zO_dup202, zO_dup220, zO_dup222, zO_ifCond_eq, zO_ifCond_ne, zO_ifCond_lt, zO_ifCond_ge, zO_ifCond_gt, zO_ifCond_le, zO_if_icmp_eq, zO_if_icmp_ne, zO_if_icmp_lt, zO_if_icmp_ge, zO_if_icmp_gt, zO_if_icmp_le, zO_getfield, zO_putfield, zO_iaload, zO_baload, zO_laload, zO_iastore, zO_bastore, zO_lastore, zO_arraylength, zO_invokevirtual, zO_lreturn, zO_areturn, zO_return_, zO_tableswitch, zO_lookupswitch, zO_is0, zO_is1, zO_is2, zO_is3, zO_is4, zO_is9, zO_is10, zO_is11, zO_is12, zO_ir1, zO_ir4, zB_c, zLd_0, zLd_s, zSt_c, zSt2_c, zU_c, zD_c, zY_c, zSw_n, zSw_c, zCall_c, zVirt_c, zP_0, zP_1, zP_2, zP_3, zP_4, zGet_n, zGet_z, zPut_n, zPut_z, List.length_cons, List.length_nil, List.take_succ_cons, List.take_zero, List.drop_succ_cons, List.drop_zero, List.reverse_cons, List.reverse_nil, List.nil_append, List.cons_append, List.append_nil, List.set_cons_zero, List.set_cons_succ, List.getD_cons_zero, List.getD_cons_succ, true_and, and_true, ne_eq, not_false_eq_true, not_true_eq_false, zif, Nat.reduceAdd, Nat.reduceLeDiff, Nat.reduceLT, Nat.reduceSub, Nat.reduceEqDiff, Nat.zero_le, Nat.lt_add_one, Nat.reduceMod, false_implies, true_implies, implies_true, forall_const, Int.reduceLE, Int.reduceLT, Int.reduceEq, Int.reduceNeg, ite10_0, ite10_1, zem, zem2, Classical.not_not, and_self, zcmp_lt, zcmp_gt]
  by_cases h1 : v < a <;> by_cases h2 : b < v <;> simp [h1, h2] <;> (try (rw [if_neg (by omega)])) <;> (try (rw [if_pos (by omega)]))
theorem L_bit {d : Nat} {v : Int} {μ : zM} {P : Int → zM → Prop} : zC (d + 1) 109 [(0, v)] μ P ↔ P (if v = 0 then 0 else 1) μ := by
  simp only [e109, k109_0, u109_8, k109_8, u109_9, k109_9, zO_nop, zO_goto, zO_iload_n0, zO_iload_n1, zO_iload_n2, zO_iload_n3, zO_iload, zO_lload_n0, zO_lload_n1, zO_lload_n2, zO_lload_n3, zO_lload, zO_aload_n0, zO_aload_n1, zO_aload_n2, zO_aload_n3, zO_aload, zO_istore_n0, zO_istore_n1, zO_istore_n2, zO_istore_n3, zO_istore, zO_astore_n0, zO_astore_n1, zO_astore_n2, zO_astore_n3, zO_astore, zO_lstore, zO_iinc, zO_iconst, zO_bipush, zO_sipush, zO_lconst0, zO_lconst1, zO_ldc, zO_ldc2_w, zO_iadd, zO_isub, zO_imul, zO_idiv, zO_irem, zO_ineg, zO_iand, zO_ior, zO_ixor, zO_ishl, zO_ishr, zO_iushr, zO_ladd, zO_lmul, zO_land, zO_lor, zO_lshl, zO_lcmp, zO_i2l, zO_l2i, zO_i2b, zO_dup0, zO_dup2, zO_dup200, zO_dup202, zO_dup220, zO_dup222, zO_ifCond_eq, zO_ifCond_ne, zO_ifCond_lt, zO_ifCond_ge, zO_ifCond_gt, zO_ifCond_le, zO_if_icmp_eq, zO_if_icmp_ne, zO_if_icmp_lt, zO_if_icmp_ge, zO_if_icmp_gt, zO_if_icmp_le, zO_getfield, zO_putfield, zO_iaload, zO_baload, zO_laload, zO_iastore, zO_bastore, zO_lastore, zO_arraylength, zO_invokevirtual, zO_lreturn, zO_areturn, zO_return_, zO_tableswitch, zO_lookupswitch, zO_is0, zO_is1, zO_is2, zO_is3, zO_is4, zO_is9, zO_is10, zO_is11, zO_is12, zO_ir1, zO_ir4, zB_c, zLd_0, zLd_s, zSt_c, zSt2_c, zU_c, zD_c, zY_c, zSw_n, zSw_c, zCall_c, zVirt_c, zP_0, zP_1, zP_2, zP_3, zP_4, zGet_n, zGet_z, zPut_n, zPut_z, List.length_cons, List.length_nil, List.take_succ_cons, List.take_zero, List.drop_succ_cons, List.drop_zero, List.reverse_cons, List.reverse_nil, List.nil_append, List.cons_append, List.append_nil, List.set_cons_zero, List.set_cons_succ, List.getD_cons_zero, List.getD_cons_succ, true_and, and_true, ne_eq, not_false_eq_true, not_true_eq_false, zif, Nat.reduceAdd, Nat.reduceLeDiff, Nat.reduceLT, Nat.reduceSub, Nat.reduceEqDiff, Nat.zero_le, Nat.lt_add_one, Nat.reduceMod, false_implies, true_implies, implies_true, forall_const, Int.reduceLE, Int.reduceLT, Int.reduceEq, Int.reduceNeg, ite10_0, ite10_1, zem, zem2, Classical.not_not, and_self]
  by_cases h1 : v = 0 <;> simp [h1]
theorem L_at {d : Nat} {i j k : Int} {μ : zM} {P : Int → zM → Prop} : zC (d + 1) 111 [(0, i), (0, j), (0, k)] μ P ↔ P (zw (zw (zw (3 + zw (25 * i)) + zw (5 * j)) + k)) μ := by
  simp only [e111, k111_0, zO_nop, zO_goto, zO_iload_n0, zO_iload_n1, zO_iload_n2, zO_iload_n3, zO_iload, zO_lload_n0, zO_lload_n1, zO_lload_n2, zO_lload_n3, zO_lload, zO_aload_n0, zO_aload_n1, zO_aload_n2, zO_aload_n3, zO_aload, zO_istore_n0, zO_istore_n1, zO_istore_n2, zO_istore_n3, zO_istore, zO_astore_n0, zO_astore_n1, zO_astore_n2, zO_astore_n3, zO_astore, zO_lstore, zO_iinc, zO_iconst, zO_bipush, zO_sipush, zO_lconst0, zO_lconst1, zO_ldc, zO_ldc2_w, zO_iadd, zO_isub, zO_imul, zO_idiv, zO_irem, zO_ineg, zO_iand, zO_ior, zO_ixor, zO_ishl, zO_ishr, zO_iushr, zO_ladd, zO_lmul, zO_land, zO_lor, zO_lshl, zO_lcmp, zO_i2l, zO_l2i, zO_i2b, zO_dup0, zO_dup2, zO_dup200, zO_dup202, zO_dup220, zO_dup222, zO_ifCond_eq, zO_ifCond_ne, zO_ifCond_lt, zO_ifCond_ge, zO_ifCond_gt, zO_ifCond_le, zO_if_icmp_eq, zO_if_icmp_ne, zO_if_icmp_lt, zO_if_icmp_ge, zO_if_icmp_gt, zO_if_icmp_le, zO_getfield, zO_putfield, zO_iaload, zO_baload, zO_laload, zO_iastore, zO_bastore, zO_lastore, zO_arraylength, zO_invokevirtual, zO_lreturn, zO_areturn, zO_return_, zO_tableswitch, zO_lookupswitch, zO_is0, zO_is1, zO_is2, zO_is3, zO_is4, zO_is9, zO_is10, zO_is11, zO_is12, zO_ir1, zO_ir4, zB_c, zLd_0, zLd_s, zSt_c, zSt2_c, zU_c, zD_c, zY_c, zSw_n, zSw_c, zCall_c, zVirt_c, zP_0, zP_1, zP_2, zP_3, zP_4, zGet_n, zGet_z, zPut_n, zPut_z, List.length_cons, List.length_nil, List.take_succ_cons, List.take_zero, List.drop_succ_cons, List.drop_zero, List.reverse_cons, List.reverse_nil, List.nil_append, List.cons_append, List.append_nil, List.set_cons_zero, List.set_cons_succ, List.getD_cons_zero, List.getD_cons_succ, true_and, and_true, ne_eq, not_false_eq_true, not_true_eq_false, zif, Nat.reduceAdd, Nat.reduceLeDiff, Nat.reduceLT, Nat.reduceSub, Nat.reduceEqDiff, Nat.zero_le, Nat.lt_add_one, Nat.reduceMod, false_implies, true_implies, implies_true, forall_const, Int.reduceLE, Int.reduceLT, Int.reduceEq, Int.reduceNeg, ite10_0, ite10_1, zem, zem2, Classical.not_not, and_self]
theorem L_isSort {d : Nat} {k : Int} {μ : zM} {P : Int → zM → Prop} : zC (d + 2) 110 [(2, 39), (0, k)] μ P ↔ P (if 0 ≤ k ∧ k ≤ zw (μ 40 1 - 1) then 1 else 0) μ := by
  simp only [e110, k110_0, zO_nop, zO_goto, zO_iload_n0, zO_iload_n1, zO_iload_n2, zO_iload_n3, zO_iload, zO_lload_n0, zO_lload_n1, zO_lload_n2, zO_lload_n3, zO_lload, zO_aload_n0, zO_aload_n1, zO_aload_n2, zO_aload_n3, zO_aload, zO_istore_n0, zO_istore_n1, zO_istore_n2, zO_istore_n3, zO_istore, zO_astore_n0, zO_astore_n1, zO_astore_n2, zO_astore_n3, zO_astore, zO_lstore, zO_iinc, zO_iconst, zO_bipush, zO_sipush, zO_lconst0, zO_lconst1, zO_ldc, zO_ldc2_w, zO_iadd, zO_isub, zO_imul, zO_idiv, zO_irem, zO_ineg, zO_iand, zO_ior, zO_ixor, zO_ishl, zO_ishr, zO_iushr, zO_ladd, zO_lmul, zO_land, zO_lor, zO_lshl, zO_lcmp, zO_i2l, zO_l2i, zO_i2b, zO_dup0, zO_dup2, zO_dup200, zO_dup202, zO_dup220, zO_dup222, zO_ifCond_eq, zO_ifCond_ne, zO_ifCond_lt, zO_ifCond_ge, zO_ifCond_gt, zO_ifCond_le, zO_if_icmp_eq, zO_if_icmp_ne, zO_if_icmp_lt, zO_if_icmp_ge, zO_if_icmp_gt, zO_if_icmp_le, zO_getfield, zO_putfield, zO_iaload, zO_baload, zO_laload, zO_iastore, zO_bastore, zO_lastore, zO_arraylength, zO_invokevirtual, zO_lreturn, zO_areturn, zO_return_, zO_tableswitch, zO_lookupswitch, zO_is0, zO_is1, zO_is2, zO_is3, zO_is4, zO_is9, zO_is10, zO_is11, zO_is12, zO_ir1, zO_ir4, zB_c, zLd_0, zLd_s, zSt_c, zSt2_c, zU_c, zD_c, zY_c, zSw_n, zSw_c, zCall_c, zVirt_c, zP_0, zP_1, zP_2, zP_3, zP_4, zGet_n, zGet_z, zPut_n, zPut_z, List.length_cons, List.length_nil, List.take_succ_cons, List.take_zero, List.drop_succ_cons, List.drop_zero, List.reverse_cons, List.reverse_nil, List.nil_append, List.cons_append, List.append_nil, List.set_cons_zero, List.set_cons_succ, List.getD_cons_zero, List.getD_cons_succ, true_and, and_true, ne_eq, not_false_eq_true, not_true_eq_false, zif, Nat.reduceAdd, Nat.reduceLeDiff, Nat.reduceLT, Nat.reduceSub, Nat.reduceEqDiff, Nat.zero_le, Nat.lt_add_one, Nat.reduceMod, false_implies, true_implies, implies_true, forall_const, Int.reduceLE, Int.reduceLT, Int.reduceEq, Int.reduceNeg, ite10_0, ite10_1, zem, zem2, Classical.not_not, and_self, zT_39, zN_39, zGf_192_39, zGf_193_39, zGf_194_39, zPf_194_39, zGf_195_39, zGf_196_39, zGf_197_39, zGf_198_39, zPf_198_39, zGf_199_39, zPf_199_39, zGf_200_39, zPf_200_39, zGf_201_39, zGf_202_39, zPf_202_39, zGf_203_39, zGf_204_39, zPf_204_39, zGf_205_39, zGf_206_39, zGf_207_39, zGf_208_39, zGf_209_39, zGf_210_39, zGf_211_39, zGf_212_39, zGf_213_39, zGf_214_39, zPf_214_39, zGf_215_39, zGf_216_39, zAl_40, zAs_40, L_in]
end
section
/-! OFTEN, as the document has it: both sides reckon it -/
def oL (n i j k : Int) : Int := if (if i < j then j - i else i - j) ≤ k ∧ k ≤ (if i + j < 2 * n - 2 - i - j then i + j else 2 * n - 2 - i - j) ∧ (k - (if i < j then j - i else i - j)).tmod 2 = 0 then 1 else 0
def oH (K n f i j k : Int) : Int := if i = n - 1 ∧ j = n - 1 then (if k = n - 1 then (if K = 4 then f else 0) else 1) else if i = n - 1 ∨ j = n - 1 then (if k = n - 1 then 1 else 0) else (if k = (i + j).tmod (n - 1) then 1 else 0)
def oF (K n f : Int) (T : Int → Int) (i j k : Int) : Int := if i = 0 ∨ j = 0 then (if k = i + j then 1 else 0) else if K = 1 then (if k = (i + j).tmod n then 1 else 0) else if K = 2 then oL n i j k else if K = 3 ∨ K = 4 then oH K n f i j k else T (25 * i + 5 * j + k)
theorem zw_e {z : Int} (h1 : -2147483648 ≤ z) (h2 : z < 2147483648) : zw z = z := zw_id ⟨h1, h2⟩
theorem zx_e {z : Int} (h1 : -9223372036854775808 ≤ z) (h2 : z < 9223372036854775808) : zx z = z := zx_id ⟨h1, h2⟩
theorem L_ladder {d : Nat} {i j k : Int} {μ : zM} (hn : 1 ≤ μ 40 1 ∧ μ 40 1 ≤ 5) (hi : 0 ≤ i ∧ i < μ 40 1) (hj : 0 ≤ j ∧ j < μ 40 1) (hk : 0 ≤ k ∧ k < μ 40 1) : zC (d + 2) 115 [(2, 39), (0, i), (0, j), (0, k)] μ (fun r w => r = oL (μ 40 1) i j k ∧ w = μ) := by
  simp only [e115, k115_0, u115_19, k115_19, u115_22, k115_22, u115_46, k115_46, u115_56, k115_56, u115_85, k115_85, u115_86, k115_86, zO_nop, zO_goto, zO_iload_n0, zO_iload_n1, zO_iload_n2, zO_iload_n3, zO_iload, zO_lload_n0, zO_lload_n1, zO_lload_n2, zO_lload_n3, zO_lload, zO_aload_n0, zO_aload_n1, zO_aload_n2, zO_aload_n3, zO_aload, zO_istore_n0, zO_istore_n1, zO_istore_n2, zO_istore_n3, zO_istore, zO_astore_n0, zO_astore_n1, zO_astore_n2, zO_astore_n3, zO_astore, zO_lstore, zO_iinc, zO_iconst, zO_bipush, zO_sipush, zO_lconst0, zO_lconst1, zO_ldc, zO_ldc2_w, zO_iadd, zO_isub, zO_imul, zO_idiv, zO_irem, zO_ineg, zO_iand, zO_ior, zO_ixor, zO_ishl, zO_ishr, zO_iushr, zO_ladd, zO_lmul, zO_land, zO_lor, zO_lshl, zO_lcmp, zO_i2l, zO_l2i, zO_i2b, zO_dup0, zO_dup2, zO_dup200, zO_dup202, zO_dup220, zO_dup222, zO_ifCond_eq, zO_ifCond_ne, zO_ifCond_lt, zO_ifCond_ge, zO_ifCond_gt, zO_ifCond_le, zO_if_icmp_eq, zO_if_icmp_ne, zO_if_icmp_lt, zO_if_icmp_ge, zO_if_icmp_gt, zO_if_icmp_le, zO_getfield, zO_putfield, zO_iaload, zO_baload, zO_laload, zO_iastore, zO_bastore, zO_lastore, zO_arraylength, zO_invokevirtual, zO_lreturn, zO_areturn, zO_return_, zO_tableswitch, zO_lookupswitch, zO_is0, zO_is1, zO_is2, zO_is3, zO_is4, zO_is9, zO_is10, zO_is11, zO_is12, zO_ir1, zO_ir4, zB_c, zLd_0, zLd_s, zSt_c, zSt2_c, zU_c, zD_c, zY_c, zSw_n, zSw_c, zCall_c, zVirt_c, zP_0, zP_1, zP_2, zP_3, zP_4, zGet_n, zGet_z, zPut_n, zPut_z, List.length_cons, List.length_nil, List.take_succ_cons, List.take_zero, List.drop_succ_cons, List.drop_zero, List.reverse_cons, List.reverse_nil, List.nil_append, List.cons_append, List.append_nil, List.set_cons_zero, List.set_cons_succ, List.getD_cons_zero, List.getD_cons_succ, true_and, and_true, ne_eq, not_false_eq_true, not_true_eq_false, zif, Nat.reduceAdd, Nat.reduceLeDiff, Nat.reduceLT, Nat.reduceSub, Nat.reduceEqDiff, Nat.zero_le, Nat.lt_add_one, Nat.reduceMod, false_implies, true_implies, implies_true, forall_const, Int.reduceLE, Int.reduceLT, Int.reduceEq, Int.reduceNeg, ite10_0, ite10_1, zem, zem2, Classical.not_not, and_self, zT_39, zN_39, zGf_192_39, zGf_193_39, zGf_194_39, zPf_194_39, zGf_195_39, zGf_196_39, zGf_197_39, zGf_198_39, zPf_198_39, zGf_199_39, zPf_199_39, zGf_200_39, zPf_200_39, zGf_201_39, zGf_202_39, zPf_202_39, zGf_203_39, zGf_204_39, zPf_204_39, zGf_205_39, zGf_206_39, zGf_207_39, zGf_208_39, zGf_209_39, zGf_210_39, zGf_211_39, zGf_212_39, zGf_213_39, zGf_214_39, zPf_214_39, zGf_215_39, zGf_216_39, zAl_40, zAs_40, L_in, L_bit]
  simp (disch := omega) only [zw_e, if_true, if_false, and_true]
  unfold oL
  by_cases h1 : i < j
  · by_cases h2 : i + j < 2 * μ 40 1 - 2 - i - j
    · simp only [h1, h2, if_true, true_implies, not_true_eq_false, false_implies, and_true]
      generalize (k - (j - i)).tmod 2 = t
      grind
    · simp only [h1, h2, if_true, if_false, true_implies, not_true_eq_false, not_false_eq_true, false_implies, and_true, true_and]
      generalize (k - (j - i)).tmod 2 = t
      grind
  · by_cases h2 : i + j < 2 * μ 40 1 - 2 - i - j
    · simp only [h1, h2, if_true, if_false, true_implies, not_true_eq_false, not_false_eq_true, false_implies, and_true, true_and]
      generalize (k - (i - j)).tmod 2 = t
      grind
    · simp only [h1, h2, if_false, true_implies, not_false_eq_true, false_implies, true_and]
      generalize (k - (i - j)).tmod 2 = t
      grind
theorem L_house {d : Nat} {i j k : Int} {μ : zM} (hn : 1 ≤ μ 40 1 ∧ μ 40 1 ≤ 5) (hi : 0 < i ∧ i < μ 40 1) (hj : 0 < j ∧ j < μ 40 1) (hk : 0 ≤ k ∧ k < μ 40 1) : zC (d + 2) 116 [(2, 39), (0, i), (0, j), (0, k)] μ (fun r w => r = oH (μ 40 0) (μ 40 1) (μ 40 2) i j k ∧ w = μ) := by
  simp only [e116, k116_0, u116_32, k116_32, u116_51, k116_51, u116_52, k116_52, u116_53, k116_53, u116_66, k116_66, u116_71, k116_71, u116_77, k116_77, u116_84, k116_84, u116_85, k116_85, zO_nop, zO_goto, zO_iload_n0, zO_iload_n1, zO_iload_n2, zO_iload_n3, zO_iload, zO_lload_n0, zO_lload_n1, zO_lload_n2, zO_lload_n3, zO_lload, zO_aload_n0, zO_aload_n1, zO_aload_n2, zO_aload_n3, zO_aload, zO_istore_n0, zO_istore_n1, zO_istore_n2, zO_istore_n3, zO_istore, zO_astore_n0, zO_astore_n1, zO_astore_n2, zO_astore_n3, zO_astore, zO_lstore, zO_iinc, zO_iconst, zO_bipush, zO_sipush, zO_lconst0, zO_lconst1, zO_ldc, zO_ldc2_w, zO_iadd, zO_isub, zO_imul, zO_idiv, zO_irem, zO_ineg, zO_iand, zO_ior, zO_ixor, zO_ishl, zO_ishr, zO_iushr, zO_ladd, zO_lmul, zO_land, zO_lor, zO_lshl, zO_lcmp, zO_i2l, zO_l2i, zO_i2b, zO_dup0, zO_dup2, zO_dup200, zO_dup202, zO_dup220, zO_dup222, zO_ifCond_eq, zO_ifCond_ne, zO_ifCond_lt, zO_ifCond_ge, zO_ifCond_gt, zO_ifCond_le, zO_if_icmp_eq, zO_if_icmp_ne, zO_if_icmp_lt, zO_if_icmp_ge, zO_if_icmp_gt, zO_if_icmp_le, zO_getfield, zO_putfield, zO_iaload, zO_baload, zO_laload, zO_iastore, zO_bastore, zO_lastore, zO_arraylength, zO_invokevirtual, zO_lreturn, zO_areturn, zO_return_, zO_tableswitch, zO_lookupswitch, zO_is0, zO_is1, zO_is2, zO_is3, zO_is4, zO_is9, zO_is10, zO_is11, zO_is12, zO_ir1, zO_ir4, zB_c, zLd_0, zLd_s, zSt_c, zSt2_c, zU_c, zD_c, zY_c, zSw_n, zSw_c, zCall_c, zVirt_c, zP_0, zP_1, zP_2, zP_3, zP_4, zGet_n, zGet_z, zPut_n, zPut_z, List.length_cons, List.length_nil, List.take_succ_cons, List.take_zero, List.drop_succ_cons, List.drop_zero, List.reverse_cons, List.reverse_nil, List.nil_append, List.cons_append, List.append_nil, List.set_cons_zero, List.set_cons_succ, List.getD_cons_zero, List.getD_cons_succ, true_and, and_true, ne_eq, not_false_eq_true, not_true_eq_false, zif, Nat.reduceAdd, Nat.reduceLeDiff, Nat.reduceLT, Nat.reduceSub, Nat.reduceEqDiff, Nat.zero_le, Nat.lt_add_one, Nat.reduceMod, false_implies, true_implies, implies_true, forall_const, Int.reduceLE, Int.reduceLT, Int.reduceEq, Int.reduceNeg, ite10_0, ite10_1, zem, zem2, Classical.not_not, and_self, zT_39, zN_39, zGf_192_39, zGf_193_39, zGf_194_39, zPf_194_39, zGf_195_39, zGf_196_39, zGf_197_39, zGf_198_39, zPf_198_39, zGf_199_39, zPf_199_39, zGf_200_39, zPf_200_39, zGf_201_39, zGf_202_39, zPf_202_39, zGf_203_39, zGf_204_39, zPf_204_39, zGf_205_39, zGf_206_39, zGf_207_39, zGf_208_39, zGf_209_39, zGf_210_39, zGf_211_39, zGf_212_39, zGf_213_39, zGf_214_39, zPf_214_39, zGf_215_39, zGf_216_39, zAl_40, zAs_40, L_in, L_bit]
  simp (disch := omega) only [zw_e, if_true, if_false, and_true]
  unfold oH
  grind
theorem L_n {d : Nat} {i j k : Int} {μ : zM} {P : Int → zM → Prop} (hn : 1 ≤ μ 40 1 ∧ μ 40 1 ≤ 5) (hi : 0 ≤ i ∧ i < μ 40 1) (hj : 0 ≤ j ∧ j < μ 40 1) (hk : 0 ≤ k ∧ k < μ 40 1) : zC (d + 3) 117 [(2, 39), (0, i), (0, j), (0, k)] μ P ↔ P (oF (μ 40 0) (μ 40 1) (μ 40 2) (fun x => μ 40 (3 + x)) i j k) μ := by
  refine zC_is ?_
  simp only [e117, k117_0, u117_8, k117_8, u117_19, k117_19, u117_20, k117_20, u117_24, k117_24, u117_60, k117_60, u117_78, k117_78, u117_79, k117_79, u117_83, k117_83, u117_91, k117_91, u117_99, k117_99, zO_nop, zO_goto, zO_iload_n0, zO_iload_n1, zO_iload_n2, zO_iload_n3, zO_iload, zO_lload_n0, zO_lload_n1, zO_lload_n2, zO_lload_n3, zO_lload, zO_aload_n0, zO_aload_n1, zO_aload_n2, zO_aload_n3, zO_aload, zO_istore_n0, zO_istore_n1, zO_istore_n2, zO_istore_n3, zO_istore, zO_astore_n0, zO_astore_n1, zO_astore_n2, zO_astore_n3, zO_astore, zO_lstore, zO_iinc, zO_iconst, zO_bipush, zO_sipush, zO_lconst0, zO_lconst1, zO_ldc, zO_ldc2_w, zO_iadd, zO_isub, zO_imul, zO_idiv, zO_irem, zO_ineg, zO_iand, zO_ior, zO_ixor, zO_ishl, zO_ishr, zO_iushr, zO_ladd, zO_lmul, zO_land, zO_lor, zO_lshl, zO_lcmp, zO_i2l, zO_l2i, zO_i2b, zO_dup0, zO_dup2, zO_dup200, zO_dup202, zO_dup220, zO_dup222, zO_ifCond_eq, zO_ifCond_ne, zO_ifCond_lt, zO_ifCond_ge, zO_ifCond_gt, zO_ifCond_le, zO_if_icmp_eq, zO_if_icmp_ne, zO_if_icmp_lt, zO_if_icmp_ge, zO_if_icmp_gt, zO_if_icmp_le, zO_getfield, zO_putfield, zO_iaload, zO_baload, zO_laload, zO_iastore, zO_bastore, zO_lastore, zO_arraylength, zO_invokevirtual, zO_lreturn, zO_areturn, zO_return_, zO_tableswitch, zO_lookupswitch, zO_is0, zO_is1, zO_is2, zO_is3, zO_is4, zO_is9, zO_is10, zO_is11, zO_is12, zO_ir1, zO_ir4, zB_c, zLd_0, zLd_s, zSt_c, zSt2_c, zU_c, zD_c, zY_c, zSw_n, zSw_c, zCall_c, zVirt_c, zP_0, zP_1, zP_2, zP_3, zP_4, zGet_n, zGet_z, zPut_n, zPut_z, List.length_cons, List.length_nil, List.take_succ_cons, List.take_zero, List.drop_succ_cons, List.drop_zero, List.reverse_cons, List.reverse_nil, List.nil_append, List.cons_append, List.append_nil, List.set_cons_zero, List.set_cons_succ, List.getD_cons_zero, List.getD_cons_succ, true_and, and_true, ne_eq, not_false_eq_true, not_true_eq_false, zif, Nat.reduceAdd, Nat.reduceLeDiff, Nat.reduceLT, Nat.reduceSub, Nat.reduceEqDiff, Nat.zero_le, Nat.lt_add_one, Nat.reduceMod, false_implies, true_implies, implies_true, forall_const, Int.reduceLE, Int.reduceLT, Int.reduceEq, Int.reduceNeg, ite10_0, ite10_1, zem, zem2, Classical.not_not, and_self, zT_39, zN_39, zGf_192_39, zGf_193_39, zGf_194_39, zPf_194_39, zGf_195_39, zGf_196_39, zGf_197_39, zGf_198_39, zPf_198_39, zGf_199_39, zPf_199_39, zGf_200_39, zPf_200_39, zGf_201_39, zGf_202_39, zPf_202_39, zGf_203_39, zGf_204_39, zPf_204_39, zGf_205_39, zGf_206_39, zGf_207_39, zGf_208_39, zGf_209_39, zGf_210_39, zGf_211_39, zGf_212_39, zGf_213_39, zGf_214_39, zPf_214_39, zGf_215_39, zGf_216_39, zAl_40, zAs_40, L_in, L_bit, L_at]
  simp (disch := omega) only [zw_e, if_true, if_false, and_true]
  by_cases h0 : 0 < i ∧ 0 < j
  · rw [zC_is (L_ladder (d := d) hn hi hj hk), zC_is (L_house (d := d) hn ⟨h0.1, hi.2⟩ ⟨h0.2, hj.2⟩ hk)]
    unfold oF
    grind
  · unfold oF
    grind
end
section
/-! loops, sums, what stays -/
theorem zloop {σ : Type} {n : Int} {Inv R : Int → σ → Prop} (step : ∀ i s, 0 ≤ i → i < n → Inv i s → (∀ s', Inv (i + 1) s' → R (i + 1) s') → R i s) (done : ∀ s, Inv n s → R n s) : ∀ i s, 0 ≤ i → i ≤ n → Inv i s → R i s := by
  have key : ∀ (m : Nat) (i : Int) (s : σ), 0 ≤ i → n - i = m → Inv i s → R i s := by
    intro m
    induction m with
    | zero =>
      intro i s h0 h1 h
      have e : i = n := by omega
      subst e
      exact done s h
    | succ m ih =>
      intro i s h0 h1 h
      exact step i s h0 (by omega) h (fun s' h' => ih (i + 1) s' (by omega) (by omega) h')
  intro i s h0 h1 h
  exact key (n - i).toNat i s h0 (by omega) h
def zsum (f : Int → Int) : Nat → Int
  | 0 => 0
  | m + 1 => zsum f m + f m
def zs (f : Int → Int) (m : Int) : Int := zsum f m.toNat
theorem zs_0 (f : Int → Int) : zs f 0 = 0 := rfl
theorem zs_s (f : Int → Int) {m : Int} (h : 0 ≤ m) : zs f (m + 1) = zs f m + f m := by
  unfold zs
  have e : (m + 1).toNat = m.toNat + 1 := by omega
  have e2 : ((m.toNat : Nat) : Int) = m := by omega
  rw [e]
  show zsum f m.toNat + f (m.toNat : Int) = _
  rw [e2]
theorem zs_bd {f : Int → Int} {b n : Int} (hf : ∀ i, 0 ≤ i → i < n → 0 ≤ f i ∧ f i ≤ b) : ∀ m, 0 ≤ m → m ≤ n → 0 ≤ zs f m ∧ zs f m ≤ b * m := by
  have key : ∀ (k : Nat), (k : Int) ≤ n → 0 ≤ zs f k ∧ zs f k ≤ b * k := by
    intro k
    induction k with
    | zero => intro _; rw [show ((0 : Nat) : Int) = 0 from rfl, zs_0]; simp
    | succ k ih =>
      intro h
      have h1 := ih (by omega)
      have h2 := hf k (by omega) (by omega)
      rw [show ((k + 1 : Nat) : Int) = (k : Int) + 1 from rfl, zs_s f (by omega), Int.mul_add]
      omega
  intro m h0 h1
  have := key m.toNat (by omega)
  rw [show ((m.toNat : Nat) : Int) = m by omega] at this
  exact this
theorem zs_congr {f g : Int → Int} {n : Int} (h : ∀ i, 0 ≤ i → i < n → f i = g i) : ∀ m, 0 ≤ m → m ≤ n → zs f m = zs g m := by
  have key : ∀ (k : Nat), (k : Int) ≤ n → zs f k = zs g k := by
    intro k
    induction k with
    | zero => intro _; rfl
    | succ k ih =>
      intro h2
      rw [show ((k + 1 : Nat) : Int) = (k : Int) + 1 from rfl, zs_s f (by omega), zs_s g (by omega), ih (by omega), h k (by omega) (by omega)]
  intro m h0 h1
  have := key m.toNat (by omega)
  rw [show ((m.toNat : Nat) : Int) = m by omega] at this
  exact this
theorem zmul_bd {a b x y : Int} (ha : 0 ≤ a ∧ a ≤ x) (hb : 0 ≤ b ∧ b ≤ y) : 0 ≤ a * b ∧ a * b ≤ x * y := ⟨Int.mul_nonneg ha.1 hb.1, Int.mul_le_mul ha.2 hb.2 hb.1 (by omega)⟩
/-- cells that aren't listed stay -/
def zsm (S : List Int) (μ u : zM) : Prop := ∀ a, a ∉ S → u a = μ a
theorem zsm_rf {S : List Int} {μ : zM} : zsm S μ μ := fun _ _ => rfl
theorem zsm_tr {S : List Int} {μ u w : zM} (h1 : zsm S μ u) (h2 : zsm S u w) : zsm S μ w := fun a ha => (h2 a ha).trans (h1 a ha)
theorem zsm_up {S T : List Int} {μ u : zM} (h : zsm S μ u) (hs : ∀ a ∈ S, a ∈ T) : zsm T μ u := fun a ha => h a (fun z => ha (hs a z))
theorem zsm_u {S : List Int} {μ u : zM} {a i v : Int} (h : zsm S μ u) (ha : a ∈ S) : zsm S μ (zu u a i v) := fun b hb => by
  rw [← h b hb]
  funext j
  exact zu_ne (fun z => hb (z.1 ▸ ha))
theorem zsm_c {S : List Int} {μ u : zM} {a b sp dp n : Int} (h : zsm S μ u) (hb : b ∈ S) : zsm S μ (zcp u a b sp dp n) := fun c hc => by
  rw [← h c hc]
  funext j
  unfold zcp
  rw [if_neg (fun z : c = b ∧ dp ≤ j ∧ j < dp + n => hc (z.1 ▸ hb))]
theorem zu_d (μ : zM) (a i v b j : Int) : zu μ a i v b j = if b = a ∧ j = i then v else μ b j := rfl
theorem zcp_d (μ : zM) (a b sp dp n c i : Int) : zcp μ a b sp dp n c i = if c = b ∧ dp ≤ i ∧ i < dp + n then μ a (sp + (i - dp)) else μ c i := rfl
theorem oL_bd (n i j k : Int) : 0 ≤ oL n i j k ∧ oL n i j k ≤ 1 := by unfold oL; split <;> omega
theorem oF_bd {K n f : Int} {T : Int → Int} {i j k : Int} (hf : 0 ≤ f ∧ f ≤ 9) (hT : 0 ≤ T (25 * i + 5 * j + k) ∧ T (25 * i + 5 * j + k) ≤ 9) : 0 ≤ oF K n f T i j k ∧ oF K n f T i j k ≤ 9 := by
  have := oL_bd n i j k
  unfold oF oH
  grind
end
section
/-! the class's rules -/
theorem K_place {d : Nat} {i j k : Int} {μ : zM} {P : Int → zM → Prop} (hi : 0 ≤ i ∧ i ≤ 4) (hj : 0 ≤ j ∧ j ≤ 4) (hk : 0 ≤ k ∧ k ≤ 4) : zC (d + 1) 104 [(0, i), (0, j), (0, k)] μ P ↔ P (25 * i + 5 * j + k) μ := by
  simp only [e104, k104_0, zO_nop, zO_goto, zO_iload_n0, zO_iload_n1, zO_iload_n2, zO_iload_n3, zO_iload, zO_lload_n0, zO_lload_n1, zO_lload_n2, zO_lload_n3, zO_lload, zO_aload_n0, zO_aload_n1, zO_aload_n2, zO_aload_n3, zO_aload, zO_istore_n0, zO_istore_n1, zO_istore_n2, zO_istore_n3, zO_istore, zO_astore_n0, zO_astore_n1, zO_astore_n2, zO_astore_n3, zO_astore, zO_lstore, zO_iinc, zO_iconst, zO_bipush, zO_sipush, zO_lconst0, zO_lconst1, zO_ldc, zO_ldc2_w, zO_iadd, zO_isub, zO_imul, zO_idiv, zO_irem, zO_ineg, zO_iand, zO_ior, zO_ixor, zO_ishl, zO_ishr, zO_iushr, zO_ladd, zO_lmul, zO_land, zO_lor, zO_lshl, zO_lcmp, zO_i2l, zO_l2i, zO_i2b, zO_dup0, zO_dup2, zO_dup200, zO_dup202, zO_dup220, zO_dup222, zO_ifCond_eq, zO_ifCond_ne, zO_ifCond_lt, zO_ifCond_ge, zO_ifCond_gt, zO_ifCond_le, zO_if_icmp_eq, zO_if_icmp_ne, zO_if_icmp_lt, zO_if_icmp_ge, zO_if_icmp_gt, zO_if_icmp_le, zO_getfield, zO_putfield, zO_iaload, zO_baload, zO_laload, zO_iastore, zO_bastore, zO_lastore, zO_arraylength, zO_invokevirtual, zO_lreturn, zO_areturn, zO_return_, zO_tableswitch, zO_lookupswitch, zO_is0, zO_is1, zO_is2, zO_is3, zO_is4, zO_is9, zO_is10, zO_is11, zO_is12, zO_ir1, zO_ir4, zB_c, zLd_0, zLd_s, zSt_c, zSt2_c, zU_c, zD_c, zY_c, zSw_n, zSw_c, zCall_c, zVirt_c, zP_0, zP_1, zP_2, zP_3, zP_4, zGet_n, zGet_z, zPut_n, zPut_z, List.length_cons, List.length_nil, List.take_succ_cons, List.take_zero, List.drop_succ_cons, List.drop_zero, List.reverse_cons, List.reverse_nil, List.nil_append, List.cons_append, List.append_nil, List.set_cons_zero, List.set_cons_succ, List.getD_cons_zero, List.getD_cons_succ, true_and, and_true, ne_eq, not_false_eq_true, not_true_eq_false, zif, Nat.reduceAdd, Nat.reduceLeDiff, Nat.reduceLT, Nat.reduceSub, Nat.reduceEqDiff, Nat.zero_le, Nat.lt_add_one, Nat.reduceMod, false_implies, true_implies, implies_true, forall_const, Int.reduceLE, Int.reduceLT, Int.reduceEq, Int.reduceNeg, ite10_0, ite10_1, zem, zem2, Classical.not_not, and_self]
  simp (disch := omega) only [zw_e]
  rw [show i * 25 + j * 5 + k = 25 * i + 5 * j + k by omega]
theorem K_at15 {d : Nat} {i j k : Int} {μ : zM} {P : Int → zM → Prop} (hi : 0 ≤ i ∧ i ≤ 4) (hj : 0 ≤ j ∧ j ≤ 4) (hk : 0 ≤ k ∧ k ≤ 4) : zC (d + 2) 10 [(2, 15), (0, i), (0, j), (0, k)] μ P ↔ P (μ 16 (25 * i + 5 * j + k)) μ := by
  simp only [e10, k10_0, zO_nop, zO_goto, zO_iload_n0, zO_iload_n1, zO_iload_n2, zO_iload_n3, zO_iload, zO_lload_n0, zO_lload_n1, zO_lload_n2, zO_lload_n3, zO_lload, zO_aload_n0, zO_aload_n1, zO_aload_n2, zO_aload_n3, zO_aload, zO_istore_n0, zO_istore_n1, zO_istore_n2, zO_istore_n3, zO_istore, zO_astore_n0, zO_astore_n1, zO_astore_n2, zO_astore_n3, zO_astore, zO_lstore, zO_iinc, zO_iconst, zO_bipush, zO_sipush, zO_lconst0, zO_lconst1, zO_ldc, zO_ldc2_w, zO_iadd, zO_isub, zO_imul, zO_idiv, zO_irem, zO_ineg, zO_iand, zO_ior, zO_ixor, zO_ishl, zO_ishr, zO_iushr, zO_ladd, zO_lmul, zO_land, zO_lor, zO_lshl, zO_lcmp, zO_i2l, zO_l2i, zO_i2b, zO_dup0, zO_dup2, zO_dup200, zO_dup202, zO_dup220, zO_dup222, zO_ifCond_eq, zO_ifCond_ne, zO_ifCond_lt, zO_ifCond_ge, zO_ifCond_gt, zO_ifCond_le, zO_if_icmp_eq, zO_if_icmp_ne, zO_if_icmp_lt, zO_if_icmp_ge, zO_if_icmp_gt, zO_if_icmp_le, zO_getfield, zO_putfield, zO_iaload, zO_baload, zO_laload, zO_iastore, zO_bastore, zO_lastore, zO_arraylength, zO_invokevirtual, zO_lreturn, zO_areturn, zO_return_, zO_tableswitch, zO_lookupswitch, zO_is0, zO_is1, zO_is2, zO_is3, zO_is4, zO_is9, zO_is10, zO_is11, zO_is12, zO_ir1, zO_ir4, zB_c, zLd_0, zLd_s, zSt_c, zSt2_c, zU_c, zD_c, zY_c, zSw_n, zSw_c, zCall_c, zVirt_c, zP_0, zP_1, zP_2, zP_3, zP_4, zGet_n, zGet_z, zPut_n, zPut_z, List.length_cons, List.length_nil, List.take_succ_cons, List.take_zero, List.drop_succ_cons, List.drop_zero, List.reverse_cons, List.reverse_nil, List.nil_append, List.cons_append, List.append_nil, List.set_cons_zero, List.set_cons_succ, List.getD_cons_zero, List.getD_cons_succ, true_and, and_true, ne_eq, not_false_eq_true, not_true_eq_false, zif, Nat.reduceAdd, Nat.reduceLeDiff, Nat.reduceLT, Nat.reduceSub, Nat.reduceEqDiff, Nat.zero_le, Nat.lt_add_one, Nat.reduceMod, false_implies, true_implies, implies_true, forall_const, Int.reduceLE, Int.reduceLT, Int.reduceEq, Int.reduceNeg, ite10_0, ite10_1, zem, zem2, Classical.not_not, and_self, zT_15, zN_15, zGf_32_15, zPf_32_15, zGf_33_15, zAl_16, zAs_16, K_place hi hj hk]
  exact ⟨fun h => h.2.2, fun h => ⟨by omega, by omega, h⟩⟩
theorem K_at17 {d : Nat} {i j k : Int} {μ : zM} {P : Int → zM → Prop} (hi : 0 ≤ i ∧ i ≤ 4) (hj : 0 ≤ j ∧ j ≤ 4) (hk : 0 ≤ k ∧ k ≤ 4) : zC (d + 2) 10 [(2, 17), (0, i), (0, j), (0, k)] μ P ↔ P (μ 18 (25 * i + 5 * j + k)) μ := by
  simp only [e10, k10_0, zO_nop, zO_goto, zO_iload_n0, zO_iload_n1, zO_iload_n2, zO_iload_n3, zO_iload, zO_lload_n0, zO_lload_n1, zO_lload_n2, zO_lload_n3, zO_lload, zO_aload_n0, zO_aload_n1, zO_aload_n2, zO_aload_n3, zO_aload, zO_istore_n0, zO_istore_n1, zO_istore_n2, zO_istore_n3, zO_istore, zO_astore_n0, zO_astore_n1, zO_astore_n2, zO_astore_n3, zO_astore, zO_lstore, zO_iinc, zO_iconst, zO_bipush, zO_sipush, zO_lconst0, zO_lconst1, zO_ldc, zO_ldc2_w, zO_iadd, zO_isub, zO_imul, zO_idiv, zO_irem, zO_ineg, zO_iand, zO_ior, zO_ixor, zO_ishl, zO_ishr, zO_iushr, zO_ladd, zO_lmul, zO_land, zO_lor, zO_lshl, zO_lcmp, zO_i2l, zO_l2i, zO_i2b, zO_dup0, zO_dup2, zO_dup200, zO_dup202, zO_dup220, zO_dup222, zO_ifCond_eq, zO_ifCond_ne, zO_ifCond_lt, zO_ifCond_ge, zO_ifCond_gt, zO_ifCond_le, zO_if_icmp_eq, zO_if_icmp_ne, zO_if_icmp_lt, zO_if_icmp_ge, zO_if_icmp_gt, zO_if_icmp_le, zO_getfield, zO_putfield, zO_iaload, zO_baload, zO_laload, zO_iastore, zO_bastore, zO_lastore, zO_arraylength, zO_invokevirtual, zO_lreturn, zO_areturn, zO_return_, zO_tableswitch, zO_lookupswitch, zO_is0, zO_is1, zO_is2, zO_is3, zO_is4, zO_is9, zO_is10, zO_is11, zO_is12, zO_ir1, zO_ir4, zB_c, zLd_0, zLd_s, zSt_c, zSt2_c, zU_c, zD_c, zY_c, zSw_n, zSw_c, zCall_c, zVirt_c, zP_0, zP_1, zP_2, zP_3, zP_4, zGet_n, zGet_z, zPut_n, zPut_z, List.length_cons, List.length_nil, List.take_succ_cons, List.take_zero, List.drop_succ_cons, List.drop_zero, List.reverse_cons, List.reverse_nil, List.nil_append, List.cons_append, List.append_nil, List.set_cons_zero, List.set_cons_succ, List.getD_cons_zero, List.getD_cons_succ, true_and, and_true, ne_eq, not_false_eq_true, not_true_eq_false, zif, Nat.reduceAdd, Nat.reduceLeDiff, Nat.reduceLT, Nat.reduceSub, Nat.reduceEqDiff, Nat.zero_le, Nat.lt_add_one, Nat.reduceMod, false_implies, true_implies, implies_true, forall_const, Int.reduceLE, Int.reduceLT, Int.reduceEq, Int.reduceNeg, ite10_0, ite10_1, zem, zem2, Classical.not_not, and_self, zT_17, zN_17, zGf_32_17, zPf_32_17, zGf_33_17, zAl_18, zAs_18, K_place hi hj hk]
  exact ⟨fun h => h.2.2, fun h => ⟨by omega, by omega, h⟩⟩
theorem K_plain {d : Nat} {i j k : Int} {μ : zM} {P : Int → zM → Prop} (hi : 0 ≤ i ∧ i ≤ 4) (hj : 0 ≤ j ∧ j ≤ 4) : zC (d + 1) 13 [(0, i), (0, j), (0, k)] μ P ↔ P (if k = i + j then 1 else 0) μ := by
  simp only [e13, k13_0, u13_11, k13_11, u13_12, k13_12, zO_nop, zO_goto, zO_iload_n0, zO_iload_n1, zO_iload_n2, zO_iload_n3, zO_iload, zO_lload_n0, zO_lload_n1, zO_lload_n2, zO_lload_n3, zO_lload, zO_aload_n0, zO_aload_n1, zO_aload_n2, zO_aload_n3, zO_aload, zO_istore_n0, zO_istore_n1, zO_istore_n2, zO_istore_n3, zO_istore, zO_astore_n0, zO_astore_n1, zO_astore_n2, zO_astore_n3, zO_astore, zO_lstore, zO_iinc, zO_iconst, zO_bipush, zO_sipush, zO_lconst0, zO_lconst1, zO_ldc, zO_ldc2_w, zO_iadd, zO_isub, zO_imul, zO_idiv, zO_irem, zO_ineg, zO_iand, zO_ior, zO_ixor, zO_ishl, zO_ishr, zO_iushr, zO_ladd, zO_lmul, zO_land, zO_lor, zO_lshl, zO_lcmp, zO_i2l, zO_l2i, zO_i2b, zO_dup0, zO_dup2, zO_dup200, zO_dup202, zO_dup220, zO_dup222, zO_ifCond_eq, zO_ifCond_ne, zO_ifCond_lt, zO_ifCond_ge, zO_ifCond_gt, zO_ifCond_le, zO_if_icmp_eq, zO_if_icmp_ne, zO_if_icmp_lt, zO_if_icmp_ge, zO_if_icmp_gt, zO_if_icmp_le, zO_getfield, zO_putfield, zO_iaload, zO_baload, zO_laload, zO_iastore, zO_bastore, zO_lastore, zO_arraylength, zO_invokevirtual, zO_lreturn, zO_areturn, zO_return_, zO_tableswitch, zO_lookupswitch, zO_is0, zO_is1, zO_is2, zO_is3, zO_is4, zO_is9, zO_is10, zO_is11, zO_is12, zO_ir1, zO_ir4, zB_c, zLd_0, zLd_s, zSt_c, zSt2_c, zU_c, zD_c, zY_c, zSw_n, zSw_c, zCall_c, zVirt_c, zP_0, zP_1, zP_2, zP_3, zP_4, zGet_n, zGet_z, zPut_n, zPut_z, List.length_cons, List.length_nil, List.take_succ_cons, List.take_zero, List.drop_succ_cons, List.drop_zero, List.reverse_cons, List.reverse_nil, List.nil_append, List.cons_append, List.append_nil, List.set_cons_zero, List.set_cons_succ, List.getD_cons_zero, List.getD_cons_succ, true_and, and_true, ne_eq, not_false_eq_true, not_true_eq_false, zif, Nat.reduceAdd, Nat.reduceLeDiff, Nat.reduceLT, Nat.reduceSub, Nat.reduceEqDiff, Nat.zero_le, Nat.lt_add_one, Nat.reduceMod, false_implies, true_implies, implies_true, forall_const, Int.reduceLE, Int.reduceLT, Int.reduceEq, Int.reduceNeg, ite10_0, ite10_1, zem, zem2, Classical.not_not, and_self]
  simp (disch := omega) only [zw_e]
  by_cases h : k = i + j <;> simp [h]
theorem ztm {s n : Int} (h0 : 0 ≤ s) (h1 : s < 2 * n) : s.tmod n = if s < n then s else s - n := by
  rw [Int.tmod_eq_emod_of_nonneg h0]
  by_cases h : s < n
  · rw [if_pos h, Int.emod_eq_of_lt h0 h]
  · rw [if_neg h]
    have e : s % n = (s - n) % n := by rw [Int.sub_emod_right]
    rw [e, Int.emod_eq_of_lt (by omega) (by omega)]
theorem K_inCycle {d : Nat} {n i j k : Int} {μ : zM} {P : Int → zM → Prop} (hn : 1 ≤ n ∧ n ≤ 5) (hi : 0 ≤ i ∧ i < n) (hj : 0 ≤ j ∧ j < n) : zC (d + 1) 14 [(0, n), (0, i), (0, j), (0, k)] μ P ↔ P (if k = (i + j).tmod n then 1 else 0) μ := by
  rw [ztm (s := i + j) (n := n) (by omega) (by omega)]
  simp only [e14, k14_0, u14_17, k14_17, u14_21, k14_21, u14_28, k14_28, u14_29, k14_29, zO_nop, zO_goto, zO_iload_n0, zO_iload_n1, zO_iload_n2, zO_iload_n3, zO_iload, zO_lload_n0, zO_lload_n1, zO_lload_n2, zO_lload_n3, zO_lload, zO_aload_n0, zO_aload_n1, zO_aload_n2, zO_aload_n3, zO_aload, zO_istore_n0, zO_istore_n1, zO_istore_n2, zO_istore_n3, zO_istore, zO_astore_n0, zO_astore_n1, zO_astore_n2, zO_astore_n3, zO_astore, zO_lstore, zO_iinc, zO_iconst, zO_bipush, zO_sipush, zO_lconst0, zO_lconst1, zO_ldc, zO_ldc2_w, zO_iadd, zO_isub, zO_imul, zO_idiv, zO_irem, zO_ineg, zO_iand, zO_ior, zO_ixor, zO_ishl, zO_ishr, zO_iushr, zO_ladd, zO_lmul, zO_land, zO_lor, zO_lshl, zO_lcmp, zO_i2l, zO_l2i, zO_i2b, zO_dup0, zO_dup2, zO_dup200, zO_dup202, zO_dup220, zO_dup222, zO_ifCond_eq, zO_ifCond_ne, zO_ifCond_lt, zO_ifCond_ge, zO_ifCond_gt, zO_ifCond_le, zO_if_icmp_eq, zO_if_icmp_ne, zO_if_icmp_lt, zO_if_icmp_ge, zO_if_icmp_gt, zO_if_icmp_le, zO_getfield, zO_putfield, zO_iaload, zO_baload, zO_laload, zO_iastore, zO_bastore, zO_lastore, zO_arraylength, zO_invokevirtual, zO_lreturn, zO_areturn, zO_return_, zO_tableswitch, zO_lookupswitch, zO_is0, zO_is1, zO_is2, zO_is3, zO_is4, zO_is9, zO_is10, zO_is11, zO_is12, zO_ir1, zO_ir4, zB_c, zLd_0, zLd_s, zSt_c, zSt2_c, zU_c, zD_c, zY_c, zSw_n, zSw_c, zCall_c, zVirt_c, zP_0, zP_1, zP_2, zP_3, zP_4, zGet_n, zGet_z, zPut_n, zPut_z, List.length_cons, List.length_nil, List.take_succ_cons, List.take_zero, List.drop_succ_cons, List.drop_zero, List.reverse_cons, List.reverse_nil, List.nil_append, List.cons_append, List.append_nil, List.set_cons_zero, List.set_cons_succ, List.getD_cons_zero, List.getD_cons_succ, true_and, and_true, ne_eq, not_false_eq_true, not_true_eq_false, zif, Nat.reduceAdd, Nat.reduceLeDiff, Nat.reduceLT, Nat.reduceSub, Nat.reduceEqDiff, Nat.zero_le, Nat.lt_add_one, Nat.reduceMod, false_implies, true_implies, implies_true, forall_const, Int.reduceLE, Int.reduceLT, Int.reduceEq, Int.reduceNeg, ite10_0, ite10_1, zem, zem2, Classical.not_not, and_self]
  simp (disch := omega) only [zw_e]
  by_cases h : i + j < n <;> simp [h]
  · by_cases h2 : k = i + j <;> simp [h2]
  · by_cases h2 : k = i + j - n <;> simp [h2]
theorem K_onLadder {d : Nat} {n i j k : Int} {μ : zM} {P : Int → zM → Prop} (hn : 1 ≤ n ∧ n ≤ 5) (hi : 0 ≤ i ∧ i < n) (hj : 0 ≤ j ∧ j < n) (hk : 0 ≤ k ∧ k < n) : zC (d + 1) 15 [(0, n - 1), (0, i), (0, j), (0, k)] μ P ↔ P (oL n i j k) μ := by
  refine zC_is ?_
  simp only [e15, k15_0, u15_48, k15_48, u15_49, k15_49, zO_nop, zO_goto, zO_iload_n0, zO_iload_n1, zO_iload_n2, zO_iload_n3, zO_iload, zO_lload_n0, zO_lload_n1, zO_lload_n2, zO_lload_n3, zO_lload, zO_aload_n0, zO_aload_n1, zO_aload_n2, zO_aload_n3, zO_aload, zO_istore_n0, zO_istore_n1, zO_istore_n2, zO_istore_n3, zO_istore, zO_astore_n0, zO_astore_n1, zO_astore_n2, zO_astore_n3, zO_astore, zO_lstore, zO_iinc, zO_iconst, zO_bipush, zO_sipush, zO_lconst0, zO_lconst1, zO_ldc, zO_ldc2_w, zO_iadd, zO_isub, zO_imul, zO_idiv, zO_irem, zO_ineg, zO_iand, zO_ior, zO_ixor, zO_ishl, zO_ishr, zO_iushr, zO_ladd, zO_lmul, zO_land, zO_lor, zO_lshl, zO_lcmp, zO_i2l, zO_l2i, zO_i2b, zO_dup0, zO_dup2, zO_dup200, zO_dup202, zO_dup220, zO_dup222, zO_ifCond_eq, zO_ifCond_ne, zO_ifCond_lt, zO_ifCond_ge, zO_ifCond_gt, zO_ifCond_le, zO_if_icmp_eq, zO_if_icmp_ne, zO_if_icmp_lt, zO_if_icmp_ge, zO_if_icmp_gt, zO_if_icmp_le, zO_getfield, zO_putfield, zO_iaload, zO_baload, zO_laload, zO_iastore, zO_bastore, zO_lastore, zO_arraylength, zO_invokevirtual, zO_lreturn, zO_areturn, zO_return_, zO_tableswitch, zO_lookupswitch, zO_is0, zO_is1, zO_is2, zO_is3, zO_is4, zO_is9, zO_is10, zO_is11, zO_is12, zO_ir1, zO_ir4, zB_c, zLd_0, zLd_s, zSt_c, zSt2_c, zU_c, zD_c, zY_c, zSw_n, zSw_c, zCall_c, zVirt_c, zP_0, zP_1, zP_2, zP_3, zP_4, zGet_n, zGet_z, zPut_n, zPut_z, List.length_cons, List.length_nil, List.take_succ_cons, List.take_zero, List.drop_succ_cons, List.drop_zero, List.reverse_cons, List.reverse_nil, List.nil_append, List.cons_append, List.append_nil, List.set_cons_zero, List.set_cons_succ, List.getD_cons_zero, List.getD_cons_succ, true_and, and_true, ne_eq, not_false_eq_true, not_true_eq_false, zif, Nat.reduceAdd, Nat.reduceLeDiff, Nat.reduceLT, Nat.reduceSub, Nat.reduceEqDiff, Nat.zero_le, Nat.lt_add_one, Nat.reduceMod, false_implies, true_implies, implies_true, forall_const, Int.reduceLE, Int.reduceLT, Int.reduceEq, Int.reduceNeg, ite10_0, ite10_1, zem, zem2, Classical.not_not, and_self]
  simp (disch := omega) only [zw_e, and_true]
  unfold oL
  by_cases h1 : i < j
  · have e1 : (if 0 ≤ i - j then i - j else 0 - (i - j)) = j - i := by rw [if_neg (by omega)]; omega
    have e2 : (if 2 * (n - 1) - i - j < i + j then 2 * (n - 1) - i - j else i + j) = if i + j < 2 * n - 2 - i - j then i + j else 2 * n - 2 - i - j := by split <;> split <;> omega
    simp only [e1, e2, h1, if_true]
    try simp (disch := omega) only [zw_e]
    generalize (if i + j < 2 * n - 2 - i - j then i + j else 2 * n - 2 - i - j) = t
    generalize (k - (j - i)).tmod 2 = t2
    grind
  · have e1 : (if 0 ≤ i - j then i - j else 0 - (i - j)) = i - j := by rw [if_pos (by omega)]
    have e2 : (if 2 * (n - 1) - i - j < i + j then 2 * (n - 1) - i - j else i + j) = if i + j < 2 * n - 2 - i - j then i + j else 2 * n - 2 - i - j := by split <;> split <;> omega
    simp only [e1, e2, h1, if_false]
    try simp (disch := omega) only [zw_e]
    generalize (if i + j < 2 * n - 2 - i - j then i + j else 2 * n - 2 - i - j) = t
    generalize (k - (i - j)).tmod 2 = t2
    grind
theorem K_inHouse {d : Nat} {n i j k : Int} {μ : zM} {P : Int → zM → Prop} (hn : 1 ≤ n ∧ n ≤ 5) (hi : 0 < i ∧ i < n) (hj : 0 < j ∧ j < n) (hk : 0 ≤ k ∧ k < n) : zC (d + 2) 16 [(0, n - 1), (0, i), (0, j), (0, k)] μ P ↔ P (oH 0 n 0 i j k) μ := by
  refine zC_is ?_
  simp only [e16, k16_0, u16_19, k16_19, u16_20, k16_20, u16_21, k16_21, u16_31, k16_31, u16_40, k16_40, u16_41, k16_41, u16_42, k16_42, zO_nop, zO_goto, zO_iload_n0, zO_iload_n1, zO_iload_n2, zO_iload_n3, zO_iload, zO_lload_n0, zO_lload_n1, zO_lload_n2, zO_lload_n3, zO_lload, zO_aload_n0, zO_aload_n1, zO_aload_n2, zO_aload_n3, zO_aload, zO_istore_n0, zO_istore_n1, zO_istore_n2, zO_istore_n3, zO_istore, zO_astore_n0, zO_astore_n1, zO_astore_n2, zO_astore_n3, zO_astore, zO_lstore, zO_iinc, zO_iconst, zO_bipush, zO_sipush, zO_lconst0, zO_lconst1, zO_ldc, zO_ldc2_w, zO_iadd, zO_isub, zO_imul, zO_idiv, zO_irem, zO_ineg, zO_iand, zO_ior, zO_ixor, zO_ishl, zO_ishr, zO_iushr, zO_ladd, zO_lmul, zO_land, zO_lor, zO_lshl, zO_lcmp, zO_i2l, zO_l2i, zO_i2b, zO_dup0, zO_dup2, zO_dup200, zO_dup202, zO_dup220, zO_dup222, zO_ifCond_eq, zO_ifCond_ne, zO_ifCond_lt, zO_ifCond_ge, zO_ifCond_gt, zO_ifCond_le, zO_if_icmp_eq, zO_if_icmp_ne, zO_if_icmp_lt, zO_if_icmp_ge, zO_if_icmp_gt, zO_if_icmp_le, zO_getfield, zO_putfield, zO_iaload, zO_baload, zO_laload, zO_iastore, zO_bastore, zO_lastore, zO_arraylength, zO_invokevirtual, zO_lreturn, zO_areturn, zO_return_, zO_tableswitch, zO_lookupswitch, zO_is0, zO_is1, zO_is2, zO_is3, zO_is4, zO_is9, zO_is10, zO_is11, zO_is12, zO_ir1, zO_ir4, zB_c, zLd_0, zLd_s, zSt_c, zSt2_c, zU_c, zD_c, zY_c, zSw_n, zSw_c, zCall_c, zVirt_c, zP_0, zP_1, zP_2, zP_3, zP_4, zGet_n, zGet_z, zPut_n, zPut_z, List.length_cons, List.length_nil, List.take_succ_cons, List.take_zero, List.drop_succ_cons, List.drop_zero, List.reverse_cons, List.reverse_nil, List.nil_append, List.cons_append, List.append_nil, List.set_cons_zero, List.set_cons_succ, List.getD_cons_zero, List.getD_cons_succ, true_and, and_true, ne_eq, not_false_eq_true, not_true_eq_false, zif, Nat.reduceAdd, Nat.reduceLeDiff, Nat.reduceLT, Nat.reduceSub, Nat.reduceEqDiff, Nat.zero_le, Nat.lt_add_one, Nat.reduceMod, false_implies, true_implies, implies_true, forall_const, Int.reduceLE, Int.reduceLT, Int.reduceEq, Int.reduceNeg, ite10_0, ite10_1, zem, zem2, Classical.not_not, and_self]
  try simp (disch := omega) only [zw_e, and_true]
  by_cases h : i < n - 1 ∧ j < n - 1
  · rw [K_inCycle (n := n - 1) (by omega) (by omega) (by omega)]
    unfold oH
    grind
  · unfold oH
    grind
theorem K_oftenByKind {d : Nat} {i j k : Int} {μ : zM} {P : Int → zM → Prop} (hn : 1 ≤ μ 1 1 ∧ μ 1 1 ≤ 5) (hi : 0 ≤ i ∧ i < μ 1 1) (hj : 0 ≤ j ∧ j < μ 1 1) (hk : 0 ≤ k ∧ k < μ 1 1) : zC (d + 3) 12 [(2, 1), (0, i), (0, j), (0, k)] μ P ↔ P (oF (μ 1 0) (μ 1 1) (μ 1 2) (μ 2) i j k) μ := by
  refine zC_is ?_
  simp only [e12, k12_0, u12_8, k12_8, u12_15, k12_15, u12_56, k12_56, u12_67, k12_67, u12_76, k12_76, u12_85, k12_85, u12_110, k12_110, u12_118, k12_118, u12_119, k12_119, zO_nop, zO_goto, zO_iload_n0, zO_iload_n1, zO_iload_n2, zO_iload_n3, zO_iload, zO_lload_n0, zO_lload_n1, zO_lload_n2, zO_lload_n3, zO_lload, zO_aload_n0, zO_aload_n1, zO_aload_n2, zO_aload_n3, zO_aload, zO_istore_n0, zO_istore_n1, zO_istore_n2, zO_istore_n3, zO_istore, zO_astore_n0, zO_astore_n1, zO_astore_n2, zO_astore_n3, zO_astore, zO_lstore, zO_iinc, zO_iconst, zO_bipush, zO_sipush, zO_lconst0, zO_lconst1, zO_ldc, zO_ldc2_w, zO_iadd, zO_isub, zO_imul, zO_idiv, zO_irem, zO_ineg, zO_iand, zO_ior, zO_ixor, zO_ishl, zO_ishr, zO_iushr, zO_ladd, zO_lmul, zO_land, zO_lor, zO_lshl, zO_lcmp, zO_i2l, zO_l2i, zO_i2b, zO_dup0, zO_dup2, zO_dup200, zO_dup202, zO_dup220, zO_dup222, zO_ifCond_eq, zO_ifCond_ne, zO_ifCond_lt, zO_ifCond_ge, zO_ifCond_gt, zO_ifCond_le, zO_if_icmp_eq, zO_if_icmp_ne, zO_if_icmp_lt, zO_if_icmp_ge, zO_if_icmp_gt, zO_if_icmp_le, zO_getfield, zO_putfield, zO_iaload, zO_baload, zO_laload, zO_iastore, zO_bastore, zO_lastore, zO_arraylength, zO_invokevirtual, zO_lreturn, zO_areturn, zO_return_, zO_tableswitch, zO_lookupswitch, zO_is0, zO_is1, zO_is2, zO_is3, zO_is4, zO_is9, zO_is10, zO_is11, zO_is12, zO_ir1, zO_ir4, zB_c, zLd_0, zLd_s, zSt_c, zSt2_c, zU_c, zD_c, zY_c, zSw_n, zSw_c, zCall_c, zVirt_c, zP_0, zP_1, zP_2, zP_3, zP_4, zGet_n, zGet_z, zPut_n, zPut_z, List.length_cons, List.length_nil, List.take_succ_cons, List.take_zero, List.drop_succ_cons, List.drop_zero, List.reverse_cons, List.reverse_nil, List.nil_append, List.cons_append, List.append_nil, List.set_cons_zero, List.set_cons_succ, List.getD_cons_zero, List.getD_cons_succ, true_and, and_true, ne_eq, not_false_eq_true, not_true_eq_false, zif, Nat.reduceAdd, Nat.reduceLeDiff, Nat.reduceLT, Nat.reduceSub, Nat.reduceEqDiff, Nat.zero_le, Nat.lt_add_one, Nat.reduceMod, false_implies, true_implies, implies_true, forall_const, Int.reduceLE, Int.reduceLT, Int.reduceEq, Int.reduceNeg, ite10_0, ite10_1, zem, zem2, Classical.not_not, and_self, zT_1, zN_1, zGf_64_1, zPf_64_1, zGf_65_1, zPf_65_1, zGf_66_1, zPf_66_1, zGf_67_1, zGf_68_1, zGf_69_1, zGf_70_1, zGf_71_1, zGf_72_1, zGf_73_1, zPf_73_1, zAl_2, zAs_2, K_plain (show 0 ≤ i ∧ i ≤ 4 by omega) (show 0 ≤ j ∧ j ≤ 4 by omega), K_place (show 0 ≤ i ∧ i ≤ 4 by omega) (show 0 ≤ j ∧ j ≤ 4 by omega) (show 0 ≤ k ∧ k ≤ 4 by omega), K_inCycle hn hi hj]
  simp (disch := omega) only [zw_e, and_true]
  by_cases h0 : 0 < i ∧ 0 < j
  · simp only [K_onLadder hn hi hj hk, K_inHouse hn ⟨h0.1, hi.2⟩ ⟨h0.2, hj.2⟩ hk]
    unfold oF oH
    grind
  · unfold oF
    grind
end
section
/-! the class's table of rules -/
theorem K_becomeRules15 {d : Nat} {μ : zM} (hn : 1 ≤ μ 1 1 ∧ μ 1 1 ≤ 5) : zC (d + 4) 11 [(2, 15), (2, 1)] μ (fun r u => r = 0 ∧ zsm [15, 16] μ u ∧ u 15 0 = μ 1 1 ∧ ∀ a b c, 0 ≤ a → a < μ 1 1 → 0 ≤ b → b < μ 1 1 → 0 ≤ c → c < μ 1 1 → u 16 (25 * a + 5 * b + c) = oF (μ 1 0) (μ 1 1) (μ 1 2) (μ 2) a b c) := by
  obtain ⟨J, hJ⟩ : ∃ J : Int → zM → Prop, J = fun t w => zsm [15, 16] μ w ∧ w 15 0 = μ 1 1 ∧ ∀ a b c, 0 ≤ a → a < μ 1 1 → 0 ≤ b → b < μ 1 1 → 0 ≤ c → c < μ 1 1 → 25 * a + 5 * b + c < t → w 16 (25 * a + 5 * b + c) = oF (μ 1 0) (μ 1 1) (μ 1 2) (μ 2) a b c := ⟨_, rfl⟩
  have Jup : ∀ t t' w, J t w → (∀ a b c : Int, 0 ≤ a → a < μ 1 1 → 0 ≤ b → b < μ 1 1 → 0 ≤ c → c < μ 1 1 → 25 * a + 5 * b + c < t' → 25 * a + 5 * b + c < t) → J t' w := by
    intro t t' w h ht
    rw [hJ] at h ⊢
    exact ⟨h.1, h.2.1, fun a b c a0 a1 b0 b1 c0 c1 hl => h.2.2 a b c a0 a1 b0 b1 c0 c1 (ht a b c a0 a1 b0 b1 c0 c1 hl)⟩
  generalize hQ : (fun (r : Int) (u : zM) => r = 0 ∧ zsm [15, 16] μ u ∧ u 15 0 = μ 1 1 ∧ ∀ a b c, 0 ≤ a → a < μ 1 1 → 0 ≤ b → b < μ 1 1 → 0 ≤ c → c < μ 1 1 → u 16 (25 * a + 5 * b + c) = oF (μ 1 0) (μ 1 1) (μ 1 2) (μ 2) a b c) = Q
  have hk : ∀ i j : Int, 0 ≤ i → i < μ 1 1 → 0 ≤ j → j < μ 1 1 → (∀ w, J (25 * i + 5 * (j + 1)) w → ∀ x, zR (d + 3) 11 Q 20 [(2, 15), (2, 1), (0, i), (0, j + 1), x] [] w) → ∀ k w, 0 ≤ k → k ≤ μ 1 1 → J (25 * i + 5 * j + k) w → zR (d + 3) 11 Q 31 [(2, 15), (2, 1), (0, i), (0, j), (0, k)] [] w := by
    intro i j i0 i1 j0 j1 hnext
    refine zloop (n := μ 1 1) (Inv := fun k w => J (25 * i + 5 * j + k) w) ?_ ?_
    · intro k w k0 k1 hw ih
      have hw2 := hw
      rw [hJ] at hw2
      obtain ⟨w1, w2, w3⟩ := hw2
      have e1 : w 1 = μ 1 := w1 1 (by decide)
      have e2 : w 2 = μ 2 := w1 2 (by decide)
      rw [u11_31]
      simp only [k11_31, e11, k11_0, u11_66, k11_66, u11_72, k11_72, u11_78, k11_78, zO_nop, zO_goto, zO_iload_n0, zO_iload_n1, zO_iload_n2, zO_iload_n3, zO_iload, zO_lload_n0, zO_lload_n1, zO_lload_n2, zO_lload_n3, zO_lload, zO_aload_n0, zO_aload_n1, zO_aload_n2, zO_aload_n3, zO_aload, zO_istore_n0, zO_istore_n1, zO_istore_n2, zO_istore_n3, zO_istore, zO_astore_n0, zO_astore_n1, zO_astore_n2, zO_astore_n3, zO_astore, zO_lstore, zO_iinc, zO_iconst, zO_bipush, zO_sipush, zO_lconst0, zO_lconst1, zO_ldc, zO_ldc2_w, zO_iadd, zO_isub, zO_imul, zO_idiv, zO_irem, zO_ineg, zO_iand, zO_ior, zO_ixor, zO_ishl, zO_ishr, zO_iushr, zO_ladd, zO_lmul, zO_land, zO_lor, zO_lshl, zO_lcmp, zO_i2l, zO_l2i, zO_i2b, zO_dup0, zO_dup2, zO_dup200, zO_dup202, zO_dup220, zO_dup222, zO_ifCond_eq, zO_ifCond_ne, zO_ifCond_lt, zO_ifCond_ge, zO_ifCond_gt, zO_ifCond_le, zO_if_icmp_eq, zO_if_icmp_ne, zO_if_icmp_lt, zO_if_icmp_ge, zO_if_icmp_gt, zO_if_icmp_le, zO_getfield, zO_putfield, zO_iaload, zO_baload, zO_laload, zO_iastore, zO_bastore, zO_lastore, zO_arraylength, zO_invokevirtual, zO_lreturn, zO_areturn, zO_return_, zO_tableswitch, zO_lookupswitch, zO_is0, zO_is1, zO_is2, zO_is3, zO_is4, zO_is9, zO_is10, zO_is11, zO_is12, zO_ir1, zO_ir4, zB_c, zLd_0, zLd_s, zSt_c, zSt2_c, zU_c, zD_c, zY_c, zSw_n, zSw_c, zCall_c, zVirt_c, zP_0, zP_1, zP_2, zP_3, zP_4, zGet_n, zGet_z, zPut_n, zPut_z, List.length_cons, List.length_nil, List.take_succ_cons, List.take_zero, List.drop_succ_cons, List.drop_zero, List.reverse_cons, List.reverse_nil, List.nil_append, List.cons_append, List.append_nil, List.set_cons_zero, List.set_cons_succ, List.getD_cons_zero, List.getD_cons_succ, true_and, and_true, ne_eq, not_false_eq_true, not_true_eq_false, zif, Nat.reduceAdd, Nat.reduceLeDiff, Nat.reduceLT, Nat.reduceSub, Nat.reduceEqDiff, Nat.zero_le, Nat.lt_add_one, Nat.reduceMod, false_implies, true_implies, implies_true, forall_const, Int.reduceLE, Int.reduceLT, Int.reduceEq, Int.reduceNeg, ite10_0, ite10_1, zem, zem2, Classical.not_not, and_self, zT_1, zN_1, zGf_64_1, zPf_64_1, zGf_65_1, zPf_65_1, zGf_66_1, zPf_66_1, zGf_67_1, zGf_68_1, zGf_69_1, zGf_70_1, zGf_71_1, zGf_72_1, zGf_73_1, zPf_73_1, zT_15, zN_15, zGf_32_15, zPf_32_15, zGf_33_15, zAl_16, zAs_16]
      simp only [K_place (d := d + 2) (show 0 ≤ i ∧ i ≤ 4 by omega) (show 0 ≤ j ∧ j ≤ 4 by omega) (show 0 ≤ k ∧ k ≤ 4 by omega)]
      rw [K_oftenByKind (by rw [e1]; exact hn) (by rw [e1]; omega) (by rw [e1]; omega) (by rw [e1]; omega), e1, e2, w2, zw_e (by omega) (by omega)]
      refine ⟨fun _ => ⟨by omega, by omega, ih _ ?_⟩, fun h => absurd k1 h⟩
      rw [hJ]
      refine ⟨zsm_u w1 (by decide), ?_, ?_⟩
      · rw [zu_ne (by omega)]; exact w2
      · intro a b c a0 a1 b0 b1 c0 c1 hlt
        rw [zu_d]
        by_cases e : 25 * a + 5 * b + c = 25 * i + 5 * j + k
        · obtain ⟨rfl, rfl, rfl⟩ : a = i ∧ b = j ∧ c = k := by omega
          rw [if_pos ⟨rfl, rfl⟩]
        · rw [if_neg (by omega)]
          exact w3 a b c a0 a1 b0 b1 c0 c1 (by omega)
    · intro w hw
      have hw2 := hw
      rw [hJ] at hw2
      obtain ⟨w1, w2, w3⟩ := hw2
      rw [u11_31]
      simp only [k11_31, e11, k11_0, u11_66, k11_66, u11_72, k11_72, u11_78, k11_78, zO_nop, zO_goto, zO_iload_n0, zO_iload_n1, zO_iload_n2, zO_iload_n3, zO_iload, zO_lload_n0, zO_lload_n1, zO_lload_n2, zO_lload_n3, zO_lload, zO_aload_n0, zO_aload_n1, zO_aload_n2, zO_aload_n3, zO_aload, zO_istore_n0, zO_istore_n1, zO_istore_n2, zO_istore_n3, zO_istore, zO_astore_n0, zO_astore_n1, zO_astore_n2, zO_astore_n3, zO_astore, zO_lstore, zO_iinc, zO_iconst, zO_bipush, zO_sipush, zO_lconst0, zO_lconst1, zO_ldc, zO_ldc2_w, zO_iadd, zO_isub, zO_imul, zO_idiv, zO_irem, zO_ineg, zO_iand, zO_ior, zO_ixor, zO_ishl, zO_ishr, zO_iushr, zO_ladd, zO_lmul, zO_land, zO_lor, zO_lshl, zO_lcmp, zO_i2l, zO_l2i, zO_i2b, zO_dup0, zO_dup2, zO_dup200, zO_dup202, zO_dup220, zO_dup222, zO_ifCond_eq, zO_ifCond_ne, zO_ifCond_lt, zO_ifCond_ge, zO_ifCond_gt, zO_ifCond_le, zO_if_icmp_eq, zO_if_icmp_ne, zO_if_icmp_lt, zO_if_icmp_ge, zO_if_icmp_gt, zO_if_icmp_le, zO_getfield, zO_putfield, zO_iaload, zO_baload, zO_laload, zO_iastore, zO_bastore, zO_lastore, zO_arraylength, zO_invokevirtual, zO_lreturn, zO_areturn, zO_return_, zO_tableswitch, zO_lookupswitch, zO_is0, zO_is1, zO_is2, zO_is3, zO_is4, zO_is9, zO_is10, zO_is11, zO_is12, zO_ir1, zO_ir4, zB_c, zLd_0, zLd_s, zSt_c, zSt2_c, zU_c, zD_c, zY_c, zSw_n, zSw_c, zCall_c, zVirt_c, zP_0, zP_1, zP_2, zP_3, zP_4, zGet_n, zGet_z, zPut_n, zPut_z, List.length_cons, List.length_nil, List.take_succ_cons, List.take_zero, List.drop_succ_cons, List.drop_zero, List.reverse_cons, List.reverse_nil, List.nil_append, List.cons_append, List.append_nil, List.set_cons_zero, List.set_cons_succ, List.getD_cons_zero, List.getD_cons_succ, true_and, and_true, ne_eq, not_false_eq_true, not_true_eq_false, zif, Nat.reduceAdd, Nat.reduceLeDiff, Nat.reduceLT, Nat.reduceSub, Nat.reduceEqDiff, Nat.zero_le, Nat.lt_add_one, Nat.reduceMod, false_implies, true_implies, implies_true, forall_const, Int.reduceLE, Int.reduceLT, Int.reduceEq, Int.reduceNeg, ite10_0, ite10_1, zem, zem2, Classical.not_not, and_self, zT_1, zN_1, zGf_64_1, zPf_64_1, zGf_65_1, zPf_65_1, zGf_66_1, zPf_66_1, zGf_67_1, zGf_68_1, zGf_69_1, zGf_70_1, zGf_71_1, zGf_72_1, zGf_73_1, zPf_73_1, zT_15, zN_15, zGf_32_15, zPf_32_15, zGf_33_15, zAl_16, zAs_16, w2]
      refine ⟨fun h => absurd h (by omega), fun _ => ?_⟩
      rw [zw_e (by omega) (by omega)]
      exact hnext w (Jup _ _ w hw (fun a b c a0 a1 b0 b1 c0 c1 hl => by omega)) _
  have hj : ∀ i : Int, 0 ≤ i → i < μ 1 1 → (∀ w, J (25 * (i + 1)) w → ∀ x y, zR (d + 3) 11 Q 10 [(2, 15), (2, 1), (0, i + 1), x, y] [] w) → ∀ j w, 0 ≤ j → j ≤ μ 1 1 → J (25 * i + 5 * j) w → ∀ x, zR (d + 3) 11 Q 20 [(2, 15), (2, 1), (0, i), (0, j), x] [] w := by
    intro i i0 i1 hnext
    refine zloop (n := μ 1 1) (Inv := fun j w => J (25 * i + 5 * j) w) (R := fun j w => ∀ x, zR (d + 3) 11 Q 20 [(2, 15), (2, 1), (0, i), (0, j), x] [] w) ?_ ?_
    · intro j w j0 j1 hw ih x
      have hw2 := hw
      rw [hJ] at hw2
      obtain ⟨w1, w2, w3⟩ := hw2
      rw [u11_20]
      simp only [k11_20, e11, k11_0, u11_66, k11_66, u11_72, k11_72, u11_78, k11_78, zO_nop, zO_goto, zO_iload_n0, zO_iload_n1, zO_iload_n2, zO_iload_n3, zO_iload, zO_lload_n0, zO_lload_n1, zO_lload_n2, zO_lload_n3, zO_lload, zO_aload_n0, zO_aload_n1, zO_aload_n2, zO_aload_n3, zO_aload, zO_istore_n0, zO_istore_n1, zO_istore_n2, zO_istore_n3, zO_istore, zO_astore_n0, zO_astore_n1, zO_astore_n2, zO_astore_n3, zO_astore, zO_lstore, zO_iinc, zO_iconst, zO_bipush, zO_sipush, zO_lconst0, zO_lconst1, zO_ldc, zO_ldc2_w, zO_iadd, zO_isub, zO_imul, zO_idiv, zO_irem, zO_ineg, zO_iand, zO_ior, zO_ixor, zO_ishl, zO_ishr, zO_iushr, zO_ladd, zO_lmul, zO_land, zO_lor, zO_lshl, zO_lcmp, zO_i2l, zO_l2i, zO_i2b, zO_dup0, zO_dup2, zO_dup200, zO_dup202, zO_dup220, zO_dup222, zO_ifCond_eq, zO_ifCond_ne, zO_ifCond_lt, zO_ifCond_ge, zO_ifCond_gt, zO_ifCond_le, zO_if_icmp_eq, zO_if_icmp_ne, zO_if_icmp_lt, zO_if_icmp_ge, zO_if_icmp_gt, zO_if_icmp_le, zO_getfield, zO_putfield, zO_iaload, zO_baload, zO_laload, zO_iastore, zO_bastore, zO_lastore, zO_arraylength, zO_invokevirtual, zO_lreturn, zO_areturn, zO_return_, zO_tableswitch, zO_lookupswitch, zO_is0, zO_is1, zO_is2, zO_is3, zO_is4, zO_is9, zO_is10, zO_is11, zO_is12, zO_ir1, zO_ir4, zB_c, zLd_0, zLd_s, zSt_c, zSt2_c, zU_c, zD_c, zY_c, zSw_n, zSw_c, zCall_c, zVirt_c, zP_0, zP_1, zP_2, zP_3, zP_4, zGet_n, zGet_z, zPut_n, zPut_z, List.length_cons, List.length_nil, List.take_succ_cons, List.take_zero, List.drop_succ_cons, List.drop_zero, List.reverse_cons, List.reverse_nil, List.nil_append, List.cons_append, List.append_nil, List.set_cons_zero, List.set_cons_succ, List.getD_cons_zero, List.getD_cons_succ, true_and, and_true, ne_eq, not_false_eq_true, not_true_eq_false, zif, Nat.reduceAdd, Nat.reduceLeDiff, Nat.reduceLT, Nat.reduceSub, Nat.reduceEqDiff, Nat.zero_le, Nat.lt_add_one, Nat.reduceMod, false_implies, true_implies, implies_true, forall_const, Int.reduceLE, Int.reduceLT, Int.reduceEq, Int.reduceNeg, ite10_0, ite10_1, zem, zem2, Classical.not_not, and_self, zT_1, zN_1, zGf_64_1, zPf_64_1, zGf_65_1, zPf_65_1, zGf_66_1, zPf_66_1, zGf_67_1, zGf_68_1, zGf_69_1, zGf_70_1, zGf_71_1, zGf_72_1, zGf_73_1, zPf_73_1, zT_15, zN_15, zGf_32_15, zPf_32_15, zGf_33_15, zAl_16, zAs_16, w2]
      exact ⟨fun _ => hk i j i0 i1 j0 j1 ih 0 w (by omega) (by omega) (by rw [Int.add_zero]; exact hw), fun h => absurd j1 h⟩
    · intro w hw x
      have hw2 := hw
      rw [hJ] at hw2
      obtain ⟨w1, w2, w3⟩ := hw2
      rw [u11_20]
      simp only [k11_20, e11, k11_0, u11_66, k11_66, u11_72, k11_72, u11_78, k11_78, zO_nop, zO_goto, zO_iload_n0, zO_iload_n1, zO_iload_n2, zO_iload_n3, zO_iload, zO_lload_n0, zO_lload_n1, zO_lload_n2, zO_lload_n3, zO_lload, zO_aload_n0, zO_aload_n1, zO_aload_n2, zO_aload_n3, zO_aload, zO_istore_n0, zO_istore_n1, zO_istore_n2, zO_istore_n3, zO_istore, zO_astore_n0, zO_astore_n1, zO_astore_n2, zO_astore_n3, zO_astore, zO_lstore, zO_iinc, zO_iconst, zO_bipush, zO_sipush, zO_lconst0, zO_lconst1, zO_ldc, zO_ldc2_w, zO_iadd, zO_isub, zO_imul, zO_idiv, zO_irem, zO_ineg, zO_iand, zO_ior, zO_ixor, zO_ishl, zO_ishr, zO_iushr, zO_ladd, zO_lmul, zO_land, zO_lor, zO_lshl, zO_lcmp, zO_i2l, zO_l2i, zO_i2b, zO_dup0, zO_dup2, zO_dup200, zO_dup202, zO_dup220, zO_dup222, zO_ifCond_eq, zO_ifCond_ne, zO_ifCond_lt, zO_ifCond_ge, zO_ifCond_gt, zO_ifCond_le, zO_if_icmp_eq, zO_if_icmp_ne, zO_if_icmp_lt, zO_if_icmp_ge, zO_if_icmp_gt, zO_if_icmp_le, zO_getfield, zO_putfield, zO_iaload, zO_baload, zO_laload, zO_iastore, zO_bastore, zO_lastore, zO_arraylength, zO_invokevirtual, zO_lreturn, zO_areturn, zO_return_, zO_tableswitch, zO_lookupswitch, zO_is0, zO_is1, zO_is2, zO_is3, zO_is4, zO_is9, zO_is10, zO_is11, zO_is12, zO_ir1, zO_ir4, zB_c, zLd_0, zLd_s, zSt_c, zSt2_c, zU_c, zD_c, zY_c, zSw_n, zSw_c, zCall_c, zVirt_c, zP_0, zP_1, zP_2, zP_3, zP_4, zGet_n, zGet_z, zPut_n, zPut_z, List.length_cons, List.length_nil, List.take_succ_cons, List.take_zero, List.drop_succ_cons, List.drop_zero, List.reverse_cons, List.reverse_nil, List.nil_append, List.cons_append, List.append_nil, List.set_cons_zero, List.set_cons_succ, List.getD_cons_zero, List.getD_cons_succ, true_and, and_true, ne_eq, not_false_eq_true, not_true_eq_false, zif, Nat.reduceAdd, Nat.reduceLeDiff, Nat.reduceLT, Nat.reduceSub, Nat.reduceEqDiff, Nat.zero_le, Nat.lt_add_one, Nat.reduceMod, false_implies, true_implies, implies_true, forall_const, Int.reduceLE, Int.reduceLT, Int.reduceEq, Int.reduceNeg, ite10_0, ite10_1, zem, zem2, Classical.not_not, and_self, zT_1, zN_1, zGf_64_1, zPf_64_1, zGf_65_1, zPf_65_1, zGf_66_1, zPf_66_1, zGf_67_1, zGf_68_1, zGf_69_1, zGf_70_1, zGf_71_1, zGf_72_1, zGf_73_1, zPf_73_1, zT_15, zN_15, zGf_32_15, zPf_32_15, zGf_33_15, zAl_16, zAs_16, w2]
      refine ⟨fun h => absurd h (by omega), fun _ => ?_⟩
      rw [zw_e (by omega) (by omega)]
      exact hnext w (Jup _ _ w hw (fun a b c a0 a1 b0 b1 c0 c1 hl => by omega)) _ _
  have hi : ∀ i w, 0 ≤ i → i ≤ μ 1 1 → J (25 * i) w → ∀ x y, zR (d + 3) 11 Q 10 [(2, 15), (2, 1), (0, i), x, y] [] w := by
    refine zloop (n := μ 1 1) (Inv := fun i w => J (25 * i) w) (R := fun i w => ∀ x y, zR (d + 3) 11 Q 10 [(2, 15), (2, 1), (0, i), x, y] [] w) ?_ ?_
    · intro i w i0 i1 hw ih x y
      have hw2 := hw
      rw [hJ] at hw2
      obtain ⟨w1, w2, w3⟩ := hw2
      rw [u11_10]
      simp only [k11_10, e11, k11_0, u11_66, k11_66, u11_72, k11_72, u11_78, k11_78, zO_nop, zO_goto, zO_iload_n0, zO_iload_n1, zO_iload_n2, zO_iload_n3, zO_iload, zO_lload_n0, zO_lload_n1, zO_lload_n2, zO_lload_n3, zO_lload, zO_aload_n0, zO_aload_n1, zO_aload_n2, zO_aload_n3, zO_aload, zO_istore_n0, zO_istore_n1, zO_istore_n2, zO_istore_n3, zO_istore, zO_astore_n0, zO_astore_n1, zO_astore_n2, zO_astore_n3, zO_astore, zO_lstore, zO_iinc, zO_iconst, zO_bipush, zO_sipush, zO_lconst0, zO_lconst1, zO_ldc, zO_ldc2_w, zO_iadd, zO_isub, zO_imul, zO_idiv, zO_irem, zO_ineg, zO_iand, zO_ior, zO_ixor, zO_ishl, zO_ishr, zO_iushr, zO_ladd, zO_lmul, zO_land, zO_lor, zO_lshl, zO_lcmp, zO_i2l, zO_l2i, zO_i2b, zO_dup0, zO_dup2, zO_dup200, zO_dup202, zO_dup220, zO_dup222, zO_ifCond_eq, zO_ifCond_ne, zO_ifCond_lt, zO_ifCond_ge, zO_ifCond_gt, zO_ifCond_le, zO_if_icmp_eq, zO_if_icmp_ne, zO_if_icmp_lt, zO_if_icmp_ge, zO_if_icmp_gt, zO_if_icmp_le, zO_getfield, zO_putfield, zO_iaload, zO_baload, zO_laload, zO_iastore, zO_bastore, zO_lastore, zO_arraylength, zO_invokevirtual, zO_lreturn, zO_areturn, zO_return_, zO_tableswitch, zO_lookupswitch, zO_is0, zO_is1, zO_is2, zO_is3, zO_is4, zO_is9, zO_is10, zO_is11, zO_is12, zO_ir1, zO_ir4, zB_c, zLd_0, zLd_s, zSt_c, zSt2_c, zU_c, zD_c, zY_c, zSw_n, zSw_c, zCall_c, zVirt_c, zP_0, zP_1, zP_2, zP_3, zP_4, zGet_n, zGet_z, zPut_n, zPut_z, List.length_cons, List.length_nil, List.take_succ_cons, List.take_zero, List.drop_succ_cons, List.drop_zero, List.reverse_cons, List.reverse_nil, List.nil_append, List.cons_append, List.append_nil, List.set_cons_zero, List.set_cons_succ, List.getD_cons_zero, List.getD_cons_succ, true_and, and_true, ne_eq, not_false_eq_true, not_true_eq_false, zif, Nat.reduceAdd, Nat.reduceLeDiff, Nat.reduceLT, Nat.reduceSub, Nat.reduceEqDiff, Nat.zero_le, Nat.lt_add_one, Nat.reduceMod, false_implies, true_implies, implies_true, forall_const, Int.reduceLE, Int.reduceLT, Int.reduceEq, Int.reduceNeg, ite10_0, ite10_1, zem, zem2, Classical.not_not, and_self, zT_1, zN_1, zGf_64_1, zPf_64_1, zGf_65_1, zPf_65_1, zGf_66_1, zPf_66_1, zGf_67_1, zGf_68_1, zGf_69_1, zGf_70_1, zGf_71_1, zGf_72_1, zGf_73_1, zPf_73_1, zT_15, zN_15, zGf_32_15, zPf_32_15, zGf_33_15, zAl_16, zAs_16, w2]
      exact ⟨fun _ => hj i i0 i1 ih 0 w (by omega) (by omega) (by rw [Int.mul_zero, Int.add_zero]; exact hw) y, fun h => absurd i1 h⟩
    · intro w hw x y
      have hw2 := hw
      rw [hJ] at hw2
      obtain ⟨w1, w2, w3⟩ := hw2
      rw [u11_10]
      simp only [k11_10, e11, k11_0, u11_66, k11_66, u11_72, k11_72, u11_78, k11_78, zO_nop, zO_goto, zO_iload_n0, zO_iload_n1, zO_iload_n2, zO_iload_n3, zO_iload, zO_lload_n0, zO_lload_n1, zO_lload_n2, zO_lload_n3, zO_lload, zO_aload_n0, zO_aload_n1, zO_aload_n2, zO_aload_n3, zO_aload, zO_istore_n0, zO_istore_n1, zO_istore_n2, zO_istore_n3, zO_istore, zO_astore_n0, zO_astore_n1, zO_astore_n2, zO_astore_n3, zO_astore, zO_lstore, zO_iinc, zO_iconst, zO_bipush, zO_sipush, zO_lconst0, zO_lconst1, zO_ldc, zO_ldc2_w, zO_iadd, zO_isub, zO_imul, zO_idiv, zO_irem, zO_ineg, zO_iand, zO_ior, zO_ixor, zO_ishl, zO_ishr, zO_iushr, zO_ladd, zO_lmul, zO_land, zO_lor, zO_lshl, zO_lcmp, zO_i2l, zO_l2i, zO_i2b, zO_dup0, zO_dup2, zO_dup200, zO_dup202, zO_dup220, zO_dup222, zO_ifCond_eq, zO_ifCond_ne, zO_ifCond_lt, zO_ifCond_ge, zO_ifCond_gt, zO_ifCond_le, zO_if_icmp_eq, zO_if_icmp_ne, zO_if_icmp_lt, zO_if_icmp_ge, zO_if_icmp_gt, zO_if_icmp_le, zO_getfield, zO_putfield, zO_iaload, zO_baload, zO_laload, zO_iastore, zO_bastore, zO_lastore, zO_arraylength, zO_invokevirtual, zO_lreturn, zO_areturn, zO_return_, zO_tableswitch, zO_lookupswitch, zO_is0, zO_is1, zO_is2, zO_is3, zO_is4, zO_is9, zO_is10, zO_is11, zO_is12, zO_ir1, zO_ir4, zB_c, zLd_0, zLd_s, zSt_c, zSt2_c, zU_c, zD_c, zY_c, zSw_n, zSw_c, zCall_c, zVirt_c, zP_0, zP_1, zP_2, zP_3, zP_4, zGet_n, zGet_z, zPut_n, zPut_z, List.length_cons, List.length_nil, List.take_succ_cons, List.take_zero, List.drop_succ_cons, List.drop_zero, List.reverse_cons, List.reverse_nil, List.nil_append, List.cons_append, List.append_nil, List.set_cons_zero, List.set_cons_succ, List.getD_cons_zero, List.getD_cons_succ, true_and, and_true, ne_eq, not_false_eq_true, not_true_eq_false, zif, Nat.reduceAdd, Nat.reduceLeDiff, Nat.reduceLT, Nat.reduceSub, Nat.reduceEqDiff, Nat.zero_le, Nat.lt_add_one, Nat.reduceMod, false_implies, true_implies, implies_true, forall_const, Int.reduceLE, Int.reduceLT, Int.reduceEq, Int.reduceNeg, ite10_0, ite10_1, zem, zem2, Classical.not_not, and_self, zT_1, zN_1, zGf_64_1, zPf_64_1, zGf_65_1, zPf_65_1, zGf_66_1, zPf_66_1, zGf_67_1, zGf_68_1, zGf_69_1, zGf_70_1, zGf_71_1, zGf_72_1, zGf_73_1, zPf_73_1, zT_15, zN_15, zGf_32_15, zPf_32_15, zGf_33_15, zAl_16, zAs_16, w2]
      refine ⟨fun h => absurd h (by omega), fun _ => ?_⟩
      rw [← hQ]
      exact ⟨rfl, w1, w2, fun a b c a0 a1 b0 b1 c0 c1 => w3 a b c a0 a1 b0 b1 c0 c1 (by omega)⟩
  simp only [e11, k11_0, zO_nop, zO_goto, zO_iload_n0, zO_iload_n1, zO_iload_n2, zO_iload_n3, zO_iload, zO_lload_n0, zO_lload_n1, zO_lload_n2, zO_lload_n3, zO_lload, zO_aload_n0, zO_aload_n1, zO_aload_n2, zO_aload_n3, zO_aload, zO_istore_n0, zO_istore_n1, zO_istore_n2, zO_istore_n3, zO_istore, zO_astore_n0, zO_astore_n1, zO_astore_n2, zO_astore_n3, zO_astore, zO_lstore, zO_iinc, zO_iconst, zO_bipush, zO_sipush, zO_lconst0, zO_lconst1, zO_ldc, zO_ldc2_w, zO_iadd, zO_isub, zO_imul, zO_idiv, zO_irem, zO_ineg, zO_iand, zO_ior, zO_ixor, zO_ishl, zO_ishr, zO_iushr, zO_ladd, zO_lmul, zO_land, zO_lor, zO_lshl, zO_lcmp, zO_i2l, zO_l2i, zO_i2b, zO_dup0, zO_dup2, zO_dup200, zO_dup202, zO_dup220, zO_dup222, zO_ifCond_eq, zO_ifCond_ne, zO_ifCond_lt, zO_ifCond_ge, zO_ifCond_gt, zO_ifCond_le, zO_if_icmp_eq, zO_if_icmp_ne, zO_if_icmp_lt, zO_if_icmp_ge, zO_if_icmp_gt, zO_if_icmp_le, zO_getfield, zO_putfield, zO_iaload, zO_baload, zO_laload, zO_iastore, zO_bastore, zO_lastore, zO_arraylength, zO_invokevirtual, zO_lreturn, zO_areturn, zO_return_, zO_tableswitch, zO_lookupswitch, zO_is0, zO_is1, zO_is2, zO_is3, zO_is4, zO_is9, zO_is10, zO_is11, zO_is12, zO_ir1, zO_ir4, zB_c, zLd_0, zLd_s, zSt_c, zSt2_c, zU_c, zD_c, zY_c, zSw_n, zSw_c, zCall_c, zVirt_c, zP_0, zP_1, zP_2, zP_3, zP_4, zGet_n, zGet_z, zPut_n, zPut_z, List.length_cons, List.length_nil, List.take_succ_cons, List.take_zero, List.drop_succ_cons, List.drop_zero, List.reverse_cons, List.reverse_nil, List.nil_append, List.cons_append, List.append_nil, List.set_cons_zero, List.set_cons_succ, List.getD_cons_zero, List.getD_cons_succ, true_and, and_true, ne_eq, not_false_eq_true, not_true_eq_false, zif, Nat.reduceAdd, Nat.reduceLeDiff, Nat.reduceLT, Nat.reduceSub, Nat.reduceEqDiff, Nat.zero_le, Nat.lt_add_one, Nat.reduceMod, false_implies, true_implies, implies_true, forall_const, Int.reduceLE, Int.reduceLT, Int.reduceEq, Int.reduceNeg, ite10_0, ite10_1, zem, zem2, Classical.not_not, and_self, zT_1, zN_1, zGf_64_1, zPf_64_1, zGf_65_1, zPf_65_1, zGf_66_1, zPf_66_1, zGf_67_1, zGf_68_1, zGf_69_1, zGf_70_1, zGf_71_1, zGf_72_1, zGf_73_1, zPf_73_1, zT_15, zN_15, zGf_32_15, zPf_32_15, zGf_33_15, zAl_16, zAs_16]
  refine hi 0 _ (by omega) (by omega) ?_ _ _
  rw [hJ]
  refine ⟨zsm_u zsm_rf (by decide), by rw [zu_at], fun a b c a0 a1 b0 b1 c0 c1 hl => ?_⟩
  exact absurd hl (by omega)
theorem K_becomeRules17 {d : Nat} {μ : zM} (hn : 1 ≤ μ 1 1 ∧ μ 1 1 ≤ 5) : zC (d + 4) 11 [(2, 17), (2, 1)] μ (fun r u => r = 0 ∧ zsm [17, 18] μ u ∧ u 17 0 = μ 1 1 ∧ ∀ a b c, 0 ≤ a → a < μ 1 1 → 0 ≤ b → b < μ 1 1 → 0 ≤ c → c < μ 1 1 → u 18 (25 * a + 5 * b + c) = oF (μ 1 0) (μ 1 1) (μ 1 2) (μ 2) a b c) := by
  obtain ⟨J, hJ⟩ : ∃ J : Int → zM → Prop, J = fun t w => zsm [17, 18] μ w ∧ w 17 0 = μ 1 1 ∧ ∀ a b c, 0 ≤ a → a < μ 1 1 → 0 ≤ b → b < μ 1 1 → 0 ≤ c → c < μ 1 1 → 25 * a + 5 * b + c < t → w 18 (25 * a + 5 * b + c) = oF (μ 1 0) (μ 1 1) (μ 1 2) (μ 2) a b c := ⟨_, rfl⟩
  have Jup : ∀ t t' w, J t w → (∀ a b c : Int, 0 ≤ a → a < μ 1 1 → 0 ≤ b → b < μ 1 1 → 0 ≤ c → c < μ 1 1 → 25 * a + 5 * b + c < t' → 25 * a + 5 * b + c < t) → J t' w := by
    intro t t' w h ht
    rw [hJ] at h ⊢
    exact ⟨h.1, h.2.1, fun a b c a0 a1 b0 b1 c0 c1 hl => h.2.2 a b c a0 a1 b0 b1 c0 c1 (ht a b c a0 a1 b0 b1 c0 c1 hl)⟩
  generalize hQ : (fun (r : Int) (u : zM) => r = 0 ∧ zsm [17, 18] μ u ∧ u 17 0 = μ 1 1 ∧ ∀ a b c, 0 ≤ a → a < μ 1 1 → 0 ≤ b → b < μ 1 1 → 0 ≤ c → c < μ 1 1 → u 18 (25 * a + 5 * b + c) = oF (μ 1 0) (μ 1 1) (μ 1 2) (μ 2) a b c) = Q
  have hk : ∀ i j : Int, 0 ≤ i → i < μ 1 1 → 0 ≤ j → j < μ 1 1 → (∀ w, J (25 * i + 5 * (j + 1)) w → ∀ x, zR (d + 3) 11 Q 20 [(2, 17), (2, 1), (0, i), (0, j + 1), x] [] w) → ∀ k w, 0 ≤ k → k ≤ μ 1 1 → J (25 * i + 5 * j + k) w → zR (d + 3) 11 Q 31 [(2, 17), (2, 1), (0, i), (0, j), (0, k)] [] w := by
    intro i j i0 i1 j0 j1 hnext
    refine zloop (n := μ 1 1) (Inv := fun k w => J (25 * i + 5 * j + k) w) ?_ ?_
    · intro k w k0 k1 hw ih
      have hw2 := hw
      rw [hJ] at hw2
      obtain ⟨w1, w2, w3⟩ := hw2
      have e1 : w 1 = μ 1 := w1 1 (by decide)
      have e2 : w 2 = μ 2 := w1 2 (by decide)
      rw [u11_31]
      simp only [k11_31, e11, k11_0, u11_66, k11_66, u11_72, k11_72, u11_78, k11_78, zO_nop, zO_goto, zO_iload_n0, zO_iload_n1, zO_iload_n2, zO_iload_n3, zO_iload, zO_lload_n0, zO_lload_n1, zO_lload_n2, zO_lload_n3, zO_lload, zO_aload_n0, zO_aload_n1, zO_aload_n2, zO_aload_n3, zO_aload, zO_istore_n0, zO_istore_n1, zO_istore_n2, zO_istore_n3, zO_istore, zO_astore_n0, zO_astore_n1, zO_astore_n2, zO_astore_n3, zO_astore, zO_lstore, zO_iinc, zO_iconst, zO_bipush, zO_sipush, zO_lconst0, zO_lconst1, zO_ldc, zO_ldc2_w, zO_iadd, zO_isub, zO_imul, zO_idiv, zO_irem, zO_ineg, zO_iand, zO_ior, zO_ixor, zO_ishl, zO_ishr, zO_iushr, zO_ladd, zO_lmul, zO_land, zO_lor, zO_lshl, zO_lcmp, zO_i2l, zO_l2i, zO_i2b, zO_dup0, zO_dup2, zO_dup200, zO_dup202, zO_dup220, zO_dup222, zO_ifCond_eq, zO_ifCond_ne, zO_ifCond_lt, zO_ifCond_ge, zO_ifCond_gt, zO_ifCond_le, zO_if_icmp_eq, zO_if_icmp_ne, zO_if_icmp_lt, zO_if_icmp_ge, zO_if_icmp_gt, zO_if_icmp_le, zO_getfield, zO_putfield, zO_iaload, zO_baload, zO_laload, zO_iastore, zO_bastore, zO_lastore, zO_arraylength, zO_invokevirtual, zO_lreturn, zO_areturn, zO_return_, zO_tableswitch, zO_lookupswitch, zO_is0, zO_is1, zO_is2, zO_is3, zO_is4, zO_is9, zO_is10, zO_is11, zO_is12, zO_ir1, zO_ir4, zB_c, zLd_0, zLd_s, zSt_c, zSt2_c, zU_c, zD_c, zY_c, zSw_n, zSw_c, zCall_c, zVirt_c, zP_0, zP_1, zP_2, zP_3, zP_4, zGet_n, zGet_z, zPut_n, zPut_z, List.length_cons, List.length_nil, List.take_succ_cons, List.take_zero, List.drop_succ_cons, List.drop_zero, List.reverse_cons, List.reverse_nil, List.nil_append, List.cons_append, List.append_nil, List.set_cons_zero, List.set_cons_succ, List.getD_cons_zero, List.getD_cons_succ, true_and, and_true, ne_eq, not_false_eq_true, not_true_eq_false, zif, Nat.reduceAdd, Nat.reduceLeDiff, Nat.reduceLT, Nat.reduceSub, Nat.reduceEqDiff, Nat.zero_le, Nat.lt_add_one, Nat.reduceMod, false_implies, true_implies, implies_true, forall_const, Int.reduceLE, Int.reduceLT, Int.reduceEq, Int.reduceNeg, ite10_0, ite10_1, zem, zem2, Classical.not_not, and_self, zT_1, zN_1, zGf_64_1, zPf_64_1, zGf_65_1, zPf_65_1, zGf_66_1, zPf_66_1, zGf_67_1, zGf_68_1, zGf_69_1, zGf_70_1, zGf_71_1, zGf_72_1, zGf_73_1, zPf_73_1, zT_17, zN_17, zGf_32_17, zPf_32_17, zGf_33_17, zAl_18, zAs_18]
      simp only [K_place (d := d + 2) (show 0 ≤ i ∧ i ≤ 4 by omega) (show 0 ≤ j ∧ j ≤ 4 by omega) (show 0 ≤ k ∧ k ≤ 4 by omega)]
      rw [K_oftenByKind (by rw [e1]; exact hn) (by rw [e1]; omega) (by rw [e1]; omega) (by rw [e1]; omega), e1, e2, w2, zw_e (by omega) (by omega)]
      refine ⟨fun _ => ⟨by omega, by omega, ih _ ?_⟩, fun h => absurd k1 h⟩
      rw [hJ]
      refine ⟨zsm_u w1 (by decide), ?_, ?_⟩
      · rw [zu_ne (by omega)]; exact w2
      · intro a b c a0 a1 b0 b1 c0 c1 hlt
        rw [zu_d]
        by_cases e : 25 * a + 5 * b + c = 25 * i + 5 * j + k
        · obtain ⟨rfl, rfl, rfl⟩ : a = i ∧ b = j ∧ c = k := by omega
          rw [if_pos ⟨rfl, rfl⟩]
        · rw [if_neg (by omega)]
          exact w3 a b c a0 a1 b0 b1 c0 c1 (by omega)
    · intro w hw
      have hw2 := hw
      rw [hJ] at hw2
      obtain ⟨w1, w2, w3⟩ := hw2
      rw [u11_31]
      simp only [k11_31, e11, k11_0, u11_66, k11_66, u11_72, k11_72, u11_78, k11_78, zO_nop, zO_goto, zO_iload_n0, zO_iload_n1, zO_iload_n2, zO_iload_n3, zO_iload, zO_lload_n0, zO_lload_n1, zO_lload_n2, zO_lload_n3, zO_lload, zO_aload_n0, zO_aload_n1, zO_aload_n2, zO_aload_n3, zO_aload, zO_istore_n0, zO_istore_n1, zO_istore_n2, zO_istore_n3, zO_istore, zO_astore_n0, zO_astore_n1, zO_astore_n2, zO_astore_n3, zO_astore, zO_lstore, zO_iinc, zO_iconst, zO_bipush, zO_sipush, zO_lconst0, zO_lconst1, zO_ldc, zO_ldc2_w, zO_iadd, zO_isub, zO_imul, zO_idiv, zO_irem, zO_ineg, zO_iand, zO_ior, zO_ixor, zO_ishl, zO_ishr, zO_iushr, zO_ladd, zO_lmul, zO_land, zO_lor, zO_lshl, zO_lcmp, zO_i2l, zO_l2i, zO_i2b, zO_dup0, zO_dup2, zO_dup200, zO_dup202, zO_dup220, zO_dup222, zO_ifCond_eq, zO_ifCond_ne, zO_ifCond_lt, zO_ifCond_ge, zO_ifCond_gt, zO_ifCond_le, zO_if_icmp_eq, zO_if_icmp_ne, zO_if_icmp_lt, zO_if_icmp_ge, zO_if_icmp_gt, zO_if_icmp_le, zO_getfield, zO_putfield, zO_iaload, zO_baload, zO_laload, zO_iastore, zO_bastore, zO_lastore, zO_arraylength, zO_invokevirtual, zO_lreturn, zO_areturn, zO_return_, zO_tableswitch, zO_lookupswitch, zO_is0, zO_is1, zO_is2, zO_is3, zO_is4, zO_is9, zO_is10, zO_is11, zO_is12, zO_ir1, zO_ir4, zB_c, zLd_0, zLd_s, zSt_c, zSt2_c, zU_c, zD_c, zY_c, zSw_n, zSw_c, zCall_c, zVirt_c, zP_0, zP_1, zP_2, zP_3, zP_4, zGet_n, zGet_z, zPut_n, zPut_z, List.length_cons, List.length_nil, List.take_succ_cons, List.take_zero, List.drop_succ_cons, List.drop_zero, List.reverse_cons, List.reverse_nil, List.nil_append, List.cons_append, List.append_nil, List.set_cons_zero, List.set_cons_succ, List.getD_cons_zero, List.getD_cons_succ, true_and, and_true, ne_eq, not_false_eq_true, not_true_eq_false, zif, Nat.reduceAdd, Nat.reduceLeDiff, Nat.reduceLT, Nat.reduceSub, Nat.reduceEqDiff, Nat.zero_le, Nat.lt_add_one, Nat.reduceMod, false_implies, true_implies, implies_true, forall_const, Int.reduceLE, Int.reduceLT, Int.reduceEq, Int.reduceNeg, ite10_0, ite10_1, zem, zem2, Classical.not_not, and_self, zT_1, zN_1, zGf_64_1, zPf_64_1, zGf_65_1, zPf_65_1, zGf_66_1, zPf_66_1, zGf_67_1, zGf_68_1, zGf_69_1, zGf_70_1, zGf_71_1, zGf_72_1, zGf_73_1, zPf_73_1, zT_17, zN_17, zGf_32_17, zPf_32_17, zGf_33_17, zAl_18, zAs_18, w2]
      refine ⟨fun h => absurd h (by omega), fun _ => ?_⟩
      rw [zw_e (by omega) (by omega)]
      exact hnext w (Jup _ _ w hw (fun a b c a0 a1 b0 b1 c0 c1 hl => by omega)) _
  have hj : ∀ i : Int, 0 ≤ i → i < μ 1 1 → (∀ w, J (25 * (i + 1)) w → ∀ x y, zR (d + 3) 11 Q 10 [(2, 17), (2, 1), (0, i + 1), x, y] [] w) → ∀ j w, 0 ≤ j → j ≤ μ 1 1 → J (25 * i + 5 * j) w → ∀ x, zR (d + 3) 11 Q 20 [(2, 17), (2, 1), (0, i), (0, j), x] [] w := by
    intro i i0 i1 hnext
    refine zloop (n := μ 1 1) (Inv := fun j w => J (25 * i + 5 * j) w) (R := fun j w => ∀ x, zR (d + 3) 11 Q 20 [(2, 17), (2, 1), (0, i), (0, j), x] [] w) ?_ ?_
    · intro j w j0 j1 hw ih x
      have hw2 := hw
      rw [hJ] at hw2
      obtain ⟨w1, w2, w3⟩ := hw2
      rw [u11_20]
      simp only [k11_20, e11, k11_0, u11_66, k11_66, u11_72, k11_72, u11_78, k11_78, zO_nop, zO_goto, zO_iload_n0, zO_iload_n1, zO_iload_n2, zO_iload_n3, zO_iload, zO_lload_n0, zO_lload_n1, zO_lload_n2, zO_lload_n3, zO_lload, zO_aload_n0, zO_aload_n1, zO_aload_n2, zO_aload_n3, zO_aload, zO_istore_n0, zO_istore_n1, zO_istore_n2, zO_istore_n3, zO_istore, zO_astore_n0, zO_astore_n1, zO_astore_n2, zO_astore_n3, zO_astore, zO_lstore, zO_iinc, zO_iconst, zO_bipush, zO_sipush, zO_lconst0, zO_lconst1, zO_ldc, zO_ldc2_w, zO_iadd, zO_isub, zO_imul, zO_idiv, zO_irem, zO_ineg, zO_iand, zO_ior, zO_ixor, zO_ishl, zO_ishr, zO_iushr, zO_ladd, zO_lmul, zO_land, zO_lor, zO_lshl, zO_lcmp, zO_i2l, zO_l2i, zO_i2b, zO_dup0, zO_dup2, zO_dup200, zO_dup202, zO_dup220, zO_dup222, zO_ifCond_eq, zO_ifCond_ne, zO_ifCond_lt, zO_ifCond_ge, zO_ifCond_gt, zO_ifCond_le, zO_if_icmp_eq, zO_if_icmp_ne, zO_if_icmp_lt, zO_if_icmp_ge, zO_if_icmp_gt, zO_if_icmp_le, zO_getfield, zO_putfield, zO_iaload, zO_baload, zO_laload, zO_iastore, zO_bastore, zO_lastore, zO_arraylength, zO_invokevirtual, zO_lreturn, zO_areturn, zO_return_, zO_tableswitch, zO_lookupswitch, zO_is0, zO_is1, zO_is2, zO_is3, zO_is4, zO_is9, zO_is10, zO_is11, zO_is12, zO_ir1, zO_ir4, zB_c, zLd_0, zLd_s, zSt_c, zSt2_c, zU_c, zD_c, zY_c, zSw_n, zSw_c, zCall_c, zVirt_c, zP_0, zP_1, zP_2, zP_3, zP_4, zGet_n, zGet_z, zPut_n, zPut_z, List.length_cons, List.length_nil, List.take_succ_cons, List.take_zero, List.drop_succ_cons, List.drop_zero, List.reverse_cons, List.reverse_nil, List.nil_append, List.cons_append, List.append_nil, List.set_cons_zero, List.set_cons_succ, List.getD_cons_zero, List.getD_cons_succ, true_and, and_true, ne_eq, not_false_eq_true, not_true_eq_false, zif, Nat.reduceAdd, Nat.reduceLeDiff, Nat.reduceLT, Nat.reduceSub, Nat.reduceEqDiff, Nat.zero_le, Nat.lt_add_one, Nat.reduceMod, false_implies, true_implies, implies_true, forall_const, Int.reduceLE, Int.reduceLT, Int.reduceEq, Int.reduceNeg, ite10_0, ite10_1, zem, zem2, Classical.not_not, and_self, zT_1, zN_1, zGf_64_1, zPf_64_1, zGf_65_1, zPf_65_1, zGf_66_1, zPf_66_1, zGf_67_1, zGf_68_1, zGf_69_1, zGf_70_1, zGf_71_1, zGf_72_1, zGf_73_1, zPf_73_1, zT_17, zN_17, zGf_32_17, zPf_32_17, zGf_33_17, zAl_18, zAs_18, w2]
      exact ⟨fun _ => hk i j i0 i1 j0 j1 ih 0 w (by omega) (by omega) (by rw [Int.add_zero]; exact hw), fun h => absurd j1 h⟩
    · intro w hw x
      have hw2 := hw
      rw [hJ] at hw2
      obtain ⟨w1, w2, w3⟩ := hw2
      rw [u11_20]
      simp only [k11_20, e11, k11_0, u11_66, k11_66, u11_72, k11_72, u11_78, k11_78, zO_nop, zO_goto, zO_iload_n0, zO_iload_n1, zO_iload_n2, zO_iload_n3, zO_iload, zO_lload_n0, zO_lload_n1, zO_lload_n2, zO_lload_n3, zO_lload, zO_aload_n0, zO_aload_n1, zO_aload_n2, zO_aload_n3, zO_aload, zO_istore_n0, zO_istore_n1, zO_istore_n2, zO_istore_n3, zO_istore, zO_astore_n0, zO_astore_n1, zO_astore_n2, zO_astore_n3, zO_astore, zO_lstore, zO_iinc, zO_iconst, zO_bipush, zO_sipush, zO_lconst0, zO_lconst1, zO_ldc, zO_ldc2_w, zO_iadd, zO_isub, zO_imul, zO_idiv, zO_irem, zO_ineg, zO_iand, zO_ior, zO_ixor, zO_ishl, zO_ishr, zO_iushr, zO_ladd, zO_lmul, zO_land, zO_lor, zO_lshl, zO_lcmp, zO_i2l, zO_l2i, zO_i2b, zO_dup0, zO_dup2, zO_dup200, zO_dup202, zO_dup220, zO_dup222, zO_ifCond_eq, zO_ifCond_ne, zO_ifCond_lt, zO_ifCond_ge, zO_ifCond_gt, zO_ifCond_le, zO_if_icmp_eq, zO_if_icmp_ne, zO_if_icmp_lt, zO_if_icmp_ge, zO_if_icmp_gt, zO_if_icmp_le, zO_getfield, zO_putfield, zO_iaload, zO_baload, zO_laload, zO_iastore, zO_bastore, zO_lastore, zO_arraylength, zO_invokevirtual, zO_lreturn, zO_areturn, zO_return_, zO_tableswitch, zO_lookupswitch, zO_is0, zO_is1, zO_is2, zO_is3, zO_is4, zO_is9, zO_is10, zO_is11, zO_is12, zO_ir1, zO_ir4, zB_c, zLd_0, zLd_s, zSt_c, zSt2_c, zU_c, zD_c, zY_c, zSw_n, zSw_c, zCall_c, zVirt_c, zP_0, zP_1, zP_2, zP_3, zP_4, zGet_n, zGet_z, zPut_n, zPut_z, List.length_cons, List.length_nil, List.take_succ_cons, List.take_zero, List.drop_succ_cons, List.drop_zero, List.reverse_cons, List.reverse_nil, List.nil_append, List.cons_append, List.append_nil, List.set_cons_zero, List.set_cons_succ, List.getD_cons_zero, List.getD_cons_succ, true_and, and_true, ne_eq, not_false_eq_true, not_true_eq_false, zif, Nat.reduceAdd, Nat.reduceLeDiff, Nat.reduceLT, Nat.reduceSub, Nat.reduceEqDiff, Nat.zero_le, Nat.lt_add_one, Nat.reduceMod, false_implies, true_implies, implies_true, forall_const, Int.reduceLE, Int.reduceLT, Int.reduceEq, Int.reduceNeg, ite10_0, ite10_1, zem, zem2, Classical.not_not, and_self, zT_1, zN_1, zGf_64_1, zPf_64_1, zGf_65_1, zPf_65_1, zGf_66_1, zPf_66_1, zGf_67_1, zGf_68_1, zGf_69_1, zGf_70_1, zGf_71_1, zGf_72_1, zGf_73_1, zPf_73_1, zT_17, zN_17, zGf_32_17, zPf_32_17, zGf_33_17, zAl_18, zAs_18, w2]
      refine ⟨fun h => absurd h (by omega), fun _ => ?_⟩
      rw [zw_e (by omega) (by omega)]
      exact hnext w (Jup _ _ w hw (fun a b c a0 a1 b0 b1 c0 c1 hl => by omega)) _ _
  have hi : ∀ i w, 0 ≤ i → i ≤ μ 1 1 → J (25 * i) w → ∀ x y, zR (d + 3) 11 Q 10 [(2, 17), (2, 1), (0, i), x, y] [] w := by
    refine zloop (n := μ 1 1) (Inv := fun i w => J (25 * i) w) (R := fun i w => ∀ x y, zR (d + 3) 11 Q 10 [(2, 17), (2, 1), (0, i), x, y] [] w) ?_ ?_
    · intro i w i0 i1 hw ih x y
      have hw2 := hw
      rw [hJ] at hw2
      obtain ⟨w1, w2, w3⟩ := hw2
      rw [u11_10]
      simp only [k11_10, e11, k11_0, u11_66, k11_66, u11_72, k11_72, u11_78, k11_78, zO_nop, zO_goto, zO_iload_n0, zO_iload_n1, zO_iload_n2, zO_iload_n3, zO_iload, zO_lload_n0, zO_lload_n1, zO_lload_n2, zO_lload_n3, zO_lload, zO_aload_n0, zO_aload_n1, zO_aload_n2, zO_aload_n3, zO_aload, zO_istore_n0, zO_istore_n1, zO_istore_n2, zO_istore_n3, zO_istore, zO_astore_n0, zO_astore_n1, zO_astore_n2, zO_astore_n3, zO_astore, zO_lstore, zO_iinc, zO_iconst, zO_bipush, zO_sipush, zO_lconst0, zO_lconst1, zO_ldc, zO_ldc2_w, zO_iadd, zO_isub, zO_imul, zO_idiv, zO_irem, zO_ineg, zO_iand, zO_ior, zO_ixor, zO_ishl, zO_ishr, zO_iushr, zO_ladd, zO_lmul, zO_land, zO_lor, zO_lshl, zO_lcmp, zO_i2l, zO_l2i, zO_i2b, zO_dup0, zO_dup2, zO_dup200, zO_dup202, zO_dup220, zO_dup222, zO_ifCond_eq, zO_ifCond_ne, zO_ifCond_lt, zO_ifCond_ge, zO_ifCond_gt, zO_ifCond_le, zO_if_icmp_eq, zO_if_icmp_ne, zO_if_icmp_lt, zO_if_icmp_ge, zO_if_icmp_gt, zO_if_icmp_le, zO_getfield, zO_putfield, zO_iaload, zO_baload, zO_laload, zO_iastore, zO_bastore, zO_lastore, zO_arraylength, zO_invokevirtual, zO_lreturn, zO_areturn, zO_return_, zO_tableswitch, zO_lookupswitch, zO_is0, zO_is1, zO_is2, zO_is3, zO_is4, zO_is9, zO_is10, zO_is11, zO_is12, zO_ir1, zO_ir4, zB_c, zLd_0, zLd_s, zSt_c, zSt2_c, zU_c, zD_c, zY_c, zSw_n, zSw_c, zCall_c, zVirt_c, zP_0, zP_1, zP_2, zP_3, zP_4, zGet_n, zGet_z, zPut_n, zPut_z, List.length_cons, List.length_nil, List.take_succ_cons, List.take_zero, List.drop_succ_cons, List.drop_zero, List.reverse_cons, List.reverse_nil, List.nil_append, List.cons_append, List.append_nil, List.set_cons_zero, List.set_cons_succ, List.getD_cons_zero, List.getD_cons_succ, true_and, and_true, ne_eq, not_false_eq_true, not_true_eq_false, zif, Nat.reduceAdd, Nat.reduceLeDiff, Nat.reduceLT, Nat.reduceSub, Nat.reduceEqDiff, Nat.zero_le, Nat.lt_add_one, Nat.reduceMod, false_implies, true_implies, implies_true, forall_const, Int.reduceLE, Int.reduceLT, Int.reduceEq, Int.reduceNeg, ite10_0, ite10_1, zem, zem2, Classical.not_not, and_self, zT_1, zN_1, zGf_64_1, zPf_64_1, zGf_65_1, zPf_65_1, zGf_66_1, zPf_66_1, zGf_67_1, zGf_68_1, zGf_69_1, zGf_70_1, zGf_71_1, zGf_72_1, zGf_73_1, zPf_73_1, zT_17, zN_17, zGf_32_17, zPf_32_17, zGf_33_17, zAl_18, zAs_18, w2]
      exact ⟨fun _ => hj i i0 i1 ih 0 w (by omega) (by omega) (by rw [Int.mul_zero, Int.add_zero]; exact hw) y, fun h => absurd i1 h⟩
    · intro w hw x y
      have hw2 := hw
      rw [hJ] at hw2
      obtain ⟨w1, w2, w3⟩ := hw2
      rw [u11_10]
      simp only [k11_10, e11, k11_0, u11_66, k11_66, u11_72, k11_72, u11_78, k11_78, zO_nop, zO_goto, zO_iload_n0, zO_iload_n1, zO_iload_n2, zO_iload_n3, zO_iload, zO_lload_n0, zO_lload_n1, zO_lload_n2, zO_lload_n3, zO_lload, zO_aload_n0, zO_aload_n1, zO_aload_n2, zO_aload_n3, zO_aload, zO_istore_n0, zO_istore_n1, zO_istore_n2, zO_istore_n3, zO_istore, zO_astore_n0, zO_astore_n1, zO_astore_n2, zO_astore_n3, zO_astore, zO_lstore, zO_iinc, zO_iconst, zO_bipush, zO_sipush, zO_lconst0, zO_lconst1, zO_ldc, zO_ldc2_w, zO_iadd, zO_isub, zO_imul, zO_idiv, zO_irem, zO_ineg, zO_iand, zO_ior, zO_ixor, zO_ishl, zO_ishr, zO_iushr, zO_ladd, zO_lmul, zO_land, zO_lor, zO_lshl, zO_lcmp, zO_i2l, zO_l2i, zO_i2b, zO_dup0, zO_dup2, zO_dup200, zO_dup202, zO_dup220, zO_dup222, zO_ifCond_eq, zO_ifCond_ne, zO_ifCond_lt, zO_ifCond_ge, zO_ifCond_gt, zO_ifCond_le, zO_if_icmp_eq, zO_if_icmp_ne, zO_if_icmp_lt, zO_if_icmp_ge, zO_if_icmp_gt, zO_if_icmp_le, zO_getfield, zO_putfield, zO_iaload, zO_baload, zO_laload, zO_iastore, zO_bastore, zO_lastore, zO_arraylength, zO_invokevirtual, zO_lreturn, zO_areturn, zO_return_, zO_tableswitch, zO_lookupswitch, zO_is0, zO_is1, zO_is2, zO_is3, zO_is4, zO_is9, zO_is10, zO_is11, zO_is12, zO_ir1, zO_ir4, zB_c, zLd_0, zLd_s, zSt_c, zSt2_c, zU_c, zD_c, zY_c, zSw_n, zSw_c, zCall_c, zVirt_c, zP_0, zP_1, zP_2, zP_3, zP_4, zGet_n, zGet_z, zPut_n, zPut_z, List.length_cons, List.length_nil, List.take_succ_cons, List.take_zero, List.drop_succ_cons, List.drop_zero, List.reverse_cons, List.reverse_nil, List.nil_append, List.cons_append, List.append_nil, List.set_cons_zero, List.set_cons_succ, List.getD_cons_zero, List.getD_cons_succ, true_and, and_true, ne_eq, not_false_eq_true, not_true_eq_false, zif, Nat.reduceAdd, Nat.reduceLeDiff, Nat.reduceLT, Nat.reduceSub, Nat.reduceEqDiff, Nat.zero_le, Nat.lt_add_one, Nat.reduceMod, false_implies, true_implies, implies_true, forall_const, Int.reduceLE, Int.reduceLT, Int.reduceEq, Int.reduceNeg, ite10_0, ite10_1, zem, zem2, Classical.not_not, and_self, zT_1, zN_1, zGf_64_1, zPf_64_1, zGf_65_1, zPf_65_1, zGf_66_1, zPf_66_1, zGf_67_1, zGf_68_1, zGf_69_1, zGf_70_1, zGf_71_1, zGf_72_1, zGf_73_1, zPf_73_1, zT_17, zN_17, zGf_32_17, zPf_32_17, zGf_33_17, zAl_18, zAs_18, w2]
      refine ⟨fun h => absurd h (by omega), fun _ => ?_⟩
      rw [← hQ]
      exact ⟨rfl, w1, w2, fun a b c a0 a1 b0 b1 c0 c1 => w3 a b c a0 a1 b0 b1 c0 c1 (by omega)⟩
  simp only [e11, k11_0, zO_nop, zO_goto, zO_iload_n0, zO_iload_n1, zO_iload_n2, zO_iload_n3, zO_iload, zO_lload_n0, zO_lload_n1, zO_lload_n2, zO_lload_n3, zO_lload, zO_aload_n0, zO_aload_n1, zO_aload_n2, zO_aload_n3, zO_aload, zO_istore_n0, zO_istore_n1, zO_istore_n2, zO_istore_n3, zO_istore, zO_astore_n0, zO_astore_n1, zO_astore_n2, zO_astore_n3, zO_astore, zO_lstore, zO_iinc, zO_iconst, zO_bipush, zO_sipush, zO_lconst0, zO_lconst1, zO_ldc, zO_ldc2_w, zO_iadd, zO_isub, zO_imul, zO_idiv, zO_irem, zO_ineg, zO_iand, zO_ior, zO_ixor, zO_ishl, zO_ishr, zO_iushr, zO_ladd, zO_lmul, zO_land, zO_lor, zO_lshl, zO_lcmp, zO_i2l, zO_l2i, zO_i2b, zO_dup0, zO_dup2, zO_dup200, zO_dup202, zO_dup220, zO_dup222, zO_ifCond_eq, zO_ifCond_ne, zO_ifCond_lt, zO_ifCond_ge, zO_ifCond_gt, zO_ifCond_le, zO_if_icmp_eq, zO_if_icmp_ne, zO_if_icmp_lt, zO_if_icmp_ge, zO_if_icmp_gt, zO_if_icmp_le, zO_getfield, zO_putfield, zO_iaload, zO_baload, zO_laload, zO_iastore, zO_bastore, zO_lastore, zO_arraylength, zO_invokevirtual, zO_lreturn, zO_areturn, zO_return_, zO_tableswitch, zO_lookupswitch, zO_is0, zO_is1, zO_is2, zO_is3, zO_is4, zO_is9, zO_is10, zO_is11, zO_is12, zO_ir1, zO_ir4, zB_c, zLd_0, zLd_s, zSt_c, zSt2_c, zU_c, zD_c, zY_c, zSw_n, zSw_c, zCall_c, zVirt_c, zP_0, zP_1, zP_2, zP_3, zP_4, zGet_n, zGet_z, zPut_n, zPut_z, List.length_cons, List.length_nil, List.take_succ_cons, List.take_zero, List.drop_succ_cons, List.drop_zero, List.reverse_cons, List.reverse_nil, List.nil_append, List.cons_append, List.append_nil, List.set_cons_zero, List.set_cons_succ, List.getD_cons_zero, List.getD_cons_succ, true_and, and_true, ne_eq, not_false_eq_true, not_true_eq_false, zif, Nat.reduceAdd, Nat.reduceLeDiff, Nat.reduceLT, Nat.reduceSub, Nat.reduceEqDiff, Nat.zero_le, Nat.lt_add_one, Nat.reduceMod, false_implies, true_implies, implies_true, forall_const, Int.reduceLE, Int.reduceLT, Int.reduceEq, Int.reduceNeg, ite10_0, ite10_1, zem, zem2, Classical.not_not, and_self, zT_1, zN_1, zGf_64_1, zPf_64_1, zGf_65_1, zPf_65_1, zGf_66_1, zPf_66_1, zGf_67_1, zGf_68_1, zGf_69_1, zGf_70_1, zGf_71_1, zGf_72_1, zGf_73_1, zPf_73_1, zT_17, zN_17, zGf_32_17, zPf_32_17, zGf_33_17, zAl_18, zAs_18]
  refine hi 0 _ (by omega) (by omega) ?_ _ _
  rw [hJ]
  refine ⟨zsm_u zsm_rf (by decide), by rw [zu_at], fun a b c a0 a1 b0 b1 c0 c1 hl => ?_⟩
  exact absurd hl (by omega)
end
section
/-! CLASH: what both sides look for -/
def zrg (n a : Int) : Prop := 0 ≤ a ∧ a < n
def zFu (o n : Int) (N : Int → Int → Int → Int) (μ : zM) : Prop := ∀ a b c, zrg n a → zrg n b → zrg n c → μ o (25 * a + 5 * b + c) = N a b c
def zNb (n : Int) (N : Int → Int → Int → Int) : Prop := ∀ a b c, zrg n a → zrg n b → zrg n c → 0 ≤ N a b c ∧ N a b c ≤ 9
/-- ONE changes nothing -/
def zNp (n : Int) (N : Int → Int → Int → Int) : Prop := ∀ a c, zrg n a → zrg n c → N 0 a c = (if c = a then 1 else 0) ∧ N a 0 c = (if c = a then 1 else 0)
def clA (N : Int → Int → Int → Int) (n i j k l : Int) : Int := zs (fun m => N i j m * N m k l) n
def clB (N : Int → Int → Int → Int) (n i j k l : Int) : Int := zs (fun m => N j k m * N i m l) n
def clM (N : Int → Int → Int → Int) (n i j k l : Int) : Prop := ¬ clA N n i j k l = clB N n i j k l
def isC (N : Int → Int → Int → Int) (n r : Int) : Prop := (r = -5 ∧ ∀ i j k l, zrg n i → zrg n j → zrg n k → zrg n l → ¬ clM N n i j k l) ∨ ∃ i j k l, zrg n i ∧ zrg n j ∧ zrg n k ∧ zrg n l ∧ clM N n i j k l ∧ r = 1000 * i + 100 * j + 10 * k + l ∧ ∀ i' j' k' l', zrg n i' → zrg n j' → zrg n k' → zrg n l' → clM N n i' j' k' l' → r ≤ 1000 * i' + 100 * j' + 10 * k' + l'
theorem isC_one {N : Int → Int → Int → Int} {n r r' : Int} (h : isC N n r) (h' : isC N n r') : r = r' := by
  rcases h with ⟨e, h1⟩ | ⟨i, j, k, l, g1, g2, g3, g4, g5, g6, g7⟩
  · rcases h' with ⟨e', -⟩ | ⟨i, j, k, l, g1, g2, g3, g4, g5, -, -⟩
    · omega
    · exact absurd g5 (h1 i j k l g1 g2 g3 g4)
  · rcases h' with ⟨e', h1⟩ | ⟨i', j', k', l', q1, q2, q3, q4, q5, q6, q7⟩
    · exact absurd g5 (h1 i j k l g1 g2 g3 g4)
    · have a1 := g7 i' j' k' l' q1 q2 q3 q4 q5
      have a2 := q7 i j k l g1 g2 g3 g4 g5
      omega
theorem zs_delta {g : Int → Int} {n j : Int} (hj : zrg n j) : zs (fun m => (if m = j then 1 else 0) * g m) n = g j ∧ zs (fun m => g m * (if j = m then 1 else 0)) n = g j := by
  have key : ∀ (k : Nat), (zs (fun m => (if m = j then 1 else 0) * g m) k = if j < k then g j else 0) ∧ (zs (fun m => g m * (if j = m then 1 else 0)) k = if j < k then g j else 0) := by
    intro k
    induction k with
    | zero =>
      have h0 : ¬ j < ((0 : Nat) : Int) := by have := hj.1; omega
      rw [if_neg h0]
      exact ⟨rfl, rfl⟩
    | succ k ih =>
      rw [show ((k + 1 : Nat) : Int) = (k : Int) + 1 from rfl, zs_s _ (by omega), zs_s _ (by omega), ih.1, ih.2]
      by_cases e : (k : Int) = j
      · have e' : j = (k : Int) := e.symm
        simp only [e, if_true]
        rw [if_neg (by omega), if_pos (by omega)]
        simp
      · have e' : ¬ j = (k : Int) := fun z => e z.symm
        simp only [e, e', if_false, Int.zero_mul, Int.mul_zero, Int.add_zero]
        by_cases e2 : j < (k : Int)
        · rw [if_pos e2, if_pos (by omega)]; exact ⟨rfl, rfl⟩
        · rw [if_neg e2, if_neg (by omega)]; exact ⟨rfl, rfl⟩
  have h1 := hj.1
  have h2 := hj.2
  have := key n.toNat
  rw [show ((n.toNat : Nat) : Int) = n by omega, if_pos h2] at this
  exact this
theorem clM_one {N : Int → Int → Int → Int} {n i j k l : Int} (hp : zNp n N) (hi : zrg n i) (hj : zrg n j) (hk : zrg n k) (hl : zrg n l) (h0 : i = 0 ∨ j = 0 ∨ k = 0) : ¬ clM N n i j k l := by
  intro h
  apply h
  unfold clA clB
  have hn : 0 ≤ n := by have := hi.1; have := hi.2; omega
  rcases h0 with rfl | rfl | rfl
  · rw [zs_congr (g := fun m => (if m = j then 1 else 0) * N m k l) (n := n) (fun m m0 m1 => by rw [(hp j m hj ⟨m0, m1⟩).1]) n hn (by omega)]
    rw [zs_congr (f := fun m => N j k m * N 0 m l) (g := fun m => N j k m * (if l = m then 1 else 0)) (n := n) (fun m m0 m1 => by rw [(hp m l ⟨m0, m1⟩ hl).1]) n hn (by omega)]
    rw [(zs_delta hj).1, (zs_delta (g := fun m => N j k m) hl).2]
  · rw [zs_congr (g := fun m => (if m = i then 1 else 0) * N m k l) (n := n) (fun m m0 m1 => by rw [(hp i m hi ⟨m0, m1⟩).2]) n hn (by omega)]
    rw [zs_congr (f := fun m => N 0 k m * N i m l) (g := fun m => (if m = k then 1 else 0) * N i m l) (n := n) (fun m m0 m1 => by rw [(hp k m hk ⟨m0, m1⟩).1]) n hn (by omega)]
    rw [(zs_delta (g := fun m => N m k l) hi).1, (zs_delta (g := fun m => N i m l) hk).1]
  · rw [zs_congr (g := fun m => N i j m * (if l = m then 1 else 0)) (n := n) (fun m m0 m1 => by rw [(hp m l ⟨m0, m1⟩ hl).2]) n hn (by omega)]
    rw [zs_congr (f := fun m => N j 0 m * N i m l) (g := fun m => (if m = j then 1 else 0) * N i m l) (n := n) (fun m m0 m1 => by rw [(hp j m hj ⟨m0, m1⟩).2]) n hn (by omega)]
    rw [(zs_delta (g := fun m => N i j m) hl).2, (zs_delta (g := fun m => N i m l) hj).1]
theorem cl_bd {N : Int → Int → Int → Int} {n i j k l m : Int} (hn : 1 ≤ n ∧ n ≤ 5) (hb : zNb n N) (hi : zrg n i) (hj : zrg n j) (hk : zrg n k) (hl : zrg n l) (m0 : 0 ≤ m) (m1 : m ≤ n) : (0 ≤ zs (fun m => N i j m * N m k l) m ∧ zs (fun m => N i j m * N m k l) m ≤ 405) ∧ (0 ≤ zs (fun m => N j k m * N i m l) m ∧ zs (fun m => N j k m * N i m l) m ≤ 405) := by
  have h1 := zs_bd (f := fun m => N i j m * N m k l) (b := 81) (n := n) (fun m m0 m1 => zmul_bd (hb i j m hi hj ⟨m0, m1⟩) (hb m k l ⟨m0, m1⟩ hk hl)) m m0 m1
  have h2 := zs_bd (f := fun m => N j k m * N i m l) (b := 81) (n := n) (fun m m0 m1 => zmul_bd (hb j k m hj hk ⟨m0, m1⟩) (hb i m l hi ⟨m0, m1⟩ hl)) m m0 m1
  omega
theorem K_firstClashOf15 {d : Nat} {n i j k : Int} {N : Int → Int → Int → Int} {μ : zM} (hn : 1 ≤ n ∧ n ≤ 5) (hs : μ 15 0 = n) (hF : zFu 16 n N μ) (hb : zNb n N) (hi : zrg n i) (hj : zrg n j) (hk : zrg n k) : zC (d + 3) 20 [(2, 15), (0, i), (0, j), (0, k)] μ (fun r u => u = μ ∧ 0 ≤ r ∧ r ≤ n ∧ (r < n → clM N n i j k r) ∧ ∀ l, 0 ≤ l → l < r → ¬ clM N n i j k l) := by
  generalize hQ : (fun (r : Int) (u : zM) => u = μ ∧ 0 ≤ r ∧ r ≤ n ∧ (r < n → clM N n i j k r) ∧ ∀ l, 0 ≤ l → l < r → ¬ clM N n i j k l) = Q
  have b4 : ∀ x, zrg n x → 0 ≤ x ∧ x ≤ 4 := fun x h => ⟨h.1, by have := h.2; omega⟩
  have hm : ∀ l, zrg n l → (∀ m, zR (d + 2) 20 Q 82 [(2, 15), (0, i), (0, j), (0, k), (0, l), (0, clA N n i j k l), (0, clB N n i j k l), m] [] μ) → ∀ m (s : Int × Int), 0 ≤ m → m ≤ n → (s.1 = zs (fun m => N i j m * N m k l) m ∧ s.2 = zs (fun m => N j k m * N i m l) m) → zR (d + 2) 20 Q 21 [(2, 15), (0, i), (0, j), (0, k), (0, l), (0, s.1), (0, s.2), (0, m)] [] μ := by
    intro l hl hnext
    refine zloop (n := n) (Inv := fun m (s : Int × Int) => s.1 = zs (fun m => N i j m * N m k l) m ∧ s.2 = zs (fun m => N j k m * N i m l) m) (R := fun m s => zR (d + 2) 20 Q 21 [(2, 15), (0, i), (0, j), (0, k), (0, l), (0, s.1), (0, s.2), (0, m)] [] μ) ?_ ?_
    · rintro m ⟨s1, s2⟩ m0 m1 ⟨e1, e2⟩ ih
      simp only at e1 e2
      have hmr : zrg n m := ⟨m0, m1⟩
      have g1 := cl_bd hn hb hi hj hk hl m0 (by omega)
      have g2 := cl_bd (m := m + 1) hn hb hi hj hk hl (by omega) (by omega)
      have p1 := zmul_bd (hb i j m hi hj hmr) (hb m k l hmr hk hl)
      have p2 := zmul_bd (hb j k m hj hk hmr) (hb i m l hi hmr hl)
      rw [zs_s _ m0, zs_s _ m0] at g2
      have ih2 := ih (s1 + N i j m * N m k l, s2 + N j k m * N i m l) ⟨by rw [e1, zs_s _ m0], by rw [e2, zs_s _ m0]⟩
      rw [u20_21]
      simp only [k20_21, zO_nop, zO_goto, zO_iload_n0, zO_iload_n1, zO_iload_n2, zO_iload_n3, zO_iload, zO_lload_n0, zO_lload_n1, zO_lload_n2, zO_lload_n3, zO_lload, zO_aload_n0, zO_aload_n1, zO_aload_n2, zO_aload_n3, zO_aload, zO_istore_n0, zO_istore_n1, zO_istore_n2, zO_istore_n3, zO_istore, zO_astore_n0, zO_astore_n1, zO_astore_n2, zO_astore_n3, zO_astore, zO_lstore, zO_iinc, zO_iconst, zO_bipush, zO_sipush, zO_lconst0, zO_lconst1, zO_ldc, zO_ldc2_w, zO_iadd, zO_isub, zO_imul, zO_idiv, zO_irem, zO_ineg, zO_iand, zO_ior, zO_ixor, zO_ishl, zO_ishr, zO_iushr, zO_ladd, zO_lmul, zO_land, zO_lor, zO_lshl, zO_lcmp, zO_i2l, zO_l2i, zO_i2b, zO_dup0, zO_dup2, zO_dup200, zO_dup202, zO_dup220, zO_dup222, zO_ifCond_eq, zO_ifCond_ne, zO_ifCond_lt, zO_ifCond_ge, zO_ifCond_gt, zO_ifCond_le, zO_if_icmp_eq, zO_if_icmp_ne, zO_if_icmp_lt, zO_if_icmp_ge, zO_if_icmp_gt, zO_if_icmp_le, zO_getfield, zO_putfield, zO_iaload, zO_baload, zO_laload, zO_iastore, zO_bastore, zO_lastore, zO_arraylength, zO_invokevirtual, zO_lreturn, zO_areturn, zO_return_, zO_tableswitch, zO_lookupswitch, zO_is0, zO_is1, zO_is2, zO_is3, zO_is4, zO_is9, zO_is10, zO_is11, zO_is12, zO_ir1, zO_ir4, zB_c, zLd_0, zLd_s, zSt_c, zSt2_c, zU_c, zD_c, zY_c, zSw_n, zSw_c, zCall_c, zVirt_c, zP_0, zP_1, zP_2, zP_3, zP_4, zGet_n, zGet_z, zPut_n, zPut_z, List.length_cons, List.length_nil, List.take_succ_cons, List.take_zero, List.drop_succ_cons, List.drop_zero, List.reverse_cons, List.reverse_nil, List.nil_append, List.cons_append, List.append_nil, List.set_cons_zero, List.set_cons_succ, List.getD_cons_zero, List.getD_cons_succ, true_and, and_true, ne_eq, not_false_eq_true, not_true_eq_false, zif, Nat.reduceAdd, Nat.reduceLeDiff, Nat.reduceLT, Nat.reduceSub, Nat.reduceEqDiff, Nat.zero_le, Nat.lt_add_one, Nat.reduceMod, false_implies, true_implies, implies_true, forall_const, Int.reduceLE, Int.reduceLT, Int.reduceEq, Int.reduceNeg, ite10_0, ite10_1, zem, zem2, Classical.not_not, and_self, zT_15, zN_15, zGf_32_15, zPf_32_15, zGf_33_15, zAl_16, zAs_16, hs, K_at15 (b4 i hi) (b4 j hj) (b4 m hmr), K_at15 (b4 m hmr) (b4 k hk) (b4 l hl), K_at15 (b4 j hj) (b4 k hk) (b4 m hmr), K_at15 (b4 i hi) (b4 m hmr) (b4 l hl), hF i j m hi hj hmr, hF m k l hmr hk hl, hF j k m hj hk hmr, hF i m l hi hmr hl]
      refine ⟨fun _ => ?_, fun h => absurd m1 h⟩
      rw [zw_e (z := N i j m * N m k l) (by omega) (by omega), zw_e (z := N j k m * N i m l) (by omega) (by omega), zw_e (by omega) (by omega), zw_e (by omega) (by omega), zw_e (by omega) (by omega)]
      exact ih2
    · rintro ⟨s1, s2⟩ ⟨e1, e2⟩
      simp only at e1 e2
      rw [u20_21]
      simp only [k20_21, zO_nop, zO_goto, zO_iload_n0, zO_iload_n1, zO_iload_n2, zO_iload_n3, zO_iload, zO_lload_n0, zO_lload_n1, zO_lload_n2, zO_lload_n3, zO_lload, zO_aload_n0, zO_aload_n1, zO_aload_n2, zO_aload_n3, zO_aload, zO_istore_n0, zO_istore_n1, zO_istore_n2, zO_istore_n3, zO_istore, zO_astore_n0, zO_astore_n1, zO_astore_n2, zO_astore_n3, zO_astore, zO_lstore, zO_iinc, zO_iconst, zO_bipush, zO_sipush, zO_lconst0, zO_lconst1, zO_ldc, zO_ldc2_w, zO_iadd, zO_isub, zO_imul, zO_idiv, zO_irem, zO_ineg, zO_iand, zO_ior, zO_ixor, zO_ishl, zO_ishr, zO_iushr, zO_ladd, zO_lmul, zO_land, zO_lor, zO_lshl, zO_lcmp, zO_i2l, zO_l2i, zO_i2b, zO_dup0, zO_dup2, zO_dup200, zO_dup202, zO_dup220, zO_dup222, zO_ifCond_eq, zO_ifCond_ne, zO_ifCond_lt, zO_ifCond_ge, zO_ifCond_gt, zO_ifCond_le, zO_if_icmp_eq, zO_if_icmp_ne, zO_if_icmp_lt, zO_if_icmp_ge, zO_if_icmp_gt, zO_if_icmp_le, zO_getfield, zO_putfield, zO_iaload, zO_baload, zO_laload, zO_iastore, zO_bastore, zO_lastore, zO_arraylength, zO_invokevirtual, zO_lreturn, zO_areturn, zO_return_, zO_tableswitch, zO_lookupswitch, zO_is0, zO_is1, zO_is2, zO_is3, zO_is4, zO_is9, zO_is10, zO_is11, zO_is12, zO_ir1, zO_ir4, zB_c, zLd_0, zLd_s, zSt_c, zSt2_c, zU_c, zD_c, zY_c, zSw_n, zSw_c, zCall_c, zVirt_c, zP_0, zP_1, zP_2, zP_3, zP_4, zGet_n, zGet_z, zPut_n, zPut_z, List.length_cons, List.length_nil, List.take_succ_cons, List.take_zero, List.drop_succ_cons, List.drop_zero, List.reverse_cons, List.reverse_nil, List.nil_append, List.cons_append, List.append_nil, List.set_cons_zero, List.set_cons_succ, List.getD_cons_zero, List.getD_cons_succ, true_and, and_true, ne_eq, not_false_eq_true, not_true_eq_false, zif, Nat.reduceAdd, Nat.reduceLeDiff, Nat.reduceLT, Nat.reduceSub, Nat.reduceEqDiff, Nat.zero_le, Nat.lt_add_one, Nat.reduceMod, false_implies, true_implies, implies_true, forall_const, Int.reduceLE, Int.reduceLT, Int.reduceEq, Int.reduceNeg, ite10_0, ite10_1, zem, zem2, Classical.not_not, and_self, zT_15, zN_15, zGf_32_15, zPf_32_15, zGf_33_15, zAl_16, zAs_16, hs]
      refine ⟨fun h => absurd h (by omega), fun _ => ?_⟩
      rw [e1, e2]
      exact hnext _
  have hl : ∀ l (s : zV × zV × zV), 0 ≤ l → l ≤ n → (∀ l', 0 ≤ l' → l' < l → ¬ clM N n i j k l') → zR (d + 2) 20 Q 3 [(2, 15), (0, i), (0, j), (0, k), (0, l), s.1, s.2.1, s.2.2] [] μ := by
    refine zloop (n := n) (Inv := fun l (_ : zV × zV × zV) => ∀ l', 0 ≤ l' → l' < l → ¬ clM N n i j k l') (R := fun l s => zR (d + 2) 20 Q 3 [(2, 15), (0, i), (0, j), (0, k), (0, l), s.1, s.2.1, s.2.2] [] μ) ?_ ?_
    · rintro l ⟨x, y, z⟩ l0 l1 hinv ih
      rw [u20_3]
      simp only [k20_3, zO_nop, zO_goto, zO_iload_n0, zO_iload_n1, zO_iload_n2, zO_iload_n3, zO_iload, zO_lload_n0, zO_lload_n1, zO_lload_n2, zO_lload_n3, zO_lload, zO_aload_n0, zO_aload_n1, zO_aload_n2, zO_aload_n3, zO_aload, zO_istore_n0, zO_istore_n1, zO_istore_n2, zO_istore_n3, zO_istore, zO_astore_n0, zO_astore_n1, zO_astore_n2, zO_astore_n3, zO_astore, zO_lstore, zO_iinc, zO_iconst, zO_bipush, zO_sipush, zO_lconst0, zO_lconst1, zO_ldc, zO_ldc2_w, zO_iadd, zO_isub, zO_imul, zO_idiv, zO_irem, zO_ineg, zO_iand, zO_ior, zO_ixor, zO_ishl, zO_ishr, zO_iushr, zO_ladd, zO_lmul, zO_land, zO_lor, zO_lshl, zO_lcmp, zO_i2l, zO_l2i, zO_i2b, zO_dup0, zO_dup2, zO_dup200, zO_dup202, zO_dup220, zO_dup222, zO_ifCond_eq, zO_ifCond_ne, zO_ifCond_lt, zO_ifCond_ge, zO_ifCond_gt, zO_ifCond_le, zO_if_icmp_eq, zO_if_icmp_ne, zO_if_icmp_lt, zO_if_icmp_ge, zO_if_icmp_gt, zO_if_icmp_le, zO_getfield, zO_putfield, zO_iaload, zO_baload, zO_laload, zO_iastore, zO_bastore, zO_lastore, zO_arraylength, zO_invokevirtual, zO_lreturn, zO_areturn, zO_return_, zO_tableswitch, zO_lookupswitch, zO_is0, zO_is1, zO_is2, zO_is3, zO_is4, zO_is9, zO_is10, zO_is11, zO_is12, zO_ir1, zO_ir4, zB_c, zLd_0, zLd_s, zSt_c, zSt2_c, zU_c, zD_c, zY_c, zSw_n, zSw_c, zCall_c, zVirt_c, zP_0, zP_1, zP_2, zP_3, zP_4, zGet_n, zGet_z, zPut_n, zPut_z, List.length_cons, List.length_nil, List.take_succ_cons, List.take_zero, List.drop_succ_cons, List.drop_zero, List.reverse_cons, List.reverse_nil, List.nil_append, List.cons_append, List.append_nil, List.set_cons_zero, List.set_cons_succ, List.getD_cons_zero, List.getD_cons_succ, true_and, and_true, ne_eq, not_false_eq_true, not_true_eq_false, zif, Nat.reduceAdd, Nat.reduceLeDiff, Nat.reduceLT, Nat.reduceSub, Nat.reduceEqDiff, Nat.zero_le, Nat.lt_add_one, Nat.reduceMod, false_implies, true_implies, implies_true, forall_const, Int.reduceLE, Int.reduceLT, Int.reduceEq, Int.reduceNeg, ite10_0, ite10_1, zem, zem2, Classical.not_not, and_self, zT_15, zN_15, zGf_32_15, zPf_32_15, zGf_33_15, zAl_16, zAs_16, hs]
      refine ⟨fun _ => ?_, fun h => absurd l1 h⟩
      refine hm l ⟨l0, l1⟩ (fun m => ?_) 0 (0, 0) (by omega) (by omega) ⟨rfl, rfl⟩
      simp only [e20, k20_0, u20_82, k20_82, u20_92, k20_92, u20_98, k20_98, zO_nop, zO_goto, zO_iload_n0, zO_iload_n1, zO_iload_n2, zO_iload_n3, zO_iload, zO_lload_n0, zO_lload_n1, zO_lload_n2, zO_lload_n3, zO_lload, zO_aload_n0, zO_aload_n1, zO_aload_n2, zO_aload_n3, zO_aload, zO_istore_n0, zO_istore_n1, zO_istore_n2, zO_istore_n3, zO_istore, zO_astore_n0, zO_astore_n1, zO_astore_n2, zO_astore_n3, zO_astore, zO_lstore, zO_iinc, zO_iconst, zO_bipush, zO_sipush, zO_lconst0, zO_lconst1, zO_ldc, zO_ldc2_w, zO_iadd, zO_isub, zO_imul, zO_idiv, zO_irem, zO_ineg, zO_iand, zO_ior, zO_ixor, zO_ishl, zO_ishr, zO_iushr, zO_ladd, zO_lmul, zO_land, zO_lor, zO_lshl, zO_lcmp, zO_i2l, zO_l2i, zO_i2b, zO_dup0, zO_dup2, zO_dup200, zO_dup202, zO_dup220, zO_dup222, zO_ifCond_eq, zO_ifCond_ne, zO_ifCond_lt, zO_ifCond_ge, zO_ifCond_gt, zO_ifCond_le, zO_if_icmp_eq, zO_if_icmp_ne, zO_if_icmp_lt, zO_if_icmp_ge, zO_if_icmp_gt, zO_if_icmp_le, zO_getfield, zO_putfield, zO_iaload, zO_baload, zO_laload, zO_iastore, zO_bastore, zO_lastore, zO_arraylength, zO_invokevirtual, zO_lreturn, zO_areturn, zO_return_, zO_tableswitch, zO_lookupswitch, zO_is0, zO_is1, zO_is2, zO_is3, zO_is4, zO_is9, zO_is10, zO_is11, zO_is12, zO_ir1, zO_ir4, zB_c, zLd_0, zLd_s, zSt_c, zSt2_c, zU_c, zD_c, zY_c, zSw_n, zSw_c, zCall_c, zVirt_c, zP_0, zP_1, zP_2, zP_3, zP_4, zGet_n, zGet_z, zPut_n, zPut_z, List.length_cons, List.length_nil, List.take_succ_cons, List.take_zero, List.drop_succ_cons, List.drop_zero, List.reverse_cons, List.reverse_nil, List.nil_append, List.cons_append, List.append_nil, List.set_cons_zero, List.set_cons_succ, List.getD_cons_zero, List.getD_cons_succ, true_and, and_true, ne_eq, not_false_eq_true, not_true_eq_false, zif, Nat.reduceAdd, Nat.reduceLeDiff, Nat.reduceLT, Nat.reduceSub, Nat.reduceEqDiff, Nat.zero_le, Nat.lt_add_one, Nat.reduceMod, false_implies, true_implies, implies_true, forall_const, Int.reduceLE, Int.reduceLT, Int.reduceEq, Int.reduceNeg, ite10_0, ite10_1, zem, zem2, Classical.not_not, and_self, zT_15, zN_15, zGf_32_15, zPf_32_15, zGf_33_15, zAl_16, zAs_16]
      refine ⟨fun e => ?_, fun e => ?_⟩
      · rw [zw_e (by omega) (by omega)]
        exact ih (_, _, _) (fun l' a0 a1 => by
          by_cases e2 : l' = l
          · subst e2; exact fun h => h e
          · exact hinv l' a0 (by omega))
      · rw [← hQ]
        exact ⟨rfl, l0, by omega, fun _ => e, hinv⟩
    · rintro ⟨x, y, z⟩ hinv
      rw [u20_3]
      simp only [k20_3, e20, k20_0, u20_82, k20_82, u20_92, k20_92, u20_98, k20_98, zO_nop, zO_goto, zO_iload_n0, zO_iload_n1, zO_iload_n2, zO_iload_n3, zO_iload, zO_lload_n0, zO_lload_n1, zO_lload_n2, zO_lload_n3, zO_lload, zO_aload_n0, zO_aload_n1, zO_aload_n2, zO_aload_n3, zO_aload, zO_istore_n0, zO_istore_n1, zO_istore_n2, zO_istore_n3, zO_istore, zO_astore_n0, zO_astore_n1, zO_astore_n2, zO_astore_n3, zO_astore, zO_lstore, zO_iinc, zO_iconst, zO_bipush, zO_sipush, zO_lconst0, zO_lconst1, zO_ldc, zO_ldc2_w, zO_iadd, zO_isub, zO_imul, zO_idiv, zO_irem, zO_ineg, zO_iand, zO_ior, zO_ixor, zO_ishl, zO_ishr, zO_iushr, zO_ladd, zO_lmul, zO_land, zO_lor, zO_lshl, zO_lcmp, zO_i2l, zO_l2i, zO_i2b, zO_dup0, zO_dup2, zO_dup200, zO_dup202, zO_dup220, zO_dup222, zO_ifCond_eq, zO_ifCond_ne, zO_ifCond_lt, zO_ifCond_ge, zO_ifCond_gt, zO_ifCond_le, zO_if_icmp_eq, zO_if_icmp_ne, zO_if_icmp_lt, zO_if_icmp_ge, zO_if_icmp_gt, zO_if_icmp_le, zO_getfield, zO_putfield, zO_iaload, zO_baload, zO_laload, zO_iastore, zO_bastore, zO_lastore, zO_arraylength, zO_invokevirtual, zO_lreturn, zO_areturn, zO_return_, zO_tableswitch, zO_lookupswitch, zO_is0, zO_is1, zO_is2, zO_is3, zO_is4, zO_is9, zO_is10, zO_is11, zO_is12, zO_ir1, zO_ir4, zB_c, zLd_0, zLd_s, zSt_c, zSt2_c, zU_c, zD_c, zY_c, zSw_n, zSw_c, zCall_c, zVirt_c, zP_0, zP_1, zP_2, zP_3, zP_4, zGet_n, zGet_z, zPut_n, zPut_z, List.length_cons, List.length_nil, List.take_succ_cons, List.take_zero, List.drop_succ_cons, List.drop_zero, List.reverse_cons, List.reverse_nil, List.nil_append, List.cons_append, List.append_nil, List.set_cons_zero, List.set_cons_succ, List.getD_cons_zero, List.getD_cons_succ, true_and, and_true, ne_eq, not_false_eq_true, not_true_eq_false, zif, Nat.reduceAdd, Nat.reduceLeDiff, Nat.reduceLT, Nat.reduceSub, Nat.reduceEqDiff, Nat.zero_le, Nat.lt_add_one, Nat.reduceMod, false_implies, true_implies, implies_true, forall_const, Int.reduceLE, Int.reduceLT, Int.reduceEq, Int.reduceNeg, ite10_0, ite10_1, zem, zem2, Classical.not_not, and_self, zT_15, zN_15, zGf_32_15, zPf_32_15, zGf_33_15, zAl_16, zAs_16, hs]
      refine ⟨fun h => absurd h (by omega), fun _ => ?_⟩
      rw [← hQ]
      exact ⟨rfl, by omega, by omega, fun h => absurd h (by omega), hinv⟩
  simp only [e20, k20_0, zO_nop, zO_goto, zO_iload_n0, zO_iload_n1, zO_iload_n2, zO_iload_n3, zO_iload, zO_lload_n0, zO_lload_n1, zO_lload_n2, zO_lload_n3, zO_lload, zO_aload_n0, zO_aload_n1, zO_aload_n2, zO_aload_n3, zO_aload, zO_istore_n0, zO_istore_n1, zO_istore_n2, zO_istore_n3, zO_istore, zO_astore_n0, zO_astore_n1, zO_astore_n2, zO_astore_n3, zO_astore, zO_lstore, zO_iinc, zO_iconst, zO_bipush, zO_sipush, zO_lconst0, zO_lconst1, zO_ldc, zO_ldc2_w, zO_iadd, zO_isub, zO_imul, zO_idiv, zO_irem, zO_ineg, zO_iand, zO_ior, zO_ixor, zO_ishl, zO_ishr, zO_iushr, zO_ladd, zO_lmul, zO_land, zO_lor, zO_lshl, zO_lcmp, zO_i2l, zO_l2i, zO_i2b, zO_dup0, zO_dup2, zO_dup200, zO_dup202, zO_dup220, zO_dup222, zO_ifCond_eq, zO_ifCond_ne, zO_ifCond_lt, zO_ifCond_ge, zO_ifCond_gt, zO_ifCond_le, zO_if_icmp_eq, zO_if_icmp_ne, zO_if_icmp_lt, zO_if_icmp_ge, zO_if_icmp_gt, zO_if_icmp_le, zO_getfield, zO_putfield, zO_iaload, zO_baload, zO_laload, zO_iastore, zO_bastore, zO_lastore, zO_arraylength, zO_invokevirtual, zO_lreturn, zO_areturn, zO_return_, zO_tableswitch, zO_lookupswitch, zO_is0, zO_is1, zO_is2, zO_is3, zO_is4, zO_is9, zO_is10, zO_is11, zO_is12, zO_ir1, zO_ir4, zB_c, zLd_0, zLd_s, zSt_c, zSt2_c, zU_c, zD_c, zY_c, zSw_n, zSw_c, zCall_c, zVirt_c, zP_0, zP_1, zP_2, zP_3, zP_4, zGet_n, zGet_z, zPut_n, zPut_z, List.length_cons, List.length_nil, List.take_succ_cons, List.take_zero, List.drop_succ_cons, List.drop_zero, List.reverse_cons, List.reverse_nil, List.nil_append, List.cons_append, List.append_nil, List.set_cons_zero, List.set_cons_succ, List.getD_cons_zero, List.getD_cons_succ, true_and, and_true, ne_eq, not_false_eq_true, not_true_eq_false, zif, Nat.reduceAdd, Nat.reduceLeDiff, Nat.reduceLT, Nat.reduceSub, Nat.reduceEqDiff, Nat.zero_le, Nat.lt_add_one, Nat.reduceMod, false_implies, true_implies, implies_true, forall_const, Int.reduceLE, Int.reduceLT, Int.reduceEq, Int.reduceNeg, ite10_0, ite10_1, zem, zem2, Classical.not_not, and_self]
  exact hl 0 (_, _, _) (by omega) (by omega) (fun l' a0 a1 => by omega)
theorem K_firstClashOf17 {d : Nat} {n i j k : Int} {N : Int → Int → Int → Int} {μ : zM} (hn : 1 ≤ n ∧ n ≤ 5) (hs : μ 17 0 = n) (hF : zFu 18 n N μ) (hb : zNb n N) (hi : zrg n i) (hj : zrg n j) (hk : zrg n k) : zC (d + 3) 20 [(2, 17), (0, i), (0, j), (0, k)] μ (fun r u => u = μ ∧ 0 ≤ r ∧ r ≤ n ∧ (r < n → clM N n i j k r) ∧ ∀ l, 0 ≤ l → l < r → ¬ clM N n i j k l) := by
  generalize hQ : (fun (r : Int) (u : zM) => u = μ ∧ 0 ≤ r ∧ r ≤ n ∧ (r < n → clM N n i j k r) ∧ ∀ l, 0 ≤ l → l < r → ¬ clM N n i j k l) = Q
  have b4 : ∀ x, zrg n x → 0 ≤ x ∧ x ≤ 4 := fun x h => ⟨h.1, by have := h.2; omega⟩
  have hm : ∀ l, zrg n l → (∀ m, zR (d + 2) 20 Q 82 [(2, 17), (0, i), (0, j), (0, k), (0, l), (0, clA N n i j k l), (0, clB N n i j k l), m] [] μ) → ∀ m (s : Int × Int), 0 ≤ m → m ≤ n → (s.1 = zs (fun m => N i j m * N m k l) m ∧ s.2 = zs (fun m => N j k m * N i m l) m) → zR (d + 2) 20 Q 21 [(2, 17), (0, i), (0, j), (0, k), (0, l), (0, s.1), (0, s.2), (0, m)] [] μ := by
    intro l hl hnext
    refine zloop (n := n) (Inv := fun m (s : Int × Int) => s.1 = zs (fun m => N i j m * N m k l) m ∧ s.2 = zs (fun m => N j k m * N i m l) m) (R := fun m s => zR (d + 2) 20 Q 21 [(2, 17), (0, i), (0, j), (0, k), (0, l), (0, s.1), (0, s.2), (0, m)] [] μ) ?_ ?_
    · rintro m ⟨s1, s2⟩ m0 m1 ⟨e1, e2⟩ ih
      simp only at e1 e2
      have hmr : zrg n m := ⟨m0, m1⟩
      have g1 := cl_bd hn hb hi hj hk hl m0 (by omega)
      have g2 := cl_bd (m := m + 1) hn hb hi hj hk hl (by omega) (by omega)
      have p1 := zmul_bd (hb i j m hi hj hmr) (hb m k l hmr hk hl)
      have p2 := zmul_bd (hb j k m hj hk hmr) (hb i m l hi hmr hl)
      rw [zs_s _ m0, zs_s _ m0] at g2
      have ih2 := ih (s1 + N i j m * N m k l, s2 + N j k m * N i m l) ⟨by rw [e1, zs_s _ m0], by rw [e2, zs_s _ m0]⟩
      rw [u20_21]
      simp only [k20_21, zO_nop, zO_goto, zO_iload_n0, zO_iload_n1, zO_iload_n2, zO_iload_n3, zO_iload, zO_lload_n0, zO_lload_n1, zO_lload_n2, zO_lload_n3, zO_lload, zO_aload_n0, zO_aload_n1, zO_aload_n2, zO_aload_n3, zO_aload, zO_istore_n0, zO_istore_n1, zO_istore_n2, zO_istore_n3, zO_istore, zO_astore_n0, zO_astore_n1, zO_astore_n2, zO_astore_n3, zO_astore, zO_lstore, zO_iinc, zO_iconst, zO_bipush, zO_sipush, zO_lconst0, zO_lconst1, zO_ldc, zO_ldc2_w, zO_iadd, zO_isub, zO_imul, zO_idiv, zO_irem, zO_ineg, zO_iand, zO_ior, zO_ixor, zO_ishl, zO_ishr, zO_iushr, zO_ladd, zO_lmul, zO_land, zO_lor, zO_lshl, zO_lcmp, zO_i2l, zO_l2i, zO_i2b, zO_dup0, zO_dup2, zO_dup200, zO_dup202, zO_dup220, zO_dup222, zO_ifCond_eq, zO_ifCond_ne, zO_ifCond_lt, zO_ifCond_ge, zO_ifCond_gt, zO_ifCond_le, zO_if_icmp_eq, zO_if_icmp_ne, zO_if_icmp_lt, zO_if_icmp_ge, zO_if_icmp_gt, zO_if_icmp_le, zO_getfield, zO_putfield, zO_iaload, zO_baload, zO_laload, zO_iastore, zO_bastore, zO_lastore, zO_arraylength, zO_invokevirtual, zO_lreturn, zO_areturn, zO_return_, zO_tableswitch, zO_lookupswitch, zO_is0, zO_is1, zO_is2, zO_is3, zO_is4, zO_is9, zO_is10, zO_is11, zO_is12, zO_ir1, zO_ir4, zB_c, zLd_0, zLd_s, zSt_c, zSt2_c, zU_c, zD_c, zY_c, zSw_n, zSw_c, zCall_c, zVirt_c, zP_0, zP_1, zP_2, zP_3, zP_4, zGet_n, zGet_z, zPut_n, zPut_z, List.length_cons, List.length_nil, List.take_succ_cons, List.take_zero, List.drop_succ_cons, List.drop_zero, List.reverse_cons, List.reverse_nil, List.nil_append, List.cons_append, List.append_nil, List.set_cons_zero, List.set_cons_succ, List.getD_cons_zero, List.getD_cons_succ, true_and, and_true, ne_eq, not_false_eq_true, not_true_eq_false, zif, Nat.reduceAdd, Nat.reduceLeDiff, Nat.reduceLT, Nat.reduceSub, Nat.reduceEqDiff, Nat.zero_le, Nat.lt_add_one, Nat.reduceMod, false_implies, true_implies, implies_true, forall_const, Int.reduceLE, Int.reduceLT, Int.reduceEq, Int.reduceNeg, ite10_0, ite10_1, zem, zem2, Classical.not_not, and_self, zT_17, zN_17, zGf_32_17, zPf_32_17, zGf_33_17, zAl_18, zAs_18, hs, K_at17 (b4 i hi) (b4 j hj) (b4 m hmr), K_at17 (b4 m hmr) (b4 k hk) (b4 l hl), K_at17 (b4 j hj) (b4 k hk) (b4 m hmr), K_at17 (b4 i hi) (b4 m hmr) (b4 l hl), hF i j m hi hj hmr, hF m k l hmr hk hl, hF j k m hj hk hmr, hF i m l hi hmr hl]
      refine ⟨fun _ => ?_, fun h => absurd m1 h⟩
      rw [zw_e (z := N i j m * N m k l) (by omega) (by omega), zw_e (z := N j k m * N i m l) (by omega) (by omega), zw_e (by omega) (by omega), zw_e (by omega) (by omega), zw_e (by omega) (by omega)]
      exact ih2
    · rintro ⟨s1, s2⟩ ⟨e1, e2⟩
      simp only at e1 e2
      rw [u20_21]
      simp only [k20_21, zO_nop, zO_goto, zO_iload_n0, zO_iload_n1, zO_iload_n2, zO_iload_n3, zO_iload, zO_lload_n0, zO_lload_n1, zO_lload_n2, zO_lload_n3, zO_lload, zO_aload_n0, zO_aload_n1, zO_aload_n2, zO_aload_n3, zO_aload, zO_istore_n0, zO_istore_n1, zO_istore_n2, zO_istore_n3, zO_istore, zO_astore_n0, zO_astore_n1, zO_astore_n2, zO_astore_n3, zO_astore, zO_lstore, zO_iinc, zO_iconst, zO_bipush, zO_sipush, zO_lconst0, zO_lconst1, zO_ldc, zO_ldc2_w, zO_iadd, zO_isub, zO_imul, zO_idiv, zO_irem, zO_ineg, zO_iand, zO_ior, zO_ixor, zO_ishl, zO_ishr, zO_iushr, zO_ladd, zO_lmul, zO_land, zO_lor, zO_lshl, zO_lcmp, zO_i2l, zO_l2i, zO_i2b, zO_dup0, zO_dup2, zO_dup200, zO_dup202, zO_dup220, zO_dup222, zO_ifCond_eq, zO_ifCond_ne, zO_ifCond_lt, zO_ifCond_ge, zO_ifCond_gt, zO_ifCond_le, zO_if_icmp_eq, zO_if_icmp_ne, zO_if_icmp_lt, zO_if_icmp_ge, zO_if_icmp_gt, zO_if_icmp_le, zO_getfield, zO_putfield, zO_iaload, zO_baload, zO_laload, zO_iastore, zO_bastore, zO_lastore, zO_arraylength, zO_invokevirtual, zO_lreturn, zO_areturn, zO_return_, zO_tableswitch, zO_lookupswitch, zO_is0, zO_is1, zO_is2, zO_is3, zO_is4, zO_is9, zO_is10, zO_is11, zO_is12, zO_ir1, zO_ir4, zB_c, zLd_0, zLd_s, zSt_c, zSt2_c, zU_c, zD_c, zY_c, zSw_n, zSw_c, zCall_c, zVirt_c, zP_0, zP_1, zP_2, zP_3, zP_4, zGet_n, zGet_z, zPut_n, zPut_z, List.length_cons, List.length_nil, List.take_succ_cons, List.take_zero, List.drop_succ_cons, List.drop_zero, List.reverse_cons, List.reverse_nil, List.nil_append, List.cons_append, List.append_nil, List.set_cons_zero, List.set_cons_succ, List.getD_cons_zero, List.getD_cons_succ, true_and, and_true, ne_eq, not_false_eq_true, not_true_eq_false, zif, Nat.reduceAdd, Nat.reduceLeDiff, Nat.reduceLT, Nat.reduceSub, Nat.reduceEqDiff, Nat.zero_le, Nat.lt_add_one, Nat.reduceMod, false_implies, true_implies, implies_true, forall_const, Int.reduceLE, Int.reduceLT, Int.reduceEq, Int.reduceNeg, ite10_0, ite10_1, zem, zem2, Classical.not_not, and_self, zT_17, zN_17, zGf_32_17, zPf_32_17, zGf_33_17, zAl_18, zAs_18, hs]
      refine ⟨fun h => absurd h (by omega), fun _ => ?_⟩
      rw [e1, e2]
      exact hnext _
  have hl : ∀ l (s : zV × zV × zV), 0 ≤ l → l ≤ n → (∀ l', 0 ≤ l' → l' < l → ¬ clM N n i j k l') → zR (d + 2) 20 Q 3 [(2, 17), (0, i), (0, j), (0, k), (0, l), s.1, s.2.1, s.2.2] [] μ := by
    refine zloop (n := n) (Inv := fun l (_ : zV × zV × zV) => ∀ l', 0 ≤ l' → l' < l → ¬ clM N n i j k l') (R := fun l s => zR (d + 2) 20 Q 3 [(2, 17), (0, i), (0, j), (0, k), (0, l), s.1, s.2.1, s.2.2] [] μ) ?_ ?_
    · rintro l ⟨x, y, z⟩ l0 l1 hinv ih
      rw [u20_3]
      simp only [k20_3, zO_nop, zO_goto, zO_iload_n0, zO_iload_n1, zO_iload_n2, zO_iload_n3, zO_iload, zO_lload_n0, zO_lload_n1, zO_lload_n2, zO_lload_n3, zO_lload, zO_aload_n0, zO_aload_n1, zO_aload_n2, zO_aload_n3, zO_aload, zO_istore_n0, zO_istore_n1, zO_istore_n2, zO_istore_n3, zO_istore, zO_astore_n0, zO_astore_n1, zO_astore_n2, zO_astore_n3, zO_astore, zO_lstore, zO_iinc, zO_iconst, zO_bipush, zO_sipush, zO_lconst0, zO_lconst1, zO_ldc, zO_ldc2_w, zO_iadd, zO_isub, zO_imul, zO_idiv, zO_irem, zO_ineg, zO_iand, zO_ior, zO_ixor, zO_ishl, zO_ishr, zO_iushr, zO_ladd, zO_lmul, zO_land, zO_lor, zO_lshl, zO_lcmp, zO_i2l, zO_l2i, zO_i2b, zO_dup0, zO_dup2, zO_dup200, zO_dup202, zO_dup220, zO_dup222, zO_ifCond_eq, zO_ifCond_ne, zO_ifCond_lt, zO_ifCond_ge, zO_ifCond_gt, zO_ifCond_le, zO_if_icmp_eq, zO_if_icmp_ne, zO_if_icmp_lt, zO_if_icmp_ge, zO_if_icmp_gt, zO_if_icmp_le, zO_getfield, zO_putfield, zO_iaload, zO_baload, zO_laload, zO_iastore, zO_bastore, zO_lastore, zO_arraylength, zO_invokevirtual, zO_lreturn, zO_areturn, zO_return_, zO_tableswitch, zO_lookupswitch, zO_is0, zO_is1, zO_is2, zO_is3, zO_is4, zO_is9, zO_is10, zO_is11, zO_is12, zO_ir1, zO_ir4, zB_c, zLd_0, zLd_s, zSt_c, zSt2_c, zU_c, zD_c, zY_c, zSw_n, zSw_c, zCall_c, zVirt_c, zP_0, zP_1, zP_2, zP_3, zP_4, zGet_n, zGet_z, zPut_n, zPut_z, List.length_cons, List.length_nil, List.take_succ_cons, List.take_zero, List.drop_succ_cons, List.drop_zero, List.reverse_cons, List.reverse_nil, List.nil_append, List.cons_append, List.append_nil, List.set_cons_zero, List.set_cons_succ, List.getD_cons_zero, List.getD_cons_succ, true_and, and_true, ne_eq, not_false_eq_true, not_true_eq_false, zif, Nat.reduceAdd, Nat.reduceLeDiff, Nat.reduceLT, Nat.reduceSub, Nat.reduceEqDiff, Nat.zero_le, Nat.lt_add_one, Nat.reduceMod, false_implies, true_implies, implies_true, forall_const, Int.reduceLE, Int.reduceLT, Int.reduceEq, Int.reduceNeg, ite10_0, ite10_1, zem, zem2, Classical.not_not, and_self, zT_17, zN_17, zGf_32_17, zPf_32_17, zGf_33_17, zAl_18, zAs_18, hs]
      refine ⟨fun _ => ?_, fun h => absurd l1 h⟩
      refine hm l ⟨l0, l1⟩ (fun m => ?_) 0 (0, 0) (by omega) (by omega) ⟨rfl, rfl⟩
      simp only [e20, k20_0, u20_82, k20_82, u20_92, k20_92, u20_98, k20_98, zO_nop, zO_goto, zO_iload_n0, zO_iload_n1, zO_iload_n2, zO_iload_n3, zO_iload, zO_lload_n0, zO_lload_n1, zO_lload_n2, zO_lload_n3, zO_lload, zO_aload_n0, zO_aload_n1, zO_aload_n2, zO_aload_n3, zO_aload, zO_istore_n0, zO_istore_n1, zO_istore_n2, zO_istore_n3, zO_istore, zO_astore_n0, zO_astore_n1, zO_astore_n2, zO_astore_n3, zO_astore, zO_lstore, zO_iinc, zO_iconst, zO_bipush, zO_sipush, zO_lconst0, zO_lconst1, zO_ldc, zO_ldc2_w, zO_iadd, zO_isub, zO_imul, zO_idiv, zO_irem, zO_ineg, zO_iand, zO_ior, zO_ixor, zO_ishl, zO_ishr, zO_iushr, zO_ladd, zO_lmul, zO_land, zO_lor, zO_lshl, zO_lcmp, zO_i2l, zO_l2i, zO_i2b, zO_dup0, zO_dup2, zO_dup200, zO_dup202, zO_dup220, zO_dup222, zO_ifCond_eq, zO_ifCond_ne, zO_ifCond_lt, zO_ifCond_ge, zO_ifCond_gt, zO_ifCond_le, zO_if_icmp_eq, zO_if_icmp_ne, zO_if_icmp_lt, zO_if_icmp_ge, zO_if_icmp_gt, zO_if_icmp_le, zO_getfield, zO_putfield, zO_iaload, zO_baload, zO_laload, zO_iastore, zO_bastore, zO_lastore, zO_arraylength, zO_invokevirtual, zO_lreturn, zO_areturn, zO_return_, zO_tableswitch, zO_lookupswitch, zO_is0, zO_is1, zO_is2, zO_is3, zO_is4, zO_is9, zO_is10, zO_is11, zO_is12, zO_ir1, zO_ir4, zB_c, zLd_0, zLd_s, zSt_c, zSt2_c, zU_c, zD_c, zY_c, zSw_n, zSw_c, zCall_c, zVirt_c, zP_0, zP_1, zP_2, zP_3, zP_4, zGet_n, zGet_z, zPut_n, zPut_z, List.length_cons, List.length_nil, List.take_succ_cons, List.take_zero, List.drop_succ_cons, List.drop_zero, List.reverse_cons, List.reverse_nil, List.nil_append, List.cons_append, List.append_nil, List.set_cons_zero, List.set_cons_succ, List.getD_cons_zero, List.getD_cons_succ, true_and, and_true, ne_eq, not_false_eq_true, not_true_eq_false, zif, Nat.reduceAdd, Nat.reduceLeDiff, Nat.reduceLT, Nat.reduceSub, Nat.reduceEqDiff, Nat.zero_le, Nat.lt_add_one, Nat.reduceMod, false_implies, true_implies, implies_true, forall_const, Int.reduceLE, Int.reduceLT, Int.reduceEq, Int.reduceNeg, ite10_0, ite10_1, zem, zem2, Classical.not_not, and_self, zT_17, zN_17, zGf_32_17, zPf_32_17, zGf_33_17, zAl_18, zAs_18]
      refine ⟨fun e => ?_, fun e => ?_⟩
      · rw [zw_e (by omega) (by omega)]
        exact ih (_, _, _) (fun l' a0 a1 => by
          by_cases e2 : l' = l
          · subst e2; exact fun h => h e
          · exact hinv l' a0 (by omega))
      · rw [← hQ]
        exact ⟨rfl, l0, by omega, fun _ => e, hinv⟩
    · rintro ⟨x, y, z⟩ hinv
      rw [u20_3]
      simp only [k20_3, e20, k20_0, u20_82, k20_82, u20_92, k20_92, u20_98, k20_98, zO_nop, zO_goto, zO_iload_n0, zO_iload_n1, zO_iload_n2, zO_iload_n3, zO_iload, zO_lload_n0, zO_lload_n1, zO_lload_n2, zO_lload_n3, zO_lload, zO_aload_n0, zO_aload_n1, zO_aload_n2, zO_aload_n3, zO_aload, zO_istore_n0, zO_istore_n1, zO_istore_n2, zO_istore_n3, zO_istore, zO_astore_n0, zO_astore_n1, zO_astore_n2, zO_astore_n3, zO_astore, zO_lstore, zO_iinc, zO_iconst, zO_bipush, zO_sipush, zO_lconst0, zO_lconst1, zO_ldc, zO_ldc2_w, zO_iadd, zO_isub, zO_imul, zO_idiv, zO_irem, zO_ineg, zO_iand, zO_ior, zO_ixor, zO_ishl, zO_ishr, zO_iushr, zO_ladd, zO_lmul, zO_land, zO_lor, zO_lshl, zO_lcmp, zO_i2l, zO_l2i, zO_i2b, zO_dup0, zO_dup2, zO_dup200, zO_dup202, zO_dup220, zO_dup222, zO_ifCond_eq, zO_ifCond_ne, zO_ifCond_lt, zO_ifCond_ge, zO_ifCond_gt, zO_ifCond_le, zO_if_icmp_eq, zO_if_icmp_ne, zO_if_icmp_lt, zO_if_icmp_ge, zO_if_icmp_gt, zO_if_icmp_le, zO_getfield, zO_putfield, zO_iaload, zO_baload, zO_laload, zO_iastore, zO_bastore, zO_lastore, zO_arraylength, zO_invokevirtual, zO_lreturn, zO_areturn, zO_return_, zO_tableswitch, zO_lookupswitch, zO_is0, zO_is1, zO_is2, zO_is3, zO_is4, zO_is9, zO_is10, zO_is11, zO_is12, zO_ir1, zO_ir4, zB_c, zLd_0, zLd_s, zSt_c, zSt2_c, zU_c, zD_c, zY_c, zSw_n, zSw_c, zCall_c, zVirt_c, zP_0, zP_1, zP_2, zP_3, zP_4, zGet_n, zGet_z, zPut_n, zPut_z, List.length_cons, List.length_nil, List.take_succ_cons, List.take_zero, List.drop_succ_cons, List.drop_zero, List.reverse_cons, List.reverse_nil, List.nil_append, List.cons_append, List.append_nil, List.set_cons_zero, List.set_cons_succ, List.getD_cons_zero, List.getD_cons_succ, true_and, and_true, ne_eq, not_false_eq_true, not_true_eq_false, zif, Nat.reduceAdd, Nat.reduceLeDiff, Nat.reduceLT, Nat.reduceSub, Nat.reduceEqDiff, Nat.zero_le, Nat.lt_add_one, Nat.reduceMod, false_implies, true_implies, implies_true, forall_const, Int.reduceLE, Int.reduceLT, Int.reduceEq, Int.reduceNeg, ite10_0, ite10_1, zem, zem2, Classical.not_not, and_self, zT_17, zN_17, zGf_32_17, zPf_32_17, zGf_33_17, zAl_18, zAs_18, hs]
      refine ⟨fun h => absurd h (by omega), fun _ => ?_⟩
      rw [← hQ]
      exact ⟨rfl, by omega, by omega, fun h => absurd h (by omega), hinv⟩
  simp only [e20, k20_0, zO_nop, zO_goto, zO_iload_n0, zO_iload_n1, zO_iload_n2, zO_iload_n3, zO_iload, zO_lload_n0, zO_lload_n1, zO_lload_n2, zO_lload_n3, zO_lload, zO_aload_n0, zO_aload_n1, zO_aload_n2, zO_aload_n3, zO_aload, zO_istore_n0, zO_istore_n1, zO_istore_n2, zO_istore_n3, zO_istore, zO_astore_n0, zO_astore_n1, zO_astore_n2, zO_astore_n3, zO_astore, zO_lstore, zO_iinc, zO_iconst, zO_bipush, zO_sipush, zO_lconst0, zO_lconst1, zO_ldc, zO_ldc2_w, zO_iadd, zO_isub, zO_imul, zO_idiv, zO_irem, zO_ineg, zO_iand, zO_ior, zO_ixor, zO_ishl, zO_ishr, zO_iushr, zO_ladd, zO_lmul, zO_land, zO_lor, zO_lshl, zO_lcmp, zO_i2l, zO_l2i, zO_i2b, zO_dup0, zO_dup2, zO_dup200, zO_dup202, zO_dup220, zO_dup222, zO_ifCond_eq, zO_ifCond_ne, zO_ifCond_lt, zO_ifCond_ge, zO_ifCond_gt, zO_ifCond_le, zO_if_icmp_eq, zO_if_icmp_ne, zO_if_icmp_lt, zO_if_icmp_ge, zO_if_icmp_gt, zO_if_icmp_le, zO_getfield, zO_putfield, zO_iaload, zO_baload, zO_laload, zO_iastore, zO_bastore, zO_lastore, zO_arraylength, zO_invokevirtual, zO_lreturn, zO_areturn, zO_return_, zO_tableswitch, zO_lookupswitch, zO_is0, zO_is1, zO_is2, zO_is3, zO_is4, zO_is9, zO_is10, zO_is11, zO_is12, zO_ir1, zO_ir4, zB_c, zLd_0, zLd_s, zSt_c, zSt2_c, zU_c, zD_c, zY_c, zSw_n, zSw_c, zCall_c, zVirt_c, zP_0, zP_1, zP_2, zP_3, zP_4, zGet_n, zGet_z, zPut_n, zPut_z, List.length_cons, List.length_nil, List.take_succ_cons, List.take_zero, List.drop_succ_cons, List.drop_zero, List.reverse_cons, List.reverse_nil, List.nil_append, List.cons_append, List.append_nil, List.set_cons_zero, List.set_cons_succ, List.getD_cons_zero, List.getD_cons_succ, true_and, and_true, ne_eq, not_false_eq_true, not_true_eq_false, zif, Nat.reduceAdd, Nat.reduceLeDiff, Nat.reduceLT, Nat.reduceSub, Nat.reduceEqDiff, Nat.zero_le, Nat.lt_add_one, Nat.reduceMod, false_implies, true_implies, implies_true, forall_const, Int.reduceLE, Int.reduceLT, Int.reduceEq, Int.reduceNeg, ite10_0, ite10_1, zem, zem2, Classical.not_not, and_self]
  exact hl 0 (_, _, _) (by omega) (by omega) (fun l' a0 a1 => by omega)
end
section
/-! firstClash on both sides -/
def ncl (N : Int → Int → Int → Int) (n t : Int) : Prop := ∀ i j k l, zrg n i → zrg n j → zrg n k → zrg n l → clM N n i j k l → t ≤ 1000 * i + 100 * j + 10 * k + l
theorem ncl_up {N : Int → Int → Int → Int} {n t t' : Int} (h : ncl N n t) (ht : ∀ i j k l, zrg n i → zrg n j → zrg n k → zrg n l → clM N n i j k l → t ≤ 1000 * i + 100 * j + 10 * k + l → t' ≤ 1000 * i + 100 * j + 10 * k + l) : ncl N n t' := fun i j k l a b c e g => ht i j k l a b c e g (h i j k l a b c e g)
theorem K_firstClash15 {d : Nat} {n : Int} {N : Int → Int → Int → Int} {μ : zM} (hn : 1 ≤ n ∧ n ≤ 5) (hs : μ 15 0 = n) (hF : zFu 16 n N μ) (hb : zNb n N) (hp : zNp n N) : zC (d + 4) 19 [(2, 15)] μ (fun r u => u = μ ∧ isC N n r) := by
  generalize hQ : (fun (r : Int) (u : zM) => u = μ ∧ isC N n r) = Q
  have hk : ∀ i j, 1 ≤ i → i < n → 1 ≤ j → j < n → (ncl N n (1000 * i + 100 * (j + 1)) → ∀ x y, zR (d + 3) 19 Q 12 [(2, 15), (0, i), (0, j + 1), x, y] [] μ) → ∀ k (s : zV), 0 ≤ k → k ≤ n → (1 ≤ k ∧ ncl N n (1000 * i + 100 * j + 10 * k)) → zR (d + 3) 19 Q 22 [(2, 15), (0, i), (0, j), (0, k), s] [] μ := by
    intro i j i0 i1 j0 j1 hnext
    refine zloop (n := n) (Inv := fun k (_ : zV) => 1 ≤ k ∧ ncl N n (1000 * i + 100 * j + 10 * k)) (R := fun k s => zR (d + 3) 19 Q 22 [(2, 15), (0, i), (0, j), (0, k), s] [] μ) ?_ ?_
    · rintro k s k0 k1 ⟨kk, hinv⟩ ih
      rw [u19_22]
      simp only [k19_22, e19, k19_0, u19_67, k19_67, u19_73, k19_73, u19_79, k19_79, u19_85, k19_85, zO_nop, zO_goto, zO_iload_n0, zO_iload_n1, zO_iload_n2, zO_iload_n3, zO_iload, zO_lload_n0, zO_lload_n1, zO_lload_n2, zO_lload_n3, zO_lload, zO_aload_n0, zO_aload_n1, zO_aload_n2, zO_aload_n3, zO_aload, zO_istore_n0, zO_istore_n1, zO_istore_n2, zO_istore_n3, zO_istore, zO_astore_n0, zO_astore_n1, zO_astore_n2, zO_astore_n3, zO_astore, zO_lstore, zO_iinc, zO_iconst, zO_bipush, zO_sipush, zO_lconst0, zO_lconst1, zO_ldc, zO_ldc2_w, zO_iadd, zO_isub, zO_imul, zO_idiv, zO_irem, zO_ineg, zO_iand, zO_ior, zO_ixor, zO_ishl, zO_ishr, zO_iushr, zO_ladd, zO_lmul, zO_land, zO_lor, zO_lshl, zO_lcmp, zO_i2l, zO_l2i, zO_i2b, zO_dup0, zO_dup2, zO_dup200, zO_dup202, zO_dup220, zO_dup222, zO_ifCond_eq, zO_ifCond_ne, zO_ifCond_lt, zO_ifCond_ge, zO_ifCond_gt, zO_ifCond_le, zO_if_icmp_eq, zO_if_icmp_ne, zO_if_icmp_lt, zO_if_icmp_ge, zO_if_icmp_gt, zO_if_icmp_le, zO_getfield, zO_putfield, zO_iaload, zO_baload, zO_laload, zO_iastore, zO_bastore, zO_lastore, zO_arraylength, zO_invokevirtual, zO_lreturn, zO_areturn, zO_return_, zO_tableswitch, zO_lookupswitch, zO_is0, zO_is1, zO_is2, zO_is3, zO_is4, zO_is9, zO_is10, zO_is11, zO_is12, zO_ir1, zO_ir4, zB_c, zLd_0, zLd_s, zSt_c, zSt2_c, zU_c, zD_c, zY_c, zSw_n, zSw_c, zCall_c, zVirt_c, zP_0, zP_1, zP_2, zP_3, zP_4, zGet_n, zGet_z, zPut_n, zPut_z, List.length_cons, List.length_nil, List.take_succ_cons, List.take_zero, List.drop_succ_cons, List.drop_zero, List.reverse_cons, List.reverse_nil, List.nil_append, List.cons_append, List.append_nil, List.set_cons_zero, List.set_cons_succ, List.getD_cons_zero, List.getD_cons_succ, true_and, and_true, ne_eq, not_false_eq_true, not_true_eq_false, zif, Nat.reduceAdd, Nat.reduceLeDiff, Nat.reduceLT, Nat.reduceSub, Nat.reduceEqDiff, Nat.zero_le, Nat.lt_add_one, Nat.reduceMod, false_implies, true_implies, implies_true, forall_const, Int.reduceLE, Int.reduceLT, Int.reduceEq, Int.reduceNeg, ite10_0, ite10_1, zem, zem2, Classical.not_not, and_self, zT_15, zN_15, zGf_32_15, zPf_32_15, zGf_33_15, zAl_16, zAs_16, hs]
      refine ⟨fun _ => ?_, fun h => absurd k1 h⟩
      refine zuse (K_firstClashOf15 hn hs hF hb ⟨by omega, i1⟩ ⟨by omega, j1⟩ ⟨by omega, k1⟩) ?_
      rintro r u ⟨rfl, r0, r1, r2, r3⟩
      simp only [hs]
      refine ⟨fun hr => ?_, fun hr => ?_⟩
      · simp (disch := omega) only [zw_e]
        rw [← hQ]
        exact ⟨rfl, Or.inr ⟨i, j, k, r, ⟨by omega, i1⟩, ⟨by omega, j1⟩, ⟨by omega, k1⟩, ⟨r0, hr⟩, r2 hr, rfl, fun i' j' k' l' a b c e g => by
          have h1 := hinv i' j' k' l' a b c e g
          by_cases e2 : i' = i ∧ j' = j ∧ k' = k
          · obtain ⟨rfl, rfl, rfl⟩ := e2
            by_cases q : l' < r
            · exact absurd g (r3 l' e.1 q)
            · omega
          · unfold zrg at a b c e
            omega⟩⟩
      · rw [zw_e (by omega) (by omega)]
        refine ih _ ⟨by omega, ncl_up hinv (fun i' j' k' l' a b c e g hl => ?_)⟩
        by_cases e2 : i' = i ∧ j' = j ∧ k' = k
        · obtain ⟨rfl, rfl, rfl⟩ := e2
          exact absurd g (r3 l' e.1 (by have := e.2; omega))
        · unfold zrg at a b c e
          omega
    · rintro s ⟨kk, hinv⟩
      rw [u19_22]
      simp only [k19_22, e19, k19_0, u19_67, k19_67, u19_73, k19_73, u19_79, k19_79, u19_85, k19_85, zO_nop, zO_goto, zO_iload_n0, zO_iload_n1, zO_iload_n2, zO_iload_n3, zO_iload, zO_lload_n0, zO_lload_n1, zO_lload_n2, zO_lload_n3, zO_lload, zO_aload_n0, zO_aload_n1, zO_aload_n2, zO_aload_n3, zO_aload, zO_istore_n0, zO_istore_n1, zO_istore_n2, zO_istore_n3, zO_istore, zO_astore_n0, zO_astore_n1, zO_astore_n2, zO_astore_n3, zO_astore, zO_lstore, zO_iinc, zO_iconst, zO_bipush, zO_sipush, zO_lconst0, zO_lconst1, zO_ldc, zO_ldc2_w, zO_iadd, zO_isub, zO_imul, zO_idiv, zO_irem, zO_ineg, zO_iand, zO_ior, zO_ixor, zO_ishl, zO_ishr, zO_iushr, zO_ladd, zO_lmul, zO_land, zO_lor, zO_lshl, zO_lcmp, zO_i2l, zO_l2i, zO_i2b, zO_dup0, zO_dup2, zO_dup200, zO_dup202, zO_dup220, zO_dup222, zO_ifCond_eq, zO_ifCond_ne, zO_ifCond_lt, zO_ifCond_ge, zO_ifCond_gt, zO_ifCond_le, zO_if_icmp_eq, zO_if_icmp_ne, zO_if_icmp_lt, zO_if_icmp_ge, zO_if_icmp_gt, zO_if_icmp_le, zO_getfield, zO_putfield, zO_iaload, zO_baload, zO_laload, zO_iastore, zO_bastore, zO_lastore, zO_arraylength, zO_invokevirtual, zO_lreturn, zO_areturn, zO_return_, zO_tableswitch, zO_lookupswitch, zO_is0, zO_is1, zO_is2, zO_is3, zO_is4, zO_is9, zO_is10, zO_is11, zO_is12, zO_ir1, zO_ir4, zB_c, zLd_0, zLd_s, zSt_c, zSt2_c, zU_c, zD_c, zY_c, zSw_n, zSw_c, zCall_c, zVirt_c, zP_0, zP_1, zP_2, zP_3, zP_4, zGet_n, zGet_z, zPut_n, zPut_z, List.length_cons, List.length_nil, List.take_succ_cons, List.take_zero, List.drop_succ_cons, List.drop_zero, List.reverse_cons, List.reverse_nil, List.nil_append, List.cons_append, List.append_nil, List.set_cons_zero, List.set_cons_succ, List.getD_cons_zero, List.getD_cons_succ, true_and, and_true, ne_eq, not_false_eq_true, not_true_eq_false, zif, Nat.reduceAdd, Nat.reduceLeDiff, Nat.reduceLT, Nat.reduceSub, Nat.reduceEqDiff, Nat.zero_le, Nat.lt_add_one, Nat.reduceMod, false_implies, true_implies, implies_true, forall_const, Int.reduceLE, Int.reduceLT, Int.reduceEq, Int.reduceNeg, ite10_0, ite10_1, zem, zem2, Classical.not_not, and_self, zT_15, zN_15, zGf_32_15, zPf_32_15, zGf_33_15, zAl_16, zAs_16, hs]
      refine ⟨fun h => absurd h (by omega), fun _ => ?_⟩
      rw [zw_e (by omega) (by omega)]
      refine hnext (ncl_up hinv (fun i' j' k' l' a b c e g hl => ?_)) _ _
      unfold zrg at a b c e
      omega
  have hj : ∀ i, 1 ≤ i → i < n → (ncl N n (1000 * (i + 1)) → ∀ x y z, zR (d + 3) 19 Q 2 [(2, 15), (0, i + 1), x, y, z] [] μ) → ∀ j (s : zV × zV), 0 ≤ j → j ≤ n → (1 ≤ j ∧ ncl N n (1000 * i + 100 * j)) → zR (d + 3) 19 Q 12 [(2, 15), (0, i), (0, j), s.1, s.2] [] μ := by
    intro i i0 i1 hnext
    refine zloop (n := n) (Inv := fun j (_ : zV × zV) => 1 ≤ j ∧ ncl N n (1000 * i + 100 * j)) (R := fun j s => zR (d + 3) 19 Q 12 [(2, 15), (0, i), (0, j), s.1, s.2] [] μ) ?_ ?_
    · rintro j ⟨x, y⟩ j0 j1 ⟨jj, hinv⟩ ih
      rw [u19_12]
      simp only [k19_12, zO_nop, zO_goto, zO_iload_n0, zO_iload_n1, zO_iload_n2, zO_iload_n3, zO_iload, zO_lload_n0, zO_lload_n1, zO_lload_n2, zO_lload_n3, zO_lload, zO_aload_n0, zO_aload_n1, zO_aload_n2, zO_aload_n3, zO_aload, zO_istore_n0, zO_istore_n1, zO_istore_n2, zO_istore_n3, zO_istore, zO_astore_n0, zO_astore_n1, zO_astore_n2, zO_astore_n3, zO_astore, zO_lstore, zO_iinc, zO_iconst, zO_bipush, zO_sipush, zO_lconst0, zO_lconst1, zO_ldc, zO_ldc2_w, zO_iadd, zO_isub, zO_imul, zO_idiv, zO_irem, zO_ineg, zO_iand, zO_ior, zO_ixor, zO_ishl, zO_ishr, zO_iushr, zO_ladd, zO_lmul, zO_land, zO_lor, zO_lshl, zO_lcmp, zO_i2l, zO_l2i, zO_i2b, zO_dup0, zO_dup2, zO_dup200, zO_dup202, zO_dup220, zO_dup222, zO_ifCond_eq, zO_ifCond_ne, zO_ifCond_lt, zO_ifCond_ge, zO_ifCond_gt, zO_ifCond_le, zO_if_icmp_eq, zO_if_icmp_ne, zO_if_icmp_lt, zO_if_icmp_ge, zO_if_icmp_gt, zO_if_icmp_le, zO_getfield, zO_putfield, zO_iaload, zO_baload, zO_laload, zO_iastore, zO_bastore, zO_lastore, zO_arraylength, zO_invokevirtual, zO_lreturn, zO_areturn, zO_return_, zO_tableswitch, zO_lookupswitch, zO_is0, zO_is1, zO_is2, zO_is3, zO_is4, zO_is9, zO_is10, zO_is11, zO_is12, zO_ir1, zO_ir4, zB_c, zLd_0, zLd_s, zSt_c, zSt2_c, zU_c, zD_c, zY_c, zSw_n, zSw_c, zCall_c, zVirt_c, zP_0, zP_1, zP_2, zP_3, zP_4, zGet_n, zGet_z, zPut_n, zPut_z, List.length_cons, List.length_nil, List.take_succ_cons, List.take_zero, List.drop_succ_cons, List.drop_zero, List.reverse_cons, List.reverse_nil, List.nil_append, List.cons_append, List.append_nil, List.set_cons_zero, List.set_cons_succ, List.getD_cons_zero, List.getD_cons_succ, true_and, and_true, ne_eq, not_false_eq_true, not_true_eq_false, zif, Nat.reduceAdd, Nat.reduceLeDiff, Nat.reduceLT, Nat.reduceSub, Nat.reduceEqDiff, Nat.zero_le, Nat.lt_add_one, Nat.reduceMod, false_implies, true_implies, implies_true, forall_const, Int.reduceLE, Int.reduceLT, Int.reduceEq, Int.reduceNeg, ite10_0, ite10_1, zem, zem2, Classical.not_not, and_self, zT_15, zN_15, zGf_32_15, zPf_32_15, zGf_33_15, zAl_16, zAs_16, hs]
      refine ⟨fun _ => hk i j i0 i1 jj j1 (fun h x y => ih (x, y) ⟨by omega, h⟩) 1 _ (by omega) (by omega) ⟨by omega, ncl_up hinv (fun i' j' k' l' a b c e g hl => ?_)⟩, fun h => absurd j1 h⟩
      by_cases e2 : k' = 0
      · exact absurd g (clM_one hp a b c e (Or.inr (Or.inr e2)))
      · unfold zrg at a b c e
        omega
    · rintro ⟨x, y⟩ ⟨jj, hinv⟩
      rw [u19_12]
      simp only [k19_12, e19, k19_0, u19_67, k19_67, u19_73, k19_73, u19_79, k19_79, u19_85, k19_85, zO_nop, zO_goto, zO_iload_n0, zO_iload_n1, zO_iload_n2, zO_iload_n3, zO_iload, zO_lload_n0, zO_lload_n1, zO_lload_n2, zO_lload_n3, zO_lload, zO_aload_n0, zO_aload_n1, zO_aload_n2, zO_aload_n3, zO_aload, zO_istore_n0, zO_istore_n1, zO_istore_n2, zO_istore_n3, zO_istore, zO_astore_n0, zO_astore_n1, zO_astore_n2, zO_astore_n3, zO_astore, zO_lstore, zO_iinc, zO_iconst, zO_bipush, zO_sipush, zO_lconst0, zO_lconst1, zO_ldc, zO_ldc2_w, zO_iadd, zO_isub, zO_imul, zO_idiv, zO_irem, zO_ineg, zO_iand, zO_ior, zO_ixor, zO_ishl, zO_ishr, zO_iushr, zO_ladd, zO_lmul, zO_land, zO_lor, zO_lshl, zO_lcmp, zO_i2l, zO_l2i, zO_i2b, zO_dup0, zO_dup2, zO_dup200, zO_dup202, zO_dup220, zO_dup222, zO_ifCond_eq, zO_ifCond_ne, zO_ifCond_lt, zO_ifCond_ge, zO_ifCond_gt, zO_ifCond_le, zO_if_icmp_eq, zO_if_icmp_ne, zO_if_icmp_lt, zO_if_icmp_ge, zO_if_icmp_gt, zO_if_icmp_le, zO_getfield, zO_putfield, zO_iaload, zO_baload, zO_laload, zO_iastore, zO_bastore, zO_lastore, zO_arraylength, zO_invokevirtual, zO_lreturn, zO_areturn, zO_return_, zO_tableswitch, zO_lookupswitch, zO_is0, zO_is1, zO_is2, zO_is3, zO_is4, zO_is9, zO_is10, zO_is11, zO_is12, zO_ir1, zO_ir4, zB_c, zLd_0, zLd_s, zSt_c, zSt2_c, zU_c, zD_c, zY_c, zSw_n, zSw_c, zCall_c, zVirt_c, zP_0, zP_1, zP_2, zP_3, zP_4, zGet_n, zGet_z, zPut_n, zPut_z, List.length_cons, List.length_nil, List.take_succ_cons, List.take_zero, List.drop_succ_cons, List.drop_zero, List.reverse_cons, List.reverse_nil, List.nil_append, List.cons_append, List.append_nil, List.set_cons_zero, List.set_cons_succ, List.getD_cons_zero, List.getD_cons_succ, true_and, and_true, ne_eq, not_false_eq_true, not_true_eq_false, zif, Nat.reduceAdd, Nat.reduceLeDiff, Nat.reduceLT, Nat.reduceSub, Nat.reduceEqDiff, Nat.zero_le, Nat.lt_add_one, Nat.reduceMod, false_implies, true_implies, implies_true, forall_const, Int.reduceLE, Int.reduceLT, Int.reduceEq, Int.reduceNeg, ite10_0, ite10_1, zem, zem2, Classical.not_not, and_self, zT_15, zN_15, zGf_32_15, zPf_32_15, zGf_33_15, zAl_16, zAs_16, hs]
      refine ⟨fun h => absurd h (by omega), fun _ => ?_⟩
      rw [zw_e (by omega) (by omega)]
      refine hnext (ncl_up hinv (fun i' j' k' l' a b c e g hl => ?_)) _ _ _
      unfold zrg at a b c e
      omega
  have hi : ∀ i (s : zV × zV × zV), 0 ≤ i → i ≤ n → (1 ≤ i ∧ ncl N n (1000 * i)) → zR (d + 3) 19 Q 2 [(2, 15), (0, i), s.1, s.2.1, s.2.2] [] μ := by
    refine zloop (n := n) (Inv := fun i (_ : zV × zV × zV) => 1 ≤ i ∧ ncl N n (1000 * i)) (R := fun i s => zR (d + 3) 19 Q 2 [(2, 15), (0, i), s.1, s.2.1, s.2.2] [] μ) ?_ ?_
    · rintro i ⟨x, y, z⟩ i0 i1 ⟨ii, hinv⟩ ih
      rw [u19_2]
      simp only [k19_2, zO_nop, zO_goto, zO_iload_n0, zO_iload_n1, zO_iload_n2, zO_iload_n3, zO_iload, zO_lload_n0, zO_lload_n1, zO_lload_n2, zO_lload_n3, zO_lload, zO_aload_n0, zO_aload_n1, zO_aload_n2, zO_aload_n3, zO_aload, zO_istore_n0, zO_istore_n1, zO_istore_n2, zO_istore_n3, zO_istore, zO_astore_n0, zO_astore_n1, zO_astore_n2, zO_astore_n3, zO_astore, zO_lstore, zO_iinc, zO_iconst, zO_bipush, zO_sipush, zO_lconst0, zO_lconst1, zO_ldc, zO_ldc2_w, zO_iadd, zO_isub, zO_imul, zO_idiv, zO_irem, zO_ineg, zO_iand, zO_ior, zO_ixor, zO_ishl, zO_ishr, zO_iushr, zO_ladd, zO_lmul, zO_land, zO_lor, zO_lshl, zO_lcmp, zO_i2l, zO_l2i, zO_i2b, zO_dup0, zO_dup2, zO_dup200, zO_dup202, zO_dup220, zO_dup222, zO_ifCond_eq, zO_ifCond_ne, zO_ifCond_lt, zO_ifCond_ge, zO_ifCond_gt, zO_ifCond_le, zO_if_icmp_eq, zO_if_icmp_ne, zO_if_icmp_lt, zO_if_icmp_ge, zO_if_icmp_gt, zO_if_icmp_le, zO_getfield, zO_putfield, zO_iaload, zO_baload, zO_laload, zO_iastore, zO_bastore, zO_lastore, zO_arraylength, zO_invokevirtual, zO_lreturn, zO_areturn, zO_return_, zO_tableswitch, zO_lookupswitch, zO_is0, zO_is1, zO_is2, zO_is3, zO_is4, zO_is9, zO_is10, zO_is11, zO_is12, zO_ir1, zO_ir4, zB_c, zLd_0, zLd_s, zSt_c, zSt2_c, zU_c, zD_c, zY_c, zSw_n, zSw_c, zCall_c, zVirt_c, zP_0, zP_1, zP_2, zP_3, zP_4, zGet_n, zGet_z, zPut_n, zPut_z, List.length_cons, List.length_nil, List.take_succ_cons, List.take_zero, List.drop_succ_cons, List.drop_zero, List.reverse_cons, List.reverse_nil, List.nil_append, List.cons_append, List.append_nil, List.set_cons_zero, List.set_cons_succ, List.getD_cons_zero, List.getD_cons_succ, true_and, and_true, ne_eq, not_false_eq_true, not_true_eq_false, zif, Nat.reduceAdd, Nat.reduceLeDiff, Nat.reduceLT, Nat.reduceSub, Nat.reduceEqDiff, Nat.zero_le, Nat.lt_add_one, Nat.reduceMod, false_implies, true_implies, implies_true, forall_const, Int.reduceLE, Int.reduceLT, Int.reduceEq, Int.reduceNeg, ite10_0, ite10_1, zem, zem2, Classical.not_not, and_self, zT_15, zN_15, zGf_32_15, zPf_32_15, zGf_33_15, zAl_16, zAs_16, hs]
      refine ⟨fun _ => hj i ii i1 (fun h x y z => ih (x, y, z) ⟨by omega, h⟩) 1 (_, _) (by omega) (by omega) ⟨by omega, ncl_up hinv (fun i' j' k' l' a b c e g hl => ?_)⟩, fun h => absurd i1 h⟩
      by_cases e2 : j' = 0
      · exact absurd g (clM_one hp a b c e (Or.inr (Or.inl e2)))
      · unfold zrg at a b c e
        omega
    · rintro ⟨x, y, z⟩ ⟨ii, hinv⟩
      rw [u19_2]
      simp only [k19_2, e19, k19_0, u19_67, k19_67, u19_73, k19_73, u19_79, k19_79, u19_85, k19_85, zO_nop, zO_goto, zO_iload_n0, zO_iload_n1, zO_iload_n2, zO_iload_n3, zO_iload, zO_lload_n0, zO_lload_n1, zO_lload_n2, zO_lload_n3, zO_lload, zO_aload_n0, zO_aload_n1, zO_aload_n2, zO_aload_n3, zO_aload, zO_istore_n0, zO_istore_n1, zO_istore_n2, zO_istore_n3, zO_istore, zO_astore_n0, zO_astore_n1, zO_astore_n2, zO_astore_n3, zO_astore, zO_lstore, zO_iinc, zO_iconst, zO_bipush, zO_sipush, zO_lconst0, zO_lconst1, zO_ldc, zO_ldc2_w, zO_iadd, zO_isub, zO_imul, zO_idiv, zO_irem, zO_ineg, zO_iand, zO_ior, zO_ixor, zO_ishl, zO_ishr, zO_iushr, zO_ladd, zO_lmul, zO_land, zO_lor, zO_lshl, zO_lcmp, zO_i2l, zO_l2i, zO_i2b, zO_dup0, zO_dup2, zO_dup200, zO_dup202, zO_dup220, zO_dup222, zO_ifCond_eq, zO_ifCond_ne, zO_ifCond_lt, zO_ifCond_ge, zO_ifCond_gt, zO_ifCond_le, zO_if_icmp_eq, zO_if_icmp_ne, zO_if_icmp_lt, zO_if_icmp_ge, zO_if_icmp_gt, zO_if_icmp_le, zO_getfield, zO_putfield, zO_iaload, zO_baload, zO_laload, zO_iastore, zO_bastore, zO_lastore, zO_arraylength, zO_invokevirtual, zO_lreturn, zO_areturn, zO_return_, zO_tableswitch, zO_lookupswitch, zO_is0, zO_is1, zO_is2, zO_is3, zO_is4, zO_is9, zO_is10, zO_is11, zO_is12, zO_ir1, zO_ir4, zB_c, zLd_0, zLd_s, zSt_c, zSt2_c, zU_c, zD_c, zY_c, zSw_n, zSw_c, zCall_c, zVirt_c, zP_0, zP_1, zP_2, zP_3, zP_4, zGet_n, zGet_z, zPut_n, zPut_z, List.length_cons, List.length_nil, List.take_succ_cons, List.take_zero, List.drop_succ_cons, List.drop_zero, List.reverse_cons, List.reverse_nil, List.nil_append, List.cons_append, List.append_nil, List.set_cons_zero, List.set_cons_succ, List.getD_cons_zero, List.getD_cons_succ, true_and, and_true, ne_eq, not_false_eq_true, not_true_eq_false, zif, Nat.reduceAdd, Nat.reduceLeDiff, Nat.reduceLT, Nat.reduceSub, Nat.reduceEqDiff, Nat.zero_le, Nat.lt_add_one, Nat.reduceMod, false_implies, true_implies, implies_true, forall_const, Int.reduceLE, Int.reduceLT, Int.reduceEq, Int.reduceNeg, ite10_0, ite10_1, zem, zem2, Classical.not_not, and_self, zT_15, zN_15, zGf_32_15, zPf_32_15, zGf_33_15, zAl_16, zAs_16, hs]
      refine ⟨fun h => absurd h (by omega), fun _ => ?_⟩
      rw [← hQ]
      refine ⟨rfl, Or.inl ⟨rfl, fun i' j' k' l' a b c e g => ?_⟩⟩
      have h1 := hinv i' j' k' l' a b c e g
      unfold zrg at a b c e
      omega
  simp only [e19, k19_0, zO_nop, zO_goto, zO_iload_n0, zO_iload_n1, zO_iload_n2, zO_iload_n3, zO_iload, zO_lload_n0, zO_lload_n1, zO_lload_n2, zO_lload_n3, zO_lload, zO_aload_n0, zO_aload_n1, zO_aload_n2, zO_aload_n3, zO_aload, zO_istore_n0, zO_istore_n1, zO_istore_n2, zO_istore_n3, zO_istore, zO_astore_n0, zO_astore_n1, zO_astore_n2, zO_astore_n3, zO_astore, zO_lstore, zO_iinc, zO_iconst, zO_bipush, zO_sipush, zO_lconst0, zO_lconst1, zO_ldc, zO_ldc2_w, zO_iadd, zO_isub, zO_imul, zO_idiv, zO_irem, zO_ineg, zO_iand, zO_ior, zO_ixor, zO_ishl, zO_ishr, zO_iushr, zO_ladd, zO_lmul, zO_land, zO_lor, zO_lshl, zO_lcmp, zO_i2l, zO_l2i, zO_i2b, zO_dup0, zO_dup2, zO_dup200, zO_dup202, zO_dup220, zO_dup222, zO_ifCond_eq, zO_ifCond_ne, zO_ifCond_lt, zO_ifCond_ge, zO_ifCond_gt, zO_ifCond_le, zO_if_icmp_eq, zO_if_icmp_ne, zO_if_icmp_lt, zO_if_icmp_ge, zO_if_icmp_gt, zO_if_icmp_le, zO_getfield, zO_putfield, zO_iaload, zO_baload, zO_laload, zO_iastore, zO_bastore, zO_lastore, zO_arraylength, zO_invokevirtual, zO_lreturn, zO_areturn, zO_return_, zO_tableswitch, zO_lookupswitch, zO_is0, zO_is1, zO_is2, zO_is3, zO_is4, zO_is9, zO_is10, zO_is11, zO_is12, zO_ir1, zO_ir4, zB_c, zLd_0, zLd_s, zSt_c, zSt2_c, zU_c, zD_c, zY_c, zSw_n, zSw_c, zCall_c, zVirt_c, zP_0, zP_1, zP_2, zP_3, zP_4, zGet_n, zGet_z, zPut_n, zPut_z, List.length_cons, List.length_nil, List.take_succ_cons, List.take_zero, List.drop_succ_cons, List.drop_zero, List.reverse_cons, List.reverse_nil, List.nil_append, List.cons_append, List.append_nil, List.set_cons_zero, List.set_cons_succ, List.getD_cons_zero, List.getD_cons_succ, true_and, and_true, ne_eq, not_false_eq_true, not_true_eq_false, zif, Nat.reduceAdd, Nat.reduceLeDiff, Nat.reduceLT, Nat.reduceSub, Nat.reduceEqDiff, Nat.zero_le, Nat.lt_add_one, Nat.reduceMod, false_implies, true_implies, implies_true, forall_const, Int.reduceLE, Int.reduceLT, Int.reduceEq, Int.reduceNeg, ite10_0, ite10_1, zem, zem2, Classical.not_not, and_self]
  refine hi 1 (_, _, _) (by omega) (by omega) ⟨by omega, fun i' j' k' l' a b c e g => ?_⟩
  by_cases e2 : i' = 0
  · exact absurd g (clM_one hp a b c e (Or.inl e2))
  · unfold zrg at a b c e
    omega
theorem K_firstClash17 {d : Nat} {n : Int} {N : Int → Int → Int → Int} {μ : zM} (hn : 1 ≤ n ∧ n ≤ 5) (hs : μ 17 0 = n) (hF : zFu 18 n N μ) (hb : zNb n N) (hp : zNp n N) : zC (d + 4) 19 [(2, 17)] μ (fun r u => u = μ ∧ isC N n r) := by
  generalize hQ : (fun (r : Int) (u : zM) => u = μ ∧ isC N n r) = Q
  have hk : ∀ i j, 1 ≤ i → i < n → 1 ≤ j → j < n → (ncl N n (1000 * i + 100 * (j + 1)) → ∀ x y, zR (d + 3) 19 Q 12 [(2, 17), (0, i), (0, j + 1), x, y] [] μ) → ∀ k (s : zV), 0 ≤ k → k ≤ n → (1 ≤ k ∧ ncl N n (1000 * i + 100 * j + 10 * k)) → zR (d + 3) 19 Q 22 [(2, 17), (0, i), (0, j), (0, k), s] [] μ := by
    intro i j i0 i1 j0 j1 hnext
    refine zloop (n := n) (Inv := fun k (_ : zV) => 1 ≤ k ∧ ncl N n (1000 * i + 100 * j + 10 * k)) (R := fun k s => zR (d + 3) 19 Q 22 [(2, 17), (0, i), (0, j), (0, k), s] [] μ) ?_ ?_
    · rintro k s k0 k1 ⟨kk, hinv⟩ ih
      rw [u19_22]
      simp only [k19_22, e19, k19_0, u19_67, k19_67, u19_73, k19_73, u19_79, k19_79, u19_85, k19_85, zO_nop, zO_goto, zO_iload_n0, zO_iload_n1, zO_iload_n2, zO_iload_n3, zO_iload, zO_lload_n0, zO_lload_n1, zO_lload_n2, zO_lload_n3, zO_lload, zO_aload_n0, zO_aload_n1, zO_aload_n2, zO_aload_n3, zO_aload, zO_istore_n0, zO_istore_n1, zO_istore_n2, zO_istore_n3, zO_istore, zO_astore_n0, zO_astore_n1, zO_astore_n2, zO_astore_n3, zO_astore, zO_lstore, zO_iinc, zO_iconst, zO_bipush, zO_sipush, zO_lconst0, zO_lconst1, zO_ldc, zO_ldc2_w, zO_iadd, zO_isub, zO_imul, zO_idiv, zO_irem, zO_ineg, zO_iand, zO_ior, zO_ixor, zO_ishl, zO_ishr, zO_iushr, zO_ladd, zO_lmul, zO_land, zO_lor, zO_lshl, zO_lcmp, zO_i2l, zO_l2i, zO_i2b, zO_dup0, zO_dup2, zO_dup200, zO_dup202, zO_dup220, zO_dup222, zO_ifCond_eq, zO_ifCond_ne, zO_ifCond_lt, zO_ifCond_ge, zO_ifCond_gt, zO_ifCond_le, zO_if_icmp_eq, zO_if_icmp_ne, zO_if_icmp_lt, zO_if_icmp_ge, zO_if_icmp_gt, zO_if_icmp_le, zO_getfield, zO_putfield, zO_iaload, zO_baload, zO_laload, zO_iastore, zO_bastore, zO_lastore, zO_arraylength, zO_invokevirtual, zO_lreturn, zO_areturn, zO_return_, zO_tableswitch, zO_lookupswitch, zO_is0, zO_is1, zO_is2, zO_is3, zO_is4, zO_is9, zO_is10, zO_is11, zO_is12, zO_ir1, zO_ir4, zB_c, zLd_0, zLd_s, zSt_c, zSt2_c, zU_c, zD_c, zY_c, zSw_n, zSw_c, zCall_c, zVirt_c, zP_0, zP_1, zP_2, zP_3, zP_4, zGet_n, zGet_z, zPut_n, zPut_z, List.length_cons, List.length_nil, List.take_succ_cons, List.take_zero, List.drop_succ_cons, List.drop_zero, List.reverse_cons, List.reverse_nil, List.nil_append, List.cons_append, List.append_nil, List.set_cons_zero, List.set_cons_succ, List.getD_cons_zero, List.getD_cons_succ, true_and, and_true, ne_eq, not_false_eq_true, not_true_eq_false, zif, Nat.reduceAdd, Nat.reduceLeDiff, Nat.reduceLT, Nat.reduceSub, Nat.reduceEqDiff, Nat.zero_le, Nat.lt_add_one, Nat.reduceMod, false_implies, true_implies, implies_true, forall_const, Int.reduceLE, Int.reduceLT, Int.reduceEq, Int.reduceNeg, ite10_0, ite10_1, zem, zem2, Classical.not_not, and_self, zT_17, zN_17, zGf_32_17, zPf_32_17, zGf_33_17, zAl_18, zAs_18, hs]
      refine ⟨fun _ => ?_, fun h => absurd k1 h⟩
      refine zuse (K_firstClashOf17 hn hs hF hb ⟨by omega, i1⟩ ⟨by omega, j1⟩ ⟨by omega, k1⟩) ?_
      rintro r u ⟨rfl, r0, r1, r2, r3⟩
      simp only [hs]
      refine ⟨fun hr => ?_, fun hr => ?_⟩
      · simp (disch := omega) only [zw_e]
        rw [← hQ]
        exact ⟨rfl, Or.inr ⟨i, j, k, r, ⟨by omega, i1⟩, ⟨by omega, j1⟩, ⟨by omega, k1⟩, ⟨r0, hr⟩, r2 hr, rfl, fun i' j' k' l' a b c e g => by
          have h1 := hinv i' j' k' l' a b c e g
          by_cases e2 : i' = i ∧ j' = j ∧ k' = k
          · obtain ⟨rfl, rfl, rfl⟩ := e2
            by_cases q : l' < r
            · exact absurd g (r3 l' e.1 q)
            · omega
          · unfold zrg at a b c e
            omega⟩⟩
      · rw [zw_e (by omega) (by omega)]
        refine ih _ ⟨by omega, ncl_up hinv (fun i' j' k' l' a b c e g hl => ?_)⟩
        by_cases e2 : i' = i ∧ j' = j ∧ k' = k
        · obtain ⟨rfl, rfl, rfl⟩ := e2
          exact absurd g (r3 l' e.1 (by have := e.2; omega))
        · unfold zrg at a b c e
          omega
    · rintro s ⟨kk, hinv⟩
      rw [u19_22]
      simp only [k19_22, e19, k19_0, u19_67, k19_67, u19_73, k19_73, u19_79, k19_79, u19_85, k19_85, zO_nop, zO_goto, zO_iload_n0, zO_iload_n1, zO_iload_n2, zO_iload_n3, zO_iload, zO_lload_n0, zO_lload_n1, zO_lload_n2, zO_lload_n3, zO_lload, zO_aload_n0, zO_aload_n1, zO_aload_n2, zO_aload_n3, zO_aload, zO_istore_n0, zO_istore_n1, zO_istore_n2, zO_istore_n3, zO_istore, zO_astore_n0, zO_astore_n1, zO_astore_n2, zO_astore_n3, zO_astore, zO_lstore, zO_iinc, zO_iconst, zO_bipush, zO_sipush, zO_lconst0, zO_lconst1, zO_ldc, zO_ldc2_w, zO_iadd, zO_isub, zO_imul, zO_idiv, zO_irem, zO_ineg, zO_iand, zO_ior, zO_ixor, zO_ishl, zO_ishr, zO_iushr, zO_ladd, zO_lmul, zO_land, zO_lor, zO_lshl, zO_lcmp, zO_i2l, zO_l2i, zO_i2b, zO_dup0, zO_dup2, zO_dup200, zO_dup202, zO_dup220, zO_dup222, zO_ifCond_eq, zO_ifCond_ne, zO_ifCond_lt, zO_ifCond_ge, zO_ifCond_gt, zO_ifCond_le, zO_if_icmp_eq, zO_if_icmp_ne, zO_if_icmp_lt, zO_if_icmp_ge, zO_if_icmp_gt, zO_if_icmp_le, zO_getfield, zO_putfield, zO_iaload, zO_baload, zO_laload, zO_iastore, zO_bastore, zO_lastore, zO_arraylength, zO_invokevirtual, zO_lreturn, zO_areturn, zO_return_, zO_tableswitch, zO_lookupswitch, zO_is0, zO_is1, zO_is2, zO_is3, zO_is4, zO_is9, zO_is10, zO_is11, zO_is12, zO_ir1, zO_ir4, zB_c, zLd_0, zLd_s, zSt_c, zSt2_c, zU_c, zD_c, zY_c, zSw_n, zSw_c, zCall_c, zVirt_c, zP_0, zP_1, zP_2, zP_3, zP_4, zGet_n, zGet_z, zPut_n, zPut_z, List.length_cons, List.length_nil, List.take_succ_cons, List.take_zero, List.drop_succ_cons, List.drop_zero, List.reverse_cons, List.reverse_nil, List.nil_append, List.cons_append, List.append_nil, List.set_cons_zero, List.set_cons_succ, List.getD_cons_zero, List.getD_cons_succ, true_and, and_true, ne_eq, not_false_eq_true, not_true_eq_false, zif, Nat.reduceAdd, Nat.reduceLeDiff, Nat.reduceLT, Nat.reduceSub, Nat.reduceEqDiff, Nat.zero_le, Nat.lt_add_one, Nat.reduceMod, false_implies, true_implies, implies_true, forall_const, Int.reduceLE, Int.reduceLT, Int.reduceEq, Int.reduceNeg, ite10_0, ite10_1, zem, zem2, Classical.not_not, and_self, zT_17, zN_17, zGf_32_17, zPf_32_17, zGf_33_17, zAl_18, zAs_18, hs]
      refine ⟨fun h => absurd h (by omega), fun _ => ?_⟩
      rw [zw_e (by omega) (by omega)]
      refine hnext (ncl_up hinv (fun i' j' k' l' a b c e g hl => ?_)) _ _
      unfold zrg at a b c e
      omega
  have hj : ∀ i, 1 ≤ i → i < n → (ncl N n (1000 * (i + 1)) → ∀ x y z, zR (d + 3) 19 Q 2 [(2, 17), (0, i + 1), x, y, z] [] μ) → ∀ j (s : zV × zV), 0 ≤ j → j ≤ n → (1 ≤ j ∧ ncl N n (1000 * i + 100 * j)) → zR (d + 3) 19 Q 12 [(2, 17), (0, i), (0, j), s.1, s.2] [] μ := by
    intro i i0 i1 hnext
    refine zloop (n := n) (Inv := fun j (_ : zV × zV) => 1 ≤ j ∧ ncl N n (1000 * i + 100 * j)) (R := fun j s => zR (d + 3) 19 Q 12 [(2, 17), (0, i), (0, j), s.1, s.2] [] μ) ?_ ?_
    · rintro j ⟨x, y⟩ j0 j1 ⟨jj, hinv⟩ ih
      rw [u19_12]
      simp only [k19_12, zO_nop, zO_goto, zO_iload_n0, zO_iload_n1, zO_iload_n2, zO_iload_n3, zO_iload, zO_lload_n0, zO_lload_n1, zO_lload_n2, zO_lload_n3, zO_lload, zO_aload_n0, zO_aload_n1, zO_aload_n2, zO_aload_n3, zO_aload, zO_istore_n0, zO_istore_n1, zO_istore_n2, zO_istore_n3, zO_istore, zO_astore_n0, zO_astore_n1, zO_astore_n2, zO_astore_n3, zO_astore, zO_lstore, zO_iinc, zO_iconst, zO_bipush, zO_sipush, zO_lconst0, zO_lconst1, zO_ldc, zO_ldc2_w, zO_iadd, zO_isub, zO_imul, zO_idiv, zO_irem, zO_ineg, zO_iand, zO_ior, zO_ixor, zO_ishl, zO_ishr, zO_iushr, zO_ladd, zO_lmul, zO_land, zO_lor, zO_lshl, zO_lcmp, zO_i2l, zO_l2i, zO_i2b, zO_dup0, zO_dup2, zO_dup200, zO_dup202, zO_dup220, zO_dup222, zO_ifCond_eq, zO_ifCond_ne, zO_ifCond_lt, zO_ifCond_ge, zO_ifCond_gt, zO_ifCond_le, zO_if_icmp_eq, zO_if_icmp_ne, zO_if_icmp_lt, zO_if_icmp_ge, zO_if_icmp_gt, zO_if_icmp_le, zO_getfield, zO_putfield, zO_iaload, zO_baload, zO_laload, zO_iastore, zO_bastore, zO_lastore, zO_arraylength, zO_invokevirtual, zO_lreturn, zO_areturn, zO_return_, zO_tableswitch, zO_lookupswitch, zO_is0, zO_is1, zO_is2, zO_is3, zO_is4, zO_is9, zO_is10, zO_is11, zO_is12, zO_ir1, zO_ir4, zB_c, zLd_0, zLd_s, zSt_c, zSt2_c, zU_c, zD_c, zY_c, zSw_n, zSw_c, zCall_c, zVirt_c, zP_0, zP_1, zP_2, zP_3, zP_4, zGet_n, zGet_z, zPut_n, zPut_z, List.length_cons, List.length_nil, List.take_succ_cons, List.take_zero, List.drop_succ_cons, List.drop_zero, List.reverse_cons, List.reverse_nil, List.nil_append, List.cons_append, List.append_nil, List.set_cons_zero, List.set_cons_succ, List.getD_cons_zero, List.getD_cons_succ, true_and, and_true, ne_eq, not_false_eq_true, not_true_eq_false, zif, Nat.reduceAdd, Nat.reduceLeDiff, Nat.reduceLT, Nat.reduceSub, Nat.reduceEqDiff, Nat.zero_le, Nat.lt_add_one, Nat.reduceMod, false_implies, true_implies, implies_true, forall_const, Int.reduceLE, Int.reduceLT, Int.reduceEq, Int.reduceNeg, ite10_0, ite10_1, zem, zem2, Classical.not_not, and_self, zT_17, zN_17, zGf_32_17, zPf_32_17, zGf_33_17, zAl_18, zAs_18, hs]
      refine ⟨fun _ => hk i j i0 i1 jj j1 (fun h x y => ih (x, y) ⟨by omega, h⟩) 1 _ (by omega) (by omega) ⟨by omega, ncl_up hinv (fun i' j' k' l' a b c e g hl => ?_)⟩, fun h => absurd j1 h⟩
      by_cases e2 : k' = 0
      · exact absurd g (clM_one hp a b c e (Or.inr (Or.inr e2)))
      · unfold zrg at a b c e
        omega
    · rintro ⟨x, y⟩ ⟨jj, hinv⟩
      rw [u19_12]
      simp only [k19_12, e19, k19_0, u19_67, k19_67, u19_73, k19_73, u19_79, k19_79, u19_85, k19_85, zO_nop, zO_goto, zO_iload_n0, zO_iload_n1, zO_iload_n2, zO_iload_n3, zO_iload, zO_lload_n0, zO_lload_n1, zO_lload_n2, zO_lload_n3, zO_lload, zO_aload_n0, zO_aload_n1, zO_aload_n2, zO_aload_n3, zO_aload, zO_istore_n0, zO_istore_n1, zO_istore_n2, zO_istore_n3, zO_istore, zO_astore_n0, zO_astore_n1, zO_astore_n2, zO_astore_n3, zO_astore, zO_lstore, zO_iinc, zO_iconst, zO_bipush, zO_sipush, zO_lconst0, zO_lconst1, zO_ldc, zO_ldc2_w, zO_iadd, zO_isub, zO_imul, zO_idiv, zO_irem, zO_ineg, zO_iand, zO_ior, zO_ixor, zO_ishl, zO_ishr, zO_iushr, zO_ladd, zO_lmul, zO_land, zO_lor, zO_lshl, zO_lcmp, zO_i2l, zO_l2i, zO_i2b, zO_dup0, zO_dup2, zO_dup200, zO_dup202, zO_dup220, zO_dup222, zO_ifCond_eq, zO_ifCond_ne, zO_ifCond_lt, zO_ifCond_ge, zO_ifCond_gt, zO_ifCond_le, zO_if_icmp_eq, zO_if_icmp_ne, zO_if_icmp_lt, zO_if_icmp_ge, zO_if_icmp_gt, zO_if_icmp_le, zO_getfield, zO_putfield, zO_iaload, zO_baload, zO_laload, zO_iastore, zO_bastore, zO_lastore, zO_arraylength, zO_invokevirtual, zO_lreturn, zO_areturn, zO_return_, zO_tableswitch, zO_lookupswitch, zO_is0, zO_is1, zO_is2, zO_is3, zO_is4, zO_is9, zO_is10, zO_is11, zO_is12, zO_ir1, zO_ir4, zB_c, zLd_0, zLd_s, zSt_c, zSt2_c, zU_c, zD_c, zY_c, zSw_n, zSw_c, zCall_c, zVirt_c, zP_0, zP_1, zP_2, zP_3, zP_4, zGet_n, zGet_z, zPut_n, zPut_z, List.length_cons, List.length_nil, List.take_succ_cons, List.take_zero, List.drop_succ_cons, List.drop_zero, List.reverse_cons, List.reverse_nil, List.nil_append, List.cons_append, List.append_nil, List.set_cons_zero, List.set_cons_succ, List.getD_cons_zero, List.getD_cons_succ, true_and, and_true, ne_eq, not_false_eq_true, not_true_eq_false, zif, Nat.reduceAdd, Nat.reduceLeDiff, Nat.reduceLT, Nat.reduceSub, Nat.reduceEqDiff, Nat.zero_le, Nat.lt_add_one, Nat.reduceMod, false_implies, true_implies, implies_true, forall_const, Int.reduceLE, Int.reduceLT, Int.reduceEq, Int.reduceNeg, ite10_0, ite10_1, zem, zem2, Classical.not_not, and_self, zT_17, zN_17, zGf_32_17, zPf_32_17, zGf_33_17, zAl_18, zAs_18, hs]
      refine ⟨fun h => absurd h (by omega), fun _ => ?_⟩
      rw [zw_e (by omega) (by omega)]
      refine hnext (ncl_up hinv (fun i' j' k' l' a b c e g hl => ?_)) _ _ _
      unfold zrg at a b c e
      omega
  have hi : ∀ i (s : zV × zV × zV), 0 ≤ i → i ≤ n → (1 ≤ i ∧ ncl N n (1000 * i)) → zR (d + 3) 19 Q 2 [(2, 17), (0, i), s.1, s.2.1, s.2.2] [] μ := by
    refine zloop (n := n) (Inv := fun i (_ : zV × zV × zV) => 1 ≤ i ∧ ncl N n (1000 * i)) (R := fun i s => zR (d + 3) 19 Q 2 [(2, 17), (0, i), s.1, s.2.1, s.2.2] [] μ) ?_ ?_
    · rintro i ⟨x, y, z⟩ i0 i1 ⟨ii, hinv⟩ ih
      rw [u19_2]
      simp only [k19_2, zO_nop, zO_goto, zO_iload_n0, zO_iload_n1, zO_iload_n2, zO_iload_n3, zO_iload, zO_lload_n0, zO_lload_n1, zO_lload_n2, zO_lload_n3, zO_lload, zO_aload_n0, zO_aload_n1, zO_aload_n2, zO_aload_n3, zO_aload, zO_istore_n0, zO_istore_n1, zO_istore_n2, zO_istore_n3, zO_istore, zO_astore_n0, zO_astore_n1, zO_astore_n2, zO_astore_n3, zO_astore, zO_lstore, zO_iinc, zO_iconst, zO_bipush, zO_sipush, zO_lconst0, zO_lconst1, zO_ldc, zO_ldc2_w, zO_iadd, zO_isub, zO_imul, zO_idiv, zO_irem, zO_ineg, zO_iand, zO_ior, zO_ixor, zO_ishl, zO_ishr, zO_iushr, zO_ladd, zO_lmul, zO_land, zO_lor, zO_lshl, zO_lcmp, zO_i2l, zO_l2i, zO_i2b, zO_dup0, zO_dup2, zO_dup200, zO_dup202, zO_dup220, zO_dup222, zO_ifCond_eq, zO_ifCond_ne, zO_ifCond_lt, zO_ifCond_ge, zO_ifCond_gt, zO_ifCond_le, zO_if_icmp_eq, zO_if_icmp_ne, zO_if_icmp_lt, zO_if_icmp_ge, zO_if_icmp_gt, zO_if_icmp_le, zO_getfield, zO_putfield, zO_iaload, zO_baload, zO_laload, zO_iastore, zO_bastore, zO_lastore, zO_arraylength, zO_invokevirtual, zO_lreturn, zO_areturn, zO_return_, zO_tableswitch, zO_lookupswitch, zO_is0, zO_is1, zO_is2, zO_is3, zO_is4, zO_is9, zO_is10, zO_is11, zO_is12, zO_ir1, zO_ir4, zB_c, zLd_0, zLd_s, zSt_c, zSt2_c, zU_c, zD_c, zY_c, zSw_n, zSw_c, zCall_c, zVirt_c, zP_0, zP_1, zP_2, zP_3, zP_4, zGet_n, zGet_z, zPut_n, zPut_z, List.length_cons, List.length_nil, List.take_succ_cons, List.take_zero, List.drop_succ_cons, List.drop_zero, List.reverse_cons, List.reverse_nil, List.nil_append, List.cons_append, List.append_nil, List.set_cons_zero, List.set_cons_succ, List.getD_cons_zero, List.getD_cons_succ, true_and, and_true, ne_eq, not_false_eq_true, not_true_eq_false, zif, Nat.reduceAdd, Nat.reduceLeDiff, Nat.reduceLT, Nat.reduceSub, Nat.reduceEqDiff, Nat.zero_le, Nat.lt_add_one, Nat.reduceMod, false_implies, true_implies, implies_true, forall_const, Int.reduceLE, Int.reduceLT, Int.reduceEq, Int.reduceNeg, ite10_0, ite10_1, zem, zem2, Classical.not_not, and_self, zT_17, zN_17, zGf_32_17, zPf_32_17, zGf_33_17, zAl_18, zAs_18, hs]
      refine ⟨fun _ => hj i ii i1 (fun h x y z => ih (x, y, z) ⟨by omega, h⟩) 1 (_, _) (by omega) (by omega) ⟨by omega, ncl_up hinv (fun i' j' k' l' a b c e g hl => ?_)⟩, fun h => absurd i1 h⟩
      by_cases e2 : j' = 0
      · exact absurd g (clM_one hp a b c e (Or.inr (Or.inl e2)))
      · unfold zrg at a b c e
        omega
    · rintro ⟨x, y, z⟩ ⟨ii, hinv⟩
      rw [u19_2]
      simp only [k19_2, e19, k19_0, u19_67, k19_67, u19_73, k19_73, u19_79, k19_79, u19_85, k19_85, zO_nop, zO_goto, zO_iload_n0, zO_iload_n1, zO_iload_n2, zO_iload_n3, zO_iload, zO_lload_n0, zO_lload_n1, zO_lload_n2, zO_lload_n3, zO_lload, zO_aload_n0, zO_aload_n1, zO_aload_n2, zO_aload_n3, zO_aload, zO_istore_n0, zO_istore_n1, zO_istore_n2, zO_istore_n3, zO_istore, zO_astore_n0, zO_astore_n1, zO_astore_n2, zO_astore_n3, zO_astore, zO_lstore, zO_iinc, zO_iconst, zO_bipush, zO_sipush, zO_lconst0, zO_lconst1, zO_ldc, zO_ldc2_w, zO_iadd, zO_isub, zO_imul, zO_idiv, zO_irem, zO_ineg, zO_iand, zO_ior, zO_ixor, zO_ishl, zO_ishr, zO_iushr, zO_ladd, zO_lmul, zO_land, zO_lor, zO_lshl, zO_lcmp, zO_i2l, zO_l2i, zO_i2b, zO_dup0, zO_dup2, zO_dup200, zO_dup202, zO_dup220, zO_dup222, zO_ifCond_eq, zO_ifCond_ne, zO_ifCond_lt, zO_ifCond_ge, zO_ifCond_gt, zO_ifCond_le, zO_if_icmp_eq, zO_if_icmp_ne, zO_if_icmp_lt, zO_if_icmp_ge, zO_if_icmp_gt, zO_if_icmp_le, zO_getfield, zO_putfield, zO_iaload, zO_baload, zO_laload, zO_iastore, zO_bastore, zO_lastore, zO_arraylength, zO_invokevirtual, zO_lreturn, zO_areturn, zO_return_, zO_tableswitch, zO_lookupswitch, zO_is0, zO_is1, zO_is2, zO_is3, zO_is4, zO_is9, zO_is10, zO_is11, zO_is12, zO_ir1, zO_ir4, zB_c, zLd_0, zLd_s, zSt_c, zSt2_c, zU_c, zD_c, zY_c, zSw_n, zSw_c, zCall_c, zVirt_c, zP_0, zP_1, zP_2, zP_3, zP_4, zGet_n, zGet_z, zPut_n, zPut_z, List.length_cons, List.length_nil, List.take_succ_cons, List.take_zero, List.drop_succ_cons, List.drop_zero, List.reverse_cons, List.reverse_nil, List.nil_append, List.cons_append, List.append_nil, List.set_cons_zero, List.set_cons_succ, List.getD_cons_zero, List.getD_cons_succ, true_and, and_true, ne_eq, not_false_eq_true, not_true_eq_false, zif, Nat.reduceAdd, Nat.reduceLeDiff, Nat.reduceLT, Nat.reduceSub, Nat.reduceEqDiff, Nat.zero_le, Nat.lt_add_one, Nat.reduceMod, false_implies, true_implies, implies_true, forall_const, Int.reduceLE, Int.reduceLT, Int.reduceEq, Int.reduceNeg, ite10_0, ite10_1, zem, zem2, Classical.not_not, and_self, zT_17, zN_17, zGf_32_17, zPf_32_17, zGf_33_17, zAl_18, zAs_18, hs]
      refine ⟨fun h => absurd h (by omega), fun _ => ?_⟩
      rw [← hQ]
      refine ⟨rfl, Or.inl ⟨rfl, fun i' j' k' l' a b c e g => ?_⟩⟩
      have h1 := hinv i' j' k' l' a b c e g
      unfold zrg at a b c e
      omega
  simp only [e19, k19_0, zO_nop, zO_goto, zO_iload_n0, zO_iload_n1, zO_iload_n2, zO_iload_n3, zO_iload, zO_lload_n0, zO_lload_n1, zO_lload_n2, zO_lload_n3, zO_lload, zO_aload_n0, zO_aload_n1, zO_aload_n2, zO_aload_n3, zO_aload, zO_istore_n0, zO_istore_n1, zO_istore_n2, zO_istore_n3, zO_istore, zO_astore_n0, zO_astore_n1, zO_astore_n2, zO_astore_n3, zO_astore, zO_lstore, zO_iinc, zO_iconst, zO_bipush, zO_sipush, zO_lconst0, zO_lconst1, zO_ldc, zO_ldc2_w, zO_iadd, zO_isub, zO_imul, zO_idiv, zO_irem, zO_ineg, zO_iand, zO_ior, zO_ixor, zO_ishl, zO_ishr, zO_iushr, zO_ladd, zO_lmul, zO_land, zO_lor, zO_lshl, zO_lcmp, zO_i2l, zO_l2i, zO_i2b, zO_dup0, zO_dup2, zO_dup200, zO_dup202, zO_dup220, zO_dup222, zO_ifCond_eq, zO_ifCond_ne, zO_ifCond_lt, zO_ifCond_ge, zO_ifCond_gt, zO_ifCond_le, zO_if_icmp_eq, zO_if_icmp_ne, zO_if_icmp_lt, zO_if_icmp_ge, zO_if_icmp_gt, zO_if_icmp_le, zO_getfield, zO_putfield, zO_iaload, zO_baload, zO_laload, zO_iastore, zO_bastore, zO_lastore, zO_arraylength, zO_invokevirtual, zO_lreturn, zO_areturn, zO_return_, zO_tableswitch, zO_lookupswitch, zO_is0, zO_is1, zO_is2, zO_is3, zO_is4, zO_is9, zO_is10, zO_is11, zO_is12, zO_ir1, zO_ir4, zB_c, zLd_0, zLd_s, zSt_c, zSt2_c, zU_c, zD_c, zY_c, zSw_n, zSw_c, zCall_c, zVirt_c, zP_0, zP_1, zP_2, zP_3, zP_4, zGet_n, zGet_z, zPut_n, zPut_z, List.length_cons, List.length_nil, List.take_succ_cons, List.take_zero, List.drop_succ_cons, List.drop_zero, List.reverse_cons, List.reverse_nil, List.nil_append, List.cons_append, List.append_nil, List.set_cons_zero, List.set_cons_succ, List.getD_cons_zero, List.getD_cons_succ, true_and, and_true, ne_eq, not_false_eq_true, not_true_eq_false, zif, Nat.reduceAdd, Nat.reduceLeDiff, Nat.reduceLT, Nat.reduceSub, Nat.reduceEqDiff, Nat.zero_le, Nat.lt_add_one, Nat.reduceMod, false_implies, true_implies, implies_true, forall_const, Int.reduceLE, Int.reduceLT, Int.reduceEq, Int.reduceNeg, ite10_0, ite10_1, zem, zem2, Classical.not_not, and_self]
  refine hi 1 (_, _, _) (by omega) (by omega) ⟨by omega, fun i' j' k' l' a b c e g => ?_⟩
  by_cases e2 : i' = 0
  · exact absurd g (clM_one hp a b c e (Or.inl e2))
  · unfold zrg at a b c e
    omega
/-- the reference's rules as numbers of i, j, k -/
def nF (μ : zM) (i j k : Int) : Int := oF (μ 40 0) (μ 40 1) (μ 40 2) (fun x => μ 40 (3 + x)) i j k
theorem L_n2 {d : Nat} {i j k : Int} {μ : zM} {P : Int → zM → Prop} (hn : 1 ≤ μ 40 1 ∧ μ 40 1 ≤ 5) (hi : zrg (μ 40 1) i) (hj : zrg (μ 40 1) j) (hk : zrg (μ 40 1) k) : zC (d + 3) 117 [(2, 39), (0, i), (0, j), (0, k)] μ P ↔ P (nF μ i j k) μ := L_n hn hi hj hk
theorem L_firstClash {d : Nat} {n : Int} {μ : zM} (hn : 1 ≤ n ∧ n ≤ 5) (hs : μ 40 1 = n) (hb : zNb n (nF μ)) : zC (d + 4) 119 [(2, 39)] μ (fun r u => u = μ ∧ isC (nF μ) n r) := by
  have hn2 : 1 ≤ μ 40 1 ∧ μ 40 1 ≤ 5 := by rw [hs]; exact hn
  generalize hN : nF μ = N at hb ⊢
  generalize hQ : (fun (r : Int) (u : zM) => u = μ ∧ isC N n r) = Q
  have Ln : ∀ {i j k : Int} {P : Int → zM → Prop}, zrg n i → zrg n j → zrg n k → (zC (d + 3) 117 [(2, 39), (0, i), (0, j), (0, k)] μ P ↔ P (N i j k) μ) := by
    intro i j k P hi hj hk
    rw [← hN]
    exact L_n2 hn2 (by rw [hs]; exact hi) (by rw [hs]; exact hj) (by rw [hs]; exact hk)
  have hm : ∀ i j k l, zrg n i → zrg n j → zrg n k → zrg n l → (∀ m, zR (d + 3) 119 Q 108 [(2, 39), (0, n), (0, i), (0, j), (0, k), (0, l), (0, clA N n i j k l), (0, clB N n i j k l), m] [] μ) → ∀ m (s : Int × Int), 0 ≤ m → m ≤ n → (s.1 = zs (fun m => N i j m * N m k l) m ∧ s.2 = zs (fun m => N j k m * N i m l) m) → zR (d + 3) 119 Q 48 [(2, 39), (0, n), (0, i), (0, j), (0, k), (0, l), (0, s.1), (0, s.2), (0, m)] [] μ := by
    intro i j k l hi hj hk hl hnext
    refine zloop (n := n) (Inv := fun m (s : Int × Int) => s.1 = zs (fun m => N i j m * N m k l) m ∧ s.2 = zs (fun m => N j k m * N i m l) m) (R := fun m s => zR (d + 3) 119 Q 48 [(2, 39), (0, n), (0, i), (0, j), (0, k), (0, l), (0, s.1), (0, s.2), (0, m)] [] μ) ?_ ?_
    · rintro m ⟨s1, s2⟩ m0 m1 ⟨e1, e2⟩ ih
      simp only at e1 e2
      have hmr : zrg n m := ⟨m0, m1⟩
      have g2 := cl_bd (m := m + 1) hn hb hi hj hk hl (by omega) (by omega)
      have p1 := zmul_bd (hb i j m hi hj hmr) (hb m k l hmr hk hl)
      have p2 := zmul_bd (hb j k m hj hk hmr) (hb i m l hi hmr hl)
      rw [zs_s _ m0, zs_s _ m0] at g2
      have ih2 := ih (s1 + N i j m * N m k l, s2 + N j k m * N i m l) ⟨by rw [e1, zs_s _ m0], by rw [e2, zs_s _ m0]⟩
      rw [u119_48]
      simp only [k119_48, zO_nop, zO_goto, zO_iload_n0, zO_iload_n1, zO_iload_n2, zO_iload_n3, zO_iload, zO_lload_n0, zO_lload_n1, zO_lload_n2, zO_lload_n3, zO_lload, zO_aload_n0, zO_aload_n1, zO_aload_n2, zO_aload_n3, zO_aload, zO_istore_n0, zO_istore_n1, zO_istore_n2, zO_istore_n3, zO_istore, zO_astore_n0, zO_astore_n1, zO_astore_n2, zO_astore_n3, zO_astore, zO_lstore, zO_iinc, zO_iconst, zO_bipush, zO_sipush, zO_lconst0, zO_lconst1, zO_ldc, zO_ldc2_w, zO_iadd, zO_isub, zO_imul, zO_idiv, zO_irem, zO_ineg, zO_iand, zO_ior, zO_ixor, zO_ishl, zO_ishr, zO_iushr, zO_ladd, zO_lmul, zO_land, zO_lor, zO_lshl, zO_lcmp, zO_i2l, zO_l2i, zO_i2b, zO_dup0, zO_dup2, zO_dup200, zO_dup202, zO_dup220, zO_dup222, zO_ifCond_eq, zO_ifCond_ne, zO_ifCond_lt, zO_ifCond_ge, zO_ifCond_gt, zO_ifCond_le, zO_if_icmp_eq, zO_if_icmp_ne, zO_if_icmp_lt, zO_if_icmp_ge, zO_if_icmp_gt, zO_if_icmp_le, zO_getfield, zO_putfield, zO_iaload, zO_baload, zO_laload, zO_iastore, zO_bastore, zO_lastore, zO_arraylength, zO_invokevirtual, zO_lreturn, zO_areturn, zO_return_, zO_tableswitch, zO_lookupswitch, zO_is0, zO_is1, zO_is2, zO_is3, zO_is4, zO_is9, zO_is10, zO_is11, zO_is12, zO_ir1, zO_ir4, zB_c, zLd_0, zLd_s, zSt_c, zSt2_c, zU_c, zD_c, zY_c, zSw_n, zSw_c, zCall_c, zVirt_c, zP_0, zP_1, zP_2, zP_3, zP_4, zGet_n, zGet_z, zPut_n, zPut_z, List.length_cons, List.length_nil, List.take_succ_cons, List.take_zero, List.drop_succ_cons, List.drop_zero, List.reverse_cons, List.reverse_nil, List.nil_append, List.cons_append, List.append_nil, List.set_cons_zero, List.set_cons_succ, List.getD_cons_zero, List.getD_cons_succ, true_and, and_true, ne_eq, not_false_eq_true, not_true_eq_false, zif, Nat.reduceAdd, Nat.reduceLeDiff, Nat.reduceLT, Nat.reduceSub, Nat.reduceEqDiff, Nat.zero_le, Nat.lt_add_one, Nat.reduceMod, false_implies, true_implies, implies_true, forall_const, Int.reduceLE, Int.reduceLT, Int.reduceEq, Int.reduceNeg, ite10_0, ite10_1, zem, zem2, Classical.not_not, and_self, zT_39, zN_39, zGf_192_39, zGf_193_39, zGf_194_39, zPf_194_39, zGf_195_39, zGf_196_39, zGf_197_39, zGf_198_39, zPf_198_39, zGf_199_39, zPf_199_39, zGf_200_39, zPf_200_39, zGf_201_39, zGf_202_39, zPf_202_39, zGf_203_39, zGf_204_39, zPf_204_39, zGf_205_39, zGf_206_39, zGf_207_39, zGf_208_39, zGf_209_39, zGf_210_39, zGf_211_39, zGf_212_39, zGf_213_39, zGf_214_39, zPf_214_39, zGf_215_39, zGf_216_39, zAl_40, zAs_40, Ln hi hj hmr, Ln hmr hk hl, Ln hj hk hmr, Ln hi hmr hl]
      refine ⟨fun _ => ?_, fun h => absurd m1 h⟩
      rw [zw_e (z := N i j m * N m k l) (by omega) (by omega), zw_e (z := N j k m * N i m l) (by omega) (by omega), zw_e (by omega) (by omega), zw_e (by omega) (by omega), zw_e (by omega) (by omega)]
      exact ih2
    · rintro ⟨s1, s2⟩ ⟨e1, e2⟩
      simp only at e1 e2
      rw [u119_48]
      simp only [k119_48, zO_nop, zO_goto, zO_iload_n0, zO_iload_n1, zO_iload_n2, zO_iload_n3, zO_iload, zO_lload_n0, zO_lload_n1, zO_lload_n2, zO_lload_n3, zO_lload, zO_aload_n0, zO_aload_n1, zO_aload_n2, zO_aload_n3, zO_aload, zO_istore_n0, zO_istore_n1, zO_istore_n2, zO_istore_n3, zO_istore, zO_astore_n0, zO_astore_n1, zO_astore_n2, zO_astore_n3, zO_astore, zO_lstore, zO_iinc, zO_iconst, zO_bipush, zO_sipush, zO_lconst0, zO_lconst1, zO_ldc, zO_ldc2_w, zO_iadd, zO_isub, zO_imul, zO_idiv, zO_irem, zO_ineg, zO_iand, zO_ior, zO_ixor, zO_ishl, zO_ishr, zO_iushr, zO_ladd, zO_lmul, zO_land, zO_lor, zO_lshl, zO_lcmp, zO_i2l, zO_l2i, zO_i2b, zO_dup0, zO_dup2, zO_dup200, zO_dup202, zO_dup220, zO_dup222, zO_ifCond_eq, zO_ifCond_ne, zO_ifCond_lt, zO_ifCond_ge, zO_ifCond_gt, zO_ifCond_le, zO_if_icmp_eq, zO_if_icmp_ne, zO_if_icmp_lt, zO_if_icmp_ge, zO_if_icmp_gt, zO_if_icmp_le, zO_getfield, zO_putfield, zO_iaload, zO_baload, zO_laload, zO_iastore, zO_bastore, zO_lastore, zO_arraylength, zO_invokevirtual, zO_lreturn, zO_areturn, zO_return_, zO_tableswitch, zO_lookupswitch, zO_is0, zO_is1, zO_is2, zO_is3, zO_is4, zO_is9, zO_is10, zO_is11, zO_is12, zO_ir1, zO_ir4, zB_c, zLd_0, zLd_s, zSt_c, zSt2_c, zU_c, zD_c, zY_c, zSw_n, zSw_c, zCall_c, zVirt_c, zP_0, zP_1, zP_2, zP_3, zP_4, zGet_n, zGet_z, zPut_n, zPut_z, List.length_cons, List.length_nil, List.take_succ_cons, List.take_zero, List.drop_succ_cons, List.drop_zero, List.reverse_cons, List.reverse_nil, List.nil_append, List.cons_append, List.append_nil, List.set_cons_zero, List.set_cons_succ, List.getD_cons_zero, List.getD_cons_succ, true_and, and_true, ne_eq, not_false_eq_true, not_true_eq_false, zif, Nat.reduceAdd, Nat.reduceLeDiff, Nat.reduceLT, Nat.reduceSub, Nat.reduceEqDiff, Nat.zero_le, Nat.lt_add_one, Nat.reduceMod, false_implies, true_implies, implies_true, forall_const, Int.reduceLE, Int.reduceLT, Int.reduceEq, Int.reduceNeg, ite10_0, ite10_1, zem, zem2, Classical.not_not, and_self, zT_39, zN_39, zGf_192_39, zGf_193_39, zGf_194_39, zPf_194_39, zGf_195_39, zGf_196_39, zGf_197_39, zGf_198_39, zPf_198_39, zGf_199_39, zPf_199_39, zGf_200_39, zPf_200_39, zGf_201_39, zGf_202_39, zPf_202_39, zGf_203_39, zGf_204_39, zPf_204_39, zGf_205_39, zGf_206_39, zGf_207_39, zGf_208_39, zGf_209_39, zGf_210_39, zGf_211_39, zGf_212_39, zGf_213_39, zGf_214_39, zPf_214_39, zGf_215_39, zGf_216_39, zAl_40, zAs_40]
      refine ⟨fun h => absurd h (by omega), fun _ => ?_⟩
      rw [e1, e2]
      exact hnext _
  have hl : ∀ i j k, zrg n i → zrg n j → zrg n k → (ncl N n (1000 * i + 100 * j + 10 * (k + 1)) → ∀ x y z w, zR (d + 3) 119 Q 24 [(2, 39), (0, n), (0, i), (0, j), (0, k + 1), x, y, z, w] [] μ) → ∀ l (s : zV × zV × zV), 0 ≤ l → l ≤ n → ncl N n (1000 * i + 100 * j + 10 * k + l) → zR (d + 3) 119 Q 33 [(2, 39), (0, n), (0, i), (0, j), (0, k), (0, l), s.1, s.2.1, s.2.2] [] μ := by
    intro i j k hi hj hk hnext
    refine zloop (n := n) (Inv := fun l (_ : zV × zV × zV) => ncl N n (1000 * i + 100 * j + 10 * k + l)) (R := fun l s => zR (d + 3) 119 Q 33 [(2, 39), (0, n), (0, i), (0, j), (0, k), (0, l), s.1, s.2.1, s.2.2] [] μ) ?_ ?_
    · rintro l ⟨x, y, z⟩ l0 l1 hinv ih
      rw [u119_33]
      simp only [k119_33, zO_nop, zO_goto, zO_iload_n0, zO_iload_n1, zO_iload_n2, zO_iload_n3, zO_iload, zO_lload_n0, zO_lload_n1, zO_lload_n2, zO_lload_n3, zO_lload, zO_aload_n0, zO_aload_n1, zO_aload_n2, zO_aload_n3, zO_aload, zO_istore_n0, zO_istore_n1, zO_istore_n2, zO_istore_n3, zO_istore, zO_astore_n0, zO_astore_n1, zO_astore_n2, zO_astore_n3, zO_astore, zO_lstore, zO_iinc, zO_iconst, zO_bipush, zO_sipush, zO_lconst0, zO_lconst1, zO_ldc, zO_ldc2_w, zO_iadd, zO_isub, zO_imul, zO_idiv, zO_irem, zO_ineg, zO_iand, zO_ior, zO_ixor, zO_ishl, zO_ishr, zO_iushr, zO_ladd, zO_lmul, zO_land, zO_lor, zO_lshl, zO_lcmp, zO_i2l, zO_l2i, zO_i2b, zO_dup0, zO_dup2, zO_dup200, zO_dup202, zO_dup220, zO_dup222, zO_ifCond_eq, zO_ifCond_ne, zO_ifCond_lt, zO_ifCond_ge, zO_ifCond_gt, zO_ifCond_le, zO_if_icmp_eq, zO_if_icmp_ne, zO_if_icmp_lt, zO_if_icmp_ge, zO_if_icmp_gt, zO_if_icmp_le, zO_getfield, zO_putfield, zO_iaload, zO_baload, zO_laload, zO_iastore, zO_bastore, zO_lastore, zO_arraylength, zO_invokevirtual, zO_lreturn, zO_areturn, zO_return_, zO_tableswitch, zO_lookupswitch, zO_is0, zO_is1, zO_is2, zO_is3, zO_is4, zO_is9, zO_is10, zO_is11, zO_is12, zO_ir1, zO_ir4, zB_c, zLd_0, zLd_s, zSt_c, zSt2_c, zU_c, zD_c, zY_c, zSw_n, zSw_c, zCall_c, zVirt_c, zP_0, zP_1, zP_2, zP_3, zP_4, zGet_n, zGet_z, zPut_n, zPut_z, List.length_cons, List.length_nil, List.take_succ_cons, List.take_zero, List.drop_succ_cons, List.drop_zero, List.reverse_cons, List.reverse_nil, List.nil_append, List.cons_append, List.append_nil, List.set_cons_zero, List.set_cons_succ, List.getD_cons_zero, List.getD_cons_succ, true_and, and_true, ne_eq, not_false_eq_true, not_true_eq_false, zif, Nat.reduceAdd, Nat.reduceLeDiff, Nat.reduceLT, Nat.reduceSub, Nat.reduceEqDiff, Nat.zero_le, Nat.lt_add_one, Nat.reduceMod, false_implies, true_implies, implies_true, forall_const, Int.reduceLE, Int.reduceLT, Int.reduceEq, Int.reduceNeg, ite10_0, ite10_1, zem, zem2, Classical.not_not, and_self, zT_39, zN_39, zGf_192_39, zGf_193_39, zGf_194_39, zPf_194_39, zGf_195_39, zGf_196_39, zGf_197_39, zGf_198_39, zPf_198_39, zGf_199_39, zPf_199_39, zGf_200_39, zPf_200_39, zGf_201_39, zGf_202_39, zPf_202_39, zGf_203_39, zGf_204_39, zPf_204_39, zGf_205_39, zGf_206_39, zGf_207_39, zGf_208_39, zGf_209_39, zGf_210_39, zGf_211_39, zGf_212_39, zGf_213_39, zGf_214_39, zPf_214_39, zGf_215_39, zGf_216_39, zAl_40, zAs_40]
      refine ⟨fun _ => ?_, fun h => absurd l1 h⟩
      refine hm i j k l hi hj hk ⟨l0, l1⟩ (fun m => ?_) 0 (0, 0) (by omega) (by omega) ⟨rfl, rfl⟩
      simp only [e119, k119_0, u119_108, k119_108, u119_135, k119_135, u119_141, k119_141, u119_147, k119_147, u119_153, k119_153, u119_159, k119_159, zO_nop, zO_goto, zO_iload_n0, zO_iload_n1, zO_iload_n2, zO_iload_n3, zO_iload, zO_lload_n0, zO_lload_n1, zO_lload_n2, zO_lload_n3, zO_lload, zO_aload_n0, zO_aload_n1, zO_aload_n2, zO_aload_n3, zO_aload, zO_istore_n0, zO_istore_n1, zO_istore_n2, zO_istore_n3, zO_istore, zO_astore_n0, zO_astore_n1, zO_astore_n2, zO_astore_n3, zO_astore, zO_lstore, zO_iinc, zO_iconst, zO_bipush, zO_sipush, zO_lconst0, zO_lconst1, zO_ldc, zO_ldc2_w, zO_iadd, zO_isub, zO_imul, zO_idiv, zO_irem, zO_ineg, zO_iand, zO_ior, zO_ixor, zO_ishl, zO_ishr, zO_iushr, zO_ladd, zO_lmul, zO_land, zO_lor, zO_lshl, zO_lcmp, zO_i2l, zO_l2i, zO_i2b, zO_dup0, zO_dup2, zO_dup200, zO_dup202, zO_dup220, zO_dup222, zO_ifCond_eq, zO_ifCond_ne, zO_ifCond_lt, zO_ifCond_ge, zO_ifCond_gt, zO_ifCond_le, zO_if_icmp_eq, zO_if_icmp_ne, zO_if_icmp_lt, zO_if_icmp_ge, zO_if_icmp_gt, zO_if_icmp_le, zO_getfield, zO_putfield, zO_iaload, zO_baload, zO_laload, zO_iastore, zO_bastore, zO_lastore, zO_arraylength, zO_invokevirtual, zO_lreturn, zO_areturn, zO_return_, zO_tableswitch, zO_lookupswitch, zO_is0, zO_is1, zO_is2, zO_is3, zO_is4, zO_is9, zO_is10, zO_is11, zO_is12, zO_ir1, zO_ir4, zB_c, zLd_0, zLd_s, zSt_c, zSt2_c, zU_c, zD_c, zY_c, zSw_n, zSw_c, zCall_c, zVirt_c, zP_0, zP_1, zP_2, zP_3, zP_4, zGet_n, zGet_z, zPut_n, zPut_z, List.length_cons, List.length_nil, List.take_succ_cons, List.take_zero, List.drop_succ_cons, List.drop_zero, List.reverse_cons, List.reverse_nil, List.nil_append, List.cons_append, List.append_nil, List.set_cons_zero, List.set_cons_succ, List.getD_cons_zero, List.getD_cons_succ, true_and, and_true, ne_eq, not_false_eq_true, not_true_eq_false, zif, Nat.reduceAdd, Nat.reduceLeDiff, Nat.reduceLT, Nat.reduceSub, Nat.reduceEqDiff, Nat.zero_le, Nat.lt_add_one, Nat.reduceMod, false_implies, true_implies, implies_true, forall_const, Int.reduceLE, Int.reduceLT, Int.reduceEq, Int.reduceNeg, ite10_0, ite10_1, zem, zem2, Classical.not_not, and_self, zT_39, zN_39, zGf_192_39, zGf_193_39, zGf_194_39, zPf_194_39, zGf_195_39, zGf_196_39, zGf_197_39, zGf_198_39, zPf_198_39, zGf_199_39, zPf_199_39, zGf_200_39, zPf_200_39, zGf_201_39, zGf_202_39, zPf_202_39, zGf_203_39, zGf_204_39, zPf_204_39, zGf_205_39, zGf_206_39, zGf_207_39, zGf_208_39, zGf_209_39, zGf_210_39, zGf_211_39, zGf_212_39, zGf_213_39, zGf_214_39, zPf_214_39, zGf_215_39, zGf_216_39, zAl_40, zAs_40]
      unfold zrg at hi hj hk
      refine ⟨fun e => ?_, fun e => ?_⟩
      · rw [zw_e (by omega) (by omega)]
        refine ih (_, _, _) (ncl_up hinv (fun i' j' k' l' a b c e4 g hl => ?_))
        by_cases e2 : i' = i ∧ j' = j ∧ k' = k ∧ l' = l
        · obtain ⟨rfl, rfl, rfl, rfl⟩ := e2
          exact absurd e g
        · unfold zrg at a b c e4
          omega
      · simp (disch := omega) only [zw_e]
        rw [← hQ]
        exact ⟨rfl, Or.inr ⟨i, j, k, l, hi, hj, hk, ⟨l0, l1⟩, e, rfl, hinv⟩⟩
    · rintro ⟨x, y, z⟩ hinv
      rw [u119_33]
      simp only [k119_33, e119, k119_0, u119_108, k119_108, u119_135, k119_135, u119_141, k119_141, u119_147, k119_147, u119_153, k119_153, u119_159, k119_159, zO_nop, zO_goto, zO_iload_n0, zO_iload_n1, zO_iload_n2, zO_iload_n3, zO_iload, zO_lload_n0, zO_lload_n1, zO_lload_n2, zO_lload_n3, zO_lload, zO_aload_n0, zO_aload_n1, zO_aload_n2, zO_aload_n3, zO_aload, zO_istore_n0, zO_istore_n1, zO_istore_n2, zO_istore_n3, zO_istore, zO_astore_n0, zO_astore_n1, zO_astore_n2, zO_astore_n3, zO_astore, zO_lstore, zO_iinc, zO_iconst, zO_bipush, zO_sipush, zO_lconst0, zO_lconst1, zO_ldc, zO_ldc2_w, zO_iadd, zO_isub, zO_imul, zO_idiv, zO_irem, zO_ineg, zO_iand, zO_ior, zO_ixor, zO_ishl, zO_ishr, zO_iushr, zO_ladd, zO_lmul, zO_land, zO_lor, zO_lshl, zO_lcmp, zO_i2l, zO_l2i, zO_i2b, zO_dup0, zO_dup2, zO_dup200, zO_dup202, zO_dup220, zO_dup222, zO_ifCond_eq, zO_ifCond_ne, zO_ifCond_lt, zO_ifCond_ge, zO_ifCond_gt, zO_ifCond_le, zO_if_icmp_eq, zO_if_icmp_ne, zO_if_icmp_lt, zO_if_icmp_ge, zO_if_icmp_gt, zO_if_icmp_le, zO_getfield, zO_putfield, zO_iaload, zO_baload, zO_laload, zO_iastore, zO_bastore, zO_lastore, zO_arraylength, zO_invokevirtual, zO_lreturn, zO_areturn, zO_return_, zO_tableswitch, zO_lookupswitch, zO_is0, zO_is1, zO_is2, zO_is3, zO_is4, zO_is9, zO_is10, zO_is11, zO_is12, zO_ir1, zO_ir4, zB_c, zLd_0, zLd_s, zSt_c, zSt2_c, zU_c, zD_c, zY_c, zSw_n, zSw_c, zCall_c, zVirt_c, zP_0, zP_1, zP_2, zP_3, zP_4, zGet_n, zGet_z, zPut_n, zPut_z, List.length_cons, List.length_nil, List.take_succ_cons, List.take_zero, List.drop_succ_cons, List.drop_zero, List.reverse_cons, List.reverse_nil, List.nil_append, List.cons_append, List.append_nil, List.set_cons_zero, List.set_cons_succ, List.getD_cons_zero, List.getD_cons_succ, true_and, and_true, ne_eq, not_false_eq_true, not_true_eq_false, zif, Nat.reduceAdd, Nat.reduceLeDiff, Nat.reduceLT, Nat.reduceSub, Nat.reduceEqDiff, Nat.zero_le, Nat.lt_add_one, Nat.reduceMod, false_implies, true_implies, implies_true, forall_const, Int.reduceLE, Int.reduceLT, Int.reduceEq, Int.reduceNeg, ite10_0, ite10_1, zem, zem2, Classical.not_not, and_self, zT_39, zN_39, zGf_192_39, zGf_193_39, zGf_194_39, zPf_194_39, zGf_195_39, zGf_196_39, zGf_197_39, zGf_198_39, zPf_198_39, zGf_199_39, zPf_199_39, zGf_200_39, zPf_200_39, zGf_201_39, zGf_202_39, zPf_202_39, zGf_203_39, zGf_204_39, zPf_204_39, zGf_205_39, zGf_206_39, zGf_207_39, zGf_208_39, zGf_209_39, zGf_210_39, zGf_211_39, zGf_212_39, zGf_213_39, zGf_214_39, zPf_214_39, zGf_215_39, zGf_216_39, zAl_40, zAs_40]
      refine ⟨fun h => absurd h (by omega), fun _ => ?_⟩
      rw [zw_e (by have := hk.1; omega) (by have := hk.2; omega)]
      refine hnext (ncl_up hinv (fun i' j' k' l' a b c e g hl => ?_)) _ _ _ _
      unfold zrg at a b c e
      omega
  have hk : ∀ i j, zrg n i → zrg n j → (ncl N n (1000 * i + 100 * (j + 1)) → ∀ x y z w v, zR (d + 3) 119 Q 16 [(2, 39), (0, n), (0, i), (0, j + 1), x, y, z, w, v] [] μ) → ∀ k (s : zV × zV × zV × zV), 0 ≤ k → k ≤ n → ncl N n (1000 * i + 100 * j + 10 * k) → zR (d + 3) 119 Q 24 [(2, 39), (0, n), (0, i), (0, j), (0, k), s.1, s.2.1, s.2.2.1, s.2.2.2] [] μ := by
    intro i j hi hj hnext
    refine zloop (n := n) (Inv := fun k (_ : zV × zV × zV × zV) => ncl N n (1000 * i + 100 * j + 10 * k)) (R := fun k s => zR (d + 3) 119 Q 24 [(2, 39), (0, n), (0, i), (0, j), (0, k), s.1, s.2.1, s.2.2.1, s.2.2.2] [] μ) ?_ ?_
    · rintro k ⟨x, y, z, w⟩ k0 k1 hinv ih
      rw [u119_24]
      simp only [k119_24, zO_nop, zO_goto, zO_iload_n0, zO_iload_n1, zO_iload_n2, zO_iload_n3, zO_iload, zO_lload_n0, zO_lload_n1, zO_lload_n2, zO_lload_n3, zO_lload, zO_aload_n0, zO_aload_n1, zO_aload_n2, zO_aload_n3, zO_aload, zO_istore_n0, zO_istore_n1, zO_istore_n2, zO_istore_n3, zO_istore, zO_astore_n0, zO_astore_n1, zO_astore_n2, zO_astore_n3, zO_astore, zO_lstore, zO_iinc, zO_iconst, zO_bipush, zO_sipush, zO_lconst0, zO_lconst1, zO_ldc, zO_ldc2_w, zO_iadd, zO_isub, zO_imul, zO_idiv, zO_irem, zO_ineg, zO_iand, zO_ior, zO_ixor, zO_ishl, zO_ishr, zO_iushr, zO_ladd, zO_lmul, zO_land, zO_lor, zO_lshl, zO_lcmp, zO_i2l, zO_l2i, zO_i2b, zO_dup0, zO_dup2, zO_dup200, zO_dup202, zO_dup220, zO_dup222, zO_ifCond_eq, zO_ifCond_ne, zO_ifCond_lt, zO_ifCond_ge, zO_ifCond_gt, zO_ifCond_le, zO_if_icmp_eq, zO_if_icmp_ne, zO_if_icmp_lt, zO_if_icmp_ge, zO_if_icmp_gt, zO_if_icmp_le, zO_getfield, zO_putfield, zO_iaload, zO_baload, zO_laload, zO_iastore, zO_bastore, zO_lastore, zO_arraylength, zO_invokevirtual, zO_lreturn, zO_areturn, zO_return_, zO_tableswitch, zO_lookupswitch, zO_is0, zO_is1, zO_is2, zO_is3, zO_is4, zO_is9, zO_is10, zO_is11, zO_is12, zO_ir1, zO_ir4, zB_c, zLd_0, zLd_s, zSt_c, zSt2_c, zU_c, zD_c, zY_c, zSw_n, zSw_c, zCall_c, zVirt_c, zP_0, zP_1, zP_2, zP_3, zP_4, zGet_n, zGet_z, zPut_n, zPut_z, List.length_cons, List.length_nil, List.take_succ_cons, List.take_zero, List.drop_succ_cons, List.drop_zero, List.reverse_cons, List.reverse_nil, List.nil_append, List.cons_append, List.append_nil, List.set_cons_zero, List.set_cons_succ, List.getD_cons_zero, List.getD_cons_succ, true_and, and_true, ne_eq, not_false_eq_true, not_true_eq_false, zif, Nat.reduceAdd, Nat.reduceLeDiff, Nat.reduceLT, Nat.reduceSub, Nat.reduceEqDiff, Nat.zero_le, Nat.lt_add_one, Nat.reduceMod, false_implies, true_implies, implies_true, forall_const, Int.reduceLE, Int.reduceLT, Int.reduceEq, Int.reduceNeg, ite10_0, ite10_1, zem, zem2, Classical.not_not, and_self, zT_39, zN_39, zGf_192_39, zGf_193_39, zGf_194_39, zPf_194_39, zGf_195_39, zGf_196_39, zGf_197_39, zGf_198_39, zPf_198_39, zGf_199_39, zPf_199_39, zGf_200_39, zPf_200_39, zGf_201_39, zGf_202_39, zPf_202_39, zGf_203_39, zGf_204_39, zPf_204_39, zGf_205_39, zGf_206_39, zGf_207_39, zGf_208_39, zGf_209_39, zGf_210_39, zGf_211_39, zGf_212_39, zGf_213_39, zGf_214_39, zPf_214_39, zGf_215_39, zGf_216_39, zAl_40, zAs_40]
      exact ⟨fun _ => hl i j k hi hj ⟨k0, k1⟩ (fun h x y z w => ih (x, y, z, w) h) 0 (_, _, _) (by omega) (by omega) (by rw [Int.add_zero]; exact hinv), fun h => absurd k1 h⟩
    · rintro ⟨x, y, z, w⟩ hinv
      rw [u119_24]
      simp only [k119_24, e119, k119_0, u119_108, k119_108, u119_135, k119_135, u119_141, k119_141, u119_147, k119_147, u119_153, k119_153, u119_159, k119_159, zO_nop, zO_goto, zO_iload_n0, zO_iload_n1, zO_iload_n2, zO_iload_n3, zO_iload, zO_lload_n0, zO_lload_n1, zO_lload_n2, zO_lload_n3, zO_lload, zO_aload_n0, zO_aload_n1, zO_aload_n2, zO_aload_n3, zO_aload, zO_istore_n0, zO_istore_n1, zO_istore_n2, zO_istore_n3, zO_istore, zO_astore_n0, zO_astore_n1, zO_astore_n2, zO_astore_n3, zO_astore, zO_lstore, zO_iinc, zO_iconst, zO_bipush, zO_sipush, zO_lconst0, zO_lconst1, zO_ldc, zO_ldc2_w, zO_iadd, zO_isub, zO_imul, zO_idiv, zO_irem, zO_ineg, zO_iand, zO_ior, zO_ixor, zO_ishl, zO_ishr, zO_iushr, zO_ladd, zO_lmul, zO_land, zO_lor, zO_lshl, zO_lcmp, zO_i2l, zO_l2i, zO_i2b, zO_dup0, zO_dup2, zO_dup200, zO_dup202, zO_dup220, zO_dup222, zO_ifCond_eq, zO_ifCond_ne, zO_ifCond_lt, zO_ifCond_ge, zO_ifCond_gt, zO_ifCond_le, zO_if_icmp_eq, zO_if_icmp_ne, zO_if_icmp_lt, zO_if_icmp_ge, zO_if_icmp_gt, zO_if_icmp_le, zO_getfield, zO_putfield, zO_iaload, zO_baload, zO_laload, zO_iastore, zO_bastore, zO_lastore, zO_arraylength, zO_invokevirtual, zO_lreturn, zO_areturn, zO_return_, zO_tableswitch, zO_lookupswitch, zO_is0, zO_is1, zO_is2, zO_is3, zO_is4, zO_is9, zO_is10, zO_is11, zO_is12, zO_ir1, zO_ir4, zB_c, zLd_0, zLd_s, zSt_c, zSt2_c, zU_c, zD_c, zY_c, zSw_n, zSw_c, zCall_c, zVirt_c, zP_0, zP_1, zP_2, zP_3, zP_4, zGet_n, zGet_z, zPut_n, zPut_z, List.length_cons, List.length_nil, List.take_succ_cons, List.take_zero, List.drop_succ_cons, List.drop_zero, List.reverse_cons, List.reverse_nil, List.nil_append, List.cons_append, List.append_nil, List.set_cons_zero, List.set_cons_succ, List.getD_cons_zero, List.getD_cons_succ, true_and, and_true, ne_eq, not_false_eq_true, not_true_eq_false, zif, Nat.reduceAdd, Nat.reduceLeDiff, Nat.reduceLT, Nat.reduceSub, Nat.reduceEqDiff, Nat.zero_le, Nat.lt_add_one, Nat.reduceMod, false_implies, true_implies, implies_true, forall_const, Int.reduceLE, Int.reduceLT, Int.reduceEq, Int.reduceNeg, ite10_0, ite10_1, zem, zem2, Classical.not_not, and_self, zT_39, zN_39, zGf_192_39, zGf_193_39, zGf_194_39, zPf_194_39, zGf_195_39, zGf_196_39, zGf_197_39, zGf_198_39, zPf_198_39, zGf_199_39, zPf_199_39, zGf_200_39, zPf_200_39, zGf_201_39, zGf_202_39, zPf_202_39, zGf_203_39, zGf_204_39, zPf_204_39, zGf_205_39, zGf_206_39, zGf_207_39, zGf_208_39, zGf_209_39, zGf_210_39, zGf_211_39, zGf_212_39, zGf_213_39, zGf_214_39, zPf_214_39, zGf_215_39, zGf_216_39, zAl_40, zAs_40]
      refine ⟨fun h => absurd h (by omega), fun _ => ?_⟩
      rw [zw_e (by have := hj.1; omega) (by have := hj.2; omega)]
      refine hnext (ncl_up hinv (fun i' j' k' l' a b c e g hl => ?_)) _ _ _ _ _
      unfold zrg at a b c e
      omega
  have hj : ∀ i, zrg n i → (ncl N n (1000 * (i + 1)) → ∀ x y z w v u, zR (d + 3) 119 Q 9 [(2, 39), (0, n), (0, i + 1), x, y, z, w, v, u] [] μ) → ∀ j (s : zV × zV × zV × zV × zV), 0 ≤ j → j ≤ n → ncl N n (1000 * i + 100 * j) → zR (d + 3) 119 Q 16 [(2, 39), (0, n), (0, i), (0, j), s.1, s.2.1, s.2.2.1, s.2.2.2.1, s.2.2.2.2] [] μ := by
    intro i hi hnext
    refine zloop (n := n) (Inv := fun j (_ : zV × zV × zV × zV × zV) => ncl N n (1000 * i + 100 * j)) (R := fun j s => zR (d + 3) 119 Q 16 [(2, 39), (0, n), (0, i), (0, j), s.1, s.2.1, s.2.2.1, s.2.2.2.1, s.2.2.2.2] [] μ) ?_ ?_
    · rintro j ⟨x, y, z, w, v⟩ j0 j1 hinv ih
      rw [u119_16]
      simp only [k119_16, zO_nop, zO_goto, zO_iload_n0, zO_iload_n1, zO_iload_n2, zO_iload_n3, zO_iload, zO_lload_n0, zO_lload_n1, zO_lload_n2, zO_lload_n3, zO_lload, zO_aload_n0, zO_aload_n1, zO_aload_n2, zO_aload_n3, zO_aload, zO_istore_n0, zO_istore_n1, zO_istore_n2, zO_istore_n3, zO_istore, zO_astore_n0, zO_astore_n1, zO_astore_n2, zO_astore_n3, zO_astore, zO_lstore, zO_iinc, zO_iconst, zO_bipush, zO_sipush, zO_lconst0, zO_lconst1, zO_ldc, zO_ldc2_w, zO_iadd, zO_isub, zO_imul, zO_idiv, zO_irem, zO_ineg, zO_iand, zO_ior, zO_ixor, zO_ishl, zO_ishr, zO_iushr, zO_ladd, zO_lmul, zO_land, zO_lor, zO_lshl, zO_lcmp, zO_i2l, zO_l2i, zO_i2b, zO_dup0, zO_dup2, zO_dup200, zO_dup202, zO_dup220, zO_dup222, zO_ifCond_eq, zO_ifCond_ne, zO_ifCond_lt, zO_ifCond_ge, zO_ifCond_gt, zO_ifCond_le, zO_if_icmp_eq, zO_if_icmp_ne, zO_if_icmp_lt, zO_if_icmp_ge, zO_if_icmp_gt, zO_if_icmp_le, zO_getfield, zO_putfield, zO_iaload, zO_baload, zO_laload, zO_iastore, zO_bastore, zO_lastore, zO_arraylength, zO_invokevirtual, zO_lreturn, zO_areturn, zO_return_, zO_tableswitch, zO_lookupswitch, zO_is0, zO_is1, zO_is2, zO_is3, zO_is4, zO_is9, zO_is10, zO_is11, zO_is12, zO_ir1, zO_ir4, zB_c, zLd_0, zLd_s, zSt_c, zSt2_c, zU_c, zD_c, zY_c, zSw_n, zSw_c, zCall_c, zVirt_c, zP_0, zP_1, zP_2, zP_3, zP_4, zGet_n, zGet_z, zPut_n, zPut_z, List.length_cons, List.length_nil, List.take_succ_cons, List.take_zero, List.drop_succ_cons, List.drop_zero, List.reverse_cons, List.reverse_nil, List.nil_append, List.cons_append, List.append_nil, List.set_cons_zero, List.set_cons_succ, List.getD_cons_zero, List.getD_cons_succ, true_and, and_true, ne_eq, not_false_eq_true, not_true_eq_false, zif, Nat.reduceAdd, Nat.reduceLeDiff, Nat.reduceLT, Nat.reduceSub, Nat.reduceEqDiff, Nat.zero_le, Nat.lt_add_one, Nat.reduceMod, false_implies, true_implies, implies_true, forall_const, Int.reduceLE, Int.reduceLT, Int.reduceEq, Int.reduceNeg, ite10_0, ite10_1, zem, zem2, Classical.not_not, and_self, zT_39, zN_39, zGf_192_39, zGf_193_39, zGf_194_39, zPf_194_39, zGf_195_39, zGf_196_39, zGf_197_39, zGf_198_39, zPf_198_39, zGf_199_39, zPf_199_39, zGf_200_39, zPf_200_39, zGf_201_39, zGf_202_39, zPf_202_39, zGf_203_39, zGf_204_39, zPf_204_39, zGf_205_39, zGf_206_39, zGf_207_39, zGf_208_39, zGf_209_39, zGf_210_39, zGf_211_39, zGf_212_39, zGf_213_39, zGf_214_39, zPf_214_39, zGf_215_39, zGf_216_39, zAl_40, zAs_40]
      exact ⟨fun _ => hk i j hi ⟨j0, j1⟩ (fun h x y z w v => ih (x, y, z, w, v) h) 0 (_, _, _, _) (by omega) (by omega) (by rw [Int.mul_zero, Int.add_zero]; exact hinv), fun h => absurd j1 h⟩
    · rintro ⟨x, y, z, w, v⟩ hinv
      rw [u119_16]
      simp only [k119_16, e119, k119_0, u119_108, k119_108, u119_135, k119_135, u119_141, k119_141, u119_147, k119_147, u119_153, k119_153, u119_159, k119_159, zO_nop, zO_goto, zO_iload_n0, zO_iload_n1, zO_iload_n2, zO_iload_n3, zO_iload, zO_lload_n0, zO_lload_n1, zO_lload_n2, zO_lload_n3, zO_lload, zO_aload_n0, zO_aload_n1, zO_aload_n2, zO_aload_n3, zO_aload, zO_istore_n0, zO_istore_n1, zO_istore_n2, zO_istore_n3, zO_istore, zO_astore_n0, zO_astore_n1, zO_astore_n2, zO_astore_n3, zO_astore, zO_lstore, zO_iinc, zO_iconst, zO_bipush, zO_sipush, zO_lconst0, zO_lconst1, zO_ldc, zO_ldc2_w, zO_iadd, zO_isub, zO_imul, zO_idiv, zO_irem, zO_ineg, zO_iand, zO_ior, zO_ixor, zO_ishl, zO_ishr, zO_iushr, zO_ladd, zO_lmul, zO_land, zO_lor, zO_lshl, zO_lcmp, zO_i2l, zO_l2i, zO_i2b, zO_dup0, zO_dup2, zO_dup200, zO_dup202, zO_dup220, zO_dup222, zO_ifCond_eq, zO_ifCond_ne, zO_ifCond_lt, zO_ifCond_ge, zO_ifCond_gt, zO_ifCond_le, zO_if_icmp_eq, zO_if_icmp_ne, zO_if_icmp_lt, zO_if_icmp_ge, zO_if_icmp_gt, zO_if_icmp_le, zO_getfield, zO_putfield, zO_iaload, zO_baload, zO_laload, zO_iastore, zO_bastore, zO_lastore, zO_arraylength, zO_invokevirtual, zO_lreturn, zO_areturn, zO_return_, zO_tableswitch, zO_lookupswitch, zO_is0, zO_is1, zO_is2, zO_is3, zO_is4, zO_is9, zO_is10, zO_is11, zO_is12, zO_ir1, zO_ir4, zB_c, zLd_0, zLd_s, zSt_c, zSt2_c, zU_c, zD_c, zY_c, zSw_n, zSw_c, zCall_c, zVirt_c, zP_0, zP_1, zP_2, zP_3, zP_4, zGet_n, zGet_z, zPut_n, zPut_z, List.length_cons, List.length_nil, List.take_succ_cons, List.take_zero, List.drop_succ_cons, List.drop_zero, List.reverse_cons, List.reverse_nil, List.nil_append, List.cons_append, List.append_nil, List.set_cons_zero, List.set_cons_succ, List.getD_cons_zero, List.getD_cons_succ, true_and, and_true, ne_eq, not_false_eq_true, not_true_eq_false, zif, Nat.reduceAdd, Nat.reduceLeDiff, Nat.reduceLT, Nat.reduceSub, Nat.reduceEqDiff, Nat.zero_le, Nat.lt_add_one, Nat.reduceMod, false_implies, true_implies, implies_true, forall_const, Int.reduceLE, Int.reduceLT, Int.reduceEq, Int.reduceNeg, ite10_0, ite10_1, zem, zem2, Classical.not_not, and_self, zT_39, zN_39, zGf_192_39, zGf_193_39, zGf_194_39, zPf_194_39, zGf_195_39, zGf_196_39, zGf_197_39, zGf_198_39, zPf_198_39, zGf_199_39, zPf_199_39, zGf_200_39, zPf_200_39, zGf_201_39, zGf_202_39, zPf_202_39, zGf_203_39, zGf_204_39, zPf_204_39, zGf_205_39, zGf_206_39, zGf_207_39, zGf_208_39, zGf_209_39, zGf_210_39, zGf_211_39, zGf_212_39, zGf_213_39, zGf_214_39, zPf_214_39, zGf_215_39, zGf_216_39, zAl_40, zAs_40]
      refine ⟨fun h => absurd h (by omega), fun _ => ?_⟩
      rw [zw_e (by have := hi.1; omega) (by have := hi.2; omega)]
      refine hnext (ncl_up hinv (fun i' j' k' l' a b c e g hl => ?_)) _ _ _ _ _ _
      unfold zrg at a b c e
      omega
  have hi : ∀ i (s : zV × zV × zV × zV × zV × zV), 0 ≤ i → i ≤ n → ncl N n (1000 * i) → zR (d + 3) 119 Q 9 [(2, 39), (0, n), (0, i), s.1, s.2.1, s.2.2.1, s.2.2.2.1, s.2.2.2.2.1, s.2.2.2.2.2] [] μ := by
    refine zloop (n := n) (Inv := fun i (_ : zV × zV × zV × zV × zV × zV) => ncl N n (1000 * i)) (R := fun i s => zR (d + 3) 119 Q 9 [(2, 39), (0, n), (0, i), s.1, s.2.1, s.2.2.1, s.2.2.2.1, s.2.2.2.2.1, s.2.2.2.2.2] [] μ) ?_ ?_
    · rintro i ⟨x, y, z, w, v, u⟩ i0 i1 hinv ih
      rw [u119_9]
      simp only [k119_9, zO_nop, zO_goto, zO_iload_n0, zO_iload_n1, zO_iload_n2, zO_iload_n3, zO_iload, zO_lload_n0, zO_lload_n1, zO_lload_n2, zO_lload_n3, zO_lload, zO_aload_n0, zO_aload_n1, zO_aload_n2, zO_aload_n3, zO_aload, zO_istore_n0, zO_istore_n1, zO_istore_n2, zO_istore_n3, zO_istore, zO_astore_n0, zO_astore_n1, zO_astore_n2, zO_astore_n3, zO_astore, zO_lstore, zO_iinc, zO_iconst, zO_bipush, zO_sipush, zO_lconst0, zO_lconst1, zO_ldc, zO_ldc2_w, zO_iadd, zO_isub, zO_imul, zO_idiv, zO_irem, zO_ineg, zO_iand, zO_ior, zO_ixor, zO_ishl, zO_ishr, zO_iushr, zO_ladd, zO_lmul, zO_land, zO_lor, zO_lshl, zO_lcmp, zO_i2l, zO_l2i, zO_i2b, zO_dup0, zO_dup2, zO_dup200, zO_dup202, zO_dup220, zO_dup222, zO_ifCond_eq, zO_ifCond_ne, zO_ifCond_lt, zO_ifCond_ge, zO_ifCond_gt, zO_ifCond_le, zO_if_icmp_eq, zO_if_icmp_ne, zO_if_icmp_lt, zO_if_icmp_ge, zO_if_icmp_gt, zO_if_icmp_le, zO_getfield, zO_putfield, zO_iaload, zO_baload, zO_laload, zO_iastore, zO_bastore, zO_lastore, zO_arraylength, zO_invokevirtual, zO_lreturn, zO_areturn, zO_return_, zO_tableswitch, zO_lookupswitch, zO_is0, zO_is1, zO_is2, zO_is3, zO_is4, zO_is9, zO_is10, zO_is11, zO_is12, zO_ir1, zO_ir4, zB_c, zLd_0, zLd_s, zSt_c, zSt2_c, zU_c, zD_c, zY_c, zSw_n, zSw_c, zCall_c, zVirt_c, zP_0, zP_1, zP_2, zP_3, zP_4, zGet_n, zGet_z, zPut_n, zPut_z, List.length_cons, List.length_nil, List.take_succ_cons, List.take_zero, List.drop_succ_cons, List.drop_zero, List.reverse_cons, List.reverse_nil, List.nil_append, List.cons_append, List.append_nil, List.set_cons_zero, List.set_cons_succ, List.getD_cons_zero, List.getD_cons_succ, true_and, and_true, ne_eq, not_false_eq_true, not_true_eq_false, zif, Nat.reduceAdd, Nat.reduceLeDiff, Nat.reduceLT, Nat.reduceSub, Nat.reduceEqDiff, Nat.zero_le, Nat.lt_add_one, Nat.reduceMod, false_implies, true_implies, implies_true, forall_const, Int.reduceLE, Int.reduceLT, Int.reduceEq, Int.reduceNeg, ite10_0, ite10_1, zem, zem2, Classical.not_not, and_self, zT_39, zN_39, zGf_192_39, zGf_193_39, zGf_194_39, zPf_194_39, zGf_195_39, zGf_196_39, zGf_197_39, zGf_198_39, zPf_198_39, zGf_199_39, zPf_199_39, zGf_200_39, zPf_200_39, zGf_201_39, zGf_202_39, zPf_202_39, zGf_203_39, zGf_204_39, zPf_204_39, zGf_205_39, zGf_206_39, zGf_207_39, zGf_208_39, zGf_209_39, zGf_210_39, zGf_211_39, zGf_212_39, zGf_213_39, zGf_214_39, zPf_214_39, zGf_215_39, zGf_216_39, zAl_40, zAs_40]
      exact ⟨fun _ => hj i ⟨i0, i1⟩ (fun h x y z w v u => ih (x, y, z, w, v, u) h) 0 (_, _, _, _, _) (by omega) (by omega) (by rw [Int.mul_zero, Int.add_zero]; exact hinv), fun h => absurd i1 h⟩
    · rintro ⟨x, y, z, w, v, u⟩ hinv
      rw [u119_9]
      simp only [k119_9, e119, k119_0, u119_108, k119_108, u119_135, k119_135, u119_141, k119_141, u119_147, k119_147, u119_153, k119_153, u119_159, k119_159, zO_nop, zO_goto, zO_iload_n0, zO_iload_n1, zO_iload_n2, zO_iload_n3, zO_iload, zO_lload_n0, zO_lload_n1, zO_lload_n2, zO_lload_n3, zO_lload, zO_aload_n0, zO_aload_n1, zO_aload_n2, zO_aload_n3, zO_aload, zO_istore_n0, zO_istore_n1, zO_istore_n2, zO_istore_n3, zO_istore, zO_astore_n0, zO_astore_n1, zO_astore_n2, zO_astore_n3, zO_astore, zO_lstore, zO_iinc, zO_iconst, zO_bipush, zO_sipush, zO_lconst0, zO_lconst1, zO_ldc, zO_ldc2_w, zO_iadd, zO_isub, zO_imul, zO_idiv, zO_irem, zO_ineg, zO_iand, zO_ior, zO_ixor, zO_ishl, zO_ishr, zO_iushr, zO_ladd, zO_lmul, zO_land, zO_lor, zO_lshl, zO_lcmp, zO_i2l, zO_l2i, zO_i2b, zO_dup0, zO_dup2, zO_dup200, zO_dup202, zO_dup220, zO_dup222, zO_ifCond_eq, zO_ifCond_ne, zO_ifCond_lt, zO_ifCond_ge, zO_ifCond_gt, zO_ifCond_le, zO_if_icmp_eq, zO_if_icmp_ne, zO_if_icmp_lt, zO_if_icmp_ge, zO_if_icmp_gt, zO_if_icmp_le, zO_getfield, zO_putfield, zO_iaload, zO_baload, zO_laload, zO_iastore, zO_bastore, zO_lastore, zO_arraylength, zO_invokevirtual, zO_lreturn, zO_areturn, zO_return_, zO_tableswitch, zO_lookupswitch, zO_is0, zO_is1, zO_is2, zO_is3, zO_is4, zO_is9, zO_is10, zO_is11, zO_is12, zO_ir1, zO_ir4, zB_c, zLd_0, zLd_s, zSt_c, zSt2_c, zU_c, zD_c, zY_c, zSw_n, zSw_c, zCall_c, zVirt_c, zP_0, zP_1, zP_2, zP_3, zP_4, zGet_n, zGet_z, zPut_n, zPut_z, List.length_cons, List.length_nil, List.take_succ_cons, List.take_zero, List.drop_succ_cons, List.drop_zero, List.reverse_cons, List.reverse_nil, List.nil_append, List.cons_append, List.append_nil, List.set_cons_zero, List.set_cons_succ, List.getD_cons_zero, List.getD_cons_succ, true_and, and_true, ne_eq, not_false_eq_true, not_true_eq_false, zif, Nat.reduceAdd, Nat.reduceLeDiff, Nat.reduceLT, Nat.reduceSub, Nat.reduceEqDiff, Nat.zero_le, Nat.lt_add_one, Nat.reduceMod, false_implies, true_implies, implies_true, forall_const, Int.reduceLE, Int.reduceLT, Int.reduceEq, Int.reduceNeg, ite10_0, ite10_1, zem, zem2, Classical.not_not, and_self, zT_39, zN_39, zGf_192_39, zGf_193_39, zGf_194_39, zPf_194_39, zGf_195_39, zGf_196_39, zGf_197_39, zGf_198_39, zPf_198_39, zGf_199_39, zPf_199_39, zGf_200_39, zPf_200_39, zGf_201_39, zGf_202_39, zPf_202_39, zGf_203_39, zGf_204_39, zPf_204_39, zGf_205_39, zGf_206_39, zGf_207_39, zGf_208_39, zGf_209_39, zGf_210_39, zGf_211_39, zGf_212_39, zGf_213_39, zGf_214_39, zPf_214_39, zGf_215_39, zGf_216_39, zAl_40, zAs_40]
      refine ⟨fun h => absurd h (by omega), fun _ => ?_⟩
      rw [← hQ]
      refine ⟨rfl, Or.inl ⟨rfl, fun i' j' k' l' a b c e g => ?_⟩⟩
      have h1 := hinv i' j' k' l' a b c e g
      unfold zrg at a b c e
      omega
  simp only [e119, k119_0, zO_nop, zO_goto, zO_iload_n0, zO_iload_n1, zO_iload_n2, zO_iload_n3, zO_iload, zO_lload_n0, zO_lload_n1, zO_lload_n2, zO_lload_n3, zO_lload, zO_aload_n0, zO_aload_n1, zO_aload_n2, zO_aload_n3, zO_aload, zO_istore_n0, zO_istore_n1, zO_istore_n2, zO_istore_n3, zO_istore, zO_astore_n0, zO_astore_n1, zO_astore_n2, zO_astore_n3, zO_astore, zO_lstore, zO_iinc, zO_iconst, zO_bipush, zO_sipush, zO_lconst0, zO_lconst1, zO_ldc, zO_ldc2_w, zO_iadd, zO_isub, zO_imul, zO_idiv, zO_irem, zO_ineg, zO_iand, zO_ior, zO_ixor, zO_ishl, zO_ishr, zO_iushr, zO_ladd, zO_lmul, zO_land, zO_lor, zO_lshl, zO_lcmp, zO_i2l, zO_l2i, zO_i2b, zO_dup0, zO_dup2, zO_dup200, zO_dup202, zO_dup220, zO_dup222, zO_ifCond_eq, zO_ifCond_ne, zO_ifCond_lt, zO_ifCond_ge, zO_ifCond_gt, zO_ifCond_le, zO_if_icmp_eq, zO_if_icmp_ne, zO_if_icmp_lt, zO_if_icmp_ge, zO_if_icmp_gt, zO_if_icmp_le, zO_getfield, zO_putfield, zO_iaload, zO_baload, zO_laload, zO_iastore, zO_bastore, zO_lastore, zO_arraylength, zO_invokevirtual, zO_lreturn, zO_areturn, zO_return_, zO_tableswitch, zO_lookupswitch, zO_is0, zO_is1, zO_is2, zO_is3, zO_is4, zO_is9, zO_is10, zO_is11, zO_is12, zO_ir1, zO_ir4, zB_c, zLd_0, zLd_s, zSt_c, zSt2_c, zU_c, zD_c, zY_c, zSw_n, zSw_c, zCall_c, zVirt_c, zP_0, zP_1, zP_2, zP_3, zP_4, zGet_n, zGet_z, zPut_n, zPut_z, List.length_cons, List.length_nil, List.take_succ_cons, List.take_zero, List.drop_succ_cons, List.drop_zero, List.reverse_cons, List.reverse_nil, List.nil_append, List.cons_append, List.append_nil, List.set_cons_zero, List.set_cons_succ, List.getD_cons_zero, List.getD_cons_succ, true_and, and_true, ne_eq, not_false_eq_true, not_true_eq_false, zif, Nat.reduceAdd, Nat.reduceLeDiff, Nat.reduceLT, Nat.reduceSub, Nat.reduceEqDiff, Nat.zero_le, Nat.lt_add_one, Nat.reduceMod, false_implies, true_implies, implies_true, forall_const, Int.reduceLE, Int.reduceLT, Int.reduceEq, Int.reduceNeg, ite10_0, ite10_1, zem, zem2, Classical.not_not, and_self, zT_39, zN_39, zGf_192_39, zGf_193_39, zGf_194_39, zPf_194_39, zGf_195_39, zGf_196_39, zGf_197_39, zGf_198_39, zPf_198_39, zGf_199_39, zPf_199_39, zGf_200_39, zPf_200_39, zGf_201_39, zGf_202_39, zPf_202_39, zGf_203_39, zGf_204_39, zPf_204_39, zGf_205_39, zGf_206_39, zGf_207_39, zGf_208_39, zGf_209_39, zGf_210_39, zGf_211_39, zGf_212_39, zGf_213_39, zGf_214_39, zPf_214_39, zGf_215_39, zGf_216_39, zAl_40, zAs_40, hs]
  exact hi 0 (_, _, _, _, _, _) (by omega) (by omega) (fun i' j' k' l' a b c e g => by unfold zrg at a b c e; omega)
end
