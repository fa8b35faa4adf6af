section
-- ===== PART A: goes FIRST, ahead of the names: the tables' words, and 'selects' of the private methods out of them =====
/-- a private method of a class that the tables say can be made, by its rows of tables_1 -/
def lw_okq (q : MethodName × Nat) : Prop := (q.1.cls ≠ "java/lang/invoke/MethodHandle" ∧ q.1.cls ≠ "java/lang/invoke/VarHandle") ∧ Cond.instantiable q.1.cls q.2 ∈ tables_1 ∧ Cond.privateMethod q.1 ∈ tables_1 ∧ Cond.instanceMethod q.1 ∈ tables_1
theorem lw_p0 : lw_okq (⟨"BorderThroughBed$HouseText", "takesLine", "()Z"⟩, 4) := ⟨⟨by decide +kernel, by decide +kernel⟩, List.mem_of_getElem? (i := 38) (by decide +kernel), List.mem_of_getElem? (i := 328) (by decide +kernel), List.mem_of_getElem? (i := 329) (by decide +kernel)⟩
theorem lw_p1 : lw_okq (⟨"BorderThroughBed$HouseText", "takesRowEnd", "()Z"⟩, 4) := ⟨⟨by decide +kernel, by decide +kernel⟩, List.mem_of_getElem? (i := 38) (by decide +kernel), List.mem_of_getElem? (i := 332) (by decide +kernel), List.mem_of_getElem? (i := 333) (by decide +kernel)⟩
theorem lw_p2 : lw_okq (⟨"BorderThroughBed$HouseText", "isRowWhole", "()Z"⟩, 4) := ⟨⟨by decide +kernel, by decide +kernel⟩, List.mem_of_getElem? (i := 38) (by decide +kernel), List.mem_of_getElem? (i := 336) (by decide +kernel), List.mem_of_getElem? (i := 337) (by decide +kernel)⟩
theorem lw_p3 : lw_okq (⟨"BorderThroughBed$HouseText", "takesCell", "()Z"⟩, 4) := ⟨⟨by decide +kernel, by decide +kernel⟩, List.mem_of_getElem? (i := 38) (by decide +kernel), List.mem_of_getElem? (i := 340) (by decide +kernel), List.mem_of_getElem? (i := 341) (by decide +kernel)⟩
theorem lw_p4 : lw_okq (⟨"BorderThroughBed$LawText", "takesSide", "(I)Z"⟩, 7) := ⟨⟨by decide +kernel, by decide +kernel⟩, List.mem_of_getElem? (i := 60) (by decide +kernel), List.mem_of_getElem? (i := 347) (by decide +kernel), List.mem_of_getElem? (i := 348) (by decide +kernel)⟩
theorem lw_p5 : lw_okq (⟨"BorderThroughBed$LawText", "takesAct", "(I)Z"⟩, 7) := ⟨⟨by decide +kernel, by decide +kernel⟩, List.mem_of_getElem? (i := 60) (by decide +kernel), List.mem_of_getElem? (i := 351) (by decide +kernel), List.mem_of_getElem? (i := 352) (by decide +kernel)⟩
theorem lw_p6 : lw_okq (⟨"BorderThroughBed$LawText", "takesFrom", "(I)Z"⟩, 7) := ⟨⟨by decide +kernel, by decide +kernel⟩, List.mem_of_getElem? (i := 60) (by decide +kernel), List.mem_of_getElem? (i := 355) (by decide +kernel), List.mem_of_getElem? (i := 356) (by decide +kernel)⟩
theorem lw_p7 : lw_okq (⟨"BorderThroughBed$LawText", "hourWith", "(II)I"⟩, 7) := ⟨⟨by decide +kernel, by decide +kernel⟩, List.mem_of_getElem? (i := 60) (by decide +kernel), List.mem_of_getElem? (i := 359) (by decide +kernel), List.mem_of_getElem? (i := 360) (by decide +kernel)⟩
theorem lw_p8 : lw_okq (⟨"BorderThroughBed$LawText", "takesTo", "(I)Z"⟩, 7) := ⟨⟨by decide +kernel, by decide +kernel⟩, List.mem_of_getElem? (i := 60) (by decide +kernel), List.mem_of_getElem? (i := 363) (by decide +kernel), List.mem_of_getElem? (i := 364) (by decide +kernel)⟩
theorem lw_p9 : lw_okq (⟨"BorderThroughBed$House", "setLine", "(II)V"⟩, 14) := ⟨⟨by decide +kernel, by decide +kernel⟩, List.mem_of_getElem? (i := 88) (by decide +kernel), List.mem_of_getElem? (i := 399) (by decide +kernel), List.mem_of_getElem? (i := 400) (by decide +kernel)⟩
theorem lw_p10 : lw_okq (⟨"BorderThroughBed$House", "addCell", "(III)V"⟩, 14) := ⟨⟨by decide +kernel, by decide +kernel⟩, List.mem_of_getElem? (i := 88) (by decide +kernel), List.mem_of_getElem? (i := 404) (by decide +kernel), List.mem_of_getElem? (i := 405) (by decide +kernel)⟩
theorem lw_p11 : lw_okq (⟨"BorderThroughBed$House", "joinCells", "()V"⟩, 14) := ⟨⟨by decide +kernel, by decide +kernel⟩, List.mem_of_getElem? (i := 88) (by decide +kernel), List.mem_of_getElem? (i := 408) (by decide +kernel), List.mem_of_getElem? (i := 409) (by decide +kernel)⟩
theorem lw_p12 : lw_okq (⟨"BorderThroughBed$House", "joinPlace", "(III)V"⟩, 14) := ⟨⟨by decide +kernel, by decide +kernel⟩, List.mem_of_getElem? (i := 88) (by decide +kernel), List.mem_of_getElem? (i := 412) (by decide +kernel), List.mem_of_getElem? (i := 413) (by decide +kernel)⟩
theorem lw_p13 : lw_okq (⟨"BorderThroughBed$House", "cellAt", "(II)I"⟩, 14) := ⟨⟨by decide +kernel, by decide +kernel⟩, List.mem_of_getElem? (i := 88) (by decide +kernel), List.mem_of_getElem? (i := 420) (by decide +kernel), List.mem_of_getElem? (i := 421) (by decide +kernel)⟩
theorem lw_p14 : lw_okq (⟨"BorderThroughBed$House", "findDoors", "()V"⟩, 14) := ⟨⟨by decide +kernel, by decide +kernel⟩, List.mem_of_getElem? (i := 88) (by decide +kernel), List.mem_of_getElem? (i := 436) (by decide +kernel), List.mem_of_getElem? (i := 437) (by decide +kernel)⟩
theorem lw_p15 : lw_okq (⟨"BorderThroughBed$House", "findWhereNearest", "(I)V"⟩, 14) := ⟨⟨by decide +kernel, by decide +kernel⟩, List.mem_of_getElem? (i := 88) (by decide +kernel), List.mem_of_getElem? (i := 441) (by decide +kernel), List.mem_of_getElem? (i := 442) (by decide +kernel)⟩
def lw_privs_1 : List (MethodName × Nat) := [(⟨"BorderThroughBed$HouseText", "takesLine", "()Z"⟩, 4), (⟨"BorderThroughBed$HouseText", "takesRowEnd", "()Z"⟩, 4), (⟨"BorderThroughBed$HouseText", "isRowWhole", "()Z"⟩, 4), (⟨"BorderThroughBed$HouseText", "takesCell", "()Z"⟩, 4), (⟨"BorderThroughBed$LawText", "takesSide", "(I)Z"⟩, 7), (⟨"BorderThroughBed$LawText", "takesAct", "(I)Z"⟩, 7), (⟨"BorderThroughBed$LawText", "takesFrom", "(I)Z"⟩, 7), (⟨"BorderThroughBed$LawText", "hourWith", "(II)I"⟩, 7), (⟨"BorderThroughBed$LawText", "takesTo", "(I)Z"⟩, 7), (⟨"BorderThroughBed$House", "setLine", "(II)V"⟩, 14), (⟨"BorderThroughBed$House", "addCell", "(III)V"⟩, 14), (⟨"BorderThroughBed$House", "joinCells", "()V"⟩, 14), (⟨"BorderThroughBed$House", "joinPlace", "(III)V"⟩, 14), (⟨"BorderThroughBed$House", "cellAt", "(II)I"⟩, 14), (⟨"BorderThroughBed$House", "findDoors", "()V"⟩, 14), (⟨"BorderThroughBed$House", "findWhereNearest", "(I)V"⟩, 14)]
theorem lw_r1 : ∀ q ∈ lw_privs_1, lw_okq q := List.forall_mem_cons.mpr ⟨lw_p0, List.forall_mem_cons.mpr ⟨lw_p1, List.forall_mem_cons.mpr ⟨lw_p2, List.forall_mem_cons.mpr ⟨lw_p3, List.forall_mem_cons.mpr ⟨lw_p4, List.forall_mem_cons.mpr ⟨lw_p5, List.forall_mem_cons.mpr ⟨lw_p6, List.forall_mem_cons.mpr ⟨lw_p7, List.forall_mem_cons.mpr ⟨lw_p8, List.forall_mem_cons.mpr ⟨lw_p9, List.forall_mem_cons.mpr ⟨lw_p10, List.forall_mem_cons.mpr ⟨lw_p11, List.forall_mem_cons.mpr ⟨lw_p12, List.forall_mem_cons.mpr ⟨lw_p13, List.forall_mem_cons.mpr ⟨lw_p14, List.forall_mem_cons.mpr ⟨lw_p15, fun _ h => absurd h List.not_mem_nil⟩⟩⟩⟩⟩⟩⟩⟩⟩⟩⟩⟩⟩⟩⟩⟩
theorem lw_p16 : lw_okq (⟨"BorderThroughBed$House", "measure", "(III)V"⟩, 14) := ⟨⟨by decide +kernel, by decide +kernel⟩, List.mem_of_getElem? (i := 88) (by decide +kernel), List.mem_of_getElem? (i := 445) (by decide +kernel), List.mem_of_getElem? (i := 446) (by decide +kernel)⟩
theorem lw_p17 : lw_okq (⟨"BorderThroughBed$House", "goOn", "(II)Z"⟩, 14) := ⟨⟨by decide +kernel, by decide +kernel⟩, List.mem_of_getElem? (i := 88) (by decide +kernel), List.mem_of_getElem? (i := 449) (by decide +kernel), List.mem_of_getElem? (i := 450) (by decide +kernel)⟩
theorem lw_p18 : lw_okq (⟨"BorderThroughBed", "cellTold", "(II)I"⟩, 12) := ⟨⟨by decide +kernel, by decide +kernel⟩, List.mem_of_getElem? (i := 16) (by decide +kernel), List.mem_of_getElem? (i := 541) (by decide +kernel), List.mem_of_getElem? (i := 542) (by decide +kernel)⟩
theorem lw_p19 : lw_okq (⟨"BorderThroughBed$Laws", "holds", "(II)Z"⟩, 1) := ⟨⟨by decide +kernel, by decide +kernel⟩, List.mem_of_getElem? (i := 137) (by decide +kernel), List.mem_of_getElem? (i := 597) (by decide +kernel), List.mem_of_getElem? (i := 598) (by decide +kernel)⟩
theorem lw_p20 : lw_okq (⟨"BorderThroughBed$Laws", "counts", "(LBorderThroughBed$House;IIII)Z"⟩, 1) := ⟨⟨by decide +kernel, by decide +kernel⟩, List.mem_of_getElem? (i := 137) (by decide +kernel), List.mem_of_getElem? (i := 601) (by decide +kernel), List.mem_of_getElem? (i := 602) (by decide +kernel)⟩
theorem lw_p21 : lw_okq (⟨"BorderThroughBed", "firstAgainst", "()I"⟩, 12) := ⟨⟨by decide +kernel, by decide +kernel⟩, List.mem_of_getElem? (i := 16) (by decide +kernel), List.mem_of_getElem? (i := 622) (by decide +kernel), List.mem_of_getElem? (i := 623) (by decide +kernel)⟩
theorem lw_p22 : lw_okq (⟨"BorderThroughBed", "eventBroken", "(II)I"⟩, 12) := ⟨⟨by decide +kernel, by decide +kernel⟩, List.mem_of_getElem? (i := 16) (by decide +kernel), List.mem_of_getElem? (i := 628) (by decide +kernel), List.mem_of_getElem? (i := 629) (by decide +kernel)⟩
theorem lw_p23 : lw_okq (⟨"BorderThroughBed", "mapOf", "(IIII)I"⟩, 12) := ⟨⟨by decide +kernel, by decide +kernel⟩, List.mem_of_getElem? (i := 16) (by decide +kernel), List.mem_of_getElem? (i := 643) (by decide +kernel), List.mem_of_getElem? (i := 644) (by decide +kernel)⟩
theorem lw_p24 : lw_okq (⟨"BorderThroughBed", "isRoom", "(III)Z"⟩, 12) := ⟨⟨by decide +kernel, by decide +kernel⟩, List.mem_of_getElem? (i := 16) (by decide +kernel), List.mem_of_getElem? (i := 655) (by decide +kernel), List.mem_of_getElem? (i := 656) (by decide +kernel)⟩
theorem lw_p25 : lw_okq (⟨"BorderThroughBed", "thingTold", "(II)I"⟩, 12) := ⟨⟨by decide +kernel, by decide +kernel⟩, List.mem_of_getElem? (i := 16) (by decide +kernel), List.mem_of_getElem? (i := 676) (by decide +kernel), List.mem_of_getElem? (i := 677) (by decide +kernel)⟩
theorem lw_p26 : lw_okq (⟨"BorderThroughBed$Keeping", "learnOne", "(LBorderThroughBed$House;LBorderThroughBed$Laws;II)V"⟩, 3) := ⟨⟨by decide +kernel, by decide +kernel⟩, List.mem_of_getElem? (i := 190) (by decide +kernel), List.mem_of_getElem? (i := 714) (by decide +kernel), List.mem_of_getElem? (i := 715) (by decide +kernel)⟩
theorem lw_p27 : lw_okq (⟨"BorderThroughBed$Keeping", "note", "(LBorderThroughBed$House;III)V"⟩, 3) := ⟨⟨by decide +kernel, by decide +kernel⟩, List.mem_of_getElem? (i := 190) (by decide +kernel), List.mem_of_getElem? (i := 728) (by decide +kernel), List.mem_of_getElem? (i := 729) (by decide +kernel)⟩
theorem lw_p28 : lw_okq (⟨"BorderThroughBed$Keeping", "add", "(III)V"⟩, 3) := ⟨⟨by decide +kernel, by decide +kernel⟩, List.mem_of_getElem? (i := 190) (by decide +kernel), List.mem_of_getElem? (i := 732) (by decide +kernel), List.mem_of_getElem? (i := 733) (by decide +kernel)⟩
theorem lw_p29 : lw_okq (⟨"BorderThroughBed$Mover", "takenBut", "(II)I"⟩, 6) := ⟨⟨by decide +kernel, by decide +kernel⟩, List.mem_of_getElem? (i := 206) (by decide +kernel), List.mem_of_getElem? (i := 752) (by decide +kernel), List.mem_of_getElem? (i := 753) (by decide +kernel)⟩
theorem lw_p30 : lw_okq (⟨"BorderThroughBed$Mover", "isKeptNow", "(LBorderThroughBed$Keeping;II)Z"⟩, 6) := ⟨⟨by decide +kernel, by decide +kernel⟩, List.mem_of_getElem? (i := 206) (by decide +kernel), List.mem_of_getElem? (i := 756) (by decide +kernel), List.mem_of_getElem? (i := 757) (by decide +kernel)⟩
theorem lw_p31 : lw_okq (⟨"BorderThroughBed$Keeping", "goodAt", "(II)I"⟩, 3) := ⟨⟨by decide +kernel, by decide +kernel⟩, List.mem_of_getElem? (i := 190) (by decide +kernel), List.mem_of_getElem? (i := 768) (by decide +kernel), List.mem_of_getElem? (i := 769) (by decide +kernel)⟩
def lw_privs_2 : List (MethodName × Nat) := [(⟨"BorderThroughBed$House", "measure", "(III)V"⟩, 14), (⟨"BorderThroughBed$House", "goOn", "(II)Z"⟩, 14), (⟨"BorderThroughBed", "cellTold", "(II)I"⟩, 12), (⟨"BorderThroughBed$Laws", "holds", "(II)Z"⟩, 1), (⟨"BorderThroughBed$Laws", "counts", "(LBorderThroughBed$House;IIII)Z"⟩, 1), (⟨"BorderThroughBed", "firstAgainst", "()I"⟩, 12), (⟨"BorderThroughBed", "eventBroken", "(II)I"⟩, 12), (⟨"BorderThroughBed", "mapOf", "(IIII)I"⟩, 12), (⟨"BorderThroughBed", "isRoom", "(III)Z"⟩, 12), (⟨"BorderThroughBed", "thingTold", "(II)I"⟩, 12), (⟨"BorderThroughBed$Keeping", "learnOne", "(LBorderThroughBed$House;LBorderThroughBed$Laws;II)V"⟩, 3), (⟨"BorderThroughBed$Keeping", "note", "(LBorderThroughBed$House;III)V"⟩, 3), (⟨"BorderThroughBed$Keeping", "add", "(III)V"⟩, 3), (⟨"BorderThroughBed$Mover", "takenBut", "(II)I"⟩, 6), (⟨"BorderThroughBed$Mover", "isKeptNow", "(LBorderThroughBed$Keeping;II)Z"⟩, 6), (⟨"BorderThroughBed$Keeping", "goodAt", "(II)I"⟩, 3)]
theorem lw_r2 : ∀ q ∈ lw_privs_2, lw_okq q := List.forall_mem_cons.mpr ⟨lw_p16, List.forall_mem_cons.mpr ⟨lw_p17, List.forall_mem_cons.mpr ⟨lw_p18, List.forall_mem_cons.mpr ⟨lw_p19, List.forall_mem_cons.mpr ⟨lw_p20, List.forall_mem_cons.mpr ⟨lw_p21, List.forall_mem_cons.mpr ⟨lw_p22, List.forall_mem_cons.mpr ⟨lw_p23, List.forall_mem_cons.mpr ⟨lw_p24, List.forall_mem_cons.mpr ⟨lw_p25, List.forall_mem_cons.mpr ⟨lw_p26, List.forall_mem_cons.mpr ⟨lw_p27, List.forall_mem_cons.mpr ⟨lw_p28, List.forall_mem_cons.mpr ⟨lw_p29, List.forall_mem_cons.mpr ⟨lw_p30, List.forall_mem_cons.mpr ⟨lw_p31, fun _ h => absurd h List.not_mem_nil⟩⟩⟩⟩⟩⟩⟩⟩⟩⟩⟩⟩⟩⟩⟩⟩
theorem lw_p32 : lw_okq (⟨"BorderThroughBed$Mover", "allKept", "(LBorderThroughBed$Keeping;I)Z"⟩, 6) := ⟨⟨by decide +kernel, by decide +kernel⟩, List.mem_of_getElem? (i := 206) (by decide +kernel), List.mem_of_getElem? (i := 785) (by decide +kernel), List.mem_of_getElem? (i := 786) (by decide +kernel)⟩
theorem lw_p33 : lw_okq (⟨"BorderThroughBed$Mover", "tell", "(III)V"⟩, 6) := ⟨⟨by decide +kernel, by decide +kernel⟩, List.mem_of_getElem? (i := 206) (by decide +kernel), List.mem_of_getElem? (i := 793) (by decide +kernel), List.mem_of_getElem? (i := 794) (by decide +kernel)⟩
theorem lw_p34 : lw_okq (⟨"BorderThroughBed$Mover", "placeOf", "(I)I"⟩, 6) := ⟨⟨by decide +kernel, by decide +kernel⟩, List.mem_of_getElem? (i := 206) (by decide +kernel), List.mem_of_getElem? (i := 797) (by decide +kernel), List.mem_of_getElem? (i := 798) (by decide +kernel)⟩
theorem lw_p35 : lw_okq (⟨"BorderThroughBed$Mover", "isDoneBy", "(ILBorderThroughBed$House;LBorderThroughBed$Keeping;)Z"⟩, 6) := ⟨⟨by decide +kernel, by decide +kernel⟩, List.mem_of_getElem? (i := 206) (by decide +kernel), List.mem_of_getElem? (i := 810) (by decide +kernel), List.mem_of_getElem? (i := 811) (by decide +kernel)⟩
theorem lw_p36 : lw_okq (⟨"BorderThroughBed$Mover", "isDoneWith", "(ILBorderThroughBed$House;LBorderThroughBed$Keeping;)Z"⟩, 6) := ⟨⟨by decide +kernel, by decide +kernel⟩, List.mem_of_getElem? (i := 206) (by decide +kernel), List.mem_of_getElem? (i := 818) (by decide +kernel), List.mem_of_getElem? (i := 819) (by decide +kernel)⟩
theorem lw_p37 : lw_okq (⟨"BorderThroughBed", "fitting", "()I"⟩, 12) := ⟨⟨by decide +kernel, by decide +kernel⟩, List.mem_of_getElem? (i := 16) (by decide +kernel), List.mem_of_getElem? (i := 865) (by decide +kernel), List.mem_of_getElem? (i := 866) (by decide +kernel)⟩
theorem lw_p38 : lw_okq (⟨"BorderThroughBed", "allJudgedSo", "(I)Z"⟩, 12) := ⟨⟨by decide +kernel, by decide +kernel⟩, List.mem_of_getElem? (i := 16) (by decide +kernel), List.mem_of_getElem? (i := 869) (by decide +kernel), List.mem_of_getElem? (i := 870) (by decide +kernel)⟩
theorem lw_p39 : lw_okq (⟨"BorderThroughBed", "digestOfCells", "(J)J"⟩, 12) := ⟨⟨by decide +kernel, by decide +kernel⟩, List.mem_of_getElem? (i := 16) (by decide +kernel), List.mem_of_getElem? (i := 901) (by decide +kernel), List.mem_of_getElem? (i := 902) (by decide +kernel)⟩
theorem lw_p40 : lw_okq (⟨"BorderThroughBed", "digestOfLaws", "(J)J"⟩, 12) := ⟨⟨by decide +kernel, by decide +kernel⟩, List.mem_of_getElem? (i := 16) (by decide +kernel), List.mem_of_getElem? (i := 906) (by decide +kernel), List.mem_of_getElem? (i := 907) (by decide +kernel)⟩
theorem lw_p41 : lw_okq (⟨"BorderThroughBed", "digestOfEvents", "(J)J"⟩, 12) := ⟨⟨by decide +kernel, by decide +kernel⟩, List.mem_of_getElem? (i := 16) (by decide +kernel), List.mem_of_getElem? (i := 910) (by decide +kernel), List.mem_of_getElem? (i := 911) (by decide +kernel)⟩
theorem lw_p42 : lw_okq (⟨"BorderThroughBed", "digestOfThings", "(J)J"⟩, 12) := ⟨⟨by decide +kernel, by decide +kernel⟩, List.mem_of_getElem? (i := 16) (by decide +kernel), List.mem_of_getElem? (i := 914) (by decide +kernel), List.mem_of_getElem? (i := 915) (by decide +kernel)⟩
theorem lw_p43 : lw_okq (⟨"BorderThroughBedModel", "readHouse", "()V"⟩, 58) := ⟨⟨by decide +kernel, by decide +kernel⟩, List.mem_of_getElem? (i := 924) (by decide +kernel), List.mem_of_getElem? (i := 1122) (by decide +kernel), List.mem_of_getElem? (i := 1123) (by decide +kernel)⟩
theorem lw_p44 : lw_okq (⟨"BorderThroughBedModel", "takeHouse", "(I)Z"⟩, 58) := ⟨⟨by decide +kernel, by decide +kernel⟩, List.mem_of_getElem? (i := 924) (by decide +kernel), List.mem_of_getElem? (i := 1126) (by decide +kernel), List.mem_of_getElem? (i := 1127) (by decide +kernel)⟩
theorem lw_p45 : lw_okq (⟨"BorderThroughBedModel", "readLaw", "()V"⟩, 58) := ⟨⟨by decide +kernel, by decide +kernel⟩, List.mem_of_getElem? (i := 924) (by decide +kernel), List.mem_of_getElem? (i := 1133) (by decide +kernel), List.mem_of_getElem? (i := 1134) (by decide +kernel)⟩
theorem lw_p46 : lw_okq (⟨"BorderThroughBedModel", "nextLaw", "(II)I"⟩, 58) := ⟨⟨by decide +kernel, by decide +kernel⟩, List.mem_of_getElem? (i := 924) (by decide +kernel), List.mem_of_getElem? (i := 1137) (by decide +kernel), List.mem_of_getElem? (i := 1138) (by decide +kernel)⟩
theorem lw_p47 : lw_okq (⟨"BorderThroughBedModel", "goOnHour", "(II)Z"⟩, 58) := ⟨⟨by decide +kernel, by decide +kernel⟩, List.mem_of_getElem? (i := 924) (by decide +kernel), List.mem_of_getElem? (i := 1144) (by decide +kernel), List.mem_of_getElem? (i := 1145) (by decide +kernel)⟩
def lw_privs_3 : List (MethodName × Nat) := [(⟨"BorderThroughBed$Mover", "allKept", "(LBorderThroughBed$Keeping;I)Z"⟩, 6), (⟨"BorderThroughBed$Mover", "tell", "(III)V"⟩, 6), (⟨"BorderThroughBed$Mover", "placeOf", "(I)I"⟩, 6), (⟨"BorderThroughBed$Mover", "isDoneBy", "(ILBorderThroughBed$House;LBorderThroughBed$Keeping;)Z"⟩, 6), (⟨"BorderThroughBed$Mover", "isDoneWith", "(ILBorderThroughBed$House;LBorderThroughBed$Keeping;)Z"⟩, 6), (⟨"BorderThroughBed", "fitting", "()I"⟩, 12), (⟨"BorderThroughBed", "allJudgedSo", "(I)Z"⟩, 12), (⟨"BorderThroughBed", "digestOfCells", "(J)J"⟩, 12), (⟨"BorderThroughBed", "digestOfLaws", "(J)J"⟩, 12), (⟨"BorderThroughBed", "digestOfEvents", "(J)J"⟩, 12), (⟨"BorderThroughBed", "digestOfThings", "(J)J"⟩, 12), (⟨"BorderThroughBedModel", "readHouse", "()V"⟩, 58), (⟨"BorderThroughBedModel", "takeHouse", "(I)Z"⟩, 58), (⟨"BorderThroughBedModel", "readLaw", "()V"⟩, 58), (⟨"BorderThroughBedModel", "nextLaw", "(II)I"⟩, 58), (⟨"BorderThroughBedModel", "goOnHour", "(II)Z"⟩, 58)]
theorem lw_r3 : ∀ q ∈ lw_privs_3, lw_okq q := List.forall_mem_cons.mpr ⟨lw_p32, List.forall_mem_cons.mpr ⟨lw_p33, List.forall_mem_cons.mpr ⟨lw_p34, List.forall_mem_cons.mpr ⟨lw_p35, List.forall_mem_cons.mpr ⟨lw_p36, List.forall_mem_cons.mpr ⟨lw_p37, List.forall_mem_cons.mpr ⟨lw_p38, List.forall_mem_cons.mpr ⟨lw_p39, List.forall_mem_cons.mpr ⟨lw_p40, List.forall_mem_cons.mpr ⟨lw_p41, List.forall_mem_cons.mpr ⟨lw_p42, List.forall_mem_cons.mpr ⟨lw_p43, List.forall_mem_cons.mpr ⟨lw_p44, List.forall_mem_cons.mpr ⟨lw_p45, List.forall_mem_cons.mpr ⟨lw_p46, List.forall_mem_cons.mpr ⟨lw_p47, fun _ h => absurd h List.not_mem_nil⟩⟩⟩⟩⟩⟩⟩⟩⟩⟩⟩⟩⟩⟩⟩⟩
theorem lw_p48 : lw_okq (⟨"BorderThroughBedModel", "hour", "(I)I"⟩, 58) := ⟨⟨by decide +kernel, by decide +kernel⟩, List.mem_of_getElem? (i := 924) (by decide +kernel), List.mem_of_getElem? (i := 1148) (by decide +kernel), List.mem_of_getElem? (i := 1149) (by decide +kernel)⟩
theorem lw_p49 : lw_okq (⟨"BorderThroughBedModel", "setHour", "(II)V"⟩, 58) := ⟨⟨by decide +kernel, by decide +kernel⟩, List.mem_of_getElem? (i := 924) (by decide +kernel), List.mem_of_getElem? (i := 1152) (by decide +kernel), List.mem_of_getElem? (i := 1153) (by decide +kernel)⟩
theorem lw_p50 : lw_okq (⟨"BorderThroughBedModel", "endLaw", "(I)I"⟩, 58) := ⟨⟨by decide +kernel, by decide +kernel⟩, List.mem_of_getElem? (i := 924) (by decide +kernel), List.mem_of_getElem? (i := 1156) (by decide +kernel), List.mem_of_getElem? (i := 1157) (by decide +kernel)⟩
theorem lw_p51 : lw_okq (⟨"BorderThroughBedModel", "kindBy", "(I)I"⟩, 58) := ⟨⟨by decide +kernel, by decide +kernel⟩, List.mem_of_getElem? (i := 924) (by decide +kernel), List.mem_of_getElem? (i := 1160) (by decide +kernel), List.mem_of_getElem? (i := 1161) (by decide +kernel)⟩
theorem lw_p52 : lw_okq (⟨"BorderThroughBedModel", "isLaw", "(I)Z"⟩, 58) := ⟨⟨by decide +kernel, by decide +kernel⟩, List.mem_of_getElem? (i := 924) (by decide +kernel), List.mem_of_getElem? (i := 1176) (by decide +kernel), List.mem_of_getElem? (i := 1177) (by decide +kernel)⟩
theorem lw_p53 : lw_okq (⟨"BorderThroughBedModel", "lawNow", "(II)I"⟩, 58) := ⟨⟨by decide +kernel, by decide +kernel⟩, List.mem_of_getElem? (i := 924) (by decide +kernel), List.mem_of_getElem? (i := 1180) (by decide +kernel), List.mem_of_getElem? (i := 1181) (by decide +kernel)⟩
theorem lw_p54 : lw_okq (⟨"BorderThroughBedModel", "isCell", "(I)Z"⟩, 58) := ⟨⟨by decide +kernel, by decide +kernel⟩, List.mem_of_getElem? (i := 924) (by decide +kernel), List.mem_of_getElem? (i := 1192) (by decide +kernel), List.mem_of_getElem? (i := 1193) (by decide +kernel)⟩
theorem lw_p55 : lw_okq (⟨"BorderThroughBedModel", "cells", "()I"⟩, 58) := ⟨⟨by decide +kernel, by decide +kernel⟩, List.mem_of_getElem? (i := 924) (by decide +kernel), List.mem_of_getElem? (i := 1196) (by decide +kernel), List.mem_of_getElem? (i := 1197) (by decide +kernel)⟩
theorem lw_p56 : lw_okq (⟨"BorderThroughBedModel", "cellNow", "(II)I"⟩, 58) := ⟨⟨by decide +kernel, by decide +kernel⟩, List.mem_of_getElem? (i := 924) (by decide +kernel), List.mem_of_getElem? (i := 1200) (by decide +kernel), List.mem_of_getElem? (i := 1201) (by decide +kernel)⟩
theorem lw_p57 : lw_okq (⟨"BorderThroughBedModel", "sideOf", "(I)I"⟩, 58) := ⟨⟨by decide +kernel, by decide +kernel⟩, List.mem_of_getElem? (i := 924) (by decide +kernel), List.mem_of_getElem? (i := 1204) (by decide +kernel), List.mem_of_getElem? (i := 1205) (by decide +kernel)⟩
theorem lw_p58 : lw_okq (⟨"BorderThroughBedModel", "thingAt", "(I)I"⟩, 58) := ⟨⟨by decide +kernel, by decide +kernel⟩, List.mem_of_getElem? (i := 924) (by decide +kernel), List.mem_of_getElem? (i := 1208) (by decide +kernel), List.mem_of_getElem? (i := 1209) (by decide +kernel)⟩
theorem lw_p59 : lw_okq (⟨"BorderThroughBedModel", "lastCell", "(I)I"⟩, 58) := ⟨⟨by decide +kernel, by decide +kernel⟩, List.mem_of_getElem? (i := 924) (by decide +kernel), List.mem_of_getElem? (i := 1212) (by decide +kernel), List.mem_of_getElem? (i := 1213) (by decide +kernel)⟩
theorem lw_p60 : lw_okq (⟨"BorderThroughBedModel", "ahead", "(II)I"⟩, 58) := ⟨⟨by decide +kernel, by decide +kernel⟩, List.mem_of_getElem? (i := 924) (by decide +kernel), List.mem_of_getElem? (i := 1216) (by decide +kernel), List.mem_of_getElem? (i := 1217) (by decide +kernel)⟩
theorem lw_p61 : lw_okq (⟨"BorderThroughBedModel", "beside", "(II)I"⟩, 58) := ⟨⟨by decide +kernel, by decide +kernel⟩, List.mem_of_getElem? (i := 924) (by decide +kernel), List.mem_of_getElem? (i := 1220) (by decide +kernel), List.mem_of_getElem? (i := 1221) (by decide +kernel)⟩
theorem lw_p62 : lw_okq (⟨"BorderThroughBedModel", "nearestDoor", "(I)I"⟩, 58) := ⟨⟨by decide +kernel, by decide +kernel⟩, List.mem_of_getElem? (i := 924) (by decide +kernel), List.mem_of_getElem? (i := 1224) (by decide +kernel), List.mem_of_getElem? (i := 1225) (by decide +kernel)⟩
theorem lw_p63 : lw_okq (⟨"BorderThroughBedModel", "laySteps", "(IZ)V"⟩, 58) := ⟨⟨by decide +kernel, by decide +kernel⟩, List.mem_of_getElem? (i := 924) (by decide +kernel), List.mem_of_getElem? (i := 1228) (by decide +kernel), List.mem_of_getElem? (i := 1229) (by decide +kernel)⟩
def lw_privs_4 : List (MethodName × Nat) := [(⟨"BorderThroughBedModel", "hour", "(I)I"⟩, 58), (⟨"BorderThroughBedModel", "setHour", "(II)V"⟩, 58), (⟨"BorderThroughBedModel", "endLaw", "(I)I"⟩, 58), (⟨"BorderThroughBedModel", "kindBy", "(I)I"⟩, 58), (⟨"BorderThroughBedModel", "isLaw", "(I)Z"⟩, 58), (⟨"BorderThroughBedModel", "lawNow", "(II)I"⟩, 58), (⟨"BorderThroughBedModel", "isCell", "(I)Z"⟩, 58), (⟨"BorderThroughBedModel", "cells", "()I"⟩, 58), (⟨"BorderThroughBedModel", "cellNow", "(II)I"⟩, 58), (⟨"BorderThroughBedModel", "sideOf", "(I)I"⟩, 58), (⟨"BorderThroughBedModel", "thingAt", "(I)I"⟩, 58), (⟨"BorderThroughBedModel", "lastCell", "(I)I"⟩, 58), (⟨"BorderThroughBedModel", "ahead", "(II)I"⟩, 58), (⟨"BorderThroughBedModel", "beside", "(II)I"⟩, 58), (⟨"BorderThroughBedModel", "nearestDoor", "(I)I"⟩, 58), (⟨"BorderThroughBedModel", "laySteps", "(IZ)V"⟩, 58)]
theorem lw_r4 : ∀ q ∈ lw_privs_4, lw_okq q := List.forall_mem_cons.mpr ⟨lw_p48, List.forall_mem_cons.mpr ⟨lw_p49, List.forall_mem_cons.mpr ⟨lw_p50, List.forall_mem_cons.mpr ⟨lw_p51, List.forall_mem_cons.mpr ⟨lw_p52, List.forall_mem_cons.mpr ⟨lw_p53, List.forall_mem_cons.mpr ⟨lw_p54, List.forall_mem_cons.mpr ⟨lw_p55, List.forall_mem_cons.mpr ⟨lw_p56, List.forall_mem_cons.mpr ⟨lw_p57, List.forall_mem_cons.mpr ⟨lw_p58, List.forall_mem_cons.mpr ⟨lw_p59, List.forall_mem_cons.mpr ⟨lw_p60, List.forall_mem_cons.mpr ⟨lw_p61, List.forall_mem_cons.mpr ⟨lw_p62, List.forall_mem_cons.mpr ⟨lw_p63, fun _ h => absurd h List.not_mem_nil⟩⟩⟩⟩⟩⟩⟩⟩⟩⟩⟩⟩⟩⟩⟩⟩
theorem lw_p64 : lw_okq (⟨"BorderThroughBedModel", "isOpen", "(I)Z"⟩, 58) := ⟨⟨by decide +kernel, by decide +kernel⟩, List.mem_of_getElem? (i := 924) (by decide +kernel), List.mem_of_getElem? (i := 1237) (by decide +kernel), List.mem_of_getElem? (i := 1238) (by decide +kernel)⟩
theorem lw_p65 : lw_okq (⟨"BorderThroughBedModel", "partOf", "(IIII)I"⟩, 58) := ⟨⟨by decide +kernel, by decide +kernel⟩, List.mem_of_getElem? (i := 924) (by decide +kernel), List.mem_of_getElem? (i := 1244) (by decide +kernel), List.mem_of_getElem? (i := 1245) (by decide +kernel)⟩
theorem lw_p66 : lw_okq (⟨"BorderThroughBedModel", "againstBy", "(IIIII)I"⟩, 58) := ⟨⟨by decide +kernel, by decide +kernel⟩, List.mem_of_getElem? (i := 924) (by decide +kernel), List.mem_of_getElem? (i := 1255) (by decide +kernel), List.mem_of_getElem? (i := 1256) (by decide +kernel)⟩
theorem lw_p67 : lw_okq (⟨"BorderThroughBedModel", "holds", "(II)Z"⟩, 58) := ⟨⟨by decide +kernel, by decide +kernel⟩, List.mem_of_getElem? (i := 924) (by decide +kernel), List.mem_of_getElem? (i := 1259) (by decide +kernel), List.mem_of_getElem? (i := 1260) (by decide +kernel)⟩
theorem lw_p68 : lw_okq (⟨"BorderThroughBedModel", "counts", "(IIII)Z"⟩, 58) := ⟨⟨by decide +kernel, by decide +kernel⟩, List.mem_of_getElem? (i := 924) (by decide +kernel), List.mem_of_getElem? (i := 1263) (by decide +kernel), List.mem_of_getElem? (i := 1264) (by decide +kernel)⟩
theorem lw_p69 : lw_okq (⟨"BorderThroughBedModel", "eventAgainst", "(I)I"⟩, 58) := ⟨⟨by decide +kernel, by decide +kernel⟩, List.mem_of_getElem? (i := 924) (by decide +kernel), List.mem_of_getElem? (i := 1275) (by decide +kernel), List.mem_of_getElem? (i := 1276) (by decide +kernel)⟩
theorem lw_p70 : lw_okq (⟨"BorderThroughBedModel", "isFloor", "(I)Z"⟩, 58) := ⟨⟨by decide +kernel, by decide +kernel⟩, List.mem_of_getElem? (i := 924) (by decide +kernel), List.mem_of_getElem? (i := 1290) (by decide +kernel), List.mem_of_getElem? (i := 1291) (by decide +kernel)⟩
theorem lw_p71 : lw_okq (⟨"BorderThroughBedModel", "roomBeside", "(III)Z"⟩, 58) := ⟨⟨by decide +kernel, by decide +kernel⟩, List.mem_of_getElem? (i := 924) (by decide +kernel), List.mem_of_getElem? (i := 1297) (by decide +kernel), List.mem_of_getElem? (i := 1298) (by decide +kernel)⟩
theorem lw_p72 : lw_okq (⟨"BorderThroughBedModel", "fitsIn", "(III)Z"⟩, 58) := ⟨⟨by decide +kernel, by decide +kernel⟩, List.mem_of_getElem? (i := 924) (by decide +kernel), List.mem_of_getElem? (i := 1301) (by decide +kernel), List.mem_of_getElem? (i := 1302) (by decide +kernel)⟩
theorem lw_p73 : lw_okq (⟨"BorderThroughBedModel", "put", "(IIII)V"⟩, 58) := ⟨⟨by decide +kernel, by decide +kernel⟩, List.mem_of_getElem? (i := 924) (by decide +kernel), List.mem_of_getElem? (i := 1305) (by decide +kernel), List.mem_of_getElem? (i := 1306) (by decide +kernel)⟩
theorem lw_p74 : lw_okq (⟨"BorderThroughBedModel", "haveRoom", "()Z"⟩, 58) := ⟨⟨by decide +kernel, by decide +kernel⟩, List.mem_of_getElem? (i := 924) (by decide +kernel), List.mem_of_getElem? (i := 1309) (by decide +kernel), List.mem_of_getElem? (i := 1310) (by decide +kernel)⟩
theorem lw_p75 : lw_okq (⟨"BorderThroughBedModel", "touches", "(II)Z"⟩, 58) := ⟨⟨by decide +kernel, by decide +kernel⟩, List.mem_of_getElem? (i := 924) (by decide +kernel), List.mem_of_getElem? (i := 1313) (by decide +kernel), List.mem_of_getElem? (i := 1314) (by decide +kernel)⟩
theorem lw_p76 : lw_okq (⟨"BorderThroughBedModel", "isThing", "(I)Z"⟩, 58) := ⟨⟨by decide +kernel, by decide +kernel⟩, List.mem_of_getElem? (i := 924) (by decide +kernel), List.mem_of_getElem? (i := 1321) (by decide +kernel), List.mem_of_getElem? (i := 1322) (by decide +kernel)⟩
theorem lw_p77 : lw_okq (⟨"BorderThroughBedModel", "thingNow", "(II)I"⟩, 58) := ⟨⟨by decide +kernel, by decide +kernel⟩, List.mem_of_getElem? (i := 924) (by decide +kernel), List.mem_of_getElem? (i := 1329) (by decide +kernel), List.mem_of_getElem? (i := 1330) (by decide +kernel)⟩
theorem lw_p78 : lw_okq (⟨"BorderThroughBedModel", "keptNow", "()I"⟩, 58) := ⟨⟨by decide +kernel, by decide +kernel⟩, List.mem_of_getElem? (i := 924) (by decide +kernel), List.mem_of_getElem? (i := 1345) (by decide +kernel), List.mem_of_getElem? (i := 1346) (by decide +kernel)⟩
theorem lw_p79 : lw_okq (⟨"BorderThroughBedModel", "isKeptHabit", "(I)Z"⟩, 58) := ⟨⟨by decide +kernel, by decide +kernel⟩, List.mem_of_getElem? (i := 924) (by decide +kernel), List.mem_of_getElem? (i := 1349) (by decide +kernel), List.mem_of_getElem? (i := 1350) (by decide +kernel)⟩
def lw_privs_5 : List (MethodName × Nat) := [(⟨"BorderThroughBedModel", "isOpen", "(I)Z"⟩, 58), (⟨"BorderThroughBedModel", "partOf", "(IIII)I"⟩, 58), (⟨"BorderThroughBedModel", "againstBy", "(IIIII)I"⟩, 58), (⟨"BorderThroughBedModel", "holds", "(II)Z"⟩, 58), (⟨"BorderThroughBedModel", "counts", "(IIII)Z"⟩, 58), (⟨"BorderThroughBedModel", "eventAgainst", "(I)I"⟩, 58), (⟨"BorderThroughBedModel", "isFloor", "(I)Z"⟩, 58), (⟨"BorderThroughBedModel", "roomBeside", "(III)Z"⟩, 58), (⟨"BorderThroughBedModel", "fitsIn", "(III)Z"⟩, 58), (⟨"BorderThroughBedModel", "put", "(IIII)V"⟩, 58), (⟨"BorderThroughBedModel", "haveRoom", "()Z"⟩, 58), (⟨"BorderThroughBedModel", "touches", "(II)Z"⟩, 58), (⟨"BorderThroughBedModel", "isThing", "(I)Z"⟩, 58), (⟨"BorderThroughBedModel", "thingNow", "(II)I"⟩, 58), (⟨"BorderThroughBedModel", "keptNow", "()I"⟩, 58), (⟨"BorderThroughBedModel", "isKeptHabit", "(I)Z"⟩, 58)]
theorem lw_r5 : ∀ q ∈ lw_privs_5, lw_okq q := List.forall_mem_cons.mpr ⟨lw_p64, List.forall_mem_cons.mpr ⟨lw_p65, List.forall_mem_cons.mpr ⟨lw_p66, List.forall_mem_cons.mpr ⟨lw_p67, List.forall_mem_cons.mpr ⟨lw_p68, List.forall_mem_cons.mpr ⟨lw_p69, List.forall_mem_cons.mpr ⟨lw_p70, List.forall_mem_cons.mpr ⟨lw_p71, List.forall_mem_cons.mpr ⟨lw_p72, List.forall_mem_cons.mpr ⟨lw_p73, List.forall_mem_cons.mpr ⟨lw_p74, List.forall_mem_cons.mpr ⟨lw_p75, List.forall_mem_cons.mpr ⟨lw_p76, List.forall_mem_cons.mpr ⟨lw_p77, List.forall_mem_cons.mpr ⟨lw_p78, List.forall_mem_cons.mpr ⟨lw_p79, fun _ h => absurd h List.not_mem_nil⟩⟩⟩⟩⟩⟩⟩⟩⟩⟩⟩⟩⟩⟩⟩⟩
theorem lw_p80 : lw_okq (⟨"BorderThroughBedModel", "isKeptInBed", "(II)Z"⟩, 58) := ⟨⟨by decide +kernel, by decide +kernel⟩, List.mem_of_getElem? (i := 924) (by decide +kernel), List.mem_of_getElem? (i := 1353) (by decide +kernel), List.mem_of_getElem? (i := 1354) (by decide +kernel)⟩
theorem lw_p81 : lw_okq (⟨"BorderThroughBedModel", "isKeptAt", "(II)Z"⟩, 58) := ⟨⟨by decide +kernel, by decide +kernel⟩, List.mem_of_getElem? (i := 924) (by decide +kernel), List.mem_of_getElem? (i := 1357) (by decide +kernel), List.mem_of_getElem? (i := 1358) (by decide +kernel)⟩
theorem lw_p82 : lw_okq (⟨"BorderThroughBedModel", "isKeptAnywhere", "(II)Z"⟩, 58) := ⟨⟨by decide +kernel, by decide +kernel⟩, List.mem_of_getElem? (i := 924) (by decide +kernel), List.mem_of_getElem? (i := 1361) (by decide +kernel), List.mem_of_getElem? (i := 1362) (by decide +kernel)⟩
theorem lw_p83 : lw_okq (⟨"BorderThroughBedModel", "find", "()Z"⟩, 58) := ⟨⟨by decide +kernel, by decide +kernel⟩, List.mem_of_getElem? (i := 924) (by decide +kernel), List.mem_of_getElem? (i := 1369) (by decide +kernel), List.mem_of_getElem? (i := 1370) (by decide +kernel)⟩
theorem lw_p84 : lw_okq (⟨"BorderThroughBedModel", "areAllKept", "()Z"⟩, 58) := ⟨⟨by decide +kernel, by decide +kernel⟩, List.mem_of_getElem? (i := 924) (by decide +kernel), List.mem_of_getElem? (i := 1373) (by decide +kernel), List.mem_of_getElem? (i := 1374) (by decide +kernel)⟩
theorem lw_p85 : lw_okq (⟨"BorderThroughBedModel", "findOne", "()Z"⟩, 58) := ⟨⟨by decide +kernel, by decide +kernel⟩, List.mem_of_getElem? (i := 924) (by decide +kernel), List.mem_of_getElem? (i := 1377) (by decide +kernel), List.mem_of_getElem? (i := 1378) (by decide +kernel)⟩
theorem lw_p86 : lw_okq (⟨"BorderThroughBedModel", "isPlace", "(II)Z"⟩, 58) := ⟨⟨by decide +kernel, by decide +kernel⟩, List.mem_of_getElem? (i := 924) (by decide +kernel), List.mem_of_getElem? (i := 1381) (by decide +kernel), List.mem_of_getElem? (i := 1382) (by decide +kernel)⟩
theorem lw_p87 : lw_okq (⟨"BorderThroughBedModel", "findTwo", "()Z"⟩, 58) := ⟨⟨by decide +kernel, by decide +kernel⟩, List.mem_of_getElem? (i := 924) (by decide +kernel), List.mem_of_getElem? (i := 1385) (by decide +kernel), List.mem_of_getElem? (i := 1386) (by decide +kernel)⟩
theorem lw_p88 : lw_okq (⟨"BorderThroughBedModel", "findSecond", "(I)Z"⟩, 58) := ⟨⟨by decide +kernel, by decide +kernel⟩, List.mem_of_getElem? (i := 924) (by decide +kernel), List.mem_of_getElem? (i := 1389) (by decide +kernel), List.mem_of_getElem? (i := 1390) (by decide +kernel)⟩
theorem lw_p89 : lw_okq (⟨"BorderThroughBedModel", "fitsNow", "()I"⟩, 58) := ⟨⟨by decide +kernel, by decide +kernel⟩, List.mem_of_getElem? (i := 924) (by decide +kernel), List.mem_of_getElem? (i := 1421) (by decide +kernel), List.mem_of_getElem? (i := 1422) (by decide +kernel)⟩
theorem lw_p90 : lw_okq (⟨"BorderThroughBedModel", "howMany", "(I)I"⟩, 58) := ⟨⟨by decide +kernel, by decide +kernel⟩, List.mem_of_getElem? (i := 924) (by decide +kernel), List.mem_of_getElem? (i := 1437) (by decide +kernel), List.mem_of_getElem? (i := 1438) (by decide +kernel)⟩
theorem lw_p91 : lw_okq (⟨"BorderThroughBedModel", "mixHouse", "()V"⟩, 58) := ⟨⟨by decide +kernel, by decide +kernel⟩, List.mem_of_getElem? (i := 924) (by decide +kernel), List.mem_of_getElem? (i := 1446) (by decide +kernel), List.mem_of_getElem? (i := 1447) (by decide +kernel)⟩
theorem lw_p92 : lw_okq (⟨"BorderThroughBedModel", "mix", "(J)V"⟩, 58) := ⟨⟨by decide +kernel, by decide +kernel⟩, List.mem_of_getElem? (i := 924) (by decide +kernel), List.mem_of_getElem? (i := 1450) (by decide +kernel), List.mem_of_getElem? (i := 1451) (by decide +kernel)⟩
def lw_privs_6 : List (MethodName × Nat) := [(⟨"BorderThroughBedModel", "isKeptInBed", "(II)Z"⟩, 58), (⟨"BorderThroughBedModel", "isKeptAt", "(II)Z"⟩, 58), (⟨"BorderThroughBedModel", "isKeptAnywhere", "(II)Z"⟩, 58), (⟨"BorderThroughBedModel", "find", "()Z"⟩, 58), (⟨"BorderThroughBedModel", "areAllKept", "()Z"⟩, 58), (⟨"BorderThroughBedModel", "findOne", "()Z"⟩, 58), (⟨"BorderThroughBedModel", "isPlace", "(II)Z"⟩, 58), (⟨"BorderThroughBedModel", "findTwo", "()Z"⟩, 58), (⟨"BorderThroughBedModel", "findSecond", "(I)Z"⟩, 58), (⟨"BorderThroughBedModel", "fitsNow", "()I"⟩, 58), (⟨"BorderThroughBedModel", "howMany", "(I)I"⟩, 58), (⟨"BorderThroughBedModel", "mixHouse", "()V"⟩, 58), (⟨"BorderThroughBedModel", "mix", "(J)V"⟩, 58)]
theorem lw_r6 : ∀ q ∈ lw_privs_6, lw_okq q := List.forall_mem_cons.mpr ⟨lw_p80, List.forall_mem_cons.mpr ⟨lw_p81, List.forall_mem_cons.mpr ⟨lw_p82, List.forall_mem_cons.mpr ⟨lw_p83, List.forall_mem_cons.mpr ⟨lw_p84, List.forall_mem_cons.mpr ⟨lw_p85, List.forall_mem_cons.mpr ⟨lw_p86, List.forall_mem_cons.mpr ⟨lw_p87, List.forall_mem_cons.mpr ⟨lw_p88, List.forall_mem_cons.mpr ⟨lw_p89, List.forall_mem_cons.mpr ⟨lw_p90, List.forall_mem_cons.mpr ⟨lw_p91, List.forall_mem_cons.mpr ⟨lw_p92, fun _ h => absurd h List.not_mem_nil⟩⟩⟩⟩⟩⟩⟩⟩⟩⟩⟩⟩⟩
def lw_privs : List (MethodName × Nat) := lw_privs_1 ++ (lw_privs_2 ++ (lw_privs_3 ++ (lw_privs_4 ++ (lw_privs_5 ++ (lw_privs_6)))))
def lw_tbl : List Cond := k2_sels lw_privs ++ tables_1
theorem lw_privs_ok : ∀ q ∈ lw_privs, lw_okq q := by
  show ∀ q ∈ lw_privs_1 ++ (lw_privs_2 ++ (lw_privs_3 ++ (lw_privs_4 ++ (lw_privs_5 ++ (lw_privs_6))))), lw_okq q
  exact List.forall_mem_append.mpr ⟨lw_r1, List.forall_mem_append.mpr ⟨lw_r2, List.forall_mem_append.mpr ⟨lw_r3, List.forall_mem_append.mpr ⟨lw_r4, List.forall_mem_append.mpr ⟨lw_r5, lw_r6⟩⟩⟩⟩⟩
-- ===== end of PART A; then your names; then what follows =====
end
section
/-! TABLES of the pure machine, printed by wip/whole/gen2.py out of the claim's own listing: classes, objects, methods, blocks, pools -/
def ex_R : List String := ["BorderThroughBed$Day", "BorderThroughBed$House", "BorderThroughBed$HouseText", "BorderThroughBed$Keeping", "BorderThroughBed$LawText", "BorderThroughBed$Laws", "BorderThroughBed$Mover", "BorderThroughBed$Page", "BorderThroughBed$Table", "BorderThroughBed$Text", "BorderThroughBed", "BorderThroughBedModel"]
def ex_Rn (c : Nat) : String := ex_R.getD c ""
def ex_T0 : u_T := fun k => match k with
  | 0 => ("BorderThroughBed$Day", "things", "LBorderThroughBed$Table;", true)
  | 1 => ("BorderThroughBed$Day", "events", "LBorderThroughBed$Table;", true)
  | 2 => ("BorderThroughBed$Day", "habits", "LBorderThroughBed$Table;", true)
  | _ => ("BorderThroughBed$Day", "judgments", "LBorderThroughBed$Table;", true)
def ex_ty0 : Nat → FieldType := fun k => match k with
  | 0 => .object "BorderThroughBed$Table"
  | 1 => .object "BorderThroughBed$Table"
  | 2 => .object "BorderThroughBed$Table"
  | _ => .object "BorderThroughBed$Table"
def ex_T1 : u_T := fun k => match k with
  | 0 => ("BorderThroughBed$House", "kinds", "[I", true)
  | 1 => ("BorderThroughBed$House", "rowOf", "[I", true)
  | 2 => ("BorderThroughBed$House", "columnOf", "[I", true)
  | 3 => ("BorderThroughBed$House", "lines", "[I", true)
  | 4 => ("BorderThroughBed$House", "beside", "[I", true)
  | 5 => ("BorderThroughBed$House", "ahead", "[I", true)
  | 6 => ("BorderThroughBed$House", "bedSpots", "[I", true)
  | 7 => ("BorderThroughBed$House", "otherSpots", "[I", true)
  | 8 => ("BorderThroughBed$House", "doors", "[I", true)
  | 9 => ("BorderThroughBed$House", "doorSteps", "[I", true)
  | 10 => ("BorderThroughBed$House", "costs", "[I", true)
  | 11 => ("BorderThroughBed$House", "cells", "I", false)
  | 12 => ("BorderThroughBed$House", "rows", "I", false)
  | _ => ("BorderThroughBed$House", "width", "I", false)
def ex_ty1 : Nat → FieldType := fun k => match k with
  | 0 => .array .int
  | 1 => .array .int
  | 2 => .array .int
  | 3 => .array .int
  | 4 => .array .int
  | 5 => .array .int
  | 6 => .array .int
  | 7 => .array .int
  | 8 => .array .int
  | 9 => .array .int
  | 10 => .array .int
  | 11 => .int
  | 12 => .int
  | _ => .int
def ex_T2 : u_T := fun k => match k with
  | 0 => ("BorderThroughBed$HouseText", "row", "I", false)
  | 1 => ("BorderThroughBed$HouseText", "width", "I", false)
  | 2 => ("BorderThroughBed$HouseText", "column", "I", false)
  | _ => ("BorderThroughBed$HouseText", "hasLine", "Z", false)
def ex_ty2 : Nat → FieldType := fun k => match k with
  | 0 => .int
  | 1 => .int
  | 2 => .int
  | _ => .boolean
def ex_T3 : u_T := fun k => match k with
  | 0 => ("BorderThroughBed$Keeping", "acts", "[I", true)
  | 1 => ("BorderThroughBed$Keeping", "good", "[I", true)
  | _ => ("BorderThroughBed$Keeping", "size", "I", false)
def ex_ty3 : Nat → FieldType := fun k => match k with
  | 0 => .array .int
  | 1 => .array .int
  | _ => .int
def ex_T4 : u_T := fun k => match k with
  | 0 => ("BorderThroughBed$LawText", "side", "I", false)
  | 1 => ("BorderThroughBed$LawText", "act", "I", false)
  | 2 => ("BorderThroughBed$LawText", "from", "I", false)
  | 3 => ("BorderThroughBed$LawText", "to", "I", false)
  | 4 => ("BorderThroughBed$LawText", "kind", "I", false)
  | 5 => ("BorderThroughBed$LawText", "stage", "I", false)
  | _ => ("BorderThroughBed$LawText", "digits", "I", false)
def ex_ty4 : Nat → FieldType := fun k => match k with
  | 0 => .int
  | 1 => .int
  | 2 => .int
  | 3 => .int
  | 4 => .int
  | 5 => .int
  | _ => .int
def ex_T5 : u_T := fun k => match k with
  | _ => ("BorderThroughBed$Laws", "laws", "LBorderThroughBed$Table;", true)
def ex_ty5 : Nat → FieldType := fun k => match k with
  | _ => .object "BorderThroughBed$Table"
def ex_T6 : u_T := fun k => match k with
  | 0 => ("BorderThroughBed$Mover", "kinds", "[I", true)
  | 1 => ("BorderThroughBed$Mover", "places", "[I", true)
  | 2 => ("BorderThroughBed$Mover", "spots", "[I", true)
  | 3 => ("BorderThroughBed$Mover", "answer", "[I", true)
  | 4 => ("BorderThroughBed$Mover", "size", "I", false)
  | _ => ("BorderThroughBed$Mover", "hardest", "I", false)
def ex_ty6 : Nat → FieldType := fun k => match k with
  | 0 => .array .int
  | 1 => .array .int
  | 2 => .array .int
  | 3 => .array .int
  | 4 => .int
  | _ => .int
def ex_T7 : u_T := fun k => match k with
  | 0 => ("BorderThroughBed$Page", "codes", "[I", true)
  | _ => ("BorderThroughBed$Page", "size", "I", false)
def ex_ty7 : Nat → FieldType := fun k => match k with
  | 0 => .array .int
  | _ => .int
def ex_T8 : u_T := fun k => match k with
  | 0 => ("BorderThroughBed$Table", "numbers", "[I", true)
  | 1 => ("BorderThroughBed$Table", "most", "I", true)
  | _ => ("BorderThroughBed$Table", "size", "I", false)
def ex_ty8 : Nat → FieldType := fun k => match k with
  | 0 => .array .int
  | 1 => .int
  | _ => .int
def ex_T9 : u_T := fun k => match k with
  | _ => ("", "", "", false)
def ex_ty9 : Nat → FieldType := fun k => match k with
  | _ => .object ""
def ex_T10 : u_T := fun k => match k with
  | 0 => ("BorderThroughBed", "page", "LBorderThroughBed$Page;", true)
  | 1 => ("BorderThroughBed", "houseText", "LBorderThroughBed$HouseText;", true)
  | 2 => ("BorderThroughBed", "lawText", "LBorderThroughBed$LawText;", true)
  | 3 => ("BorderThroughBed", "house", "LBorderThroughBed$House;", true)
  | 4 => ("BorderThroughBed", "laws", "LBorderThroughBed$Laws;", true)
  | 5 => ("BorderThroughBed", "now", "LBorderThroughBed$Day;", true)
  | 6 => ("BorderThroughBed", "imageDay", "LBorderThroughBed$Day;", true)
  | 7 => ("BorderThroughBed", "keeping", "LBorderThroughBed$Keeping;", true)
  | 8 => ("BorderThroughBed", "mover", "LBorderThroughBed$Mover;", true)
  | 9 => ("BorderThroughBed", "imageIsKept", "Z", false)
  | 10 => ("BorderThroughBed", "housesRead", "I", false)
  | _ => ("BorderThroughBed", "movesDone", "I", false)
def ex_ty10 : Nat → FieldType := fun k => match k with
  | 0 => .object "BorderThroughBed$Page"
  | 1 => .object "BorderThroughBed$HouseText"
  | 2 => .object "BorderThroughBed$LawText"
  | 3 => .object "BorderThroughBed$House"
  | 4 => .object "BorderThroughBed$Laws"
  | 5 => .object "BorderThroughBed$Day"
  | 6 => .object "BorderThroughBed$Day"
  | 7 => .object "BorderThroughBed$Keeping"
  | 8 => .object "BorderThroughBed$Mover"
  | 9 => .boolean
  | 10 => .int
  | _ => .int
def ex_T11 : u_T := fun k => match k with
  | 0 => ("BorderThroughBedModel", "rows", "I", false)
  | 1 => ("BorderThroughBedModel", "columns", "I", false)
  | 2 => ("BorderThroughBedModel", "houses", "I", false)
  | 3 => ("BorderThroughBedModel", "sort", "[I", true)
  | 4 => ("BorderThroughBedModel", "line", "[I", true)
  | 5 => ("BorderThroughBedModel", "laws", "I", false)
  | 6 => ("BorderThroughBedModel", "lawSide", "[I", true)
  | 7 => ("BorderThroughBedModel", "lawAct", "[I", true)
  | 8 => ("BorderThroughBedModel", "lawFrom", "[I", true)
  | 9 => ("BorderThroughBedModel", "lawTo", "[I", true)
  | 10 => ("BorderThroughBedModel", "lawKind", "[I", true)
  | 11 => ("BorderThroughBedModel", "events", "I", false)
  | 12 => ("BorderThroughBedModel", "eventOf", "[I", true)
  | 13 => ("BorderThroughBedModel", "things", "I", false)
  | 14 => ("BorderThroughBedModel", "thingKind", "[I", true)
  | 15 => ("BorderThroughBedModel", "thingCell", "[I", true)
  | 16 => ("BorderThroughBedModel", "thingWay", "[I", true)
  | 17 => ("BorderThroughBedModel", "habits", "I", false)
  | 18 => ("BorderThroughBedModel", "habitAct", "[I", true)
  | 19 => ("BorderThroughBedModel", "habitHour", "[I", true)
  | 20 => ("BorderThroughBedModel", "judgments", "I", false)
  | 21 => ("BorderThroughBedModel", "judgedCell", "[I", true)
  | 22 => ("BorderThroughBedModel", "judgedSide", "[I", true)
  | 23 => ("BorderThroughBedModel", "asks", "I", false)
  | 24 => ("BorderThroughBedModel", "pageLength", "I", false)
  | 25 => ("BorderThroughBedModel", "page", "[B", true)
  | 26 => ("BorderThroughBedModel", "isKept", "Z", false)
  | 27 => ("BorderThroughBedModel", "keptHouse", "I", false)
  | 28 => ("BorderThroughBedModel", "keptThings", "I", false)
  | 29 => ("BorderThroughBedModel", "keptEvents", "I", false)
  | 30 => ("BorderThroughBedModel", "keptHabits", "I", false)
  | 31 => ("BorderThroughBedModel", "keptJudgments", "I", false)
  | 32 => ("BorderThroughBedModel", "keptThing", "[I", true)
  | 33 => ("BorderThroughBedModel", "keptEvent", "[I", true)
  | 34 => ("BorderThroughBedModel", "keptHabit", "[I", true)
  | 35 => ("BorderThroughBedModel", "keptJudged", "[I", true)
  | 36 => ("BorderThroughBedModel", "faultAt", "I", false)
  | 37 => ("BorderThroughBedModel", "isWhole", "Z", false)
  | 38 => ("BorderThroughBedModel", "newRows", "I", false)
  | 39 => ("BorderThroughBedModel", "newColumns", "I", false)
  | 40 => ("BorderThroughBedModel", "newHere", "I", false)
  | 41 => ("BorderThroughBedModel", "hasLine", "Z", false)
  | 42 => ("BorderThroughBedModel", "newSort", "[I", true)
  | 43 => ("BorderThroughBedModel", "newLine", "[I", true)
  | 44 => ("BorderThroughBedModel", "newSide", "I", false)
  | 45 => ("BorderThroughBedModel", "newAct", "I", false)
  | 46 => ("BorderThroughBedModel", "newFrom", "I", false)
  | 47 => ("BorderThroughBedModel", "newTo", "I", false)
  | 48 => ("BorderThroughBedModel", "newKind", "I", false)
  | 49 => ("BorderThroughBedModel", "shift", "I", false)
  | 50 => ("BorderThroughBedModel", "far", "[I", true)
  | 51 => ("BorderThroughBedModel", "queue", "[I", true)
  | 52 => ("BorderThroughBedModel", "movedMany", "I", false)
  | 53 => ("BorderThroughBedModel", "movedFirst", "I", false)
  | 54 => ("BorderThroughBedModel", "placeFirst", "I", false)
  | 55 => ("BorderThroughBedModel", "movedSecond", "I", false)
  | 56 => ("BorderThroughBedModel", "placeSecond", "I", false)
  | _ => ("BorderThroughBedModel", "h", "J", false)
def ex_ty11 : Nat → FieldType := fun k => match k with
  | 0 => .int
  | 1 => .int
  | 2 => .int
  | 3 => .array .int
  | 4 => .array .int
  | 5 => .int
  | 6 => .array .int
  | 7 => .array .int
  | 8 => .array .int
  | 9 => .array .int
  | 10 => .array .int
  | 11 => .int
  | 12 => .array .int
  | 13 => .int
  | 14 => .array .int
  | 15 => .array .int
  | 16 => .array .int
  | 17 => .int
  | 18 => .array .int
  | 19 => .array .int
  | 20 => .int
  | 21 => .array .int
  | 22 => .array .int
  | 23 => .int
  | 24 => .int
  | 25 => .array .byte
  | 26 => .boolean
  | 27 => .int
  | 28 => .int
  | 29 => .int
  | 30 => .int
  | 31 => .int
  | 32 => .array .int
  | 33 => .array .int
  | 34 => .array .int
  | 35 => .array .int
  | 36 => .int
  | 37 => .boolean
  | 38 => .int
  | 39 => .int
  | 40 => .int
  | 41 => .boolean
  | 42 => .array .int
  | 43 => .array .int
  | 44 => .int
  | 45 => .int
  | 46 => .int
  | 47 => .int
  | 48 => .int
  | 49 => .int
  | 50 => .array .int
  | 51 => .array .int
  | 52 => .int
  | 53 => .int
  | 54 => .int
  | 55 => .int
  | 56 => .int
  | _ => .long
def ex_T (c : Nat) : u_T := match c with
  | 0 => ex_T0
  | 1 => ex_T1
  | 2 => ex_T2
  | 3 => ex_T3
  | 4 => ex_T4
  | 5 => ex_T5
  | 6 => ex_T6
  | 7 => ex_T7
  | 8 => ex_T8
  | 9 => ex_T9
  | 10 => ex_T10
  | _ => ex_T11
def ex_ty (c : Nat) : Nat → FieldType := match c with
  | 0 => ex_ty0
  | 1 => ex_ty1
  | 2 => ex_ty2
  | 3 => ex_ty3
  | 4 => ex_ty4
  | 5 => ex_ty5
  | 6 => ex_ty6
  | 7 => ex_ty7
  | 8 => ex_ty8
  | 9 => ex_ty9
  | 10 => ex_ty10
  | _ => ex_ty11
def ex_N (c : Nat) : Nat := ([4, 14, 4, 3, 7, 1, 6, 2, 3, 0, 12, 58] : List Nat).getD c 0
def ex_cl : List vw_C := [("BorderThroughBed$Day", ex_T0, 4), ("BorderThroughBed$House", ex_T1, 14), ("BorderThroughBed$HouseText", ex_T2, 4), ("BorderThroughBed$Keeping", ex_T3, 3), ("BorderThroughBed$LawText", ex_T4, 7), ("BorderThroughBed$Laws", ex_T5, 1), ("BorderThroughBed$Mover", ex_T6, 6), ("BorderThroughBed$Page", ex_T7, 2), ("BorderThroughBed$Table", ex_T8, 3), ("BorderThroughBed$Text", ex_T9, 0), ("BorderThroughBed", ex_T10, 12), ("BorderThroughBedModel", ex_T11, 58)]
def ex_Sh : List (Nat × List Nat) := [(10, [4, 6, 7, 8, 20, 23, 32, 41, 44, 2, 0, 0]), (7, [5, 0]), (12, [40]), (2, [0, 0, 0, 2]), (4, [0, 0, 0, 0, 0, 0, 0]), (1, [9, 10, 11, 12, 13, 14, 15, 16, 17, 18, 19, 0, 0, 0]), (12, [24]), (12, [24]), (12, [24]), (12, [4]), (12, [96]), (12, [96]), (12, [96]), (12, [96]), (12, [24]), (12, [24]), (12, [24]), (5, [21]), (8, [22, 0, 0]), (12, [60]), (0, [24, 26, 28, 30]), (8, [25, 0, 0]), (12, [60]), (8, [27, 0, 0]), (12, [60]), (8, [29, 0, 0]), (12, [60]), (8, [31, 0, 0]), (12, [60]), (0, [33, 35, 37, 39]), (8, [34, 0, 0]), (12, [60]), (8, [36, 0, 0]), (12, [60]), (8, [38, 0, 0]), (12, [60]), (8, [40, 0, 0]), (12, [60]), (3, [42, 43, 0]), (12, [6]), (12, [144]), (6, [45, 46, 47, 48, 0, 0]), (12, [3]), (12, [3]), (12, [3]), (12, [5]), (11, [0, 0, 0, 50, 51, 0, 52, 53, 54, 55, 56, 0, 57, 0, 58, 59, 60, 0, 61, 62, 0, 63, 64, 0, 0, 65, 2, 0, 0, 0, 0, 0, 66, 67, 68, 69, 0, 2, 0, 0, 0, 2, 70, 71, 0, 0, 0, 0, 0, 0, 72, 73, 0, 0, 0, 0, 0, 1]), (12, [24]), (12, [4]), (12, [8]), (12, [8]), (12, [8]), (12, [8]), (12, [8]), (12, [60]), (12, [3]), (12, [3]), (12, [3]), (12, [6]), (12, [6]), (12, [10]), (12, [10]), (13, [40]), (12, [9]), (12, [60]), (12, [12]), (12, [20]), (12, [24]), (12, [4]), (12, [24]), (12, [24])]
abbrev ex_NO : Nat := 71
def ex_M0 : List (MethodName × ByteArray × Nat × Option FieldType × Nat) := [(⟨"BorderThroughBed$Day", "clear", "()V"⟩, prog_2_method_2_code, 1, none, 0),
  (⟨"BorderThroughBed$Day", "copy", "(LBorderThroughBed$Day;)V"⟩, prog_2_method_3_code, 2, none, 0),
  (⟨"BorderThroughBed$Day", "isOfKind", "(II)Z"⟩, prog_2_method_4_code, 2, some .boolean, 0),
  (⟨"BorderThroughBed$Day", "kindOf", "(I)I"⟩, prog_2_method_5_code, 2, some .int, 0),
  (⟨"BorderThroughBed$Day", "cellOf", "(I)I"⟩, prog_2_method_6_code, 2, some .int, 0),
  (⟨"BorderThroughBed$Day", "wayOf", "(I)I"⟩, prog_2_method_7_code, 2, some .int, 0),
  (⟨"BorderThroughBed$Day", "placeOf", "(I)I"⟩, prog_2_method_8_code, 2, some .int, 0),
  (⟨"BorderThroughBed$Day", "setPlace", "(III)V"⟩, prog_2_method_9_code, 4, none, 0),
  (⟨"BorderThroughBed$Day", "lastCellOf", "(LBorderThroughBed$House;I)I"⟩, prog_2_method_10_code, 4, some .int, 0),
  (⟨"BorderThroughBed$Day", "takenBut", "(LBorderThroughBed$House;I)I"⟩, prog_2_method_11_code, 5, some .int, 0),
  (⟨"BorderThroughBed$Day", "thingAt", "(LBorderThroughBed$House;I)I"⟩, prog_2_method_12_code, 4, some .int, 0),
  (⟨"BorderThroughBed$House", "read", "(LBorderThroughBed$Page;)V"⟩, prog_3_method_2_code, 6, none, 1),
  (⟨"BorderThroughBed$House", "setLine", "(II)V"⟩, prog_3_method_3_code, 3, none, 1),
  (⟨"BorderThroughBed$House", "addCell", "(III)V"⟩, prog_3_method_4_code, 4, none, 1),
  (⟨"BorderThroughBed$House", "joinCells", "()V"⟩, prog_3_method_5_code, 2, none, 1),
  (⟨"BorderThroughBed$House", "joinPlace", "(III)V"⟩, prog_3_method_6_code, 5, none, 1),
  (⟨"BorderThroughBed$House", "cellAt", "(II)I"⟩, prog_3_method_7_code, 3, some .int, 1),
  (⟨"BorderThroughBed$House", "findDoors", "()V"⟩, prog_3_method_8_code, 2, none, 1),
  (⟨"BorderThroughBed$House", "findWhereNearest", "(I)V"⟩, prog_3_method_9_code, 3, none, 1),
  (⟨"BorderThroughBed$House", "isThere", "()Z"⟩, prog_3_method_10_code, 1, some .boolean, 1),
  (⟨"BorderThroughBed$House", "cells", "()I"⟩, prog_3_method_11_code, 1, some .int, 1),
  (⟨"BorderThroughBed$House", "has", "(I)Z"⟩, prog_3_method_12_code, 2, some .boolean, 1),
  (⟨"BorderThroughBed$House", "kindOf", "(I)I"⟩, prog_3_method_13_code, 2, some .int, 1),
  (⟨"BorderThroughBed$House", "isOpen", "(I)Z"⟩, prog_3_method_14_code, 2, some .boolean, 1),
  (⟨"BorderThroughBed$House", "isFloor", "(I)Z"⟩, prog_3_method_15_code, 2, some .boolean, 1),
  (⟨"BorderThroughBed$House", "sideOf", "(II)I"⟩, prog_3_method_16_code, 3, some .int, 1),
  (⟨"BorderThroughBed$House", "next", "(II)I"⟩, prog_3_method_17_code, 4, some .int, 1),
  (⟨"BorderThroughBed$House", "partAt", "(III)I"⟩, prog_3_method_18_code, 5, some .int, 1),
  (⟨"BorderThroughBed$House", "doorOf", "(I)I"⟩, prog_3_method_19_code, 2, some .int, 1),
  (⟨"BorderThroughBed$House", "doorOrOwn", "(I)I"⟩, prog_3_method_20_code, 3, some .int, 1),
  (⟨"BorderThroughBed$House", "spot", "(II)I"⟩, prog_3_method_21_code, 3, some .int, 1),
  (⟨"BorderThroughBed$House", "cost", "(IIII)I"⟩, prog_3_method_22_code, 5, some .int, 1),
  (⟨"BorderThroughBed$House", "measure", "(III)V"⟩, prog_3_method_23_code, 8, none, 1),
  (⟨"BorderThroughBed$House", "goOn", "(II)Z"⟩, prog_3_method_24_code, 7, some .boolean, 1),
  (⟨"BorderThroughBed$HouseText", "begin", "()V"⟩, prog_4_method_2_code, 1, none, 2),
  (⟨"BorderThroughBed$HouseText", "takes", "(I)Z"⟩, prog_4_method_3_code, 2, some .boolean, 2),
  (⟨"BorderThroughBed$HouseText", "takesLine", "()Z"⟩, prog_4_method_4_code, 1, some .boolean, 2),
  (⟨"BorderThroughBed$HouseText", "takesRowEnd", "()Z"⟩, prog_4_method_5_code, 1, some .boolean, 2),
  (⟨"BorderThroughBed$HouseText", "takesCell", "()Z"⟩, prog_4_method_6_code, 1, some .boolean, 2),
  (⟨"BorderThroughBed$HouseText", "isRowWhole", "()Z"⟩, prog_4_method_7_code, 1, some .boolean, 2),
  (⟨"BorderThroughBed$HouseText", "isWhole", "()Z"⟩, prog_4_method_8_code, 1, some .boolean, 2),
  (⟨"BorderThroughBed$Keeping", "learn", "(LBorderThroughBed$House;LBorderThroughBed$Laws;LBorderThroughBed$Day;)V"⟩, prog_5_method_2_code, 6, none, 3),
  (⟨"BorderThroughBed$Keeping", "learnOne", "(LBorderThroughBed$House;LBorderThroughBed$Laws;II)V"⟩, prog_5_method_3_code, 8, none, 3),
  (⟨"BorderThroughBed$Keeping", "postureOf", "(I)I"⟩, prog_5_method_4_code, 1, some .int, 3),
  (⟨"BorderThroughBed$Keeping", "note", "(LBorderThroughBed$House;III)V"⟩, prog_5_method_5_code, 6, none, 3),
  (⟨"BorderThroughBed$Keeping", "add", "(III)V"⟩, prog_5_method_6_code, 4, none, 3),
  (⟨"BorderThroughBed$Keeping", "size", "()I"⟩, prog_5_method_7_code, 1, some .int, 3),
  (⟨"BorderThroughBed$Keeping", "actOf", "(I)I"⟩, prog_5_method_8_code, 2, some .int, 3),
  (⟨"BorderThroughBed$Keeping", "wantsThing", "(I)Z"⟩, prog_5_method_9_code, 2, some .boolean, 3),
  (⟨"BorderThroughBed$Keeping", "isKeptBy", "(IIII)Z"⟩, prog_5_method_10_code, 7, some .boolean, 3),
  (⟨"BorderThroughBed$Keeping", "isKeptWithout", "(II)Z"⟩, prog_5_method_11_code, 3, some .boolean, 3),
  (⟨"BorderThroughBed$Keeping", "goodAt", "(II)I"⟩, prog_5_method_12_code, 4, some .int, 3),
  (⟨"BorderThroughBed$Keeping", "isHopeless", "()Z"⟩, prog_5_method_13_code, 4, some .boolean, 3),
  (⟨"BorderThroughBed$LawText", "begin", "()V"⟩, prog_6_method_2_code, 1, none, 4),
  (⟨"BorderThroughBed$LawText", "takes", "(I)Z"⟩, prog_6_method_3_code, 2, some .boolean, 4),
  (⟨"BorderThroughBed$LawText", "takesSide", "(I)Z"⟩, prog_6_method_4_code, 2, some .boolean, 4),
  (⟨"BorderThroughBed$LawText", "takesAct", "(I)Z"⟩, prog_6_method_5_code, 2, some .boolean, 4),
  (⟨"BorderThroughBed$LawText", "takesFrom", "(I)Z"⟩, prog_6_method_6_code, 3, some .boolean, 4),
  (⟨"BorderThroughBed$LawText", "takesTo", "(I)Z"⟩, prog_6_method_7_code, 3, some .boolean, 4),
  (⟨"BorderThroughBed$LawText", "hourWith", "(II)I"⟩, prog_6_method_8_code, 4, some .int, 4)]
def ex_M1 : List (MethodName × ByteArray × Nat × Option FieldType × Nat) := [(⟨"BorderThroughBed$LawText", "kindTold", "(I)I"⟩, prog_6_method_9_code, 1, some .int, 4),
  (⟨"BorderThroughBed$LawText", "isWhole", "()Z"⟩, prog_6_method_10_code, 1, some .boolean, 4),
  (⟨"BorderThroughBed$LawText", "number", "(I)I"⟩, prog_6_method_11_code, 2, some .int, 4),
  (⟨"BorderThroughBed$Laws", "isOfKind", "(II)Z"⟩, prog_7_method_2_code, 2, some .boolean, 5),
  (⟨"BorderThroughBed$Laws", "size", "()I"⟩, prog_7_method_3_code, 1, some .int, 5),
  (⟨"BorderThroughBed$Laws", "isFull", "()Z"⟩, prog_7_method_4_code, 1, some .boolean, 5),
  (⟨"BorderThroughBed$Laws", "add", "(LBorderThroughBed$LawText;)I"⟩, prog_7_method_5_code, 2, some .int, 5),
  (⟨"BorderThroughBed$Laws", "told", "(II)I"⟩, prog_7_method_6_code, 3, some .int, 5),
  (⟨"BorderThroughBed$Laws", "broken", "(LBorderThroughBed$House;IIIII)I"⟩, prog_7_method_7_code, 9, some .int, 5),
  (⟨"BorderThroughBed$Laws", "holds", "(II)Z"⟩, prog_7_method_8_code, 5, some .boolean, 5),
  (⟨"BorderThroughBed$Laws", "counts", "(LBorderThroughBed$House;IIII)Z"⟩, prog_7_method_9_code, 8, some .boolean, 5),
  (⟨"BorderThroughBed$Mover", "begin", "(LBorderThroughBed$House;LBorderThroughBed$Day;)V"⟩, prog_8_method_2_code, 4, none, 6),
  (⟨"BorderThroughBed$Mover", "told", "(I)I"⟩, prog_8_method_3_code, 2, some .int, 6),
  (⟨"BorderThroughBed$Mover", "isDoneByNone", "(LBorderThroughBed$Keeping;)Z"⟩, prog_8_method_4_code, 3, some .boolean, 6),
  (⟨"BorderThroughBed$Mover", "tell", "(III)V"⟩, prog_8_method_5_code, 4, none, 6),
  (⟨"BorderThroughBed$Mover", "placeOf", "(I)I"⟩, prog_8_method_6_code, 2, some .int, 6),
  (⟨"BorderThroughBed$Mover", "isDoneByOne", "(LBorderThroughBed$House;LBorderThroughBed$Keeping;)Z"⟩, prog_8_method_7_code, 4, some .boolean, 6),
  (⟨"BorderThroughBed$Mover", "isDoneBy", "(ILBorderThroughBed$House;LBorderThroughBed$Keeping;)Z"⟩, prog_8_method_8_code, 9, some .boolean, 6),
  (⟨"BorderThroughBed$Mover", "searchTwo", "(LBorderThroughBed$House;LBorderThroughBed$Keeping;)V"⟩, prog_8_method_9_code, 8, none, 6),
  (⟨"BorderThroughBed$Mover", "isDoneWith", "(ILBorderThroughBed$House;LBorderThroughBed$Keeping;)Z"⟩, prog_8_method_10_code, 6, some .boolean, 6),
  (⟨"BorderThroughBed$Mover", "takenBut", "(II)I"⟩, prog_8_method_11_code, 5, some .int, 6),
  (⟨"BorderThroughBed$Mover", "allKept", "(LBorderThroughBed$Keeping;I)Z"⟩, prog_8_method_12_code, 4, some .boolean, 6),
  (⟨"BorderThroughBed$Mover", "isKept", "(LBorderThroughBed$Keeping;I)Z"⟩, prog_8_method_13_code, 3, some .boolean, 6),
  (⟨"BorderThroughBed$Mover", "isKeptNow", "(LBorderThroughBed$Keeping;II)Z"⟩, prog_8_method_14_code, 5, some .boolean, 6),
  (⟨"BorderThroughBed$Page", "lettersIn", "(J)I"⟩, prog_9_method_2_code, 6, some .int, 7),
  (⟨"BorderThroughBed$Page", "codeIn", "(JI)I"⟩, prog_9_method_3_code, 3, some .int, 7),
  (⟨"BorderThroughBed$Page", "append", "(JI)V"⟩, prog_9_method_4_code, 5, none, 7),
  (⟨"BorderThroughBed$Page", "size", "()I"⟩, prog_9_method_5_code, 1, some .int, 7),
  (⟨"BorderThroughBed$Page", "codeAt", "(I)I"⟩, prog_9_method_6_code, 2, some .int, 7),
  (⟨"BorderThroughBed$Page", "clear", "()V"⟩, prog_9_method_7_code, 1, none, 7),
  (⟨"BorderThroughBed$Table", "size", "()I"⟩, prog_10_method_2_code, 1, some .int, 8),
  (⟨"BorderThroughBed$Table", "isFull", "()Z"⟩, prog_10_method_3_code, 1, some .boolean, 8),
  (⟨"BorderThroughBed$Table", "add", "(IIIII)I"⟩, prog_10_method_4_code, 7, some .int, 8),
  (⟨"BorderThroughBed$Table", "get", "(II)I"⟩, prog_10_method_5_code, 4, some .int, 8),
  (⟨"BorderThroughBed$Table", "set", "(III)V"⟩, prog_10_method_6_code, 5, none, 8),
  (⟨"BorderThroughBed$Table", "clear", "()V"⟩, prog_10_method_7_code, 1, none, 8),
  (⟨"BorderThroughBed$Table", "copy", "(LBorderThroughBed$Table;)V"⟩, prog_10_method_8_code, 2, none, 8),
  (⟨"BorderThroughBed$Text", "taken", "(LBorderThroughBed$Page;)I"⟩, prog_11_method_5_code, 3, some .int, 9),
  (⟨"BorderThroughBed$Text", "isOn", "(LBorderThroughBed$Page;)Z"⟩, prog_11_method_6_code, 2, some .boolean, 9),
  (⟨"BorderThroughBed", "letters", "(J)I"⟩, prog_1_method_2_code, 4, some .int, 10),
  (⟨"BorderThroughBed", "blank", "()I"⟩, prog_1_method_3_code, 2, some .int, 10),
  (⟨"BorderThroughBed", "fault", "(I)I"⟩, prog_1_method_4_code, 2, some .int, 10),
  (⟨"BorderThroughBed", "house", "()I"⟩, prog_1_method_5_code, 1, some .int, 10),
  (⟨"BorderThroughBed", "law", "()I"⟩, prog_1_method_6_code, 1, some .int, 10),
  (⟨"BorderThroughBed", "lawTold", "(II)I"⟩, prog_1_method_7_code, 3, some .int, 10),
  (⟨"BorderThroughBed", "asLaw", "(II)I"⟩, prog_1_method_8_code, 3, some .int, 10),
  (⟨"BorderThroughBed", "cell", "(II)I"⟩, prog_1_method_9_code, 3, some .int, 10),
  (⟨"BorderThroughBed", "part", "(IIII)I"⟩, prog_1_method_10_code, 5, some .int, 10),
  (⟨"BorderThroughBed", "against", "(IIIII)I"⟩, prog_1_method_11_code, 6, some .int, 10),
  (⟨"BorderThroughBed", "event", "(IIIII)I"⟩, prog_1_method_12_code, 6, some .int, 10),
  (⟨"BorderThroughBed", "first", "(I)I"⟩, prog_1_method_13_code, 3, some .int, 10),
  (⟨"BorderThroughBed", "map", "(IIII)I"⟩, prog_1_method_14_code, 7, some .int, 10),
  (⟨"BorderThroughBed", "thing", "(III)I"⟩, prog_1_method_15_code, 4, some .int, 10),
  (⟨"BorderThroughBed", "asThing", "(II)I"⟩, prog_1_method_16_code, 3, some .int, 10),
  (⟨"BorderThroughBed", "about", "(II)I"⟩, prog_1_method_17_code, 3, some .int, 10),
  (⟨"BorderThroughBed", "move", "(III)I"⟩, prog_1_method_18_code, 5, some .int, 10),
  (⟨"BorderThroughBed", "habit", "(II)I"⟩, prog_1_method_19_code, 3, some .int, 10),
  (⟨"BorderThroughBed", "kept", "()I"⟩, prog_1_method_20_code, 3, some .int, 10),
  (⟨"BorderThroughBed", "moves", "(I)I"⟩, prog_1_method_21_code, 2, some .int, 10),
  (⟨"BorderThroughBed", "steps", "(II)I"⟩, prog_1_method_22_code, 3, some .int, 10)]
def ex_M2 : List (MethodName × ByteArray × Nat × Option FieldType × Nat) := [(⟨"BorderThroughBed", "cheapest", "(III)I"⟩, prog_1_method_23_code, 4, some .int, 10),
  (⟨"BorderThroughBed", "whose", "(II)I"⟩, prog_1_method_24_code, 5, some .int, 10),
  (⟨"BorderThroughBed", "duty", "(IIIII)I"⟩, prog_1_method_25_code, 10, some .int, 10),
  (⟨"BorderThroughBed", "drawn", "(I)I"⟩, prog_1_method_26_code, 4, some .int, 10),
  (⟨"BorderThroughBed", "judgment", "(II)I"⟩, prog_1_method_27_code, 3, some .int, 10),
  (⟨"BorderThroughBed", "fits", "()I"⟩, prog_1_method_28_code, 1, some .int, 10),
  (⟨"BorderThroughBed", "image", "()I"⟩, prog_1_method_29_code, 1, some .int, 10),
  (⟨"BorderThroughBed", "restore", "()I"⟩, prog_1_method_30_code, 1, some .int, 10),
  (⟨"BorderThroughBed", "count", "(I)I"⟩, prog_1_method_31_code, 2, some .int, 10),
  (⟨"BorderThroughBed", "digest", "()J"⟩, prog_1_method_32_code, 4, some .long, 10),
  (⟨"BorderThroughBed", "below", "(II)Z"⟩, prog_1_method_33_code, 2, some .boolean, 10),
  (⟨"BorderThroughBed", "isDoing", "(III)Z"⟩, prog_1_method_34_code, 3, some .boolean, 10),
  (⟨"BorderThroughBed", "leastBit", "(I)I"⟩, prog_1_method_35_code, 2, some .int, 10),
  (⟨"BorderThroughBed", "waysOf", "(I)I"⟩, prog_1_method_36_code, 1, some .int, 10),
  (⟨"BorderThroughBed", "dutyOf", "(IIIII)I"⟩, prog_1_method_37_code, 6, some .int, 10),
  (⟨"BorderThroughBed", "cellTold", "(II)I"⟩, prog_1_method_38_code, 3, some .int, 10),
  (⟨"BorderThroughBed", "thingTold", "(II)I"⟩, prog_1_method_39_code, 3, some .int, 10),
  (⟨"BorderThroughBed", "isRoom", "(III)Z"⟩, prog_1_method_40_code, 5, some .boolean, 10),
  (⟨"BorderThroughBed", "eventBroken", "(II)I"⟩, prog_1_method_41_code, 5, some .int, 10),
  (⟨"BorderThroughBed", "firstAgainst", "()I"⟩, prog_1_method_42_code, 5, some .int, 10),
  (⟨"BorderThroughBed", "mapOf", "(IIII)I"⟩, prog_1_method_43_code, 7, some .int, 10),
  (⟨"BorderThroughBed", "fitting", "()I"⟩, prog_1_method_44_code, 3, some .int, 10),
  (⟨"BorderThroughBed", "allJudgedSo", "(I)Z"⟩, prog_1_method_45_code, 3, some .boolean, 10),
  (⟨"BorderThroughBed", "digestOfCells", "(J)J"⟩, prog_1_method_46_code, 7, some .long, 10),
  (⟨"BorderThroughBed", "digestOfLaws", "(J)J"⟩, prog_1_method_47_code, 7, some .long, 10),
  (⟨"BorderThroughBed", "digestOfEvents", "(J)J"⟩, prog_1_method_48_code, 7, some .long, 10),
  (⟨"BorderThroughBed", "digestOfThings", "(J)J"⟩, prog_1_method_49_code, 7, some .long, 10),
  (⟨"BorderThroughBed", "digestOfPairs", "(JLBorderThroughBed$Table;)J"⟩, prog_1_method_50_code, 6, some .long, 10),
  (⟨"BorderThroughBedModel", "within", "(III)Z"⟩, prog_13_method_3_code, 3, some .boolean, 11),
  (⟨"BorderThroughBedModel", "letters", "(J)I"⟩, prog_13_method_4_code, 7, some .int, 11),
  (⟨"BorderThroughBedModel", "blank", "()I"⟩, prog_13_method_5_code, 2, some .int, 11),
  (⟨"BorderThroughBedModel", "isDigit", "(I)Z"⟩, prog_13_method_6_code, 1, some .boolean, 11),
  (⟨"BorderThroughBedModel", "sortBy", "(I)I"⟩, prog_13_method_7_code, 1, some .int, 11),
  (⟨"BorderThroughBedModel", "takeHouse", "(I)Z"⟩, prog_13_method_8_code, 3, some .boolean, 11),
  (⟨"BorderThroughBedModel", "readHouse", "()V"⟩, prog_13_method_9_code, 2, none, 11),
  (⟨"BorderThroughBedModel", "hour", "(I)I"⟩, prog_13_method_10_code, 2, some .int, 11),
  (⟨"BorderThroughBedModel", "setHour", "(II)V"⟩, prog_13_method_11_code, 3, none, 11),
  (⟨"BorderThroughBedModel", "goOnHour", "(II)Z"⟩, prog_13_method_12_code, 4, some .boolean, 11),
  (⟨"BorderThroughBedModel", "kindBy", "(I)I"⟩, prog_13_method_13_code, 2, some .int, 11),
  (⟨"BorderThroughBedModel", "endLaw", "(I)I"⟩, prog_13_method_14_code, 3, some .int, 11),
  (⟨"BorderThroughBedModel", "nextLaw", "(II)I"⟩, prog_13_method_15_code, 3, some .int, 11),
  (⟨"BorderThroughBedModel", "readLaw", "()V"⟩, prog_13_method_16_code, 5, none, 11),
  (⟨"BorderThroughBedModel", "fault", "(I)I"⟩, prog_13_method_17_code, 2, some .int, 11),
  (⟨"BorderThroughBedModel", "house", "()I"⟩, prog_13_method_18_code, 2, some .int, 11),
  (⟨"BorderThroughBedModel", "law", "()I"⟩, prog_13_method_19_code, 1, some .int, 11),
  (⟨"BorderThroughBedModel", "lawNow", "(II)I"⟩, prog_13_method_20_code, 3, some .int, 11),
  (⟨"BorderThroughBedModel", "isLaw", "(I)Z"⟩, prog_13_method_21_code, 2, some .boolean, 11),
  (⟨"BorderThroughBedModel", "lawTold", "(II)I"⟩, prog_13_method_22_code, 3, some .int, 11),
  (⟨"BorderThroughBedModel", "asLaw", "(II)I"⟩, prog_13_method_23_code, 4, some .int, 11),
  (⟨"BorderThroughBedModel", "cells", "()I"⟩, prog_13_method_24_code, 1, some .int, 11),
  (⟨"BorderThroughBedModel", "isCell", "(I)Z"⟩, prog_13_method_25_code, 2, some .boolean, 11),
  (⟨"BorderThroughBedModel", "isOpen", "(I)Z"⟩, prog_13_method_26_code, 2, some .boolean, 11),
  (⟨"BorderThroughBedModel", "sideOf", "(I)I"⟩, prog_13_method_27_code, 3, some .int, 11),
  (⟨"BorderThroughBedModel", "beside", "(II)I"⟩, prog_13_method_28_code, 5, some .int, 11),
  (⟨"BorderThroughBedModel", "ahead", "(II)I"⟩, prog_13_method_29_code, 4, some .int, 11),
  (⟨"BorderThroughBedModel", "lastCell", "(I)I"⟩, prog_13_method_30_code, 2, some .int, 11),
  (⟨"BorderThroughBedModel", "thingAt", "(I)I"⟩, prog_13_method_31_code, 3, some .int, 11),
  (⟨"BorderThroughBedModel", "laySteps", "(IZ)V"⟩, prog_13_method_32_code, 9, none, 11),
  (⟨"BorderThroughBedModel", "nearestDoor", "(I)I"⟩, prog_13_method_33_code, 4, some .int, 11),
  (⟨"BorderThroughBedModel", "cellNow", "(II)I"⟩, prog_13_method_34_code, 3, some .int, 11)]
def ex_M3 : List (MethodName × ByteArray × Nat × Option FieldType × Nat) := [(⟨"BorderThroughBedModel", "cell", "(II)I"⟩, prog_13_method_35_code, 3, some .int, 11),
  (⟨"BorderThroughBedModel", "partOf", "(IIII)I"⟩, prog_13_method_36_code, 6, some .int, 11),
  (⟨"BorderThroughBedModel", "isPosture", "(II)Z"⟩, prog_13_method_37_code, 2, some .boolean, 11),
  (⟨"BorderThroughBedModel", "part", "(IIII)I"⟩, prog_13_method_38_code, 5, some .int, 11),
  (⟨"BorderThroughBedModel", "holds", "(II)Z"⟩, prog_13_method_39_code, 5, some .boolean, 11),
  (⟨"BorderThroughBedModel", "counts", "(IIII)Z"⟩, prog_13_method_40_code, 7, some .boolean, 11),
  (⟨"BorderThroughBedModel", "againstBy", "(IIIII)I"⟩, prog_13_method_41_code, 9, some .int, 11),
  (⟨"BorderThroughBedModel", "isAct", "(II)Z"⟩, prog_13_method_42_code, 2, some .boolean, 11),
  (⟨"BorderThroughBedModel", "against", "(IIIII)I"⟩, prog_13_method_43_code, 6, some .int, 11),
  (⟨"BorderThroughBedModel", "event", "(IIIII)I"⟩, prog_13_method_44_code, 6, some .int, 11),
  (⟨"BorderThroughBedModel", "eventAgainst", "(I)I"⟩, prog_13_method_45_code, 2, some .int, 11),
  (⟨"BorderThroughBedModel", "lowest", "(I)I"⟩, prog_13_method_46_code, 2, some .int, 11),
  (⟨"BorderThroughBedModel", "first", "(I)I"⟩, prog_13_method_47_code, 4, some .int, 11),
  (⟨"BorderThroughBedModel", "map", "(IIII)I"⟩, prog_13_method_48_code, 9, some .int, 11),
  (⟨"BorderThroughBedModel", "isFloor", "(I)Z"⟩, prog_13_method_49_code, 2, some .boolean, 11),
  (⟨"BorderThroughBedModel", "fitsIn", "(III)Z"⟩, prog_13_method_50_code, 5, some .boolean, 11),
  (⟨"BorderThroughBedModel", "touches", "(II)Z"⟩, prog_13_method_51_code, 5, some .boolean, 11),
  (⟨"BorderThroughBedModel", "haveRoom", "()Z"⟩, prog_13_method_52_code, 4, some .boolean, 11),
  (⟨"BorderThroughBedModel", "put", "(IIII)V"⟩, prog_13_method_53_code, 5, none, 11),
  (⟨"BorderThroughBedModel", "isWay", "(II)Z"⟩, prog_13_method_54_code, 2, some .boolean, 11),
  (⟨"BorderThroughBedModel", "thing", "(III)I"⟩, prog_13_method_55_code, 4, some .int, 11),
  (⟨"BorderThroughBedModel", "roomBeside", "(III)Z"⟩, prog_13_method_56_code, 5, some .boolean, 11),
  (⟨"BorderThroughBedModel", "isThing", "(I)Z"⟩, prog_13_method_57_code, 2, some .boolean, 11),
  (⟨"BorderThroughBedModel", "asThing", "(II)I"⟩, prog_13_method_58_code, 4, some .int, 11),
  (⟨"BorderThroughBedModel", "thingNow", "(II)I"⟩, prog_13_method_59_code, 3, some .int, 11),
  (⟨"BorderThroughBedModel", "about", "(II)I"⟩, prog_13_method_60_code, 3, some .int, 11),
  (⟨"BorderThroughBedModel", "move", "(III)I"⟩, prog_13_method_61_code, 6, some .int, 11),
  (⟨"BorderThroughBedModel", "habit", "(II)I"⟩, prog_13_method_62_code, 3, some .int, 11),
  (⟨"BorderThroughBedModel", "isKeptInBed", "(II)Z"⟩, prog_13_method_63_code, 5, some .boolean, 11),
  (⟨"BorderThroughBedModel", "isKeptAt", "(II)Z"⟩, prog_13_method_64_code, 9, some .boolean, 11),
  (⟨"BorderThroughBedModel", "isKeptAnywhere", "(II)Z"⟩, prog_13_method_65_code, 6, some .boolean, 11),
  (⟨"BorderThroughBedModel", "isKeptHabit", "(I)Z"⟩, prog_13_method_66_code, 4, some .boolean, 11),
  (⟨"BorderThroughBedModel", "keptNow", "()I"⟩, prog_13_method_67_code, 3, some .int, 11),
  (⟨"BorderThroughBedModel", "kept", "()I"⟩, prog_13_method_68_code, 1, some .int, 11),
  (⟨"BorderThroughBedModel", "areAllKept", "()Z"⟩, prog_13_method_69_code, 3, some .boolean, 11),
  (⟨"BorderThroughBedModel", "isPlace", "(II)Z"⟩, prog_13_method_70_code, 3, some .boolean, 11),
  (⟨"BorderThroughBedModel", "findOne", "()Z"⟩, prog_13_method_71_code, 5, some .boolean, 11),
  (⟨"BorderThroughBedModel", "findSecond", "(I)Z"⟩, prog_13_method_72_code, 6, some .boolean, 11),
  (⟨"BorderThroughBedModel", "findTwo", "()Z"⟩, prog_13_method_73_code, 5, some .boolean, 11),
  (⟨"BorderThroughBedModel", "find", "()Z"⟩, prog_13_method_74_code, 1, some .boolean, 11),
  (⟨"BorderThroughBedModel", "moves", "(I)I"⟩, prog_13_method_75_code, 3, some .int, 11),
  (⟨"BorderThroughBedModel", "steps", "(II)I"⟩, prog_13_method_76_code, 3, some .int, 11),
  (⟨"BorderThroughBedModel", "cheapest", "(III)I"⟩, prog_13_method_77_code, 11, some .int, 11),
  (⟨"BorderThroughBedModel", "whose", "(II)I"⟩, prog_13_method_78_code, 6, some .int, 11),
  (⟨"BorderThroughBedModel", "duty", "(IIIII)I"⟩, prog_13_method_79_code, 12, some .int, 11),
  (⟨"BorderThroughBedModel", "drawn", "(I)I"⟩, prog_13_method_80_code, 4, some .int, 11),
  (⟨"BorderThroughBedModel", "judgment", "(II)I"⟩, prog_13_method_81_code, 3, some .int, 11),
  (⟨"BorderThroughBedModel", "fitsNow", "()I"⟩, prog_13_method_82_code, 5, some .int, 11),
  (⟨"BorderThroughBedModel", "fits", "()I"⟩, prog_13_method_83_code, 1, some .int, 11),
  (⟨"BorderThroughBedModel", "image", "()I"⟩, prog_13_method_84_code, 2, some .int, 11),
  (⟨"BorderThroughBedModel", "restore", "()I"⟩, prog_13_method_85_code, 2, some .int, 11),
  (⟨"BorderThroughBedModel", "howMany", "(I)I"⟩, prog_13_method_86_code, 2, some .int, 11),
  (⟨"BorderThroughBedModel", "count", "(I)I"⟩, prog_13_method_87_code, 2, some .int, 11),
  (⟨"BorderThroughBedModel", "mix", "(J)V"⟩, prog_13_method_88_code, 3, none, 11),
  (⟨"BorderThroughBedModel", "mixHouse", "()V"⟩, prog_13_method_89_code, 3, none, 11),
  (⟨"BorderThroughBedModel", "digest", "()J"⟩, prog_13_method_90_code, 3, some .long, 11)]
def ex_M : List (MethodName × ByteArray × Nat × Option FieldType × Nat) := ex_M0 ++ ex_M1 ++ ex_M2 ++ ex_M3
def ex_cF : List (List (Nat × Nat)) := [[(14, 0), (20, 1), (23, 2), (26, 3)],
  [(9, 64), (15, 65), (18, 66), (21, 67), (24, 68), (27, 69), (30, 70), (33, 71), (36, 72), (39, 73), (42, 74), (45, 75), (67, 76), (70, 77)],
  [(9, 128), (15, 129), (18, 130), (21, 131)],
  [(9, 192), (15, 193), (18, 2), (36, 194)],
  [(9, 256), (15, 257), (18, 258), (21, 259), (24, 260), (27, 261), (30, 262)],
  [(14, 320)],
  [(9, 384), (15, 385), (18, 386), (21, 387), (24, 0), (42, 388), (45, 389)],
  [(11, 448), (19, 449)],
  [(11, 512), (15, 513), (19, 514)],
  [],
  [(10, 640), (19, 641), (26, 642), (33, 643), (40, 644), (47, 645), (51, 646), (57, 647), (64, 648), (101, 649), (105, 650), (151, 1), (187, 0), (205, 2), (220, 651), (262, 3)],
  [(7, 707), (13, 708), (16, 710), (19, 711), (22, 712), (25, 713), (28, 714), (31, 716), (34, 718), (37, 719), (40, 720), (43, 722), (46, 723), (49, 725), (52, 726), (55, 729), (59, 736), (62, 737), (65, 738), (68, 739), (71, 746), (74, 747), (77, 754), (80, 755), (85, 728), (97, 744), (100, 742), (103, 743), (106, 745), (114, 740), (117, 741), (120, 750), (123, 751), (139, 752), (142, 748), (145, 749), (165, 704), (168, 705), (171, 706), (174, 717), (177, 715), (180, 721), (183, 724), (186, 753), (189, 709), (311, 756), (314, 757), (317, 758), (320, 759), (323, 760), (335, 727), (344, 730), (347, 731), (350, 732), (353, 733), (356, 734), (359, 735), (367, 761)]]
def ex_cS : List (List (Nat × Nat)) := [[],
  [(86, 1000), (89, 1001)],
  [],
  [],
  [],
  [],
  [],
  [],
  [],
  [],
  [],
  []]
def ex_cK : List (List (Nat × Int)) := [[],
  [(103, 1000000)],
  [],
  [],
  [],
  [],
  [],
  [],
  [],
  [],
  [],
  [(214, 268435456)]]
def ex_cL : List (List (Nat × Int)) := [[],
  [],
  [],
  [],
  [],
  [],
  [],
  [],
  [],
  [],
  [(272, 521), (291, 31)],
  [(83, 255), (365, 31), (375, 521)]]
def ex_cT : List (List (Nat × Nat)) := [[],
  [(79, 1042)],
  [],
  [(50, 345), (82, 1042), (86, 18)],
  [(50, 481)],
  [],
  [(60, 1042)],
  [(15, 682), (23, 1042)],
  [(30, 1042)],
  [],
  [(68, 673), (83, 1042), (126, 506), (143, 1051), (167, 1057), (181, 1065), (194, 18), (259, 1077), (287, 1178)],
  [(89, 1187), (93, 1217), (126, 1209), (234, 1458), (248, 1498), (258, 1529), (270, 1594)]]
def ex_cJ : List (List (Nat × Nat)) := [[],
  [],
  [],
  [(30, 1)],
  [],
  [],
  [(36, 1)],
  [],
  [(34, 2)],
  [],
  [(302, 0)],
  []]
def ex_cV : List (List (Nat × Nat)) := [[(29, 760), (32, 769), (36, 746), (40, 33), (44, 41), (47, 755), (51, 25), (54, 210), (59, 720), (63, 49), (66, 242)],
  [(49, 696), (55, 705), (59, 98), (63, 107), (73, 112), (76, 136), (83, 123), (92, 130), (96, 185), (100, 193), (104, 145), (108, 259), (111, 177), (114, 225), (117, 266), (120, 210), (123, 202)],
  [(25, 288), (29, 296), (32, 304), (35, 312)],
  [(24, 720), (39, 746), (42, 340), (46, 377), (53, 160), (58, 185), (62, 550), (68, 356), (72, 363), (76, 210), (79, 242), (89, 410)],
  [(33, 441), (37, 449), (40, 457), (43, 465), (46, 474)],
  [(20, 720), (24, 728), (28, 497), (34, 741), (38, 746), (42, 554), (46, 565), (50, 202), (55, 219), (59, 233)],
  [(30, 720), (48, 25), (52, 49), (55, 242), (64, 642), (67, 650), (71, 595), (75, 601), (76, 619), (80, 635), (83, 368), (86, 667), (90, 385), (94, 402), (97, 396)],
  [],
  [(22, 728), (26, 755)],
  [(12, 696), (18, 705)],
  [(72, 696), (76, 690), (80, 712), (96, 89), (100, 0), (109, 160), (113, 520), (117, 529), (121, 512), (122, 538), (129, 169), (133, 1082), (136, 185), (139, 219), (147, 550), (155, 728), (158, 741), (161, 1112), (164, 1106), (171, 152), (174, 1124), (178, 193), (184, 1099), (190, 720), (191, 25), (195, 1090), (198, 49), (201, 59), (208, 331), (212, 570), (216, 658), (223, 585), (227, 416), (230, 610), (234, 626), (238, 577), (240, 74), (244, 252), (247, 33), (250, 202), (253, 66), (256, 233), (265, 1128), (268, 9), (274, 1145), (278, 1153), (281, 1161), (284, 1169), (293, 936), (296, 705), (299, 1025), (307, 177), (308, 82), (311, 225), (314, 41), (317, 242), (320, 746), (323, 1137)],
  [(110, 1225), (129, 1241), (132, 1250), (136, 1265), (148, 1258), (152, 1273), (155, 1282), (159, 1232), (162, 1288), (192, 1329), (195, 1322), (198, 1352), (202, 1361), (205, 1386), (208, 1394), (211, 1401), (215, 1409), (218, 1418), (222, 1377), (225, 1425), (228, 1434), (231, 1369), (237, 1452), (241, 1474), (244, 1484), (251, 1493), (255, 1521), (261, 1563), (264, 1570), (267, 1553), (273, 1611), (276, 1588), (280, 1576), (284, 1617), (287, 1634), (290, 1666), (293, 1674), (296, 1682), (299, 1689), (302, 1696), (305, 1722), (308, 1712), (326, 1737), (329, 1728), (332, 1744), (338, 1752), (341, 1816), (362, 1849), (371, 1865), (377, 1872)]]
def ex_cW : List (List (Nat × (Nat × Nat))) := [[],
  [],
  [],
  [],
  [],
  [],
  [],
  [],
  [],
  [(7, (1, 0)), (22, (2, 1)), (26, (5, 1)), (30, (6, 0))],
  [(87, (0, 1)), (91, (3, 1)), (92, (4, 1)), (112, (7, 1))],
  []]
/-- dispatch: the site, the class of the receiver, the method -/
def ex_D : List (List (Nat × Nat)) := [[(2, 97)], [(2, 34), (4, 53)], [(2, 35), (4, 54)], [(4, 97)], [(2, 98)], [(2, 97), (4, 97)], [(2, 40), (4, 61)], [(4, 98)]]
def ex_b0 : List (Nat × List Instr) := [(0, [.aload 0, .getfield 0, .invokevirtual 760, .aload 0, .getfield 1, .invokevirtual 760, .aload 0, .getfield 2, .invokevirtual 760, .aload 0, .getfield 3, .invokevirtual 760, .return_])]
def ex_b1 : List (Nat × List Instr) := [(0, [.aload 0, .getfield 0, .aload 1, .getfield 0, .invokevirtual 769, .aload 0, .getfield 1, .aload 1, .getfield 1, .invokevirtual 769, .aload 0, .getfield 2, .aload 1, .getfield 2, .invokevirtual 769, .aload 0, .getfield 3, .aload 1, .getfield 3, .invokevirtual 769, .return_])]
def ex_b2 : List (Nat × List Instr) := [(0, [.iload 1, .ifCond .eq 19, .iload 0, .iload 1, .if_icmp .eq 19, .iload 0, .sipush 3, .if_icmp .ne 23, .iload 1, .sipush 2, .if_icmp .ne 23, .jsr 19]),
  (19, [.sipush 1, .goto 24]),
  (23, [.sipush 0, .jsr 24]),
  (24, [.areturn])]
def ex_b3 : List (Nat × List Instr) := [(0, [.aload 0, .getfield 0, .iload 1, .sipush 0, .invokevirtual 746, .ireturn])]
def ex_b4 : List (Nat × List Instr) := [(0, [.aload 0, .getfield 0, .iload 1, .sipush 1, .invokevirtual 746, .ireturn])]
def ex_b5 : List (Nat × List Instr) := [(0, [.aload 0, .getfield 0, .iload 1, .sipush 2, .invokevirtual 746, .ireturn])]
def ex_b6 : List (Nat × List Instr) := [(0, [.sipush 4, .aload 0, .iload 1, .invokevirtual 33, .imul, .aload 0, .iload 1, .invokevirtual 41, .iadd, .ireturn])]
def ex_b7 : List (Nat × List Instr) := [(0, [.aload 0, .getfield 0, .iload 1, .sipush 1, .iload 2, .invokevirtual 755, .aload 0, .getfield 0, .iload 1, .sipush 2, .iload 3, .invokevirtual 755, .return_])]
def ex_b8 : List (Nat × List Instr) := [(0, [.aload 0, .iload 2, .invokevirtual 33, .istore 3, .aload 0, .iload 2, .invokevirtual 25, .sipush 1, .if_icmp .ne 28, .aload 1, .iload 3, .aload 0, .iload 2, .invokevirtual 41, .invokevirtual 210, .goto 29]),
  (28, [.iload 3, .jsr 29]),
  (29, [.ireturn])]
def ex_b9 : List (Nat × List Instr) := [(0, [.sipush 0, .istore 3, .sipush 0, .istore 4, .jsr 5]),
  (5, [.iload 4, .aload 0, .getfield 0, .invokevirtual 720, .if_icmp .ge 48, .iload 4, .iload 2, .if_icmp .eq 42, .iload 3, .aload 1, .aload 0, .iload 4, .invokevirtual 25, .aload 0, .iload 4, .invokevirtual 49, .invokevirtual 242, .ior, .istore 3, .jsr 42]),
  (42, [.iinc 4 1, .goto 5]),
  (48, [.iload 3, .ireturn])]
def ex_b10 : List (Nat × List Instr) := [(0, [.sipush 0, .istore 3, .jsr 2]),
  (2, [.iload 3, .aload 0, .getfield 0, .invokevirtual 720, .if_icmp .ge 42, .aload 1, .aload 0, .iload 3, .invokevirtual 25, .aload 0, .iload 3, .invokevirtual 49, .invokevirtual 242, .iload 2, .ishr, .sipush 1, .iand, .ifCond .eq 36, .iload 3, .ireturn]),
  (36, [.iinc 3 1, .goto 2]),
  (42, [.sipush (-1), .ireturn])]
def ex_b11 : List (Nat × List Instr) := [(0, [.aload 0, .sipush 0, .putfield 75, .sipush 0, .istore 2, .sipush 0, .istore 3, .sipush 0, .istore 4, .jsr 12]),
  (12, [.iload 4, .aload 1, .invokevirtual 696, .if_icmp .ge 77, .aload 1, .iload 4, .invokevirtual 705, .istore 5, .iload 5, .sipush 47, .if_icmp .ne 44, .iinc 2 1, .sipush 0, .istore 3, .goto 71]),
  (44, [.iload 5, .sipush 124, .if_icmp .ne 60, .aload 0, .iload 2, .iload 3, .invokevirtual 98, .goto 71]),
  (60, [.aload 0, .iload 5, .iload 2, .iload 3, .invokevirtual 107, .iinc 3 1, .jsr 71]),
  (71, [.iinc 4 1, .goto 12]),
  (77, [.aload 0, .iload 2, .sipush 1, .iadd, .putfield 76, .aload 0, .iload 3, .putfield 77, .aload 0, .invokevirtual 112, .aload 0, .invokevirtual 136, .return_])]
def ex_b12 : List (Nat × List Instr) := [(0, [.iload 1, .sipush 4, .invokestatic 1042, .ifCond .eq 15, .aload 0, .getfield 67, .iload 1, .iload 2, .iastore, .jsr 15]),
  (15, [.return_])]
def ex_b13 : List (Nat × List Instr) := [(0, [.aload 0, .getfield 75, .sipush 24, .if_icmp .lt 10, .return_]),
  (10, [.iload 1, .sipush 100, .if_icmp .ne 29, .aload 0, .getfield 64, .aload 0, .getfield 75, .sipush 2, .iastore, .goto 49]),
  (29, [.aload 0, .getfield 64, .aload 0, .getfield 75, .iload 1, .sipush 35, .if_icmp .ne 47, .sipush 1, .goto 48]),
  (47, [.sipush 0, .jsr 48]),
  (48, [.iastore, .jsr 49]),
  (49, [.aload 0, .getfield 65, .aload 0, .getfield 75, .iload 2, .iastore, .aload 0, .getfield 66, .aload 0, .getfield 75, .iload 3, .iastore, .aload 0, .dup, .getfield 75, .sipush 1, .iadd, .putfield 75, .return_])]
def ex_b14 : List (Nat × List Instr) := [(0, [.sipush 0, .istore 1, .jsr 2]),
  (2, [.iload 1, .sipush 96, .if_icmp .ge 25, .aload 0, .iload 1, .iload 1, .sipush 2, .ishr, .iload 1, .sipush 3, .iand, .invokevirtual 123, .iinc 1 1, .goto 2]),
  (25, [.return_])]
def ex_b15 : List (Nat × List Instr) := [(0, [.sipush (-1), .istore 4, .iload 2, .aload 0, .getfield 75, .if_icmp .ge 41, .aload 0, .aload 0, .getfield 65, .iload 2, .iaload, .getstatic 1000, .iload 3, .iaload, .iadd, .aload 0, .getfield 66, .iload 2, .iaload, .getstatic 1001, .iload 3, .iaload, .iadd, .invokevirtual 130, .istore 4, .jsr 41]),
  (41, [.aload 0, .getfield 68, .iload 1, .iload 4, .iastore, .aload 0, .getfield 69, .iload 1, .aload 0, .iload 4, .invokevirtual 185, .ifCond .eq 68, .iload 4, .goto 69]),
  (68, [.iload 2, .jsr 69]),
  (69, [.iastore, .aload 0, .getfield 70, .iload 1, .aload 0, .iload 2, .invokevirtual 193, .ifCond .eq 103, .aload 0, .iload 4, .invokevirtual 193, .ifCond .eq 103, .sipush 1, .iload 2, .ishl, .sipush 1, .iload 4, .ishl, .ior, .goto 104]),
  (103, [.sipush 0, .jsr 104]),
  (104, [.iastore, .aload 0, .getfield 71, .iload 1, .aload 0, .iload 2, .invokevirtual 193, .ifCond .eq 128, .iload 3, .ifCond .ne 128, .sipush 1, .iload 2, .ishl, .goto 129]),
  (128, [.sipush 0, .jsr 129]),
  (129, [.iastore, .return_])]
def ex_b16 : List (Nat × List Instr) := [(0, [.iload 1, .aload 0, .getfield 76, .invokestatic 1042, .ifCond .eq 33, .iload 2, .aload 0, .getfield 77, .invokestatic 1042, .ifCond .eq 33, .iload 1, .aload 0, .getfield 77, .imul, .iload 2, .iadd, .goto 34]),
  (33, [.sipush (-1), .jsr 34]),
  (34, [.ireturn])]
def ex_b17 : List (Nat × List Instr) := [(0, [.sipush 0, .istore 1, .jsr 2]),
  (2, [.iload 1, .sipush 24, .if_icmp .ge 29, .aload 0, .getfield 72, .iload 1, .sipush (-1), .iastore, .aload 0, .getfield 73, .iload 1, .sipush 1000000, .iastore, .iinc 1 1, .goto 2]),
  (29, [.sipush 0, .istore 1, .jsr 31]),
  (31, [.iload 1, .aload 0, .getfield 75, .if_icmp .ge 66, .iload 1, .sipush 24, .if_icmp .ge 66, .aload 0, .getfield 64, .iload 1, .iaload, .sipush 2, .if_icmp .ne 60, .aload 0, .iload 1, .invokevirtual 145, .jsr 60]),
  (60, [.iinc 1 1, .goto 31]),
  (66, [.return_])]
def ex_b18 : List (Nat × List Instr) := [(0, [.aload 0, .iload 1, .sipush 0, .sipush 0, .invokevirtual 259, .sipush 0, .istore 2, .jsr 9]),
  (9, [.iload 2, .aload 0, .getfield 75, .if_icmp .ge 63, .iload 2, .sipush 24, .if_icmp .ge 63, .aload 0, .getfield 74, .iload 2, .iaload, .aload 0, .getfield 73, .iload 2, .iaload, .if_icmp .ge 57, .aload 0, .getfield 73, .iload 2, .aload 0, .getfield 74, .iload 2, .iaload, .iastore, .aload 0, .getfield 72, .iload 2, .iload 1, .iastore, .jsr 57]),
  (57, [.iinc 2 1, .goto 9]),
  (63, [.return_])]
def ex_b19 : List (Nat × List Instr) := [(0, [.aload 0, .getfield 75, .ifCond .le 11, .sipush 1, .goto 12]),
  (11, [.sipush 0, .jsr 12]),
  (12, [.areturn])]
def ex_b20 : List (Nat × List Instr) := [(0, [.aload 0, .getfield 75, .ireturn])]
def ex_b21 : List (Nat × List Instr) := [(0, [.iload 1, .aload 0, .getfield 75, .invokestatic 1042, .areturn])]
def ex_b22 : List (Nat × List Instr) := [(0, [.iload 1, .ifCond .lt 27, .iload 1, .aload 0, .getfield 75, .if_icmp .ge 27, .iload 1, .sipush 24, .if_icmp .ge 27, .aload 0, .getfield 64, .iload 1, .iaload, .goto 28]),
  (27, [.sipush 1, .jsr 28]),
  (28, [.ireturn])]
def ex_b23 : List (Nat × List Instr) := [(0, [.aload 0, .iload 1, .invokevirtual 177, .sipush 1, .if_icmp .eq 13, .sipush 1, .goto 14]),
  (13, [.sipush 0, .jsr 14]),
  (14, [.areturn])]
def ex_b24 : List (Nat × List Instr) := [(0, [.aload 0, .iload 1, .invokevirtual 177, .ifCond .ne 12, .sipush 1, .goto 13]),
  (12, [.sipush 0, .jsr 13]),
  (13, [.areturn])]
def ex_b25 : List (Nat × List Instr) := [(0, [.iload 1, .aload 0, .getfield 75, .invokestatic 1042, .ifCond .eq 30, .iload 1, .sipush 24, .if_icmp .ge 30, .aload 0, .getfield 65, .iload 1, .iaload, .sipush 4, .invokestatic 1042, .ifCond .ne 32, .jsr 30]),
  (30, [.sipush (-1), .ireturn]),
  (32, [.aload 0, .getfield 66, .iload 1, .iaload, .aload 0, .getfield 67, .aload 0, .getfield 65, .iload 1, .iaload, .iaload, .iload 2, .iadd, .if_icmp .ge 58, .sipush 0, .goto 59]),
  (58, [.sipush 1, .jsr 59]),
  (59, [.ireturn])]
def ex_b26 : List (Nat × List Instr) := [(0, [.sipush 4, .iload 1, .imul, .iload 2, .iadd, .istore 3, .iload 2, .sipush 4, .invokestatic 1042, .ifCond .eq 32, .iload 3, .sipush 96, .invokestatic 1042, .ifCond .eq 32, .aload 0, .getfield 68, .iload 3, .iaload, .goto 33]),
  (32, [.sipush (-1), .jsr 33]),
  (33, [.ireturn])]
def ex_b27 : List (Nat × List Instr) := [(0, [.iload 2, .sipush 96, .invokestatic 1042, .ifCond .ne 11, .sipush (-1), .ireturn]),
  (11, [.iload 3, .tableswitch 83 1 3 #[40, 54, 69]]),
  (40, [.iload 1, .ifCond .ne 48, .sipush 1, .goto 49]),
  (48, [.sipush 0, .jsr 49]),
  (49, [.istore 4, .goto 86]),
  (54, [.iload 1, .sipush 1, .if_icmp .ne 63, .sipush 1, .goto 64]),
  (63, [.sipush 0, .jsr 64]),
  (64, [.istore 4, .goto 86]),
  (69, [.iload 1, .ifCond .eq 77, .sipush 1, .goto 78]),
  (77, [.sipush 0, .jsr 78]),
  (78, [.istore 4, .goto 86]),
  (83, [.sipush 0, .istore 4, .jsr 86]),
  (86, [.iload 4, .ifCond .eq 100, .aload 0, .getfield 69, .iload 2, .iaload, .goto 103]),
  (100, [.iload 2, .sipush 2, .ishr, .jsr 103]),
  (103, [.ireturn])]
def ex_b28 : List (Nat × List Instr) := [(0, [.iload 1, .ifCond .lt 19, .iload 1, .sipush 24, .if_icmp .ge 19, .aload 0, .getfield 72, .iload 1, .iaload, .goto 20]),
  (19, [.sipush (-1), .jsr 20]),
  (20, [.ireturn])]
def ex_b29 : List (Nat × List Instr) := [(0, [.aload 0, .iload 1, .invokevirtual 225, .istore 2, .iload 2, .sipush (-1), .if_icmp .ne 15, .iload 1, .goto 16]),
  (15, [.iload 2, .jsr 16]),
  (16, [.ireturn])]
def ex_b30 : List (Nat × List Instr) := [(0, [.iload 2, .sipush 96, .invokestatic 1042, .ifCond .ne 11, .sipush 0, .ireturn]),
  (11, [.iload 1, .sipush 1, .if_icmp .ne 25, .aload 0, .getfield 70, .iload 2, .iaload, .goto 31]),
  (25, [.aload 0, .getfield 71, .iload 2, .iaload, .jsr 31]),
  (31, [.ireturn])]
def ex_b31 : List (Nat × List Instr) := [(0, [.aload 0, .iload 1, .iload 3, .iload 4, .invokevirtual 259, .iload 2, .sipush 24, .invokestatic 1042, .ifCond .eq 37, .aload 0, .getfield 74, .iload 2, .iaload, .sipush 1000000, .if_icmp .ge 37, .aload 0, .getfield 74, .iload 2, .iaload, .goto 38]),
  (37, [.sipush (-1), .jsr 38]),
  (38, [.ireturn])]
def ex_b32 : List (Nat × List Instr) := [(0, [.sipush 0, .istore 4, .jsr 3]),
  (3, [.iload 4, .sipush 24, .if_icmp .ge 35, .aload 0, .getfield 74, .iload 4, .iload 4, .iload 1, .if_icmp .ne 26, .sipush 0, .goto 28]),
  (26, [.sipush 1000000, .jsr 28]),
  (28, [.iastore, .iinc 4 1, .goto 3]),
  (35, [.sipush 1, .istore 4, .sipush 0, .istore 5, .jsr 41]),
  (41, [.iload 4, .ifCond .eq 139, .iload 5, .sipush 24, .if_icmp .ge 139, .sipush 0, .istore 4, .sipush 0, .istore 6, .jsr 59]),
  (59, [.iload 6, .aload 0, .getfield 75, .if_icmp .ge 133, .iload 6, .sipush 24, .if_icmp .ge 133, .iload 6, .iload 1, .if_icmp .eq 90, .iload 3, .iload 6, .ishr, .sipush 1, .iand, .ifCond .ne 94, .jsr 90]),
  (90, [.sipush 1, .goto 95]),
  (94, [.sipush 0, .jsr 95]),
  (95, [.istore 7, .iload 7, .ifCond .eq 127, .aload 0, .getfield 74, .iload 6, .iaload, .sipush 1000000, .if_icmp .ge 127, .aload 0, .iload 6, .iload 2, .invokevirtual 266, .ifCond .eq 127, .sipush 1, .istore 4, .jsr 127]),
  (127, [.iinc 6 1, .goto 59]),
  (133, [.iinc 5 1, .goto 41]),
  (139, [.return_])]
def ex_b33 : List (Nat × List Instr) := [(0, [.sipush 0, .istore 3, .sipush 0, .istore 4, .jsr 5]),
  (5, [.iload 4, .sipush 4, .if_icmp .ge 116, .aload 0, .iload 1, .iload 4, .invokevirtual 210, .istore 5, .iload 5, .sipush 24, .invokestatic 1042, .ifCond .eq 110, .iload 1, .sipush 24, .invokestatic 1042, .ifCond .eq 110, .aload 0, .iload 5, .invokevirtual 185, .ifCond .eq 110, .aload 0, .iload 1, .sipush 0, .invokevirtual 202, .aload 0, .iload 5, .sipush 0, .invokevirtual 202, .if_icmp .ne 68, .sipush 1, .goto 71]),
  (68, [.sipush 1, .iload 2, .iadd, .jsr 71]),
  (71, [.istore 6, .aload 0, .getfield 74, .iload 1, .iaload, .iload 6, .iadd, .aload 0, .getfield 74, .iload 5, .iaload, .if_icmp .ge 110, .aload 0, .getfield 74, .iload 5, .aload 0, .getfield 74, .iload 1, .iaload, .iload 6, .iadd, .iastore, .sipush 1, .istore 3, .jsr 110]),
  (110, [.iinc 4 1, .goto 5]),
  (116, [.iload 3, .areturn])]
def ex_b34 : List (Nat × List Instr) := [(0, [.aload 0, .sipush 0, .putfield 128, .aload 0, .sipush (-1), .putfield 129, .aload 0, .sipush 0, .putfield 130, .aload 0, .sipush 0, .putfield 131, .return_])]
def ex_b35 : List (Nat × List Instr) := [(0, [.iload 1, .lookupswitch 67 #[(35, 62), (46, 62), (47, 57), (100, 62), (124, 52)]]),
  (52, [.aload 0, .invokevirtual 288, .areturn]),
  (57, [.aload 0, .invokevirtual 296, .areturn]),
  (62, [.aload 0, .invokevirtual 304, .areturn]),
  (67, [.sipush 0, .areturn])]
def ex_b36 : List (Nat × List Instr) := [(0, [.aload 0, .getfield 131, .ifCond .eq 9, .sipush 0, .areturn]),
  (9, [.aload 0, .sipush 1, .putfield 131, .sipush 1, .areturn])]
def ex_b37 : List (Nat × List Instr) := [(0, [.aload 0, .getfield 128, .sipush 1, .iadd, .sipush 4, .if_icmp .ge 17, .aload 0, .invokevirtual 312, .ifCond .ne 19, .jsr 17]),
  (17, [.sipush 0, .areturn]),
  (19, [.aload 0, .aload 0, .getfield 130, .putfield 129, .aload 0, .dup, .getfield 128, .sipush 1, .iadd, .putfield 128, .aload 0, .sipush 0, .putfield 130, .aload 0, .sipush 0, .putfield 131, .sipush 1, .areturn])]
def ex_b38 : List (Nat × List Instr) := [(0, [.aload 0, .getfield 130, .aload 0, .getfield 129, .sipush (-1), .if_icmp .ne 17, .sipush 6, .goto 21]),
  (17, [.aload 0, .getfield 129, .jsr 21]),
  (21, [.if_icmp .lt 26, .sipush 0, .areturn]),
  (26, [.aload 0, .dup, .getfield 130, .sipush 1, .iadd, .putfield 130, .sipush 1, .areturn])]
def ex_b39 : List (Nat × List Instr) := [(0, [.aload 0, .getfield 131, .ifCond .eq 41, .aload 0, .getfield 129, .sipush (-1), .if_icmp .ne 26, .aload 0, .getfield 130, .sipush 2, .if_icmp .lt 41, .goto 37]),
  (26, [.aload 0, .getfield 130, .aload 0, .getfield 129, .if_icmp .ne 41, .jsr 37]),
  (37, [.sipush 1, .goto 42]),
  (41, [.sipush 0, .jsr 42]),
  (42, [.areturn])]
def ex_b40 : List (Nat × List Instr) := [(0, [.aload 0, .getfield 128, .sipush 1, .iadd, .sipush 2, .if_icmp .lt 21, .aload 0, .invokevirtual 312, .ifCond .eq 21, .sipush 1, .goto 22]),
  (21, [.sipush 0, .jsr 22]),
  (22, [.areturn])]
def ex_b41 : List (Nat × List Instr) := [(0, [.aload 0, .sipush 6, .aload 3, .getfield 2, .invokevirtual 720, .invokedynamic 1, .putfield 194, .sipush 0, .istore 4, .jsr 19]),
  (19, [.iload 4, .aload 0, .getfield 194, .if_icmp .ge 99, .aload 0, .getfield 192, .iload 4, .aload 3, .getfield 2, .iload 4, .sipush 0, .invokevirtual 746, .iastore, .sipush 0, .istore 5, .jsr 48]),
  (48, [.iload 5, .sipush 24, .if_icmp .ge 75, .aload 0, .getfield 193, .iload 4, .sipush 24, .imul, .iload 5, .iadd, .sipush 0, .iastore, .iinc 5 1, .goto 48]),
  (75, [.aload 0, .aload 1, .aload 2, .iload 4, .aload 3, .getfield 2, .iload 4, .sipush 1, .invokevirtual 746, .invokevirtual 340, .iinc 4 1, .goto 19]),
  (99, [.return_])]
def ex_b42 : List (Nat × List Instr) := [(0, [.aload 0, .iload 3, .invokevirtual 377, .istore 5, .iload 5, .invokestatic 345, .istore 6, .sipush 0, .istore 7, .jsr 17]),
  (17, [.iload 7, .sipush 4, .aload 1, .invokevirtual 160, .imul, .if_icmp .ge 72, .aload 1, .iload 7, .sipush 2, .ishr, .invokevirtual 185, .ifCond .eq 66, .aload 2, .aload 1, .iload 5, .iload 4, .iload 6, .iload 7, .sipush 0, .invokevirtual 550, .ifCond .ne 66, .aload 0, .aload 1, .iload 3, .iload 5, .iload 7, .invokevirtual 356, .jsr 66]),
  (66, [.iinc 7 1, .goto 17]),
  (72, [.return_])]
def ex_b43 : List (Nat × List Instr) := [(0, [.iload 0, .ifCond .ne 6, .sipush 1, .ireturn]),
  (6, [.iload 0, .sipush 4, .if_icmp .ne 15, .sipush 2, .goto 16]),
  (15, [.sipush 0, .jsr 16]),
  (16, [.ireturn])]
def ex_b44 : List (Nat × List Instr) := [(0, [.iload 4, .sipush 2, .ishr, .istore 5, .iload 3, .sipush 3, .if_icmp .lt 24, .aload 0, .iload 2, .sipush 0, .sipush 1, .iload 5, .ishl, .invokevirtual 363, .goto 73]),
  (24, [.iload 3, .ifCond .eq 50, .aload 0, .iload 2, .aload 1, .iload 5, .iload 4, .sipush 3, .iand, .invokevirtual 210, .sipush 1, .iload 5, .ishl, .invokevirtual 363, .goto 73]),
  (50, [.aload 1, .sipush 1, .iload 4, .invokevirtual 242, .ifCond .eq 73, .aload 0, .iload 2, .iload 5, .sipush 1, .iload 4, .sipush 3, .iand, .ishl, .invokevirtual 363, .jsr 73]),
  (73, [.return_])]
def ex_b45 : List (Nat × List Instr) := [(0, [.iload 1, .sipush 6, .invokestatic 1042, .ifCond .eq 33, .iload 2, .sipush 24, .invokestatic 1042, .ifCond .eq 33, .aload 0, .getfield 193, .iload 1, .sipush 24, .imul, .iload 2, .iadd, .dup2, .iaload, .iload 3, .ior, .iastore, .jsr 33]),
  (33, [.return_])]
def ex_b46 : List (Nat × List Instr) := [(0, [.aload 0, .getfield 194, .ireturn])]
def ex_b47 : List (Nat × List Instr) := [(0, [.iload 1, .ifCond .lt 19, .iload 1, .sipush 6, .if_icmp .ge 19, .aload 0, .getfield 192, .iload 1, .iaload, .goto 20]),
  (19, [.sipush (-1), .jsr 20]),
  (20, [.ireturn])]
def ex_b48 : List (Nat × List Instr) := [(0, [.aload 0, .iload 1, .invokevirtual 377, .sipush 3, .if_icmp .ge 13, .sipush 1, .goto 14]),
  (13, [.sipush 0, .jsr 14]),
  (14, [.areturn])]
def ex_b49 : List (Nat × List Instr) := [(0, [.aload 0, .iload 1, .invokevirtual 377, .istore 5, .iload 2, .iload 5, .sipush 1, .iadd, .invokestatic 18, .ifCond .ne 20, .sipush 0, .areturn]),
  (20, [.aload 0, .iload 1, .iload 3, .sipush 2, .ishr, .invokevirtual 410, .istore 6, .iload 5, .ifCond .ne 54, .iload 6, .iload 3, .sipush 3, .iand, .ishr, .sipush 1, .iand, .ifCond .eq 50, .sipush 1, .goto 69]),
  (50, [.sipush 0, .goto 69]),
  (54, [.iload 6, .iload 4, .sipush (-1), .ixor, .iand, .ifCond .eq 68, .sipush 1, .goto 69]),
  (68, [.sipush 0, .jsr 69]),
  (69, [.areturn])]
def ex_b50 : List (Nat × List Instr) := [(0, [.aload 0, .iload 1, .sipush 0, .invokevirtual 410, .iload 2, .sipush (-1), .ixor, .iand, .ifCond .eq 17, .sipush 1, .goto 18]),
  (17, [.sipush 0, .jsr 18]),
  (18, [.areturn])]
def ex_b51 : List (Nat × List Instr) := [(0, [.iload 1, .sipush 24, .imul, .iload 2, .iadd, .istore 3, .iload 3, .ifCond .lt 29, .iload 3, .aload 0, .getfield 193, .arraylength, .if_icmp .ge 29, .aload 0, .getfield 193, .iload 3, .iaload, .goto 30]),
  (29, [.sipush 0, .jsr 30]),
  (30, [.ireturn])]
def ex_b52 : List (Nat × List Instr) := [(0, [.sipush 0, .istore 1, .jsr 2]),
  (2, [.iload 1, .aload 0, .getfield 194, .if_icmp .ge 47, .sipush 0, .istore 2, .sipush 0, .istore 3, .jsr 14]),
  (14, [.iload 3, .sipush 24, .if_icmp .ge 35, .iload 2, .aload 0, .iload 1, .iload 3, .invokevirtual 410, .ior, .istore 2, .iinc 3 1, .goto 14]),
  (35, [.iload 2, .ifCond .ne 41, .sipush 1, .areturn]),
  (41, [.iinc 1 1, .goto 2]),
  (47, [.sipush 0, .areturn])]
def ex_b53 : List (Nat × List Instr) := [(0, [.aload 0, .sipush 0, .putfield 256, .aload 0, .sipush 0, .putfield 257, .aload 0, .sipush 0, .putfield 258, .aload 0, .sipush 0, .putfield 259, .aload 0, .sipush 0, .putfield 260, .aload 0, .sipush 0, .putfield 261, .aload 0, .sipush 0, .putfield 262, .return_])]
def ex_b54 : List (Nat × List Instr) := [(0, [.aload 0, .getfield 261, .tableswitch 60 0 3 #[36, 42, 48, 54]]),
  (36, [.aload 0, .iload 1, .invokevirtual 441, .areturn]),
  (42, [.aload 0, .iload 1, .invokevirtual 449, .areturn]),
  (48, [.aload 0, .iload 1, .invokevirtual 457, .areturn]),
  (54, [.aload 0, .iload 1, .invokevirtual 465, .areturn]),
  (60, [.sipush 0, .areturn])]
def ex_b55 : List (Nat × List Instr) := [(0, [.iload 1, .sipush 119, .if_icmp .eq 14, .iload 1, .sipush 101, .if_icmp .eq 14, .sipush 0, .areturn]),
  (14, [.aload 0, .iload 1, .sipush 119, .if_icmp .ne 25, .sipush 0, .goto 26]),
  (25, [.sipush 1, .jsr 26]),
  (26, [.putfield 256, .aload 0, .sipush 1, .putfield 261, .sipush 1, .areturn])]
def ex_b56 : List (Nat × List Instr) := [(0, [.iload 1, .sipush 97, .if_icmp .lt 12, .iload 1, .sipush 102, .if_icmp .le 14, .jsr 12]),
  (12, [.sipush 0, .areturn]),
  (14, [.aload 0, .iload 1, .sipush 97, .isub, .putfield 257, .aload 0, .sipush 2, .putfield 261, .sipush 1, .areturn])]
def ex_b57 : List (Nat × List Instr) := [(0, [.iload 1, .sipush 45, .if_icmp .ne 25, .aload 0, .getfield 262, .ifCond .le 25, .aload 0, .sipush 3, .putfield 261, .aload 0, .sipush 0, .putfield 262, .sipush 1, .areturn]),
  (25, [.aload 0, .aload 0, .getfield 258, .iload 1, .invokevirtual 474, .istore 2, .iload 2, .sipush (-1), .if_icmp .ne 42, .sipush 0, .areturn]),
  (42, [.aload 0, .iload 2, .putfield 258, .aload 0, .dup, .getfield 262, .sipush 1, .iadd, .putfield 262, .sipush 1, .areturn])]
def ex_b58 : List (Nat × List Instr) := [(0, [.aload 0, .getfield 262, .ifCond .le 30, .iload 1, .invokestatic 481, .sipush (-1), .if_icmp .eq 30, .aload 0, .iload 1, .invokestatic 481, .putfield 260, .aload 0, .sipush 5, .putfield 261, .sipush 1, .areturn]),
  (30, [.aload 0, .aload 0, .getfield 259, .iload 1, .invokevirtual 474, .istore 2, .iload 2, .sipush (-1), .if_icmp .ne 47, .sipush 0, .areturn]),
  (47, [.aload 0, .iload 2, .putfield 259, .aload 0, .dup, .getfield 262, .sipush 1, .iadd, .putfield 262, .sipush 1, .areturn])]
def ex_b59 : List (Nat × List Instr) := [(0, [.iload 2, .sipush 48, .if_icmp .lt 12, .iload 2, .sipush 57, .if_icmp .le 14, .jsr 12]),
  (12, [.sipush (-1), .ireturn]),
  (14, [.aload 0, .getfield 262, .ifCond .ne 26, .iload 2, .sipush 48, .isub, .ireturn]),
  (26, [.sipush 10, .iload 1, .imul, .iload 2, .iadd, .sipush 48, .isub, .istore 3, .aload 0, .getfield 262, .sipush 1, .if_icmp .ne 58, .iload 1, .ifCond .eq 58, .iload 3, .sipush 24, .if_icmp .ge 58, .iload 3, .goto 59]),
  (58, [.sipush (-1), .jsr 59]),
  (59, [.ireturn])]
def ex_b60 : List (Nat × List Instr) := [(0, [.iload 0, .tableswitch 64 102 111 #[60, 64, 56, 64, 64, 64, 64, 64, 58, 62]]),
  (56, [.sipush 1, .ireturn]),
  (58, [.sipush 2, .ireturn]),
  (60, [.sipush 3, .ireturn]),
  (62, [.sipush 4, .ireturn]),
  (64, [.sipush (-1), .ireturn])]
def ex_b61 : List (Nat × List Instr) := [(0, [.aload 0, .getfield 261, .sipush 5, .if_icmp .eq 23, .aload 0, .getfield 261, .sipush 3, .if_icmp .ne 27, .aload 0, .getfield 262, .ifCond .le 27, .jsr 23]),
  (23, [.sipush 1, .goto 28]),
  (27, [.sipush 0, .jsr 28]),
  (28, [.areturn])]
def ex_b62 : List (Nat × List Instr) := [(0, [.iload 1, .tableswitch 52 0 3 #[32, 37, 42, 47]]),
  (32, [.aload 0, .getfield 256, .ireturn]),
  (37, [.aload 0, .getfield 257, .ireturn]),
  (42, [.aload 0, .getfield 258, .ireturn]),
  (47, [.aload 0, .getfield 259, .ireturn]),
  (52, [.aload 0, .getfield 260, .ireturn])]
def ex_b63 : List (Nat × List Instr) := [(0, [.iload 1, .ifCond .eq 19, .iload 0, .iload 1, .if_icmp .eq 19, .iload 0, .sipush 3, .if_icmp .ne 23, .iload 1, .sipush 1, .if_icmp .ne 23, .jsr 19]),
  (19, [.sipush 1, .goto 24]),
  (23, [.sipush 0, .jsr 24]),
  (24, [.areturn])]
def ex_b64 : List (Nat × List Instr) := [(0, [.aload 0, .getfield 320, .invokevirtual 720, .ireturn])]
def ex_b65 : List (Nat × List Instr) := [(0, [.aload 0, .getfield 320, .invokevirtual 728, .areturn])]
def ex_b66 : List (Nat × List Instr) := [(0, [.aload 0, .getfield 320, .aload 1, .sipush 0, .invokevirtual 497, .aload 1, .sipush 1, .invokevirtual 497, .aload 1, .sipush 2, .invokevirtual 497, .aload 1, .sipush 3, .invokevirtual 497, .aload 1, .sipush 4, .invokevirtual 497, .invokevirtual 741, .ireturn])]
def ex_b67 : List (Nat × List Instr) := [(0, [.aload 0, .getfield 320, .iload 1, .iload 2, .invokevirtual 746, .ireturn])]
def ex_b68 : List (Nat × List Instr) := [(0, [.sipush 0, .istore 7, .sipush 0, .istore 8, .jsr 6]),
  (6, [.iload 8, .aload 0, .getfield 320, .invokevirtual 720, .if_icmp .ge 73, .aload 0, .getfield 320, .iload 8, .sipush 1, .invokevirtual 746, .iload 2, .if_icmp .ne 67, .aload 0, .iload 8, .iload 3, .invokevirtual 554, .ifCond .eq 67, .aload 0, .aload 1, .iload 8, .iload 4, .iload 5, .iload 6, .invokevirtual 565, .ifCond .eq 67, .iload 7, .sipush 1, .iload 8, .ishl, .ior, .istore 7, .jsr 67]),
  (67, [.iinc 8 1, .goto 6]),
  (73, [.iload 7, .ireturn])]
def ex_b69 : List (Nat × List Instr) := [(0, [.aload 0, .getfield 320, .iload 1, .sipush 2, .invokevirtual 746, .istore 3, .aload 0, .getfield 320, .iload 1, .sipush 3, .invokevirtual 746, .istore 4, .iload 3, .iload 4, .if_icmp .ge 44, .iload 2, .iload 3, .if_icmp .lt 42, .iload 2, .iload 4, .if_icmp .ge 42, .sipush 1, .goto 43]),
  (42, [.sipush 0, .jsr 43]),
  (43, [.areturn]),
  (44, [.iload 3, .iload 4, .if_icmp .eq 61, .iload 2, .iload 3, .if_icmp .ge 61, .iload 2, .iload 4, .if_icmp .ge 65, .jsr 61]),
  (61, [.sipush 1, .goto 66]),
  (65, [.sipush 0, .jsr 66]),
  (66, [.areturn])]
def ex_b70 : List (Nat × List Instr) := [(0, [.aload 0, .getfield 320, .iload 2, .sipush 0, .invokevirtual 746, .istore 6, .iload 4, .sipush 2, .ishr, .istore 7, .aload 0, .getfield 320, .iload 2, .sipush 4, .invokevirtual 746, .tableswitch 180 1 4 #[56, 75, 100, 157]]),
  (56, [.aload 1, .iload 7, .iload 5, .invokevirtual 202, .iload 6, .if_icmp .ne 73, .sipush 1, .goto 74]),
  (73, [.sipush 0, .jsr 74]),
  (74, [.areturn]),
  (75, [.aload 1, .aload 1, .iload 3, .iload 4, .sipush 1, .invokevirtual 219, .iload 5, .invokevirtual 202, .iload 6, .if_icmp .ne 98, .sipush 1, .goto 99]),
  (98, [.sipush 0, .jsr 99]),
  (99, [.areturn]),
  (100, [.aload 1, .iload 7, .iload 5, .invokevirtual 202, .iload 6, .if_icmp .ne 155, .aload 1, .aload 1, .iload 3, .iload 4, .sipush 2, .invokevirtual 219, .iload 5, .invokevirtual 202, .iload 6, .if_icmp .ne 155, .aload 1, .aload 1, .iload 3, .iload 4, .sipush 3, .invokevirtual 219, .iload 5, .invokevirtual 202, .iload 6, .if_icmp .ne 155, .sipush 1, .goto 156]),
  (155, [.sipush 0, .jsr 156]),
  (156, [.areturn]),
  (157, [.aload 1, .aload 1, .iload 7, .invokevirtual 233, .iload 5, .invokevirtual 202, .iload 6, .if_icmp .ne 178, .sipush 1, .goto 179]),
  (178, [.sipush 0, .jsr 179]),
  (179, [.areturn]),
  (180, [.sipush 1, .areturn])]
def ex_b71 : List (Nat × List Instr) := [(0, [.aload 0, .sipush 3, .aload 2, .getfield 0, .invokevirtual 720, .invokedynamic 1, .putfield 388, .aload 0, .sipush 0, .putfield 389, .sipush 0, .istore 3, .jsr 22]),
  (22, [.iload 3, .aload 0, .getfield 388, .if_icmp .ge 80, .aload 0, .getfield 384, .iload 3, .aload 2, .iload 3, .invokevirtual 25, .iastore, .aload 0, .getfield 385, .iload 3, .aload 2, .iload 3, .invokevirtual 49, .iastore, .aload 0, .getfield 386, .iload 3, .aload 1, .aload 0, .getfield 384, .iload 3, .iaload, .aload 0, .getfield 385, .iload 3, .iaload, .invokevirtual 242, .iastore, .iinc 3 1, .goto 22]),
  (80, [.return_])]
def ex_b72 : List (Nat × List Instr) := [(0, [.iload 1, .sipush 5, .invokestatic 1042, .ifCond .eq 17, .aload 0, .getfield 387, .iload 1, .iaload, .goto 18]),
  (17, [.sipush (-1), .jsr 18]),
  (18, [.ireturn])]
def ex_b73 : List (Nat × List Instr) := [(0, [.aload 0, .aload 1, .aload 0, .sipush (-1), .sipush (-1), .invokevirtual 642, .invokevirtual 650, .istore 2, .aload 0, .iload 2, .ifCond .eq 21, .sipush 0, .goto 22]),
  (21, [.sipush (-1), .jsr 22]),
  (22, [.sipush (-1), .sipush (-1), .invokevirtual 595, .iload 2, .areturn])]
def ex_b74 : List (Nat × List Instr) := [(0, [.aload 0, .getfield 387, .sipush 0, .iload 1, .iastore, .aload 0, .getfield 387, .sipush 1, .iload 2, .iastore, .aload 0, .getfield 387, .sipush 2, .aload 0, .iload 2, .invokevirtual 601, .iastore, .aload 0, .getfield 387, .sipush 3, .iload 3, .iastore, .aload 0, .getfield 387, .sipush 4, .aload 0, .iload 3, .invokevirtual 601, .iastore, .return_])]
def ex_b75 : List (Nat × List Instr) := [(0, [.iload 1, .sipush 3, .invokestatic 1042, .ifCond .eq 17, .aload 0, .getfield 385, .iload 1, .iaload, .goto 18]),
  (17, [.sipush (-1), .jsr 18]),
  (18, [.ireturn])]
def ex_b76 : List (Nat × List Instr) := [(0, [.sipush 0, .istore 3, .jsr 2]),
  (2, [.iload 3, .aload 0, .getfield 388, .if_icmp .ge 35, .aload 0, .iload 3, .aload 1, .aload 2, .invokevirtual 619, .ifCond .eq 29, .aload 0, .sipush 1, .iload 3, .sipush (-1), .invokevirtual 595, .sipush 1, .areturn]),
  (29, [.iinc 3 1, .goto 2]),
  (35, [.sipush 0, .areturn])]
def ex_b77 : List (Nat × List Instr) := [(0, [.iload 1, .sipush 3, .invokestatic 1042, .ifCond .ne 10, .sipush 0, .areturn]),
  (10, [.aload 0, .getfield 385, .iload 1, .iaload, .istore 4, .aload 0, .getfield 386, .iload 1, .iaload, .istore 5, .aload 0, .iload 1, .sipush (-1), .invokevirtual 642, .istore 6, .sipush 0, .istore 7, .jsr 37]),
  (37, [.iload 7, .sipush 96, .if_icmp .ge 115, .aload 2, .aload 0, .getfield 384, .iload 1, .iaload, .iload 7, .invokevirtual 242, .istore 8, .iload 7, .iload 4, .if_icmp .eq 109, .iload 8, .ifCond .eq 109, .iload 8, .iload 6, .iand, .ifCond .ne 109, .aload 0, .getfield 385, .iload 1, .iload 7, .iastore, .aload 0, .getfield 386, .iload 1, .iload 8, .iastore, .aload 0, .aload 3, .iload 6, .iload 8, .ior, .invokevirtual 650, .ifCond .eq 109, .sipush 1, .areturn]),
  (109, [.iinc 7 1, .goto 37]),
  (115, [.aload 0, .getfield 385, .iload 1, .iload 4, .iastore, .aload 0, .getfield 386, .iload 1, .iload 5, .iastore, .sipush 0, .areturn])]
def ex_b78 : List (Nat × List Instr) := [(0, [.sipush 0, .istore 3, .jsr 2]),
  (2, [.iload 3, .sipush 1, .iadd, .aload 0, .getfield 388, .if_icmp .ge 124, .iload 3, .sipush 3, .if_icmp .ge 124, .aload 0, .getfield 385, .iload 3, .iaload, .istore 4, .aload 0, .getfield 386, .iload 3, .iaload, .istore 5, .sipush 0, .istore 6, .jsr 36]),
  (36, [.iload 6, .sipush 96, .if_icmp .ge 102, .aload 1, .aload 0, .getfield 384, .iload 3, .iaload, .iload 6, .invokevirtual 242, .istore 7, .iload 6, .iload 4, .if_icmp .eq 96, .iload 7, .ifCond .eq 96, .aload 0, .getfield 385, .iload 3, .iload 6, .iastore, .aload 0, .getfield 386, .iload 3, .iload 7, .iastore, .aload 0, .iload 3, .aload 1, .aload 2, .invokevirtual 635, .ifCond .eq 96, .return_]),
  (96, [.iinc 6 1, .goto 36]),
  (102, [.aload 0, .getfield 385, .iload 3, .iload 4, .iastore, .aload 0, .getfield 386, .iload 3, .iload 5, .iastore, .iinc 3 1, .goto 2]),
  (124, [.return_])]
def ex_b79 : List (Nat × List Instr) := [(0, [.iload 1, .sipush 3, .invokestatic 1042, .ifCond .eq 17, .aload 0, .getfield 386, .iload 1, .iaload, .goto 18]),
  (17, [.sipush 0, .jsr 18]),
  (18, [.istore 4, .iload 1, .sipush 1, .iadd, .istore 5, .jsr 25]),
  (25, [.iload 5, .aload 0, .getfield 388, .if_icmp .ge 74, .iload 4, .aload 0, .iload 1, .iload 5, .invokevirtual 642, .iand, .ifCond .ne 68, .aload 0, .iload 5, .aload 2, .aload 3, .invokevirtual 619, .ifCond .eq 68, .aload 0, .sipush 2, .iload 1, .iload 5, .invokevirtual 595, .sipush 1, .areturn]),
  (68, [.iinc 5 1, .goto 25]),
  (74, [.sipush 0, .areturn])]
def ex_b80 : List (Nat × List Instr) := [(0, [.sipush 0, .istore 3, .sipush 0, .istore 4, .jsr 5]),
  (5, [.iload 4, .aload 0, .getfield 388, .if_icmp .ge 48, .iload 4, .sipush 3, .if_icmp .ge 48, .iload 4, .iload 1, .if_icmp .eq 42, .iload 4, .iload 2, .if_icmp .eq 42, .iload 3, .aload 0, .getfield 386, .iload 4, .iaload, .ior, .istore 3, .jsr 42]),
  (42, [.iinc 4 1, .goto 5]),
  (48, [.iload 3, .ireturn])]
def ex_b81 : List (Nat × List Instr) := [(0, [.aload 0, .getfield 389, .aload 1, .invokevirtual 368, .if_icmp .ge 26, .aload 0, .aload 1, .aload 0, .getfield 389, .iload 2, .invokevirtual 667, .ifCond .ne 26, .sipush 0, .areturn]),
  (26, [.sipush 0, .istore 3, .jsr 28]),
  (28, [.iload 3, .aload 1, .invokevirtual 368, .if_icmp .ge 59, .aload 0, .aload 1, .iload 3, .iload 2, .invokevirtual 667, .ifCond .ne 53, .aload 0, .iload 3, .putfield 389, .sipush 0, .areturn]),
  (53, [.iinc 3 1, .goto 28]),
  (59, [.sipush 1, .areturn])]
def ex_b82 : List (Nat × List Instr) := [(0, [.aload 0, .aload 1, .iload 2, .aload 0, .sipush (-1), .sipush (-1), .invokevirtual 642, .invokevirtual 667, .areturn])]
def ex_b83 : List (Nat × List Instr) := [(0, [.aload 1, .iload 2, .invokevirtual 385, .ifCond .ne 15, .aload 1, .iload 2, .iload 3, .invokevirtual 402, .areturn]),
  (15, [.sipush 0, .istore 4, .jsr 18]),
  (18, [.iload 4, .aload 0, .getfield 388, .if_icmp .ge 64, .iload 4, .sipush 3, .if_icmp .ge 64, .aload 1, .iload 2, .aload 0, .getfield 384, .iload 4, .iaload, .aload 0, .getfield 385, .iload 4, .iaload, .iload 3, .invokevirtual 396, .ifCond .eq 58, .sipush 1, .areturn]),
  (58, [.iinc 4 1, .goto 18]),
  (64, [.sipush 0, .areturn])]
def ex_b84 : List (Nat × List Instr) := [(0, [.sipush 0, .istore 2, .sipush 0, .istore 3, .sipush 0, .istore 4, .jsr 7]),
  (7, [.iload 4, .sipush 8, .if_icmp .ge 59, .lload 0, .iload 4, .invokestatic 682, .istore 5, .iload 5, .sipush 126, .if_icmp .gt 38, .iload 3, .ifCond .eq 40, .iload 5, .ifCond .eq 40, .jsr 38]),
  (38, [.sipush (-1), .ireturn]),
  (40, [.iload 5, .ifCond .ne 50, .sipush 1, .istore 3, .goto 53]),
  (50, [.iinc 2 1, .jsr 53]),
  (53, [.iinc 4 1, .goto 7]),
  (59, [.iload 2, .ireturn])]
def ex_b85 : List (Nat × List Instr) := [(0, [.lload 0, .sipush 8, .iload 2, .imul, .lushr, .l2i, .sipush 255, .iand, .ireturn])]
def ex_b86 : List (Nat × List Instr) := [(0, [.sipush 0, .istore 4, .jsr 3]),
  (3, [.iload 4, .iload 3, .if_icmp .ge 49, .aload 0, .getfield 449, .sipush 40, .if_icmp .ge 49, .aload 0, .getfield 448, .aload 0, .getfield 449, .lload 1, .iload 4, .invokestatic 682, .iastore, .aload 0, .dup, .getfield 449, .sipush 1, .iadd, .putfield 449, .iinc 4 1, .goto 3]),
  (49, [.return_])]
def ex_b87 : List (Nat × List Instr) := [(0, [.aload 0, .getfield 449, .ireturn])]
def ex_b88 : List (Nat × List Instr) := [(0, [.iload 1, .aload 0, .getfield 449, .invokestatic 1042, .ifCond .eq 20, .aload 0, .getfield 448, .iload 1, .iaload, .goto 21]),
  (20, [.sipush 0, .jsr 21]),
  (21, [.ireturn])]
def ex_b89 : List (Nat × List Instr) := [(0, [.aload 0, .sipush 0, .putfield 449, .return_])]
def ex_b90 : List (Nat × List Instr) := [(0, [.aload 0, .getfield 514, .ireturn])]
def ex_b91 : List (Nat × List Instr) := [(0, [.aload 0, .getfield 514, .aload 0, .getfield 513, .if_icmp .ge 24, .aload 0, .getfield 514, .sipush 1, .iadd, .sipush 5, .imul, .sipush 60, .if_icmp .le 28, .jsr 24]),
  (24, [.sipush 1, .goto 29]),
  (28, [.sipush 0, .jsr 29]),
  (29, [.areturn])]
def ex_b92 : List (Nat × List Instr) := [(0, [.aload 0, .invokevirtual 728, .ifCond .eq 9, .sipush (-1), .ireturn]),
  (9, [.aload 0, .getfield 514, .istore 6, .aload 0, .dup, .getfield 514, .sipush 1, .iadd, .putfield 514, .aload 0, .iload 6, .sipush 0, .iload 1, .invokevirtual 755, .aload 0, .iload 6, .sipush 1, .iload 2, .invokevirtual 755, .aload 0, .iload 6, .sipush 2, .iload 3, .invokevirtual 755, .aload 0, .iload 6, .sipush 3, .iload 4, .invokevirtual 755, .aload 0, .iload 6, .sipush 4, .iload 5, .invokevirtual 755, .iload 6, .ireturn])]
def ex_b93 : List (Nat × List Instr) := [(0, [.iload 1, .sipush 5, .imul, .iload 2, .iadd, .istore 3, .iload 1, .aload 0, .getfield 514, .invokestatic 1042, .ifCond .eq 35, .iload 3, .sipush 60, .invokestatic 1042, .ifCond .eq 35, .aload 0, .getfield 512, .iload 3, .iaload, .goto 36]),
  (35, [.sipush (-1), .jsr 36]),
  (36, [.ireturn])]
def ex_b94 : List (Nat × List Instr) := [(0, [.iload 1, .sipush 5, .imul, .iload 2, .iadd, .istore 4, .iload 1, .aload 0, .getfield 514, .invokestatic 1042, .ifCond .eq 36, .iload 4, .sipush 60, .invokestatic 1042, .ifCond .eq 36, .aload 0, .getfield 512, .iload 4, .iload 3, .iastore, .jsr 36]),
  (36, [.return_])]
def ex_b95 : List (Nat × List Instr) := [(0, [.aload 0, .sipush 0, .putfield 514, .return_])]
def ex_b96 : List (Nat × List Instr) := [(0, [.aload 1, .getfield 512, .sipush 0, .aload 0, .getfield 512, .sipush 0, .sipush 60, .invokedynamic 2, .aload 0, .aload 1, .getfield 514, .putfield 514, .return_])]
def ex_b97 : List (Nat × List Instr) := [(0, [.aload 0, .invokeinterface 1 0, .sipush 0, .istore 2, .jsr 6]),
  (6, [.iload 2, .aload 1, .invokevirtual 696, .if_icmp .ge 34, .aload 0, .aload 1, .iload 2, .invokevirtual 705, .invokeinterface 2 1, .ifCond .ne 28, .iload 2, .ireturn]),
  (28, [.iinc 2 1, .goto 6]),
  (34, [.aload 1, .invokevirtual 696, .ireturn])]
def ex_b98 : List (Nat × List Instr) := [(0, [.aload 0, .aload 1, .invokeinterface 5 1, .aload 1, .invokevirtual 696, .if_icmp .ne 23, .aload 0, .invokeinterface 6 0, .ifCond .eq 23, .sipush 1, .goto 24]),
  (23, [.sipush 0, .jsr 24]),
  (24, [.areturn])]
def ex_b99 : List (Nat × List Instr) := [(0, [.lload 1, .invokestatic 673, .istore 3, .iload 3, .ifCond .ge 12, .sipush (-102), .ireturn]),
  (12, [.aload 0, .getfield 640, .invokevirtual 696, .iload 3, .iadd, .sipush 40, .if_icmp .le 29, .sipush (-104), .ireturn]),
  (29, [.aload 0, .getfield 640, .lload 1, .iload 3, .invokevirtual 690, .aload 0, .getfield 640, .invokevirtual 696, .ireturn])]
def ex_b100 : List (Nat × List Instr) := [(0, [.aload 0, .getfield 640, .invokevirtual 696, .istore 1, .aload 0, .getfield 640, .invokevirtual 712, .iload 1, .ireturn])]
def ex_b101 : List (Nat × List Instr) := [(0, [.iload 1, .sipush 2, .invokestatic 1042, .ifCond .ne 11, .sipush (-102), .ireturn]),
  (11, [.iload 1, .ifCond .ne 29, .aload 0, .getfield 641, .aload 0, .getfield 640, .invokeinterface 0 1, .goto 40]),
  (29, [.aload 0, .getfield 642, .aload 0, .getfield 640, .invokeinterface 3 1, .jsr 40]),
  (40, [.ireturn])]
def ex_b102 : List (Nat × List Instr) := [(0, [.aload 0, .getfield 641, .aload 0, .getfield 640, .invokeinterface 4 1, .ifCond .ne 17, .sipush (-103), .ireturn]),
  (17, [.aload 0, .getfield 643, .aload 0, .getfield 640, .invokevirtual 89, .aload 0, .getfield 640, .invokevirtual 712, .aload 0, .getfield 645, .invokevirtual 0, .aload 0, .sipush 0, .putfield 649, .aload 0, .dup, .getfield 650, .sipush 1, .iadd, .putfield 650, .aload 0, .getfield 643, .invokevirtual 160, .ireturn])]
def ex_b103 : List (Nat × List Instr) := [(0, [.aload 0, .getfield 642, .aload 0, .getfield 640, .invokeinterface 7 1, .ifCond .ne 17, .sipush (-103), .ireturn]),
  (17, [.aload 0, .getfield 644, .invokevirtual 520, .ifCond .eq 30, .sipush (-104), .ireturn]),
  (30, [.aload 0, .getfield 640, .invokevirtual 712, .aload 0, .getfield 644, .aload 0, .getfield 642, .invokevirtual 529, .ireturn])]
def ex_b104 : List (Nat × List Instr) := [(0, [.iload 1, .aload 0, .getfield 644, .invokevirtual 512, .invokestatic 1042, .ifCond .ne 17, .sipush (-101), .ireturn]),
  (17, [.iload 2, .sipush 5, .invokestatic 1042, .ifCond .eq 37, .aload 0, .getfield 644, .iload 1, .iload 2, .invokevirtual 538, .goto 39]),
  (37, [.sipush (-102), .jsr 39]),
  (39, [.ireturn])]
def ex_b105 : List (Nat × List Instr) := [(0, [.iload 1, .aload 0, .getfield 644, .invokevirtual 512, .invokestatic 1042, .ifCond .ne 17, .sipush (-101), .ireturn]),
  (17, [.iload 2, .sipush 5, .invokestatic 1042, .ifCond .ne 28, .sipush (-102), .ireturn]),
  (28, [.aload 0, .getfield 644, .iload 1, .sipush 4, .invokevirtual 538, .iload 2, .invokestatic 506, .ifCond .eq 48, .iload 1, .goto 49]),
  (48, [.sipush (-1), .jsr 49]),
  (49, [.ireturn])]
def ex_b106 : List (Nat × List Instr) := [(0, [.aload 0, .getfield 643, .iload 1, .invokevirtual 169, .ifCond .ne 14, .sipush (-101), .ireturn]),
  (14, [.iload 2, .sipush 4, .invokestatic 1042, .ifCond .eq 31, .aload 0, .iload 1, .iload 2, .invokevirtual 1082, .goto 33]),
  (31, [.sipush (-102), .jsr 33]),
  (33, [.ireturn])]
def ex_b107 : List (Nat × List Instr) := [(0, [.aload 0, .getfield 643, .iload 2, .invokevirtual 185, .ifCond .ne 14, .sipush (-101), .ireturn]),
  (14, [.iload 1, .sipush 3, .invokestatic 1042, .ifCond .eq 39, .iload 3, .sipush 4, .invokestatic 1042, .ifCond .eq 39, .iload 4, .sipush 4, .invokestatic 1042, .ifCond .ne 42, .jsr 39]),
  (39, [.sipush (-102), .ireturn]),
  (42, [.aload 0, .getfield 643, .iload 1, .sipush 4, .iload 2, .imul, .iload 3, .iadd, .iload 4, .invokevirtual 219, .ireturn])]
def ex_b108 : List (Nat × List Instr) := [(0, [.aload 0, .getfield 643, .iload 4, .invokevirtual 185, .ifCond .ne 15, .sipush (-101), .ireturn]),
  (15, [.iload 1, .iload 2, .iload 3, .invokestatic 1051, .ifCond .eq 33, .iload 5, .sipush 4, .invokestatic 1042, .ifCond .ne 36, .jsr 33]),
  (33, [.sipush (-102), .ireturn]),
  (36, [.aload 0, .getfield 644, .aload 0, .getfield 643, .iload 1, .iload 2, .iload 3, .sipush 4, .iload 4, .imul, .iload 5, .iadd, .sipush 0, .invokevirtual 550, .ireturn])]
def ex_b109 : List (Nat × List Instr) := [(0, [.aload 0, .getfield 643, .iload 4, .invokevirtual 185, .ifCond .ne 15, .sipush (-101), .ireturn]),
  (15, [.iload 2, .iload 1, .iload 3, .invokestatic 1051, .ifCond .eq 33, .iload 5, .sipush 4, .invokestatic 1042, .ifCond .ne 36, .jsr 33]),
  (33, [.sipush (-102), .ireturn]),
  (36, [.aload 0, .getfield 645, .getfield 1, .invokevirtual 728, .ifCond .eq 52, .sipush (-104), .ireturn]),
  (52, [.aload 0, .getfield 645, .getfield 1, .iload 1, .iload 2, .iload 3, .iload 4, .iload 5, .invokevirtual 741, .ireturn])]
def ex_b110 : List (Nat × List Instr) := [(0, [.iload 1, .sipush 2, .invokestatic 1042, .ifCond .ne 11, .sipush (-102), .ireturn]),
  (11, [.aload 0, .invokevirtual 1112, .istore 2, .iload 2, .sipush (-1), .if_icmp .eq 25, .iload 1, .ifCond .ne 27, .jsr 25]),
  (25, [.iload 2, .ireturn]),
  (27, [.aload 0, .iload 2, .sipush 0, .invokevirtual 1106, .invokestatic 1057, .ireturn])]
def ex_b111 : List (Nat × List Instr) := [(0, [.aload 0, .getfield 643, .invokevirtual 152, .ifCond .ne 13, .sipush (-103), .ireturn]),
  (13, [.iload 1, .iload 2, .iload 3, .invokestatic 1051, .ifCond .eq 31, .iload 4, .sipush 3, .invokestatic 1042, .ifCond .ne 34, .jsr 31]),
  (31, [.sipush (-102), .ireturn]),
  (34, [.sipush 0, .istore 5, .sipush 0, .istore 6, .jsr 40]),
  (40, [.iload 6, .aload 0, .getfield 643, .invokevirtual 160, .if_icmp .ge 87, .aload 0, .getfield 643, .iload 6, .invokevirtual 185, .ifCond .eq 81, .aload 0, .iload 1, .iload 2, .iload 3, .iload 6, .invokevirtual 1124, .iload 4, .if_icmp .ne 81, .iinc 5 1, .jsr 81]),
  (81, [.iinc 6 1, .goto 40]),
  (87, [.iload 5, .ireturn])]
def ex_b112 : List (Nat × List Instr) := [(0, [.iload 1, .sipush 4, .invokestatic 1042, .ifCond .ne 11, .sipush (-102), .ireturn]),
  (11, [.aload 0, .getfield 643, .iload 2, .invokevirtual 193, .ifCond .ne 25, .sipush (-101), .ireturn]),
  (25, [.iload 3, .iload 1, .invokestatic 1065, .invokestatic 1042, .ifCond .ne 39, .sipush (-102), .ireturn]),
  (39, [.aload 0, .iload 1, .sipush 4, .iload 2, .imul, .iload 3, .iadd, .sipush (-1), .invokevirtual 1099, .ifCond .ne 56, .sipush (-103), .ireturn]),
  (56, [.aload 0, .getfield 645, .getfield 0, .invokevirtual 728, .ifCond .eq 72, .sipush (-104), .ireturn]),
  (72, [.aload 0, .getfield 645, .getfield 0, .iload 1, .iload 2, .iload 3, .sipush 0, .sipush 0, .invokevirtual 741, .ireturn])]
def ex_b113 : List (Nat × List Instr) := [(0, [.iload 1, .aload 0, .getfield 645, .getfield 0, .invokevirtual 720, .invokestatic 1042, .ifCond .ne 20, .sipush (-101), .ireturn]),
  (20, [.iload 2, .sipush 4, .invokestatic 1042, .ifCond .ne 31, .sipush (-102), .ireturn]),
  (31, [.aload 0, .getfield 645, .iload 1, .invokevirtual 25, .iload 2, .invokestatic 18, .ifCond .eq 50, .iload 1, .goto 51]),
  (50, [.sipush (-1), .jsr 51]),
  (51, [.ireturn])]
def ex_b114 : List (Nat × List Instr) := [(0, [.iload 1, .aload 0, .getfield 645, .getfield 0, .invokevirtual 720, .invokestatic 1042, .ifCond .ne 20, .sipush (-101), .ireturn]),
  (20, [.iload 2, .sipush 4, .invokestatic 1042, .ifCond .eq 37, .aload 0, .iload 1, .iload 2, .invokevirtual 1090, .goto 39]),
  (37, [.sipush (-102), .jsr 39]),
  (39, [.ireturn])]
def ex_b115 : List (Nat × List Instr) := [(0, [.iload 1, .aload 0, .getfield 645, .getfield 0, .invokevirtual 720, .invokestatic 1042, .ifCond .eq 28, .aload 0, .getfield 643, .iload 2, .invokevirtual 193, .ifCond .ne 31, .jsr 28]),
  (28, [.sipush (-101), .ireturn]),
  (31, [.iload 3, .aload 0, .getfield 645, .iload 1, .invokevirtual 25, .invokestatic 1065, .invokestatic 1042, .ifCond .ne 52, .sipush (-102), .ireturn]),
  (52, [.aload 0, .aload 0, .getfield 645, .iload 1, .invokevirtual 25, .sipush 4, .iload 2, .imul, .iload 3, .iadd, .iload 1, .invokevirtual 1099, .ifCond .ne 76, .sipush (-103), .ireturn]),
  (76, [.aload 0, .getfield 645, .iload 1, .invokevirtual 49, .istore 4, .aload 0, .getfield 645, .iload 1, .iload 2, .iload 3, .invokevirtual 59, .iload 4, .ireturn])]
def ex_b116 : List (Nat × List Instr) := [(0, [.iload 1, .sipush 6, .invokestatic 1042, .ifCond .eq 18, .iload 2, .sipush 24, .invokestatic 1042, .ifCond .ne 21, .jsr 18]),
  (18, [.sipush (-102), .ireturn]),
  (21, [.aload 0, .getfield 645, .getfield 2, .invokevirtual 728, .ifCond .eq 37, .sipush (-104), .ireturn]),
  (37, [.aload 0, .getfield 645, .getfield 2, .iload 1, .iload 2, .sipush 0, .sipush 0, .sipush 0, .invokevirtual 741, .ireturn])]
def ex_b117 : List (Nat × List Instr) := [(0, [.aload 0, .getfield 647, .aload 0, .getfield 643, .aload 0, .getfield 644, .aload 0, .getfield 645, .invokevirtual 331, .aload 0, .getfield 648, .aload 0, .getfield 643, .aload 0, .getfield 645, .invokevirtual 570, .sipush 0, .istore 1, .sipush 0, .istore 2, .jsr 38]),
  (38, [.iload 2, .aload 0, .getfield 645, .getfield 2, .invokevirtual 720, .if_icmp .ge 79, .aload 0, .getfield 648, .aload 0, .getfield 647, .iload 2, .invokevirtual 658, .ifCond .eq 73, .iload 1, .sipush 1, .iload 2, .ishl, .ior, .istore 1, .jsr 73]),
  (73, [.iinc 2 1, .goto 38]),
  (79, [.iload 1, .ireturn])]
def ex_b118 : List (Nat × List Instr) := [(0, [.aload 0, .getfield 643, .invokevirtual 152, .ifCond .ne 13, .sipush (-103), .ireturn]),
  (13, [.iload 1, .sipush 5, .invokestatic 1042, .ifCond .ne 24, .sipush (-102), .ireturn]),
  (24, [.aload 0, .getfield 651, .sipush 12, .if_icmp .lt 36, .sipush (-103), .ireturn]),
  (36, [.aload 0, .dup, .getfield 651, .sipush 1, .iadd, .putfield 651, .aload 0, .getfield 647, .aload 0, .getfield 643, .aload 0, .getfield 644, .aload 0, .getfield 645, .invokevirtual 331, .aload 0, .getfield 648, .aload 0, .getfield 643, .aload 0, .getfield 645, .invokevirtual 570, .aload 0, .getfield 648, .aload 0, .getfield 647, .invokevirtual 585, .ifCond .ne 137, .aload 0, .getfield 647, .invokevirtual 416, .ifCond .ne 137, .aload 0, .getfield 648, .aload 0, .getfield 643, .aload 0, .getfield 647, .invokevirtual 610, .ifCond .ne 137, .aload 0, .getfield 648, .aload 0, .getfield 643, .aload 0, .getfield 647, .invokevirtual 626, .jsr 137]),
  (137, [.aload 0, .getfield 648, .iload 1, .invokevirtual 577, .ireturn])]
def ex_b119 : List (Nat × List Instr) := [(0, [.aload 0, .getfield 643, .iload 1, .invokevirtual 185, .ifCond .eq 22, .aload 0, .getfield 643, .iload 2, .invokevirtual 185, .ifCond .ne 25, .jsr 22]),
  (22, [.sipush (-101), .ireturn]),
  (25, [.aload 0, .getfield 643, .iload 1, .iload 2, .sipush 0, .aload 0, .getfield 645, .aload 0, .getfield 643, .sipush (-1), .invokevirtual 74, .invokevirtual 252, .ireturn])]
def ex_b120 : List (Nat × List Instr) := [(0, [.aload 0, .getfield 643, .iload 1, .invokevirtual 185, .ifCond .eq 22, .aload 0, .getfield 643, .iload 2, .invokevirtual 185, .ifCond .ne 25, .jsr 22]),
  (22, [.sipush (-101), .ireturn]),
  (25, [.iload 3, .sipush 10, .invokestatic 1042, .ifCond .ne 37, .sipush (-102), .ireturn]),
  (37, [.aload 0, .getfield 643, .iload 1, .iload 2, .iload 3, .aload 0, .getfield 645, .aload 0, .getfield 643, .sipush (-1), .invokevirtual 74, .invokevirtual 252, .ireturn])]
def ex_b121 : List (Nat × List Instr) := [(0, [.iload 1, .aload 0, .getfield 645, .getfield 0, .invokevirtual 720, .invokestatic 1042, .ifCond .ne 20, .sipush (-101), .ireturn]),
  (20, [.iload 2, .sipush 4, .invokestatic 1042, .ifCond .ne 31, .sipush (-102), .ireturn]),
  (31, [.aload 0, .getfield 643, .aload 0, .getfield 645, .iload 1, .invokevirtual 33, .sipush 0, .invokevirtual 202, .istore 3, .aload 0, .getfield 643, .aload 0, .getfield 645, .aload 0, .getfield 643, .iload 1, .invokevirtual 66, .sipush 0, .invokevirtual 202, .istore 4, .iload 2, .sipush 1, .if_icmp .ne 78, .iload 4, .ireturn]),
  (78, [.iload 2, .sipush 2, .if_icmp .ne 107, .aload 0, .getfield 643, .aload 0, .getfield 643, .aload 0, .getfield 645, .iload 1, .invokevirtual 33, .invokevirtual 233, .sipush 0, .invokevirtual 202, .ireturn]),
  (107, [.iload 2, .sipush 3, .if_icmp .ne 122, .iload 3, .iload 4, .if_icmp .eq 122, .sipush (-1), .goto 123]),
  (122, [.iload 3, .jsr 123]),
  (123, [.ireturn])]
def ex_b122 : List (Nat × List Instr) := [(0, [.iload 1, .sipush 1000, .invokestatic 1042, .ifCond .eq 47, .iload 2, .sipush 100, .invokestatic 1042, .ifCond .eq 47, .iload 3, .sipush 11, .invokestatic 1042, .ifCond .eq 47, .iload 4, .sipush 100, .invokestatic 1042, .ifCond .eq 47, .iload 5, .sipush 2, .invokestatic 1042, .ifCond .ne 50, .jsr 47]),
  (47, [.sipush (-102), .ireturn]),
  (50, [.sipush 1, .istore 6, .sipush 1, .iload 1, .iload 2, .iload 3, .iload 4, .invokestatic 1077, .istore 7, .sipush 2, .istore 8, .jsr 67]),
  (67, [.iload 8, .sipush 20, .if_icmp .gt 107, .iload 8, .iload 1, .iload 2, .iload 3, .iload 4, .invokestatic 1077, .istore 9, .iload 9, .iload 7, .if_icmp .ge 101, .iload 9, .istore 7, .iload 8, .istore 6, .jsr 101]),
  (101, [.iinc 8 1, .goto 67]),
  (107, [.iload 5, .ifCond .ne 117, .iload 6, .goto 119]),
  (117, [.iload 7, .jsr 119]),
  (119, [.ireturn])]
def ex_b123 : List (Nat × List Instr) := [(0, [.aload 0, .getfield 643, .invokevirtual 152, .ifCond .ne 13, .sipush (-103), .ireturn]),
  (13, [.iload 1, .sipush (-3), .if_icmp .lt 24, .iload 1, .sipush 3, .if_icmp .le 27, .jsr 24]),
  (24, [.sipush (-102), .ireturn]),
  (27, [.sipush 0, .istore 2, .sipush 0, .istore 3, .jsr 31]),
  (31, [.iload 3, .aload 0, .getfield 645, .getfield 1, .invokevirtual 720, .if_icmp .ge 66, .aload 0, .iload 3, .iload 1, .invokevirtual 1106, .ifCond .eq 60, .iload 2, .sipush 1, .iload 3, .ishl, .ior, .istore 2, .jsr 60]),
  (60, [.iinc 3 1, .goto 31]),
  (66, [.iload 2, .ireturn])]
def ex_b124 : List (Nat × List Instr) := [(0, [.aload 0, .getfield 643, .iload 1, .invokevirtual 169, .ifCond .ne 14, .sipush (-101), .ireturn]),
  (14, [.iload 2, .sipush 2, .invokestatic 1042, .ifCond .ne 25, .sipush (-102), .ireturn]),
  (25, [.aload 0, .getfield 645, .getfield 3, .invokevirtual 728, .ifCond .eq 41, .sipush (-104), .ireturn]),
  (41, [.aload 0, .getfield 645, .getfield 3, .iload 1, .iload 2, .sipush 0, .sipush 0, .sipush 0, .invokevirtual 741, .pop, .aload 0, .getfield 645, .getfield 3, .invokevirtual 720, .ireturn])]
def ex_b125 : List (Nat × List Instr) := [(0, [.aload 0, .getfield 643, .invokevirtual 152, .ifCond .eq 17, .aload 0, .invokevirtual 1128, .goto 19]),
  (17, [.sipush (-103), .jsr 19]),
  (19, [.ireturn])]
def ex_b126 : List (Nat × List Instr) := [(0, [.aload 0, .getfield 643, .invokevirtual 152, .ifCond .ne 13, .sipush (-103), .ireturn]),
  (13, [.aload 0, .getfield 646, .aload 0, .getfield 645, .invokevirtual 9, .aload 0, .sipush 1, .putfield 649, .aload 0, .getfield 645, .getfield 0, .invokevirtual 720, .ireturn])]
def ex_b127 : List (Nat × List Instr) := [(0, [.aload 0, .getfield 649, .ifCond .ne 10, .sipush (-103), .ireturn]),
  (10, [.aload 0, .getfield 645, .aload 0, .getfield 646, .invokevirtual 9, .aload 0, .getfield 645, .getfield 0, .invokevirtual 720, .ireturn])]
def ex_b128 : List (Nat × List Instr) := [(0, [.iload 1, .tableswitch 130 0 8 #[52, 60, 68, 79, 90, 101, 112, 120, 125]]),
  (52, [.aload 0, .getfield 643, .invokevirtual 160, .ireturn]),
  (60, [.aload 0, .getfield 644, .invokevirtual 512, .ireturn]),
  (68, [.aload 0, .getfield 645, .getfield 1, .invokevirtual 720, .ireturn]),
  (79, [.aload 0, .getfield 645, .getfield 0, .invokevirtual 720, .ireturn]),
  (90, [.aload 0, .getfield 645, .getfield 2, .invokevirtual 720, .ireturn]),
  (101, [.aload 0, .getfield 645, .getfield 3, .invokevirtual 720, .ireturn]),
  (112, [.aload 0, .getfield 640, .invokevirtual 696, .ireturn]),
  (120, [.aload 0, .getfield 650, .ireturn]),
  (125, [.aload 0, .getfield 651, .ireturn]),
  (130, [.sipush (-102), .ireturn])]
def ex_b129 : List (Nat × List Instr) := [(0, [.aload 0, .goto_w 521, .invokevirtual 1145, .lstore 1, .aload 0, .lload 1, .invokevirtual 1153, .lstore 1, .aload 0, .lload 1, .invokevirtual 1161, .lstore 1, .aload 0, .lload 1, .invokevirtual 1169, .lstore 1, .lload 1, .aload 0, .getfield 645, .getfield 2, .invokestatic 1178, .lstore 1, .goto_w 31, .lload 1, .lmul, .aload 0, .invokevirtual 936, .i2l, .ladd, .lstore 1, .lload 1, .aload 0, .getfield 645, .getfield 3, .invokestatic 1178, .lstore 1, .aload 0, .getfield 643, .invokevirtual 152, .ifCond .eq 84, .goto_w 31, .lload 1, .lmul, .aload 0, .invokevirtual 1128, .i2l, .ladd, .lstore 1, .jsr 84]),
  (84, [.sipush 0, .istore 3, .jsr 86]),
  (86, [.iload 3, .aload 0, .getfield 640, .invokevirtual 696, .if_icmp .ge 119, .goto_w 31, .lload 1, .lmul, .aload 0, .getfield 640, .iload 3, .invokevirtual 705, .i2l, .ladd, .lstore 1, .iinc 3 1, .goto 86]),
  (119, [.sipush 0, .istore 3, .jsr 121]),
  (121, [.iload 3, .sipush 8, .if_icmp .gt 146, .goto_w 31, .lload 1, .lmul, .aload 0, .iload 3, .invokevirtual 1025, .i2l, .ladd, .lstore 1, .iinc 3 1, .goto 121]),
  (146, [.lload 1, .lreturn])]
def ex_b130 : List (Nat × List Instr) := [(0, [.iload 0, .ifCond .lt 13, .iload 0, .iload 1, .if_icmp .ge 13, .sipush 1, .goto 14]),
  (13, [.sipush 0, .jsr 14]),
  (14, [.areturn])]
def ex_b131 : List (Nat × List Instr) := [(0, [.iload 0, .sipush 6, .invokestatic 1042, .ifCond .eq 30, .iload 1, .sipush 24, .invokestatic 1042, .ifCond .eq 30, .iload 2, .sipush 3, .invokestatic 1042, .ifCond .eq 30, .sipush 1, .goto 31]),
  (30, [.sipush 0, .jsr 31]),
  (31, [.areturn])]
def ex_b132 : List (Nat × List Instr) := [(0, [.sipush 0, .istore 1, .jsr 2]),
  (2, [.iload 1, .sipush 32, .if_icmp .ge 24, .iload 0, .iload 1, .ishr, .sipush 1, .iand, .ifCond .eq 18, .iload 1, .ireturn]),
  (18, [.iinc 1 1, .goto 2]),
  (24, [.sipush (-1), .ireturn])]
def ex_b133 : List (Nat × List Instr) := [(0, [.iload 0, .sipush 1, .if_icmp .ne 9, .sipush 4, .goto 10]),
  (9, [.sipush 1, .jsr 10]),
  (10, [.ireturn])]
def ex_b134 : List (Nat × List Instr) := [(0, [.sipush 0, .iload 1, .iload 2, .iload 0, .imul, .isub, .invokedynamic 0, .istore 5, .iload 4, .iload 0, .imul, .iload 3, .iload 5, .imul, .sipush 9, .iadd, .sipush 10, .idiv, .iadd, .ireturn])]
def ex_b135 : List (Nat × List Instr) := [(0, [.iload 2, .tableswitch 60 0 2 #[28, 37, 47]]),
  (28, [.aload 0, .getfield 643, .iload 1, .invokevirtual 177, .ireturn]),
  (37, [.aload 0, .getfield 643, .iload 1, .sipush 0, .invokevirtual 202, .ireturn]),
  (47, [.aload 0, .getfield 645, .aload 0, .getfield 643, .iload 1, .invokevirtual 82, .ireturn]),
  (60, [.aload 0, .getfield 643, .iload 1, .invokevirtual 225, .ireturn])]
def ex_b136 : List (Nat × List Instr) := [(0, [.iload 2, .tableswitch 55 0 2 #[28, 37, 46]]),
  (28, [.aload 0, .getfield 645, .iload 1, .invokevirtual 25, .ireturn]),
  (37, [.aload 0, .getfield 645, .iload 1, .invokevirtual 33, .ireturn]),
  (46, [.aload 0, .getfield 645, .iload 1, .invokevirtual 41, .ireturn]),
  (55, [.aload 0, .getfield 645, .aload 0, .getfield 643, .iload 1, .invokevirtual 66, .ireturn])]
def ex_b137 : List (Nat × List Instr) := [(0, [.aload 0, .getfield 643, .iload 1, .iload 2, .invokevirtual 242, .istore 4, .iload 4, .ifCond .eq 38, .iload 4, .aload 0, .getfield 645, .aload 0, .getfield 643, .iload 3, .invokevirtual 74, .iand, .ifCond .ne 38, .sipush 1, .goto 39]),
  (38, [.sipush 0, .jsr 39]),
  (39, [.areturn])]
def ex_b138 : List (Nat × List Instr) := [(0, [.aload 0, .getfield 645, .getfield 1, .astore 3, .sipush 4, .aload 3, .iload 1, .sipush 3, .invokevirtual 746, .imul, .aload 3, .iload 1, .sipush 4, .invokevirtual 746, .iadd, .istore 4, .aload 0, .getfield 644, .aload 0, .getfield 643, .aload 3, .iload 1, .sipush 1, .invokevirtual 746, .aload 3, .iload 1, .sipush 0, .invokevirtual 746, .aload 3, .iload 1, .sipush 2, .invokevirtual 746, .iload 4, .iload 2, .invokevirtual 550, .ireturn])]
def ex_b139 : List (Nat × List Instr) := [(0, [.sipush (-1), .istore 1, .sipush 24, .istore 2, .sipush 0, .istore 3, .jsr 7]),
  (7, [.iload 3, .aload 0, .getfield 645, .getfield 1, .invokevirtual 720, .if_icmp .ge 61, .aload 0, .getfield 645, .getfield 1, .iload 3, .sipush 0, .invokevirtual 746, .istore 4, .iload 4, .iload 2, .if_icmp .ge 55, .aload 0, .iload 3, .sipush 0, .invokevirtual 1106, .ifCond .eq 55, .iload 4, .istore 2, .iload 3, .istore 1, .jsr 55]),
  (55, [.iinc 3 1, .goto 7]),
  (61, [.iload 1, .ireturn])]
def ex_b140 : List (Nat × List Instr) := [(0, [.sipush 0, .istore 5, .sipush 0, .istore 6, .jsr 6]),
  (6, [.iload 6, .sipush 4, .if_icmp .ge 46, .aload 0, .getfield 644, .aload 0, .getfield 643, .iload 1, .iload 2, .iload 3, .sipush 4, .iload 4, .imul, .iload 6, .iadd, .sipush 0, .invokevirtual 550, .ifCond .eq 40, .iinc 5 1, .jsr 40]),
  (40, [.iinc 6 1, .goto 6]),
  (46, [.iload 5, .ifCond .ne 53, .sipush 0, .ireturn]),
  (53, [.iload 5, .sipush 4, .if_icmp .ge 63, .sipush 1, .goto 64]),
  (63, [.sipush 2, .jsr 64]),
  (64, [.ireturn])]
def ex_b141 : List (Nat × List Instr) := [(0, [.sipush 0, .istore 1, .sipush (-3), .istore 2, .jsr 5]),
  (5, [.iload 2, .sipush 3, .if_icmp .gt 32, .aload 0, .iload 2, .invokevirtual 1137, .ifCond .eq 26, .iload 1, .sipush 1, .iload 2, .sipush 3, .iadd, .ishl, .ior, .istore 1, .jsr 26]),
  (26, [.iinc 2 1, .goto 5]),
  (32, [.iload 1, .ireturn])]
def ex_b142 : List (Nat × List Instr) := [(0, [.sipush 0, .istore 2, .jsr 2]),
  (2, [.iload 2, .aload 0, .getfield 645, .getfield 3, .invokevirtual 720, .if_icmp .ge 59, .aload 0, .getfield 643, .aload 0, .getfield 645, .getfield 3, .iload 2, .sipush 0, .invokevirtual 746, .iload 1, .invokevirtual 202, .aload 0, .getfield 645, .getfield 3, .iload 2, .sipush 1, .invokevirtual 746, .if_icmp .eq 53, .sipush 0, .areturn]),
  (53, [.iinc 2 1, .goto 2]),
  (59, [.sipush 1, .areturn])]
def ex_b143 : List (Nat × List Instr) := [(0, [.lload 1, .lstore 3, .sipush 0, .istore 5, .jsr 5]),
  (5, [.iload 5, .aload 0, .getfield 643, .invokevirtual 160, .if_icmp .ge 54, .sipush 0, .istore 6, .jsr 20]),
  (20, [.iload 6, .sipush 4, .if_icmp .ge 48, .goto_w 31, .lload 3, .lmul, .aload 0, .iload 5, .iload 6, .invokevirtual 1082, .i2l, .ladd, .lstore 3, .iinc 6 1, .goto 20]),
  (48, [.iinc 5 1, .goto 5]),
  (54, [.lload 3, .lreturn])]
def ex_b144 : List (Nat × List Instr) := [(0, [.lload 1, .lstore 3, .sipush 0, .istore 5, .jsr 5]),
  (5, [.iload 5, .aload 0, .getfield 644, .invokevirtual 512, .if_icmp .ge 57, .sipush 0, .istore 6, .jsr 20]),
  (20, [.iload 6, .sipush 5, .if_icmp .ge 51, .goto_w 31, .lload 3, .lmul, .aload 0, .getfield 644, .iload 5, .iload 6, .invokevirtual 538, .i2l, .ladd, .lstore 3, .iinc 6 1, .goto 20]),
  (51, [.iinc 5 1, .goto 5]),
  (57, [.lload 3, .lreturn])]
def ex_b145 : List (Nat × List Instr) := [(0, [.lload 1, .lstore 3, .sipush 0, .istore 5, .jsr 5]),
  (5, [.iload 5, .aload 0, .getfield 645, .getfield 1, .invokevirtual 720, .if_icmp .ge 78, .sipush 0, .istore 6, .jsr 23]),
  (23, [.iload 6, .sipush 5, .if_icmp .ge 57, .goto_w 31, .lload 3, .lmul, .aload 0, .getfield 645, .getfield 1, .iload 5, .iload 6, .invokevirtual 746, .i2l, .ladd, .lstore 3, .iinc 6 1, .goto 23]),
  (57, [.goto_w 31, .lload 3, .lmul, .aload 0, .iload 5, .sipush 0, .invokevirtual 1106, .i2l, .ladd, .lstore 3, .iinc 5 1, .goto 5]),
  (78, [.lload 3, .lreturn])]
def ex_b146 : List (Nat × List Instr) := [(0, [.lload 1, .lstore 3, .sipush 0, .istore 5, .jsr 5]),
  (5, [.iload 5, .aload 0, .getfield 645, .getfield 0, .invokevirtual 720, .if_icmp .ge 57, .sipush 0, .istore 6, .jsr 23]),
  (23, [.iload 6, .sipush 4, .if_icmp .ge 51, .goto_w 31, .lload 3, .lmul, .aload 0, .iload 5, .iload 6, .invokevirtual 1090, .i2l, .ladd, .lstore 3, .iinc 6 1, .goto 23]),
  (51, [.iinc 5 1, .goto 5]),
  (57, [.lload 3, .lreturn])]
def ex_b147 : List (Nat × List Instr) := [(0, [.lload 0, .lstore 3, .sipush 0, .istore 5, .jsr 5]),
  (5, [.iload 5, .aload 2, .invokevirtual 720, .if_icmp .ge 50, .goto_w 31, .lload 3, .lmul, .aload 2, .iload 5, .sipush 0, .invokevirtual 746, .i2l, .ladd, .lstore 3, .goto_w 31, .lload 3, .lmul, .aload 2, .iload 5, .sipush 1, .invokevirtual 746, .i2l, .ladd, .lstore 3, .iinc 5 1, .goto 5]),
  (50, [.lload 3, .lreturn])]
def ex_b148 : List (Nat × List Instr) := [(0, [.iload 0, .iload 1, .if_icmp .lt 14, .iload 0, .iload 2, .if_icmp .gt 14, .sipush 1, .goto 15]),
  (14, [.sipush 0, .jsr 15]),
  (15, [.areturn])]
def ex_b149 : List (Nat × List Instr) := [(0, [.sipush 0, .istore 3, .sipush 0, .istore 4, .sipush 0, .istore 5, .jsr 8]),
  (8, [.iload 5, .sipush 8, .if_icmp .ge 85, .lload 1, .sipush 8, .iload 5, .imul, .lshr, .goto_w 255, .land, .l2i, .istore 6, .iload 6, .sipush 126, .if_icmp .gt 46, .iload 4, .ifCond .eq 49, .iload 6, .ifCond .eq 49, .jsr 46]),
  (46, [.sipush (-102), .ireturn]),
  (49, [.iload 4, .ifCond .ne 59, .iload 6, .ifCond .ne 63, .jsr 59]),
  (59, [.sipush 1, .goto 64]),
  (63, [.sipush 0, .jsr 64]),
  (64, [.istore 4, .iload 3, .iload 6, .ifCond .ne 76, .sipush 0, .goto 77]),
  (76, [.sipush 1, .jsr 77]),
  (77, [.iadd, .istore 3, .iinc 5 1, .goto 8]),
  (85, [.aload 0, .getfield 728, .iload 3, .iadd, .sipush 40, .if_icmp .le 99, .sipush (-104), .ireturn]),
  (99, [.sipush 0, .istore 5, .jsr 102]),
  (102, [.iload 5, .iload 3, .if_icmp .ge 135, .aload 0, .getfield 729, .aload 0, .getfield 728, .iload 5, .iadd, .lload 1, .sipush 8, .iload 5, .imul, .lshr, .l2i, .i2b, .bastore, .iinc 5 1, .goto 102]),
  (135, [.aload 0, .dup, .getfield 728, .iload 3, .iadd, .putfield 728, .aload 0, .getfield 728, .ireturn])]
def ex_b150 : List (Nat × List Instr) := [(0, [.aload 0, .getfield 728, .istore 1, .aload 0, .sipush 0, .putfield 728, .iload 1, .ireturn])]
def ex_b151 : List (Nat × List Instr) := [(0, [.iload 0, .sipush 48, .sipush 57, .invokestatic 1187, .areturn])]
def ex_b152 : List (Nat × List Instr) := [(0, [.iload 0, .sipush 46, .if_icmp .ne 10, .sipush 0, .goto 31]),
  (10, [.iload 0, .sipush 35, .if_icmp .ne 20, .sipush 1, .goto 31]),
  (20, [.iload 0, .sipush 100, .if_icmp .ne 30, .sipush 2, .goto 31]),
  (30, [.sipush (-1), .jsr 31]),
  (31, [.ireturn])]
def ex_b153 : List (Nat × List Instr) := [(0, [.iload 1, .invokestatic 1217, .sipush (-1), .if_icmp .eq 68, .aload 0, .getfield 744, .aload 0, .getfield 742, .ifCond .ne 24, .sipush 6, .goto 28]),
  (24, [.aload 0, .getfield 743, .jsr 28]),
  (28, [.if_icmp .ne 33, .sipush 0, .areturn]),
  (33, [.aload 0, .getfield 746, .aload 0, .getfield 742, .aload 0, .getfield 743, .imul, .aload 0, .getfield 744, .iadd, .iload 1, .invokestatic 1217, .iastore, .aload 0, .dup, .getfield 744, .sipush 1, .iadd, .putfield 744, .sipush 1, .areturn]),
  (68, [.iload 1, .sipush 124, .if_icmp .ne 101, .aload 0, .getfield 745, .ifCond .ne 101, .aload 0, .getfield 747, .aload 0, .getfield 742, .aload 0, .getfield 744, .iastore, .aload 0, .sipush 1, .putfield 745, .sipush 1, .areturn]),
  (101, [.iload 1, .sipush 47, .if_icmp .ne 155, .aload 0, .getfield 745, .ifCond .eq 155, .aload 0, .getfield 742, .sipush 3, .if_icmp .ge 155, .aload 0, .getfield 742, .ifCond .ne 140, .aload 0, .getfield 744, .sipush 1, .if_icmp .le 155, .goto 151]),
  (140, [.aload 0, .getfield 744, .aload 0, .getfield 743, .if_icmp .ne 155, .jsr 151]),
  (151, [.sipush 1, .goto 156]),
  (155, [.sipush 0, .jsr 156]),
  (156, [.istore 2, .iload 2, .ifCond .eq 189, .aload 0, .aload 0, .getfield 744, .putfield 743, .aload 0, .dup, .getfield 742, .sipush 1, .iadd, .putfield 742, .aload 0, .sipush 0, .putfield 744, .aload 0, .sipush 0, .putfield 745, .jsr 189]),
  (189, [.iload 2, .areturn])]
def ex_b154 : List (Nat × List Instr) := [(0, [.aload 0, .sipush 0, .putfield 742, .aload 0, .sipush 0, .putfield 743, .aload 0, .sipush 0, .putfield 744, .aload 0, .sipush 0, .putfield 745, .sipush 0, .istore 1, .jsr 22]),
  (22, [.iload 1, .aload 0, .getfield 728, .if_icmp .ge 49, .aload 0, .aload 0, .getfield 729, .iload 1, .baload, .invokevirtual 1225, .ifCond .eq 49, .iinc 1 1, .goto 22]),
  (49, [.aload 0, .iload 1, .putfield 740, .aload 0, .iload 1, .aload 0, .getfield 728, .if_icmp .ne 92, .aload 0, .getfield 745, .ifCond .eq 92, .aload 0, .getfield 742, .ifCond .le 92, .aload 0, .getfield 744, .aload 0, .getfield 743, .if_icmp .ne 92, .sipush 1, .goto 93]),
  (92, [.sipush 0, .jsr 93]),
  (93, [.putfield 741, .return_])]
def ex_b155 : List (Nat × List Instr) := [(0, [.iload 1, .ifCond .ne 11, .aload 0, .getfield 750, .goto 15]),
  (11, [.aload 0, .getfield 751, .jsr 15]),
  (15, [.ireturn])]
def ex_b156 : List (Nat × List Instr) := [(0, [.iload 1, .ifCond .ne 12, .aload 0, .iload 2, .putfield 750, .goto 17]),
  (12, [.aload 0, .iload 2, .putfield 751, .jsr 17]),
  (17, [.return_])]
def ex_b157 : List (Nat × List Instr) := [(0, [.iload 2, .invokestatic 1209, .ifCond .eq 37, .aload 0, .iload 1, .invokevirtual 1241, .ifCond .le 37, .sipush 10, .aload 0, .iload 1, .invokevirtual 1241, .imul, .iload 2, .iadd, .sipush 48, .isub, .sipush 24, .if_icmp .ge 37, .sipush 1, .goto 38]),
  (37, [.sipush 0, .jsr 38]),
  (38, [.istore 3, .aload 0, .iload 1, .iload 3, .ifCond .eq 61, .sipush 10, .aload 0, .iload 1, .invokevirtual 1241, .imul, .iload 2, .iadd, .sipush 48, .isub, .goto 66]),
  (61, [.aload 0, .iload 1, .invokevirtual 1241, .jsr 66]),
  (66, [.invokevirtual 1250, .iload 3, .areturn])]
def ex_b158 : List (Nat × List Instr) := [(0, [.iload 1, .sipush 104, .if_icmp .ne 10, .sipush 1, .goto 41]),
  (10, [.iload 1, .sipush 110, .if_icmp .ne 20, .sipush 2, .goto 41]),
  (20, [.iload 1, .sipush 102, .if_icmp .ne 30, .sipush 3, .goto 41]),
  (30, [.iload 1, .sipush 111, .if_icmp .ne 40, .sipush 4, .goto 41]),
  (40, [.sipush (-1), .jsr 41]),
  (41, [.ireturn])]
def ex_b159 : List (Nat × List Instr) := [(0, [.aload 0, .iload 1, .invokevirtual 1265, .istore 2, .aload 0, .iload 2, .sipush (-1), .if_icmp .ne 19, .aload 0, .getfield 752, .goto 20]),
  (19, [.iload 2, .jsr 20]),
  (20, [.putfield 752, .iload 2, .sipush (-1), .if_icmp .ne 32, .sipush (-1), .goto 34]),
  (32, [.sipush 8, .jsr 34]),
  (34, [.ireturn])]
def ex_b160 : List (Nat × List Instr) := [(0, [.iload 1, .tableswitch 212 0 7 #[48, 81, 106, 127, 152, 164, 186, 206]]),
  (48, [.aload 0, .iload 2, .sipush 119, .if_icmp .ne 59, .sipush 0, .goto 60]),
  (59, [.sipush 1, .jsr 60]),
  (60, [.putfield 748, .iload 2, .sipush 119, .if_icmp .eq 75, .iload 2, .sipush 101, .if_icmp .ne 79, .jsr 75]),
  (75, [.sipush 1, .goto 80]),
  (79, [.sipush (-1), .jsr 80]),
  (80, [.ireturn]),
  (81, [.aload 0, .iload 2, .sipush 97, .isub, .putfield 749, .iload 2, .sipush 97, .sipush 102, .invokestatic 1187, .ifCond .eq 104, .sipush 2, .goto 105]),
  (104, [.sipush (-1), .jsr 105]),
  (105, [.ireturn]),
  (106, [.aload 0, .iload 2, .sipush 48, .isub, .putfield 750, .iload 2, .invokestatic 1209, .ifCond .eq 125, .sipush 3, .goto 126]),
  (125, [.sipush (-1), .jsr 126]),
  (126, [.ireturn]),
  (127, [.aload 0, .sipush 0, .iload 2, .invokevirtual 1258, .ifCond .eq 140, .sipush 4, .goto 151]),
  (140, [.iload 2, .sipush 45, .if_icmp .ne 150, .sipush 5, .goto 151]),
  (150, [.sipush (-1), .jsr 151]),
  (151, [.ireturn]),
  (152, [.iload 2, .sipush 45, .if_icmp .ne 162, .sipush 5, .goto 163]),
  (162, [.sipush (-1), .jsr 163]),
  (163, [.ireturn]),
  (164, [.aload 0, .iload 2, .sipush 48, .isub, .putfield 751, .iload 2, .invokestatic 1209, .ifCond .eq 184, .sipush 6, .goto 185]),
  (184, [.sipush (-1), .jsr 185]),
  (185, [.ireturn]),
  (186, [.aload 0, .sipush 1, .iload 2, .invokevirtual 1258, .ifCond .eq 200, .sipush 7, .goto 205]),
  (200, [.aload 0, .iload 2, .invokevirtual 1273, .jsr 205]),
  (205, [.ireturn]),
  (206, [.aload 0, .iload 2, .invokevirtual 1273, .ireturn]),
  (212, [.sipush (-1), .ireturn])]
def ex_b161 : List (Nat × List Instr) := [(0, [.aload 0, .sipush 0, .putfield 752, .sipush 0, .istore 1, .sipush 0, .istore 2, .sipush 1, .istore 3, .jsr 11]),
  (11, [.iload 2, .aload 0, .getfield 728, .if_icmp .ge 74, .iload 3, .ifCond .eq 74, .aload 0, .iload 1, .aload 0, .getfield 729, .iload 2, .baload, .invokevirtual 1282, .istore 4, .iload 4, .sipush (-1), .if_icmp .eq 46, .sipush 1, .goto 47]),
  (46, [.sipush 0, .jsr 47]),
  (47, [.istore 3, .iload 3, .ifCond .eq 57, .iload 4, .goto 58]),
  (57, [.iload 1, .jsr 58]),
  (58, [.istore 1, .iload 2, .iload 3, .ifCond .eq 68, .sipush 1, .goto 69]),
  (68, [.sipush 0, .jsr 69]),
  (69, [.iadd, .istore 2, .goto 11]),
  (74, [.aload 0, .iload 2, .putfield 740, .aload 0, .iload 2, .aload 0, .getfield 728, .if_icmp .ne 97, .iload 1, .sipush 5, .if_icmp .le 97, .sipush 1, .goto 98]),
  (97, [.sipush 0, .jsr 98]),
  (98, [.putfield 741, .return_])]
def ex_b162 : List (Nat × List Instr) := [(0, [.iload 1, .sipush 0, .sipush 1, .invokestatic 1187, .ifCond .ne 12, .sipush (-102), .ireturn]),
  (12, [.iload 1, .ifCond .ne 23, .aload 0, .invokevirtual 1232, .goto 27]),
  (23, [.aload 0, .invokevirtual 1288, .jsr 27]),
  (27, [.aload 0, .getfield 740, .ireturn])]
def ex_b163 : List (Nat × List Instr) := [(0, [.aload 0, .invokevirtual 1232, .aload 0, .getfield 741, .ifCond .ne 14, .sipush (-103), .ireturn]),
  (14, [.aload 0, .aload 0, .getfield 742, .sipush 1, .iadd, .putfield 704, .aload 0, .aload 0, .getfield 743, .putfield 705, .sipush 0, .istore 1, .jsr 34]),
  (34, [.iload 1, .aload 0, .getfield 704, .aload 0, .getfield 705, .imul, .if_icmp .ge 65, .aload 0, .getfield 707, .iload 1, .aload 0, .getfield 746, .iload 1, .iaload, .iastore, .iinc 1 1, .goto 34]),
  (65, [.sipush 0, .istore 1, .jsr 67]),
  (67, [.iload 1, .aload 0, .getfield 704, .if_icmp .ge 93, .aload 0, .getfield 708, .iload 1, .aload 0, .getfield 747, .iload 1, .iaload, .iastore, .iinc 1 1, .goto 67]),
  (93, [.aload 0, .dup, .getfield 706, .sipush 1, .iadd, .putfield 706, .aload 0, .sipush 0, .putfield 717, .aload 0, .sipush 0, .putfield 715, .aload 0, .sipush 0, .putfield 721, .aload 0, .sipush 0, .putfield 724, .aload 0, .sipush 0, .putfield 753, .aload 0, .sipush 0, .putfield 728, .aload 0, .getfield 704, .aload 0, .getfield 705, .imul, .ireturn])]
def ex_b164 : List (Nat × List Instr) := [(0, [.aload 0, .invokevirtual 1288, .aload 0, .getfield 741, .ifCond .ne 14, .sipush (-103), .ireturn]),
  (14, [.aload 0, .getfield 709, .sipush 8, .if_icmp .ne 26, .sipush (-104), .ireturn]),
  (26, [.aload 0, .getfield 710, .aload 0, .getfield 709, .aload 0, .getfield 748, .iastore, .aload 0, .getfield 711, .aload 0, .getfield 709, .aload 0, .getfield 749, .iastore, .aload 0, .getfield 712, .aload 0, .getfield 709, .aload 0, .getfield 750, .iastore, .aload 0, .getfield 713, .aload 0, .getfield 709, .aload 0, .getfield 751, .iastore, .aload 0, .getfield 714, .aload 0, .getfield 709, .aload 0, .getfield 752, .iastore, .aload 0, .dup, .getfield 709, .sipush 1, .iadd, .putfield 709, .aload 0, .sipush 0, .putfield 728, .aload 0, .getfield 709, .sipush 1, .isub, .ireturn])]
def ex_b165 : List (Nat × List Instr) := [(0, [.iload 2, .tableswitch 60 0 3 #[32, 39, 46, 53]]),
  (32, [.aload 0, .getfield 710, .iload 1, .iaload, .ireturn]),
  (39, [.aload 0, .getfield 711, .iload 1, .iaload, .ireturn]),
  (46, [.aload 0, .getfield 712, .iload 1, .iaload, .ireturn]),
  (53, [.aload 0, .getfield 713, .iload 1, .iaload, .ireturn]),
  (60, [.aload 0, .getfield 714, .iload 1, .iaload, .ireturn])]
def ex_b166 : List (Nat × List Instr) := [(0, [.iload 1, .sipush 0, .aload 0, .getfield 709, .sipush 1, .isub, .invokestatic 1187, .areturn])]
def ex_b167 : List (Nat × List Instr) := [(0, [.aload 0, .iload 1, .invokevirtual 1329, .ifCond .ne 13, .sipush (-101), .goto 33]),
  (13, [.iload 2, .sipush 0, .sipush 4, .invokestatic 1187, .ifCond .eq 31, .aload 0, .iload 1, .iload 2, .invokevirtual 1322, .goto 33]),
  (31, [.sipush (-102), .jsr 33]),
  (33, [.ireturn])]
def ex_b168 : List (Nat × List Instr) := [(0, [.aload 0, .iload 1, .invokevirtual 1329, .ifCond .ne 11, .sipush (-101), .ireturn]),
  (11, [.iload 2, .sipush 0, .sipush 4, .invokestatic 1187, .ifCond .ne 23, .sipush (-102), .ireturn]),
  (23, [.aload 0, .getfield 714, .iload 1, .iaload, .istore 3, .iload 2, .ifCond .eq 49, .iload 3, .iload 2, .if_icmp .eq 49, .iload 2, .sipush 1, .if_icmp .ne 53, .iload 3, .sipush 3, .if_icmp .ne 53, .jsr 49]),
  (49, [.iload 1, .goto 54]),
  (53, [.sipush (-1), .jsr 54]),
  (54, [.ireturn])]
def ex_b169 : List (Nat × List Instr) := [(0, [.aload 0, .getfield 704, .aload 0, .getfield 705, .imul, .ireturn])]
def ex_b170 : List (Nat × List Instr) := [(0, [.iload 1, .sipush 0, .aload 0, .invokevirtual 1352, .sipush 1, .isub, .invokestatic 1187, .areturn])]
def ex_b171 : List (Nat × List Instr) := [(0, [.aload 0, .iload 1, .invokevirtual 1361, .ifCond .eq 22, .aload 0, .getfield 707, .iload 1, .iaload, .sipush 1, .if_icmp .eq 22, .sipush 1, .goto 23]),
  (22, [.sipush 0, .jsr 23]),
  (23, [.areturn])]
def ex_b172 : List (Nat × List Instr) := [(0, [.aload 0, .getfield 708, .iload 1, .aload 0, .getfield 705, .idiv, .iaload, .aload 0, .getfield 753, .iadd, .istore 2, .iload 2, .ifCond .ge 25, .sipush 0, .goto 41]),
  (25, [.iload 2, .aload 0, .getfield 705, .if_icmp .le 40, .aload 0, .getfield 705, .goto 41]),
  (40, [.iload 2, .jsr 41]),
  (41, [.istore 2, .iload 1, .aload 0, .getfield 705, .irem, .iload 2, .if_icmp .ge 56, .sipush 0, .goto 57]),
  (56, [.sipush 1, .jsr 57]),
  (57, [.ireturn])]
def ex_b173 : List (Nat × List Instr) := [(0, [.iload 1, .aload 0, .getfield 705, .idiv, .iload 2, .ifCond .ne 14, .sipush (-1), .goto 24]),
  (14, [.iload 2, .sipush 2, .if_icmp .ne 23, .sipush 1, .goto 24]),
  (23, [.sipush 0, .jsr 24]),
  (24, [.iadd, .istore 3, .iload 1, .aload 0, .getfield 705, .irem, .iload 2, .sipush 1, .if_icmp .ne 41, .sipush 1, .goto 51]),
  (41, [.iload 2, .sipush 3, .if_icmp .ne 50, .sipush (-1), .goto 51]),
  (50, [.sipush 0, .jsr 51]),
  (51, [.iadd, .istore 4, .iload 3, .sipush 0, .aload 0, .getfield 704, .sipush 1, .isub, .invokestatic 1187, .ifCond .eq 95, .iload 4, .sipush 0, .aload 0, .getfield 705, .sipush 1, .isub, .invokestatic 1187, .ifCond .eq 95, .iload 3, .aload 0, .getfield 705, .imul, .iload 4, .iadd, .goto 96]),
  (95, [.sipush (-1), .jsr 96]),
  (96, [.ireturn])]
def ex_b174 : List (Nat × List Instr) := [(0, [.aload 0, .iload 1, .iload 2, .invokevirtual 1386, .istore 3, .iload 3, .sipush (-1), .if_icmp .eq 22, .aload 0, .getfield 707, .iload 3, .iaload, .sipush 1, .if_icmp .ne 26, .jsr 22]),
  (22, [.iload 1, .goto 27]),
  (26, [.iload 3, .jsr 27]),
  (27, [.ireturn])]
def ex_b175 : List (Nat × List Instr) := [(0, [.aload 0, .getfield 718, .iload 1, .iaload, .sipush 1, .if_icmp .ne 29, .aload 0, .aload 0, .getfield 719, .iload 1, .iaload, .aload 0, .getfield 720, .iload 1, .iaload, .invokevirtual 1394, .goto 35]),
  (29, [.aload 0, .getfield 719, .iload 1, .iaload, .jsr 35]),
  (35, [.ireturn])]
def ex_b176 : List (Nat × List Instr) := [(0, [.sipush 0, .istore 2, .jsr 2]),
  (2, [.iload 2, .aload 0, .getfield 717, .if_icmp .ge 37, .aload 0, .getfield 719, .iload 2, .iaload, .iload 1, .if_icmp .eq 29, .aload 0, .iload 2, .invokevirtual 1401, .iload 1, .if_icmp .ne 31, .jsr 29]),
  (29, [.iload 2, .ireturn]),
  (31, [.iinc 2 1, .goto 2]),
  (37, [.sipush (-1), .ireturn])]
def ex_b177 : List (Nat × List Instr) := [(0, [.sipush 0, .istore 3, .jsr 2]),
  (2, [.iload 3, .sipush 24, .if_icmp .ge 22, .aload 0, .getfield 754, .iload 3, .sipush 268435456, .iastore, .iinc 3 1, .goto 2]),
  (22, [.aload 0, .getfield 754, .iload 1, .sipush 0, .iastore, .aload 0, .getfield 755, .sipush 0, .iload 1, .iastore, .sipush 1, .istore 3, .sipush 0, .istore 4, .jsr 41]),
  (41, [.iload 4, .iload 3, .if_icmp .ge 175, .aload 0, .getfield 755, .iload 4, .iaload, .istore 5, .iload 2, .ifCond .eq 76, .iload 5, .iload 1, .if_icmp .eq 76, .aload 0, .iload 5, .invokevirtual 1409, .sipush (-1), .if_icmp .ne 80, .jsr 76]),
  (76, [.sipush 1, .goto 81]),
  (80, [.sipush 0, .jsr 81]),
  (81, [.istore 6, .sipush 0, .istore 7, .jsr 86]),
  (86, [.iload 7, .sipush 4, .if_icmp .ge 169, .iload 6, .ifCond .eq 169, .aload 0, .iload 5, .iload 7, .invokevirtual 1386, .istore 8, .iload 8, .sipush (-1), .if_icmp .eq 163, .aload 0, .getfield 707, .iload 8, .iaload, .sipush 1, .if_icmp .eq 163, .aload 0, .getfield 754, .iload 8, .iaload, .sipush 268435456, .if_icmp .ne 163, .aload 0, .getfield 754, .iload 8, .aload 0, .getfield 754, .iload 5, .iaload, .sipush 1, .iadd, .iastore, .aload 0, .getfield 755, .iload 3, .iload 8, .iastore, .iinc 3 1, .jsr 163]),
  (163, [.iinc 7 1, .goto 86]),
  (169, [.iinc 4 1, .goto 41]),
  (175, [.return_])]
def ex_b178 : List (Nat × List Instr) := [(0, [.sipush (-1), .istore 2, .aload 0, .getfield 707, .iload 1, .iaload, .sipush 1, .if_icmp .ne 14, .sipush (-1), .ireturn]),
  (14, [.aload 0, .iload 1, .sipush 0, .invokevirtual 1418, .sipush 0, .istore 3, .jsr 22]),
  (22, [.iload 3, .aload 0, .invokevirtual 1352, .if_icmp .ge 79, .aload 0, .getfield 707, .iload 3, .iaload, .sipush 2, .if_icmp .ne 73, .aload 0, .getfield 754, .iload 3, .iaload, .sipush 268435456, .if_icmp .ge 73, .iload 2, .sipush (-1), .if_icmp .eq 71, .aload 0, .getfield 754, .iload 3, .iaload, .aload 0, .getfield 754, .iload 2, .iaload, .if_icmp .ge 73, .jsr 71]),
  (71, [.iload 3, .istore 2, .jsr 73]),
  (73, [.iinc 3 1, .goto 22]),
  (79, [.iload 2, .ireturn])]
def ex_b179 : List (Nat × List Instr) := [(0, [.iload 2, .tableswitch 47 0 2 #[28, 35, 41]]),
  (28, [.aload 0, .getfield 707, .iload 1, .iaload, .ireturn]),
  (35, [.aload 0, .iload 1, .invokevirtual 1377, .ireturn]),
  (41, [.aload 0, .iload 1, .invokevirtual 1409, .ireturn]),
  (47, [.aload 0, .iload 1, .invokevirtual 1425, .ireturn])]
def ex_b180 : List (Nat × List Instr) := [(0, [.aload 0, .iload 1, .invokevirtual 1361, .ifCond .ne 13, .sipush (-101), .goto 33]),
  (13, [.iload 2, .sipush 0, .sipush 3, .invokestatic 1187, .ifCond .eq 31, .aload 0, .iload 1, .iload 2, .invokevirtual 1434, .goto 33]),
  (31, [.sipush (-102), .jsr 33]),
  (33, [.ireturn])]
def ex_b181 : List (Nat × List Instr) := [(0, [.iload 4, .sipush 1, .if_icmp .ne 10, .iload 1, .ifCond .eq 32, .jsr 10]),
  (10, [.iload 4, .sipush 1, .if_icmp .le 21, .iload 1, .sipush 1, .if_icmp .eq 32, .jsr 21]),
  (21, [.iload 4, .sipush 3, .if_icmp .ne 36, .iload 1, .sipush 2, .if_icmp .ne 36, .jsr 32]),
  (32, [.sipush 1, .goto 37]),
  (36, [.sipush 0, .jsr 37]),
  (37, [.istore 5, .iload 5, .ifCond .eq 53, .aload 0, .iload 2, .iload 3, .invokevirtual 1394, .goto 54]),
  (53, [.iload 2, .jsr 54]),
  (54, [.ireturn])]
def ex_b182 : List (Nat × List Instr) := [(0, [.iload 0, .sipush 0, .sipush 2, .invokestatic 1187, .ifCond .eq 22, .iload 1, .sipush 0, .sipush 3, .invokestatic 1187, .ifCond .eq 22, .sipush 1, .goto 23]),
  (22, [.sipush 0, .jsr 23]),
  (23, [.areturn])]
def ex_b183 : List (Nat × List Instr) := [(0, [.aload 0, .iload 2, .invokevirtual 1369, .ifCond .ne 11, .sipush (-101), .ireturn]),
  (11, [.iload 1, .iload 3, .invokestatic 1458, .ifCond .eq 41, .iload 4, .sipush 0, .sipush 3, .invokestatic 1187, .ifCond .eq 41, .aload 0, .iload 1, .iload 2, .iload 3, .iload 4, .invokevirtual 1452, .goto 43]),
  (41, [.sipush (-102), .jsr 43]),
  (43, [.ireturn])]
def ex_b184 : List (Nat × List Instr) := [(0, [.aload 0, .getfield 712, .iload 1, .iaload, .aload 0, .getfield 713, .iload 1, .iaload, .if_icmp .ne 17, .sipush 1, .areturn]),
  (17, [.iload 2, .aload 0, .getfield 712, .iload 1, .iaload, .if_icmp .lt 31, .sipush 1, .goto 32]),
  (31, [.sipush 0, .jsr 32]),
  (32, [.istore 3, .iload 2, .aload 0, .getfield 713, .iload 1, .iaload, .if_icmp .ge 47, .sipush 1, .goto 48]),
  (47, [.sipush 0, .jsr 48]),
  (48, [.istore 4, .aload 0, .getfield 712, .iload 1, .iaload, .aload 0, .getfield 713, .iload 1, .iaload, .if_icmp .ge 82, .iload 3, .ifCond .eq 78, .iload 4, .ifCond .eq 78, .sipush 1, .goto 96]),
  (78, [.sipush 0, .goto 96]),
  (82, [.iload 3, .ifCond .ne 91, .iload 4, .ifCond .eq 95, .jsr 91]),
  (91, [.sipush 1, .goto 96]),
  (95, [.sipush 0, .jsr 96]),
  (96, [.areturn])]
def ex_b185 : List (Nat × List Instr) := [(0, [.aload 0, .getfield 710, .iload 1, .iaload, .istore 5, .aload 0, .getfield 714, .iload 1, .iaload, .tableswitch 170 1 4 #[44, 60, 84, 136]]),
  (44, [.aload 0, .iload 3, .invokevirtual 1377, .iload 5, .if_icmp .ne 58, .sipush 1, .goto 59]),
  (58, [.sipush 0, .jsr 59]),
  (59, [.areturn]),
  (60, [.aload 0, .aload 0, .iload 2, .iload 3, .iload 4, .sipush 1, .invokevirtual 1452, .invokevirtual 1377, .iload 5, .if_icmp .ne 82, .sipush 1, .goto 83]),
  (82, [.sipush 0, .jsr 83]),
  (83, [.areturn]),
  (84, [.aload 0, .iload 3, .invokevirtual 1377, .iload 5, .if_icmp .ne 134, .aload 0, .aload 0, .iload 2, .iload 3, .iload 4, .sipush 2, .invokevirtual 1452, .invokevirtual 1377, .iload 5, .if_icmp .ne 134, .aload 0, .aload 0, .iload 2, .iload 3, .iload 4, .sipush 3, .invokevirtual 1452, .invokevirtual 1377, .iload 5, .if_icmp .ne 134, .sipush 1, .goto 135]),
  (134, [.sipush 0, .jsr 135]),
  (135, [.areturn]),
  (136, [.aload 0, .iload 3, .invokevirtual 1425, .istore 6, .aload 0, .iload 6, .sipush (-1), .if_icmp .ne 154, .iload 3, .goto 156]),
  (154, [.iload 6, .jsr 156]),
  (156, [.invokevirtual 1377, .iload 5, .if_icmp .ne 168, .sipush 1, .goto 169]),
  (168, [.sipush 0, .jsr 169]),
  (169, [.areturn]),
  (170, [.sipush 1, .areturn])]
def ex_b186 : List (Nat × List Instr) := [(0, [.sipush 0, .istore 6, .sipush 0, .istore 7, .jsr 6]),
  (6, [.iload 7, .aload 0, .getfield 709, .if_icmp .ge 81, .aload 0, .getfield 711, .iload 7, .iaload, .iload 1, .if_icmp .ne 54, .aload 0, .iload 7, .iload 2, .invokevirtual 1474, .ifCond .eq 54, .aload 0, .iload 7, .iload 3, .iload 4, .iload 5, .invokevirtual 1484, .ifCond .eq 54, .sipush 1, .goto 55]),
  (54, [.sipush 0, .jsr 55]),
  (55, [.istore 8, .iload 6, .iload 8, .ifCond .eq 71, .sipush 1, .iload 7, .ishl, .goto 72]),
  (71, [.sipush 0, .jsr 72]),
  (72, [.ior, .istore 6, .iinc 7 1, .goto 6]),
  (81, [.iload 6, .ireturn])]
def ex_b187 : List (Nat × List Instr) := [(0, [.iload 0, .sipush 0, .sipush 5, .invokestatic 1187, .ifCond .eq 23, .iload 1, .sipush 0, .sipush 23, .invokestatic 1187, .ifCond .eq 23, .sipush 1, .goto 24]),
  (23, [.sipush 0, .jsr 24]),
  (24, [.areturn])]
def ex_b188 : List (Nat × List Instr) := [(0, [.aload 0, .iload 4, .invokevirtual 1369, .ifCond .ne 12, .sipush (-101), .ireturn]),
  (12, [.iload 1, .iload 2, .invokestatic 1498, .ifCond .eq 43, .iload 3, .iload 5, .invokestatic 1458, .ifCond .eq 43, .aload 0, .iload 1, .iload 2, .iload 3, .iload 4, .iload 5, .invokevirtual 1493, .goto 45]),
  (43, [.sipush (-102), .jsr 45]),
  (45, [.ireturn])]
def ex_b189 : List (Nat × List Instr) := [(0, [.aload 0, .iload 4, .invokevirtual 1369, .ifCond .ne 12, .sipush (-101), .ireturn]),
  (12, [.iload 2, .iload 1, .invokestatic 1498, .ifCond .eq 29, .iload 3, .iload 5, .invokestatic 1458, .ifCond .ne 32, .jsr 29]),
  (29, [.sipush (-102), .ireturn]),
  (32, [.aload 0, .getfield 715, .sipush 12, .if_icmp .ne 44, .sipush (-104), .ireturn]),
  (44, [.aload 0, .getfield 716, .sipush 5, .aload 0, .getfield 715, .imul, .iload 1, .iastore, .aload 0, .getfield 716, .sipush 5, .aload 0, .getfield 715, .imul, .sipush 1, .iadd, .iload 2, .iastore, .aload 0, .getfield 716, .sipush 5, .aload 0, .getfield 715, .imul, .sipush 2, .iadd, .iload 3, .iastore, .aload 0, .getfield 716, .sipush 5, .aload 0, .getfield 715, .imul, .sipush 3, .iadd, .iload 4, .iastore, .aload 0, .getfield 716, .sipush 5, .aload 0, .getfield 715, .imul, .sipush 4, .iadd, .iload 5, .iastore, .aload 0, .dup, .getfield 715, .sipush 1, .iadd, .putfield 715, .aload 0, .getfield 715, .sipush 1, .isub, .ireturn])]
def ex_b190 : List (Nat × List Instr) := [(0, [.aload 0, .aload 0, .getfield 716, .sipush 5, .iload 1, .imul, .sipush 1, .iadd, .iaload, .aload 0, .getfield 716, .sipush 5, .iload 1, .imul, .iaload, .aload 0, .getfield 716, .sipush 5, .iload 1, .imul, .sipush 2, .iadd, .iaload, .aload 0, .getfield 716, .sipush 5, .iload 1, .imul, .sipush 3, .iadd, .iaload, .aload 0, .getfield 716, .sipush 5, .iload 1, .imul, .sipush 4, .iadd, .iaload, .invokevirtual 1493, .ireturn])]
def ex_b191 : List (Nat × List Instr) := [(0, [.sipush 0, .istore 1, .jsr 2]),
  (2, [.iload 0, .iload 1, .ishr, .sipush 1, .iand, .ifCond .ne 16, .iinc 1 1, .goto 2]),
  (16, [.iload 1, .ireturn])]
def ex_b192 : List (Nat × List Instr) := [(0, [.iload 1, .sipush 0, .sipush 1, .invokestatic 1187, .ifCond .ne 12, .sipush (-102), .ireturn]),
  (12, [.sipush (-1), .istore 2, .sipush 0, .istore 3, .jsr 16]),
  (16, [.iload 3, .aload 0, .getfield 715, .if_icmp .ge 64, .aload 0, .iload 3, .invokevirtual 1521, .ifCond .eq 58, .iload 2, .sipush (-1), .if_icmp .eq 56, .aload 0, .getfield 716, .sipush 5, .iload 3, .imul, .iaload, .aload 0, .getfield 716, .sipush 5, .iload 2, .imul, .iaload, .if_icmp .ge 58, .jsr 56]),
  (56, [.iload 3, .istore 2, .jsr 58]),
  (58, [.iinc 3 1, .goto 16]),
  (64, [.iload 2, .sipush (-1), .if_icmp .eq 73, .iload 1, .ifCond .ne 77, .jsr 73]),
  (73, [.iload 2, .goto 85]),
  (77, [.aload 0, .iload 2, .invokevirtual 1521, .invokestatic 1529, .jsr 85]),
  (85, [.ireturn])]
def ex_b193 : List (Nat × List Instr) := [(0, [.aload 0, .getfield 706, .ifCond .ne 10, .sipush (-103), .ireturn]),
  (10, [.iload 1, .iload 2, .invokestatic 1498, .ifCond .eq 36, .iload 3, .sipush 0, .invokestatic 1458, .ifCond .eq 36, .iload 4, .sipush 0, .sipush 2, .invokestatic 1187, .ifCond .ne 39, .jsr 36]),
  (36, [.sipush (-102), .ireturn]),
  (39, [.sipush 0, .istore 5, .sipush 0, .istore 6, .jsr 45]),
  (45, [.iload 6, .aload 0, .invokevirtual 1352, .if_icmp .ge 152, .aload 0, .getfield 707, .iload 6, .iaload, .sipush 1, .if_icmp .eq 146, .sipush 0, .istore 7, .sipush 0, .istore 8, .jsr 71]),
  (71, [.iload 8, .sipush 4, .if_icmp .ge 107, .iload 7, .aload 0, .iload 1, .iload 2, .iload 3, .iload 6, .iload 8, .invokevirtual 1493, .ifCond .ne 97, .sipush 0, .goto 98]),
  (97, [.sipush 1, .jsr 98]),
  (98, [.iadd, .istore 7, .iinc 8 1, .goto 71]),
  (107, [.iload 7, .ifCond .ne 116, .sipush 0, .goto 127]),
  (116, [.iload 7, .sipush 4, .if_icmp .ne 126, .sipush 2, .goto 127]),
  (126, [.sipush 1, .jsr 127]),
  (127, [.istore 8, .iload 5, .iload 8, .iload 4, .if_icmp .ne 142, .sipush 1, .goto 143]),
  (142, [.sipush 0, .jsr 143]),
  (143, [.iadd, .istore 5, .jsr 146]),
  (146, [.iinc 6 1, .goto 45]),
  (152, [.iload 5, .ireturn])]
def ex_b194 : List (Nat × List Instr) := [(0, [.aload 0, .iload 1, .invokevirtual 1361, .ifCond .eq 21, .aload 0, .getfield 707, .iload 1, .iaload, .ifCond .ne 21, .sipush 1, .goto 22]),
  (21, [.sipush 0, .jsr 22]),
  (22, [.areturn])]
def ex_b195 : List (Nat × List Instr) := [(0, [.iload 1, .sipush 1, .if_icmp .ne 14, .aload 0, .iload 2, .iload 3, .invokevirtual 1386, .goto 15]),
  (14, [.iload 2, .jsr 15]),
  (15, [.istore 4, .iload 4, .sipush (-1), .if_icmp .eq 46, .aload 0, .getfield 707, .iload 2, .iaload, .ifCond .ne 46, .aload 0, .getfield 707, .iload 4, .iaload, .ifCond .ne 46, .sipush 1, .goto 47]),
  (46, [.sipush 0, .jsr 47]),
  (47, [.areturn])]
def ex_b196 : List (Nat × List Instr) := [(0, [.aload 0, .iload 1, .invokevirtual 1401, .istore 3, .aload 0, .iload 2, .invokevirtual 1401, .istore 4, .aload 0, .getfield 719, .iload 1, .iaload, .aload 0, .getfield 719, .iload 2, .iaload, .if_icmp .eq 55, .aload 0, .getfield 719, .iload 1, .iaload, .iload 4, .if_icmp .eq 55, .iload 3, .aload 0, .getfield 719, .iload 2, .iaload, .if_icmp .eq 55, .iload 3, .iload 4, .if_icmp .ne 59, .jsr 55]),
  (55, [.sipush 1, .goto 60]),
  (59, [.sipush 0, .jsr 60]),
  (60, [.areturn])]
def ex_b197 : List (Nat × List Instr) := [(0, [.sipush 1, .istore 1, .sipush 0, .istore 2, .jsr 4]),
  (4, [.iload 2, .aload 0, .getfield 717, .if_icmp .ge 85, .iload 1, .ifCond .eq 45, .aload 0, .aload 0, .getfield 718, .iload 2, .iaload, .aload 0, .getfield 719, .iload 2, .iaload, .aload 0, .getfield 720, .iload 2, .iaload, .invokevirtual 1563, .ifCond .eq 45, .sipush 1, .goto 46]),
  (45, [.sipush 0, .jsr 46]),
  (46, [.istore 1, .sipush 0, .istore 3, .jsr 49]),
  (49, [.iload 3, .iload 2, .if_icmp .ge 79, .iload 1, .ifCond .eq 71, .aload 0, .iload 2, .iload 3, .invokevirtual 1570, .ifCond .ne 71, .sipush 1, .goto 72]),
  (71, [.sipush 0, .jsr 72]),
  (72, [.istore 1, .iinc 3 1, .goto 49]),
  (79, [.iinc 2 1, .goto 4]),
  (85, [.iload 1, .areturn])]
def ex_b198 : List (Nat × List Instr) := [(0, [.aload 0, .getfield 718, .iload 1, .iload 2, .iastore, .aload 0, .getfield 719, .iload 1, .iload 3, .iastore, .aload 0, .getfield 720, .iload 1, .iload 4, .iastore, .return_])]
def ex_b199 : List (Nat × List Instr) := [(0, [.iload 1, .sipush 0, .iload 0, .sipush 1, .if_icmp .ne 11, .sipush 3, .goto 12]),
  (11, [.sipush 0, .jsr 12]),
  (12, [.invokestatic 1187, .areturn])]
def ex_b200 : List (Nat × List Instr) := [(0, [.iload 1, .sipush 0, .sipush 3, .invokestatic 1187, .ifCond .ne 12, .sipush (-102), .ireturn]),
  (12, [.aload 0, .iload 2, .invokevirtual 1553, .ifCond .ne 23, .sipush (-101), .ireturn]),
  (23, [.iload 1, .iload 3, .invokestatic 1594, .ifCond .ne 34, .sipush (-102), .ireturn]),
  (34, [.aload 0, .getfield 717, .sipush 3, .if_icmp .ne 60, .aload 0, .iload 1, .iload 2, .iload 3, .invokevirtual 1611, .ifCond .eq 57, .sipush (-104), .goto 59]),
  (57, [.sipush (-103), .jsr 59]),
  (59, [.ireturn]),
  (60, [.aload 0, .aload 0, .getfield 717, .iload 1, .iload 2, .iload 3, .invokevirtual 1588, .aload 0, .dup, .getfield 717, .sipush 1, .iadd, .putfield 717, .aload 0, .invokevirtual 1576, .ifCond .ne 101, .aload 0, .dup, .getfield 717, .sipush 1, .isub, .putfield 717, .sipush (-103), .ireturn]),
  (101, [.aload 0, .getfield 717, .sipush 1, .isub, .ireturn])]
def ex_b201 : List (Nat × List Instr) := [(0, [.aload 0, .iload 1, .iload 2, .iload 3, .invokevirtual 1563, .ifCond .ne 12, .sipush 0, .areturn]),
  (12, [.iload 1, .sipush 1, .if_icmp .ne 26, .aload 0, .iload 2, .iload 3, .invokevirtual 1386, .goto 27]),
  (26, [.iload 2, .jsr 27]),
  (27, [.istore 4, .aload 0, .iload 2, .invokevirtual 1409, .sipush (-1), .if_icmp .ne 52, .aload 0, .iload 4, .invokevirtual 1409, .sipush (-1), .if_icmp .ne 52, .sipush 1, .goto 53]),
  (52, [.sipush 0, .jsr 53]),
  (53, [.areturn])]
def ex_b202 : List (Nat × List Instr) := [(0, [.iload 1, .sipush 0, .aload 0, .getfield 717, .sipush 1, .isub, .invokestatic 1187, .areturn])]
def ex_b203 : List (Nat × List Instr) := [(0, [.aload 0, .iload 1, .invokevirtual 1617, .ifCond .ne 11, .sipush (-101), .ireturn]),
  (11, [.iload 2, .sipush 0, .sipush 3, .invokestatic 1187, .ifCond .ne 23, .sipush (-102), .ireturn]),
  (23, [.aload 0, .getfield 718, .iload 1, .iaload, .istore 3, .iload 2, .ifCond .eq 49, .iload 3, .iload 2, .if_icmp .eq 49, .iload 2, .sipush 2, .if_icmp .ne 53, .iload 3, .sipush 3, .if_icmp .ne 53, .jsr 49]),
  (49, [.iload 1, .goto 54]),
  (53, [.sipush (-1), .jsr 54]),
  (54, [.ireturn])]
def ex_b204 : List (Nat × List Instr) := [(0, [.iload 2, .tableswitch 49 0 2 #[28, 35, 42]]),
  (28, [.aload 0, .getfield 718, .iload 1, .iaload, .ireturn]),
  (35, [.aload 0, .getfield 719, .iload 1, .iaload, .ireturn]),
  (42, [.aload 0, .getfield 720, .iload 1, .iaload, .ireturn]),
  (49, [.aload 0, .iload 1, .invokevirtual 1401, .ireturn])]
def ex_b205 : List (Nat × List Instr) := [(0, [.aload 0, .iload 1, .invokevirtual 1617, .ifCond .ne 13, .sipush (-101), .goto 33]),
  (13, [.iload 2, .sipush 0, .sipush 3, .invokestatic 1187, .ifCond .eq 31, .aload 0, .iload 1, .iload 2, .invokevirtual 1634, .goto 33]),
  (31, [.sipush (-102), .jsr 33]),
  (33, [.ireturn])]
def ex_b206 : List (Nat × List Instr) := [(0, [.aload 0, .iload 1, .invokevirtual 1617, .ifCond .eq 16, .aload 0, .iload 2, .invokevirtual 1553, .ifCond .ne 19, .jsr 16]),
  (16, [.sipush (-101), .ireturn]),
  (19, [.aload 0, .getfield 718, .iload 1, .iaload, .iload 3, .invokestatic 1594, .ifCond .ne 35, .sipush (-102), .ireturn]),
  (35, [.aload 0, .getfield 719, .iload 1, .iaload, .istore 4, .aload 0, .getfield 720, .iload 1, .iaload, .istore 5, .aload 0, .iload 1, .aload 0, .getfield 718, .iload 1, .iaload, .iload 2, .iload 3, .invokevirtual 1588, .aload 0, .invokevirtual 1576, .ifCond .ne 89, .aload 0, .iload 1, .aload 0, .getfield 718, .iload 1, .iaload, .iload 4, .iload 5, .invokevirtual 1588, .sipush (-103), .ireturn]),
  (89, [.sipush 4, .iload 4, .imul, .iload 5, .iadd, .ireturn])]
def ex_b207 : List (Nat × List Instr) := [(0, [.iload 1, .iload 2, .invokestatic 1498, .ifCond .ne 11, .sipush (-102), .ireturn]),
  (11, [.aload 0, .getfield 721, .sipush 6, .if_icmp .ne 23, .sipush (-104), .ireturn]),
  (23, [.aload 0, .getfield 722, .aload 0, .getfield 721, .iload 1, .iastore, .aload 0, .getfield 723, .aload 0, .getfield 721, .iload 2, .iastore, .aload 0, .dup, .getfield 721, .sipush 1, .iadd, .putfield 721, .aload 0, .getfield 721, .sipush 1, .isub, .ireturn])]
def ex_b208 : List (Nat × List Instr) := [(0, [.sipush 0, .istore 3, .sipush 0, .istore 4, .jsr 5]),
  (5, [.iload 4, .aload 0, .getfield 717, .if_icmp .ge 65, .iload 3, .ifCond .ne 53, .aload 0, .getfield 718, .iload 4, .iaload, .sipush 1, .if_icmp .ne 57, .aload 0, .iload 1, .iload 2, .sipush 1, .aload 0, .getfield 719, .iload 4, .iaload, .aload 0, .getfield 720, .iload 4, .iaload, .invokevirtual 1493, .ifCond .ne 57, .jsr 53]),
  (53, [.sipush 1, .goto 58]),
  (57, [.sipush 0, .jsr 58]),
  (58, [.istore 3, .iinc 4 1, .goto 5]),
  (65, [.iload 3, .areturn])]
def ex_b209 : List (Nat × List Instr) := [(0, [.sipush 0, .istore 3, .sipush 0, .istore 4, .jsr 5]),
  (5, [.iload 4, .aload 0, .invokevirtual 1352, .if_icmp .ge 153, .aload 0, .getfield 707, .iload 4, .iaload, .sipush 1, .if_icmp .eq 147, .aload 0, .iload 4, .invokevirtual 1409, .sipush (-1), .if_icmp .ne 147, .sipush 0, .istore 5, .jsr 38]),
  (38, [.iload 5, .sipush 4, .if_icmp .ge 147, .iload 3, .ifCond .ne 147, .aload 0, .iload 4, .iload 5, .invokevirtual 1386, .istore 6, .iload 6, .sipush (-1), .if_icmp .ne 68, .sipush (-1), .goto 74]),
  (68, [.aload 0, .iload 6, .invokevirtual 1409, .jsr 74]),
  (74, [.istore 7, .iload 7, .sipush (-1), .if_icmp .eq 113, .aload 0, .getfield 718, .iload 7, .iaload, .sipush 3, .if_icmp .eq 109, .iload 1, .sipush 1, .if_icmp .ne 113, .aload 0, .getfield 718, .iload 7, .iaload, .sipush 2, .if_icmp .ne 113, .jsr 109]),
  (109, [.sipush 1, .goto 114]),
  (113, [.sipush 0, .jsr 114]),
  (114, [.istore 8, .iload 8, .ifCond .eq 139, .aload 0, .iload 1, .iload 2, .sipush 0, .iload 4, .iload 5, .invokevirtual 1493, .ifCond .ne 139, .sipush 1, .goto 140]),
  (139, [.sipush 0, .jsr 140]),
  (140, [.istore 3, .iinc 5 1, .goto 38]),
  (147, [.iinc 4 1, .goto 5]),
  (153, [.iload 3, .areturn])]
def ex_b210 : List (Nat × List Instr) := [(0, [.sipush 0, .istore 3, .sipush 0, .istore 4, .jsr 5]),
  (5, [.iload 4, .aload 0, .invokevirtual 1352, .if_icmp .ge 89, .aload 0, .getfield 707, .iload 4, .iaload, .sipush 1, .if_icmp .eq 83, .aload 0, .iload 4, .invokevirtual 1409, .sipush (-1), .if_icmp .ne 83, .sipush 0, .istore 5, .jsr 38]),
  (38, [.iload 5, .sipush 4, .if_icmp .ge 83, .iload 3, .ifCond .ne 83, .aload 0, .iload 1, .iload 2, .iload 1, .sipush 4, .if_icmp .ne 60, .sipush 2, .goto 61]),
  (60, [.sipush 0, .jsr 61]),
  (61, [.iload 4, .iload 5, .invokevirtual 1493, .ifCond .ne 75, .sipush 1, .goto 76]),
  (75, [.sipush 0, .jsr 76]),
  (76, [.istore 3, .iinc 5 1, .goto 38]),
  (83, [.iinc 4 1, .goto 5]),
  (89, [.iload 3, .areturn])]
def ex_b211 : List (Nat × List Instr) := [(0, [.aload 0, .getfield 722, .iload 1, .iaload, .istore 2, .aload 0, .getfield 723, .iload 1, .iaload, .istore 3, .iload 2, .ifCond .ne 27, .aload 0, .iload 2, .iload 3, .invokevirtual 1666, .goto 47]),
  (27, [.iload 2, .sipush 3, .if_icmp .ge 41, .aload 0, .iload 2, .iload 3, .invokevirtual 1674, .goto 47]),
  (41, [.aload 0, .iload 2, .iload 3, .invokevirtual 1682, .jsr 47]),
  (47, [.areturn])]
def ex_b212 : List (Nat × List Instr) := [(0, [.sipush 0, .istore 1, .sipush 0, .istore 2, .jsr 4]),
  (4, [.iload 2, .aload 0, .getfield 721, .if_icmp .ge 43, .aload 0, .getfield 706, .ifCond .le 43, .iload 1, .aload 0, .iload 2, .invokevirtual 1689, .ifCond .eq 34, .sipush 1, .iload 2, .ishl, .goto 35]),
  (34, [.sipush 0, .jsr 35]),
  (35, [.ior, .istore 1, .iinc 2 1, .goto 4]),
  (43, [.iload 1, .ireturn])]
def ex_b213 : List (Nat × List Instr) := [(0, [.aload 0, .invokevirtual 1696, .ireturn])]
def ex_b214 : List (Nat × List Instr) := [(0, [.sipush 1, .istore 1, .sipush 0, .istore 2, .jsr 4]),
  (4, [.iload 2, .aload 0, .getfield 721, .if_icmp .ge 28, .iload 1, .ifCond .eq 28, .aload 0, .iload 2, .invokevirtual 1689, .istore 1, .iinc 2 1, .goto 4]),
  (28, [.iload 1, .areturn])]
def ex_b215 : List (Nat × List Instr) := [(0, [.aload 0, .getfield 718, .iload 1, .iaload, .iload 2, .sipush 4, .irem, .invokestatic 1594, .ifCond .eq 57, .iload 2, .sipush 4, .aload 0, .getfield 719, .iload 1, .iaload, .imul, .aload 0, .getfield 720, .iload 1, .iaload, .iadd, .if_icmp .eq 57, .aload 0, .aload 0, .getfield 718, .iload 1, .iaload, .iload 2, .sipush 4, .idiv, .iload 2, .sipush 4, .irem, .invokevirtual 1563, .ifCond .eq 57, .sipush 1, .goto 58]),
  (57, [.sipush 0, .jsr 58]),
  (58, [.areturn])]
def ex_b216 : List (Nat × List Instr) := [(0, [.sipush 0, .istore 1, .jsr 2]),
  (2, [.iload 1, .aload 0, .getfield 717, .if_icmp .ge 136, .sipush 4, .aload 0, .getfield 719, .iload 1, .iaload, .imul, .aload 0, .getfield 720, .iload 1, .iaload, .iadd, .istore 2, .sipush 0, .istore 3, .jsr 28]),
  (28, [.iload 3, .sipush 4, .aload 0, .invokevirtual 1352, .imul, .if_icmp .ge 130, .aload 0, .iload 1, .iload 3, .invokevirtual 1722, .ifCond .eq 124, .aload 0, .iload 1, .aload 0, .getfield 718, .iload 1, .iaload, .iload 3, .sipush 4, .idiv, .iload 3, .sipush 4, .irem, .invokevirtual 1588, .aload 0, .invokevirtual 1576, .ifCond .eq 82, .aload 0, .invokevirtual 1712, .ifCond .eq 82, .sipush 1, .goto 83]),
  (82, [.sipush 0, .jsr 83]),
  (83, [.istore 4, .aload 0, .iload 1, .aload 0, .getfield 718, .iload 1, .iaload, .iload 2, .sipush 4, .idiv, .iload 2, .sipush 4, .irem, .invokevirtual 1588, .iload 4, .ifCond .eq 124, .aload 0, .sipush 1, .putfield 756, .aload 0, .iload 1, .putfield 757, .aload 0, .iload 3, .putfield 758, .sipush 1, .areturn]),
  (124, [.iinc 3 1, .goto 28]),
  (130, [.iinc 1 1, .goto 2]),
  (136, [.sipush 0, .areturn])]
def ex_b217 : List (Nat × List Instr) := [(0, [.iload 1, .sipush 1, .iadd, .istore 2, .jsr 4]),
  (4, [.iload 2, .aload 0, .getfield 717, .if_icmp .ge 139, .sipush 4, .aload 0, .getfield 719, .iload 2, .iaload, .imul, .aload 0, .getfield 720, .iload 2, .iaload, .iadd, .istore 3, .sipush 0, .istore 4, .jsr 31]),
  (31, [.iload 4, .sipush 4, .aload 0, .invokevirtual 1352, .imul, .if_icmp .ge 133, .aload 0, .iload 2, .iload 4, .invokevirtual 1722, .ifCond .eq 127, .aload 0, .iload 2, .aload 0, .getfield 718, .iload 2, .iaload, .iload 4, .sipush 4, .idiv, .iload 4, .sipush 4, .irem, .invokevirtual 1588, .aload 0, .invokevirtual 1576, .ifCond .eq 89, .aload 0, .invokevirtual 1712, .ifCond .eq 89, .sipush 1, .goto 90]),
  (89, [.sipush 0, .jsr 90]),
  (90, [.istore 5, .aload 0, .iload 2, .aload 0, .getfield 718, .iload 2, .iaload, .iload 3, .sipush 4, .idiv, .iload 3, .sipush 4, .irem, .invokevirtual 1588, .iload 5, .ifCond .eq 127, .aload 0, .iload 2, .putfield 759, .aload 0, .iload 4, .putfield 760, .sipush 1, .areturn]),
  (127, [.iinc 4 1, .goto 31]),
  (133, [.iinc 2 1, .goto 4]),
  (139, [.sipush 0, .areturn])]
def ex_b218 : List (Nat × List Instr) := [(0, [.sipush 0, .istore 1, .jsr 2]),
  (2, [.iload 1, .aload 0, .getfield 717, .if_icmp .ge 122, .sipush 4, .aload 0, .getfield 719, .iload 1, .iaload, .imul, .aload 0, .getfield 720, .iload 1, .iaload, .iadd, .istore 2, .sipush 0, .istore 3, .jsr 28]),
  (28, [.iload 3, .sipush 4, .aload 0, .invokevirtual 1352, .imul, .if_icmp .ge 116, .aload 0, .iload 1, .iload 3, .invokevirtual 1722, .ifCond .eq 110, .aload 0, .iload 1, .aload 0, .getfield 718, .iload 1, .iaload, .iload 3, .sipush 4, .idiv, .iload 3, .sipush 4, .irem, .invokevirtual 1588, .aload 0, .iload 1, .invokevirtual 1737, .istore 4, .aload 0, .iload 1, .aload 0, .getfield 718, .iload 1, .iaload, .iload 2, .sipush 4, .idiv, .iload 2, .sipush 4, .irem, .invokevirtual 1588, .iload 4, .ifCond .eq 110, .aload 0, .sipush 2, .putfield 756, .aload 0, .iload 1, .putfield 757, .aload 0, .iload 3, .putfield 758, .sipush 1, .areturn]),
  (110, [.iinc 3 1, .goto 28]),
  (116, [.iinc 1 1, .goto 2]),
  (122, [.sipush 0, .areturn])]
def ex_b219 : List (Nat × List Instr) := [(0, [.aload 0, .sipush 0, .putfield 756, .aload 0, .sipush (-1), .putfield 757, .aload 0, .sipush (-1), .putfield 758, .aload 0, .sipush (-1), .putfield 759, .aload 0, .sipush (-1), .putfield 760, .aload 0, .invokevirtual 1712, .ifCond .ne 46, .aload 0, .invokevirtual 1728, .ifCond .ne 46, .aload 0, .invokevirtual 1744, .ifCond .eq 50, .jsr 46]),
  (46, [.sipush 1, .goto 51]),
  (50, [.sipush 0, .jsr 51]),
  (51, [.areturn])]
def ex_b220 : List (Nat × List Instr) := [(0, [.aload 0, .getfield 706, .ifCond .ne 10, .sipush (-103), .ireturn]),
  (10, [.iload 1, .sipush 0, .sipush 4, .invokestatic 1187, .ifCond .ne 22, .sipush (-102), .ireturn]),
  (22, [.aload 0, .getfield 727, .sipush 12, .if_icmp .ne 34, .sipush (-103), .ireturn]),
  (34, [.aload 0, .dup, .getfield 727, .sipush 1, .iadd, .putfield 727, .aload 0, .invokevirtual 1752, .istore 2, .iload 1, .tableswitch 108 0 3 #[80, 93, 98, 103]]),
  (80, [.iload 2, .ifCond .eq 91, .aload 0, .getfield 756, .goto 92]),
  (91, [.sipush (-1), .jsr 92]),
  (92, [.ireturn]),
  (93, [.aload 0, .getfield 757, .ireturn]),
  (98, [.aload 0, .getfield 758, .ireturn]),
  (103, [.aload 0, .getfield 759, .ireturn]),
  (108, [.aload 0, .getfield 760, .ireturn])]
def ex_b221 : List (Nat × List Instr) := [(0, [.aload 0, .iload 1, .invokevirtual 1369, .ifCond .eq 16, .aload 0, .iload 2, .invokevirtual 1369, .ifCond .ne 19, .jsr 16]),
  (16, [.sipush (-101), .ireturn]),
  (19, [.aload 0, .iload 1, .sipush 1, .invokevirtual 1418, .aload 0, .getfield 754, .iload 2, .iaload, .sipush 268435456, .if_icmp .ne 40, .sipush (-1), .goto 46]),
  (40, [.aload 0, .getfield 754, .iload 2, .iaload, .jsr 46]),
  (46, [.ireturn])]
def ex_b222 : List (Nat × List Instr) := [(0, [.aload 0, .iload 1, .invokevirtual 1369, .ifCond .eq 16, .aload 0, .iload 2, .invokevirtual 1369, .ifCond .ne 19, .jsr 16]),
  (16, [.sipush (-101), .ireturn]),
  (19, [.iload 3, .sipush 0, .sipush 9, .invokestatic 1187, .ifCond .ne 32, .sipush (-102), .ireturn]),
  (32, [.sipush 0, .istore 4, .jsr 35]),
  (35, [.iload 4, .sipush 24, .if_icmp .ge 67, .aload 0, .getfield 754, .iload 4, .iload 4, .iload 1, .if_icmp .ne 58, .sipush 0, .goto 60]),
  (58, [.sipush 268435456, .jsr 60]),
  (60, [.iastore, .iinc 4 1, .goto 35]),
  (67, [.sipush 1, .istore 4, .jsr 70]),
  (70, [.iload 4, .ifCond .eq 259, .sipush 0, .istore 4, .sipush 0, .istore 5, .jsr 81]),
  (81, [.iload 5, .aload 0, .invokevirtual 1352, .if_icmp .ge 256, .aload 0, .getfield 754, .iload 5, .iaload, .sipush 268435456, .if_icmp .ge 122, .iload 5, .iload 1, .if_icmp .eq 118, .aload 0, .iload 5, .invokevirtual 1409, .sipush (-1), .if_icmp .ne 122, .jsr 118]),
  (118, [.sipush 1, .goto 123]),
  (122, [.sipush 0, .jsr 123]),
  (123, [.istore 6, .sipush 0, .istore 7, .jsr 128]),
  (128, [.iload 7, .sipush 4, .if_icmp .ge 250, .iload 6, .ifCond .eq 250, .aload 0, .iload 5, .iload 7, .invokevirtual 1386, .istore 8, .iload 8, .sipush (-1), .if_icmp .eq 170, .aload 0, .getfield 707, .iload 8, .iaload, .sipush 1, .if_icmp .eq 170, .sipush 1, .goto 171]),
  (170, [.sipush 0, .jsr 171]),
  (171, [.istore 9, .iload 9, .ifCond .eq 211, .aload 0, .getfield 754, .iload 5, .iaload, .sipush 1, .iadd, .aload 0, .iload 5, .invokevirtual 1377, .aload 0, .iload 8, .invokevirtual 1377, .if_icmp .ne 206, .sipush 0, .goto 207]),
  (206, [.iload 3, .jsr 207]),
  (207, [.iadd, .goto 213]),
  (211, [.sipush 268435456, .jsr 213]),
  (213, [.istore 10, .iload 9, .ifCond .eq 244, .iload 10, .aload 0, .getfield 754, .iload 8, .iaload, .if_icmp .ge 244, .aload 0, .getfield 754, .iload 8, .iload 10, .iastore, .sipush 1, .istore 4, .jsr 244]),
  (244, [.iinc 7 1, .goto 128]),
  (250, [.iinc 5 1, .goto 81]),
  (256, [.goto 70]),
  (259, [.aload 0, .getfield 754, .iload 2, .iaload, .sipush 268435456, .if_icmp .ne 274, .sipush (-1), .goto 280]),
  (274, [.aload 0, .getfield 754, .iload 2, .iaload, .jsr 280]),
  (280, [.ireturn])]
def ex_b223 : List (Nat × List Instr) := [(0, [.aload 0, .iload 1, .invokevirtual 1617, .ifCond .ne 11, .sipush (-101), .ireturn]),
  (11, [.iload 2, .sipush 0, .sipush 3, .invokestatic 1187, .ifCond .ne 23, .sipush (-102), .ireturn]),
  (23, [.aload 0, .aload 0, .getfield 719, .iload 1, .iaload, .invokevirtual 1377, .istore 3, .aload 0, .aload 0, .iload 1, .invokevirtual 1401, .invokevirtual 1377, .istore 4, .aload 0, .aload 0, .getfield 719, .iload 1, .iaload, .invokevirtual 1425, .istore 5, .iload 2, .tableswitch 106 0 2 #[84, 86, 89]]),
  (84, [.iload 3, .ireturn]),
  (86, [.iload 4, .ireturn]),
  (89, [.iload 5, .sipush (-1), .if_icmp .ne 99, .iload 3, .goto 105]),
  (99, [.aload 0, .iload 5, .invokevirtual 1377, .jsr 105]),
  (105, [.ireturn]),
  (106, [.iload 3, .iload 4, .if_icmp .ne 116, .iload 3, .goto 117]),
  (116, [.sipush (-1), .jsr 117]),
  (117, [.ireturn])]
def ex_b224 : List (Nat × List Instr) := [(0, [.iload 1, .sipush 0, .sipush 999, .invokestatic 1187, .ifCond .eq 35, .iload 2, .sipush 0, .sipush 99, .invokestatic 1187, .ifCond .eq 35, .iload 3, .sipush 0, .sipush 10, .invokestatic 1187, .ifCond .eq 35, .sipush 1, .goto 36]),
  (35, [.sipush 0, .jsr 36]),
  (36, [.istore 6, .iload 6, .ifCond .eq 64, .iload 4, .sipush 0, .sipush 99, .invokestatic 1187, .ifCond .eq 64, .iload 5, .sipush 0, .sipush 1, .invokestatic 1187, .ifCond .ne 67, .jsr 64]),
  (64, [.sipush (-102), .ireturn]),
  (67, [.sipush 0, .istore 7, .sipush 268435456, .istore 8, .sipush 1, .istore 9, .jsr 77]),
  (77, [.iload 9, .sipush 21, .if_icmp .ge 160, .iload 1, .iload 2, .iload 9, .imul, .if_icmp .le 101, .iload 1, .iload 2, .iload 9, .imul, .isub, .goto 102]),
  (101, [.sipush 0, .jsr 102]),
  (102, [.istore 10, .iload 4, .iload 9, .imul, .iload 3, .iload 10, .imul, .sipush 9, .iadd, .sipush 10, .idiv, .iadd, .istore 11, .iload 11, .iload 8, .if_icmp .ge 134, .iload 9, .goto 136]),
  (134, [.iload 7, .jsr 136]),
  (136, [.istore 7, .iload 11, .iload 8, .if_icmp .ge 150, .iload 11, .goto 152]),
  (150, [.iload 8, .jsr 152]),
  (152, [.istore 8, .iinc 9 1, .goto 77]),
  (160, [.iload 5, .ifCond .ne 170, .iload 7, .goto 172]),
  (170, [.iload 8, .jsr 172]),
  (172, [.ireturn])]
def ex_b225 : List (Nat × List Instr) := [(0, [.aload 0, .getfield 706, .ifCond .ne 10, .sipush (-103), .ireturn]),
  (10, [.iload 1, .sipush (-3), .sipush 3, .invokestatic 1187, .ifCond .ne 23, .sipush (-102), .ireturn]),
  (23, [.aload 0, .iload 1, .putfield 753, .sipush 0, .istore 2, .sipush 0, .istore 3, .jsr 32]),
  (32, [.iload 3, .aload 0, .getfield 715, .if_icmp .ge 64, .iload 2, .aload 0, .iload 3, .invokevirtual 1521, .ifCond .ne 53, .sipush 0, .goto 56]),
  (53, [.sipush 1, .iload 3, .ishl, .jsr 56]),
  (56, [.ior, .istore 2, .iinc 3 1, .goto 32]),
  (64, [.aload 0, .sipush 0, .putfield 753, .iload 2, .ireturn])]
def ex_b226 : List (Nat × List Instr) := [(0, [.aload 0, .iload 1, .invokevirtual 1361, .ifCond .ne 11, .sipush (-101), .ireturn]),
  (11, [.iload 2, .sipush 0, .sipush 1, .invokestatic 1187, .ifCond .ne 23, .sipush (-102), .ireturn]),
  (23, [.aload 0, .getfield 724, .sipush 10, .if_icmp .ne 35, .sipush (-104), .ireturn]),
  (35, [.aload 0, .getfield 725, .aload 0, .getfield 724, .iload 1, .iastore, .aload 0, .getfield 726, .aload 0, .getfield 724, .iload 2, .iastore, .aload 0, .dup, .getfield 724, .sipush 1, .iadd, .putfield 724, .aload 0, .getfield 724, .ireturn])]
def ex_b227 : List (Nat × List Instr) := [(0, [.sipush 0, .istore 1, .sipush (-3), .istore 2, .jsr 5]),
  (5, [.iload 2, .sipush 4, .if_icmp .ge 88, .aload 0, .iload 2, .putfield 753, .sipush 1, .istore 3, .sipush 0, .istore 4, .jsr 20]),
  (20, [.iload 4, .aload 0, .getfield 724, .if_icmp .ge 66, .iload 3, .ifCond .eq 58, .aload 0, .aload 0, .getfield 725, .iload 4, .iaload, .invokevirtual 1377, .aload 0, .getfield 726, .iload 4, .iaload, .if_icmp .ne 58, .sipush 1, .goto 59]),
  (58, [.sipush 0, .jsr 59]),
  (59, [.istore 3, .iinc 4 1, .goto 20]),
  (66, [.iload 1, .iload 3, .ifCond .eq 79, .sipush 1, .iload 2, .sipush 3, .iadd, .ishl, .goto 80]),
  (79, [.sipush 0, .jsr 80]),
  (80, [.ior, .istore 1, .iinc 2 1, .goto 5]),
  (88, [.aload 0, .sipush 0, .putfield 753, .iload 1, .ireturn])]
def ex_b228 : List (Nat × List Instr) := [(0, [.aload 0, .getfield 706, .ifCond .ne 12, .sipush (-103), .goto 16]),
  (12, [.aload 0, .invokevirtual 1816, .jsr 16]),
  (16, [.ireturn])]
def ex_b229 : List (Nat × List Instr) := [(0, [.aload 0, .getfield 706, .ifCond .ne 10, .sipush (-103), .ireturn]),
  (10, [.aload 0, .sipush 1, .putfield 730, .aload 0, .aload 0, .getfield 706, .putfield 731, .aload 0, .aload 0, .getfield 717, .putfield 732, .aload 0, .aload 0, .getfield 715, .putfield 733, .aload 0, .aload 0, .getfield 721, .putfield 734, .aload 0, .aload 0, .getfield 724, .putfield 735, .sipush 0, .istore 1, .jsr 57]),
  (57, [.iload 1, .sipush 3, .if_icmp .ge 114, .aload 0, .getfield 736, .sipush 3, .iload 1, .imul, .aload 0, .getfield 718, .iload 1, .iaload, .iastore, .aload 0, .getfield 736, .sipush 3, .iload 1, .imul, .sipush 1, .iadd, .aload 0, .getfield 719, .iload 1, .iaload, .iastore, .aload 0, .getfield 736, .sipush 3, .iload 1, .imul, .sipush 2, .iadd, .aload 0, .getfield 720, .iload 1, .iaload, .iastore, .iinc 1 1, .goto 57]),
  (114, [.sipush 0, .istore 1, .jsr 116]),
  (116, [.iload 1, .sipush 60, .if_icmp .ge 140, .aload 0, .getfield 737, .iload 1, .aload 0, .getfield 716, .iload 1, .iaload, .iastore, .iinc 1 1, .goto 116]),
  (140, [.sipush 0, .istore 1, .jsr 142]),
  (142, [.iload 1, .sipush 6, .if_icmp .ge 184, .aload 0, .getfield 738, .sipush 2, .iload 1, .imul, .aload 0, .getfield 722, .iload 1, .iaload, .iastore, .aload 0, .getfield 738, .sipush 2, .iload 1, .imul, .sipush 1, .iadd, .aload 0, .getfield 723, .iload 1, .iaload, .iastore, .iinc 1 1, .goto 142]),
  (184, [.sipush 0, .istore 1, .jsr 186]),
  (186, [.iload 1, .sipush 10, .if_icmp .ge 228, .aload 0, .getfield 739, .sipush 2, .iload 1, .imul, .aload 0, .getfield 725, .iload 1, .iaload, .iastore, .aload 0, .getfield 739, .sipush 2, .iload 1, .imul, .sipush 1, .iadd, .aload 0, .getfield 726, .iload 1, .iaload, .iastore, .iinc 1 1, .goto 186]),
  (228, [.aload 0, .getfield 717, .ireturn])]
def ex_b230 : List (Nat × List Instr) := [(0, [.aload 0, .getfield 730, .ifCond .eq 18, .aload 0, .getfield 731, .aload 0, .getfield 706, .if_icmp .eq 21, .jsr 18]),
  (18, [.sipush (-103), .ireturn]),
  (21, [.aload 0, .aload 0, .getfield 732, .putfield 717, .aload 0, .aload 0, .getfield 733, .putfield 715, .aload 0, .aload 0, .getfield 734, .putfield 721, .aload 0, .aload 0, .getfield 735, .putfield 724, .sipush 0, .istore 1, .jsr 55]),
  (55, [.iload 1, .sipush 3, .if_icmp .ge 99, .aload 0, .iload 1, .aload 0, .getfield 736, .sipush 3, .iload 1, .imul, .iaload, .aload 0, .getfield 736, .sipush 3, .iload 1, .imul, .sipush 1, .iadd, .iaload, .aload 0, .getfield 736, .sipush 3, .iload 1, .imul, .sipush 2, .iadd, .iaload, .invokevirtual 1588, .iinc 1 1, .goto 55]),
  (99, [.sipush 0, .istore 1, .jsr 101]),
  (101, [.iload 1, .sipush 60, .if_icmp .ge 125, .aload 0, .getfield 716, .iload 1, .aload 0, .getfield 737, .iload 1, .iaload, .iastore, .iinc 1 1, .goto 101]),
  (125, [.sipush 0, .istore 1, .jsr 127]),
  (127, [.iload 1, .sipush 6, .if_icmp .ge 169, .aload 0, .getfield 722, .iload 1, .aload 0, .getfield 738, .sipush 2, .iload 1, .imul, .iaload, .iastore, .aload 0, .getfield 723, .iload 1, .aload 0, .getfield 738, .sipush 2, .iload 1, .imul, .sipush 1, .iadd, .iaload, .iastore, .iinc 1 1, .goto 127]),
  (169, [.sipush 0, .istore 1, .jsr 171]),
  (171, [.iload 1, .sipush 10, .if_icmp .ge 213, .aload 0, .getfield 725, .iload 1, .aload 0, .getfield 739, .sipush 2, .iload 1, .imul, .iaload, .iastore, .aload 0, .getfield 726, .iload 1, .aload 0, .getfield 739, .sipush 2, .iload 1, .imul, .sipush 1, .iadd, .iaload, .iastore, .iinc 1 1, .goto 171]),
  (213, [.aload 0, .getfield 717, .ireturn])]
def ex_b231 : List (Nat × List Instr) := [(0, [.iload 1, .tableswitch 97 0 8 #[52, 57, 62, 67, 72, 77, 82, 87, 92]]),
  (52, [.aload 0, .invokevirtual 1352, .ireturn]),
  (57, [.aload 0, .getfield 709, .ireturn]),
  (62, [.aload 0, .getfield 715, .ireturn]),
  (67, [.aload 0, .getfield 717, .ireturn]),
  (72, [.aload 0, .getfield 721, .ireturn]),
  (77, [.aload 0, .getfield 724, .ireturn]),
  (82, [.aload 0, .getfield 728, .ireturn]),
  (87, [.aload 0, .getfield 706, .ireturn]),
  (92, [.aload 0, .getfield 727, .ireturn]),
  (97, [.sipush (-102), .ireturn])]
def ex_b232 : List (Nat × List Instr) := [(0, [.aload 0, .iload 1, .invokevirtual 1849, .ireturn])]
def ex_b233 : List (Nat × List Instr) := [(0, [.aload 0, .goto_w 31, .aload 0, .getfield 761, .lmul, .lload 1, .ladd, .putfield 761, .return_])]
def ex_b234 : List (Nat × List Instr) := [(0, [.sipush 0, .istore 1, .jsr 2]),
  (2, [.iload 1, .aload 0, .invokevirtual 1352, .if_icmp .ge 40, .sipush 0, .istore 2, .jsr 12]),
  (12, [.iload 2, .sipush 4, .if_icmp .ge 34, .aload 0, .aload 0, .iload 1, .iload 2, .invokevirtual 1434, .i2l, .invokevirtual 1865, .iinc 2 1, .goto 12]),
  (34, [.iinc 1 1, .goto 2]),
  (40, [.sipush 0, .istore 1, .jsr 42]),
  (42, [.iload 1, .aload 0, .getfield 709, .if_icmp .ge 80, .sipush 0, .istore 2, .jsr 52]),
  (52, [.iload 2, .sipush 5, .if_icmp .ge 74, .aload 0, .aload 0, .iload 1, .iload 2, .invokevirtual 1322, .i2l, .invokevirtual 1865, .iinc 2 1, .goto 52]),
  (74, [.iinc 1 1, .goto 42]),
  (80, [.sipush 0, .istore 1, .jsr 82]),
  (82, [.iload 1, .aload 0, .getfield 715, .if_icmp .ge 134, .sipush 0, .istore 2, .jsr 92]),
  (92, [.iload 2, .sipush 5, .if_icmp .ge 118, .aload 0, .aload 0, .getfield 716, .sipush 5, .iload 1, .imul, .iload 2, .iadd, .iaload, .i2l, .invokevirtual 1865, .iinc 2 1, .goto 92]),
  (118, [.aload 0, .aload 0, .iload 1, .invokevirtual 1521, .i2l, .invokevirtual 1865, .iinc 1 1, .goto 82]),
  (134, [.return_])]
def ex_b235 : List (Nat × List Instr) := [(0, [.aload 0, .goto_w 521, .putfield 761, .aload 0, .invokevirtual 1872, .sipush 0, .istore 1, .jsr 13]),
  (13, [.iload 1, .aload 0, .getfield 717, .if_icmp .ge 51, .sipush 0, .istore 2, .jsr 23]),
  (23, [.iload 2, .sipush 4, .if_icmp .ge 45, .aload 0, .aload 0, .iload 1, .iload 2, .invokevirtual 1634, .i2l, .invokevirtual 1865, .iinc 2 1, .goto 23]),
  (45, [.iinc 1 1, .goto 13]),
  (51, [.sipush 0, .istore 1, .jsr 53]),
  (53, [.iload 1, .aload 0, .getfield 721, .if_icmp .ge 89, .aload 0, .aload 0, .getfield 722, .iload 1, .iaload, .i2l, .invokevirtual 1865, .aload 0, .aload 0, .getfield 723, .iload 1, .iaload, .i2l, .invokevirtual 1865, .iinc 1 1, .goto 53]),
  (89, [.aload 0, .aload 0, .invokevirtual 1696, .i2l, .invokevirtual 1865, .sipush 0, .istore 1, .jsr 100]),
  (100, [.iload 1, .aload 0, .getfield 724, .if_icmp .ge 136, .aload 0, .aload 0, .getfield 725, .iload 1, .iaload, .i2l, .invokevirtual 1865, .aload 0, .aload 0, .getfield 726, .iload 1, .iaload, .i2l, .invokevirtual 1865, .iinc 1 1, .goto 100]),
  (136, [.aload 0, .getfield 706, .ifCond .le 152, .aload 0, .aload 0, .invokevirtual 1816, .i2l, .invokevirtual 1865, .jsr 152]),
  (152, [.sipush 0, .istore 1, .jsr 154]),
  (154, [.iload 1, .aload 0, .getfield 728, .if_icmp .ge 179, .aload 0, .aload 0, .getfield 729, .iload 1, .baload, .i2l, .invokevirtual 1865, .iinc 1 1, .goto 154]),
  (179, [.sipush 0, .istore 1, .jsr 181]),
  (181, [.iload 1, .sipush 9, .if_icmp .ge 203, .aload 0, .aload 0, .iload 1, .invokevirtual 1849, .i2l, .invokevirtual 1865, .iinc 1 1, .goto 181]),
  (203, [.aload 0, .getfield 761, .lreturn])]
def ex_bs0 : List (List (Nat × List Instr)) := [ex_b0, ex_b1, ex_b2, ex_b3, ex_b4, ex_b5, ex_b6, ex_b7, ex_b8, ex_b9, ex_b10, ex_b11, ex_b12, ex_b13, ex_b14, ex_b15, ex_b16, ex_b17, ex_b18, ex_b19, ex_b20, ex_b21, ex_b22, ex_b23, ex_b24, ex_b25, ex_b26, ex_b27, ex_b28, ex_b29, ex_b30, ex_b31, ex_b32, ex_b33, ex_b34, ex_b35, ex_b36, ex_b37, ex_b38, ex_b39]
def ex_bs1 : List (List (Nat × List Instr)) := [ex_b40, ex_b41, ex_b42, ex_b43, ex_b44, ex_b45, ex_b46, ex_b47, ex_b48, ex_b49, ex_b50, ex_b51, ex_b52, ex_b53, ex_b54, ex_b55, ex_b56, ex_b57, ex_b58, ex_b59, ex_b60, ex_b61, ex_b62, ex_b63, ex_b64, ex_b65, ex_b66, ex_b67, ex_b68, ex_b69, ex_b70, ex_b71, ex_b72, ex_b73, ex_b74, ex_b75, ex_b76, ex_b77, ex_b78, ex_b79]
def ex_bs2 : List (List (Nat × List Instr)) := [ex_b80, ex_b81, ex_b82, ex_b83, ex_b84, ex_b85, ex_b86, ex_b87, ex_b88, ex_b89, ex_b90, ex_b91, ex_b92, ex_b93, ex_b94, ex_b95, ex_b96, ex_b97, ex_b98, ex_b99, ex_b100, ex_b101, ex_b102, ex_b103, ex_b104, ex_b105, ex_b106, ex_b107, ex_b108, ex_b109, ex_b110, ex_b111, ex_b112, ex_b113, ex_b114, ex_b115, ex_b116, ex_b117, ex_b118, ex_b119]
def ex_bs3 : List (List (Nat × List Instr)) := [ex_b120, ex_b121, ex_b122, ex_b123, ex_b124, ex_b125, ex_b126, ex_b127, ex_b128, ex_b129, ex_b130, ex_b131, ex_b132, ex_b133, ex_b134, ex_b135, ex_b136, ex_b137, ex_b138, ex_b139, ex_b140, ex_b141, ex_b142, ex_b143, ex_b144, ex_b145, ex_b146, ex_b147, ex_b148, ex_b149, ex_b150, ex_b151, ex_b152, ex_b153, ex_b154, ex_b155, ex_b156, ex_b157, ex_b158, ex_b159]
def ex_bs4 : List (List (Nat × List Instr)) := [ex_b160, ex_b161, ex_b162, ex_b163, ex_b164, ex_b165, ex_b166, ex_b167, ex_b168, ex_b169, ex_b170, ex_b171, ex_b172, ex_b173, ex_b174, ex_b175, ex_b176, ex_b177, ex_b178, ex_b179, ex_b180, ex_b181, ex_b182, ex_b183, ex_b184, ex_b185, ex_b186, ex_b187, ex_b188, ex_b189, ex_b190, ex_b191, ex_b192, ex_b193, ex_b194, ex_b195, ex_b196, ex_b197, ex_b198, ex_b199]
def ex_bs5 : List (List (Nat × List Instr)) := [ex_b200, ex_b201, ex_b202, ex_b203, ex_b204, ex_b205, ex_b206, ex_b207, ex_b208, ex_b209, ex_b210, ex_b211, ex_b212, ex_b213, ex_b214, ex_b215, ex_b216, ex_b217, ex_b218, ex_b219, ex_b220, ex_b221, ex_b222, ex_b223, ex_b224, ex_b225, ex_b226, ex_b227, ex_b228, ex_b229, ex_b230, ex_b231, ex_b232, ex_b233, ex_b234, ex_b235]
def ex_bs : List (List (Nat × List Instr)) := ex_bs0 ++ ex_bs1 ++ ex_bs2 ++ ex_bs3 ++ ex_bs4 ++ ex_bs5
end
section
/-! THE PURE MACHINE: integers alone are symbolic; references are numbers of objects (ex_Sh); nothing is made. -/
abbrev PW : Type := (Nat → Nat → Int32) × Int64
abbrev ES : Type := List Instr × List Value × List Value × PW
abbrev ER : Type := Option Value × PW
def ex_up (w : PW) (o k : Nat) (x : Int32) : PW := (fun a b => if a = o ∧ b = k then x else w.1 a b, w.2)
def ex_fk (o e : Nat) : Option Nat := match ex_Sh[o]? with
  | some q => if q.1 = e / 64 then q.2[e % 64]? else none
  | none => none
def ex_cls (o : Nat) : Nat := match ex_Sh[o]? with
  | some q => q.1
  | none => 99
def ex_len (o : Nat) : Nat := match ex_Sh[o]? with
  | some q => q.2.headD 0
  | none => 0
def ex_dsp (x c : Nat) : Option Nat := (ex_D.getD x []).lookup c
def ex_mi (y : Nat) : MethodName × ByteArray × Nat × Option FieldType × Nat := ex_M.getD y (⟨"", "", ""⟩, ⟨#[]⟩, 0, none, 99)
def ex_Y (y : Nat) : MethodName := (ex_mi y).1
def ex_B (y : Nat) : ByteArray := (ex_mi y).2.1
def ex_L (y : Nat) : Nat := (ex_mi y).2.2.1
def ex_ret (y : Nat) : Option FieldType := (ex_mi y).2.2.2.1
def ex_C (y : Nat) : Nat := (ex_mi y).2.2.2.2
def ex_blk (y : Nat) (L : Nat) : List Instr := ((ex_bs.getD y []).lookup L).getD []
def ex_spl : Nat → List Value → List Value → Option (List Value × List Value)
  | 0, as, st => some (as, st)
  | _ + 1, _, [] => none
  | n + 1, as, v :: st => ex_spl n (v :: as) st
def ex_low : List Value → Bool
  | [] => true
  | [_] => true
  | [_, _] => true
  | [_, _, _] => true
  | [_, _, _, _] => true
  | _ => false
def ex_down (j : Nat) : Int32 := if j = 0 then -1 else if j = 2 then 1 else 0
def ex_right (j : Nat) : Int32 := if j = 1 then 1 else if j = 3 then -1 else 0
/-- an int array's element (1000, 1001: the two static ones) -/
def ex_ald (w : PW) (o : Nat) (i : Int32) : Option Int32 :=
  if o = 1000 then (if i < 0 ∨ 4 ≤ i.toNatClampNeg then none else some (ex_down i.toNatClampNeg))
  else if o = 1001 then (if i < 0 ∨ 4 ≤ i.toNatClampNeg then none else some (ex_right i.toNatClampNeg))
  else if ex_cls o = 12 then (if i < 0 ∨ ex_len o ≤ i.toNatClampNeg then none else some (w.1 o i.toNatClampNeg)) else none
def ex_lks : List (Int × Int) → Int → Int → Int
  | [], d, _ => d
  | q :: r, d, x => if x = q.1 then q.2 else ex_lks r d x
def ex_cpy (w : PW) (a b n : Nat) : PW := (fun o k => if o = b ∧ k < n then w.1 a k else w.1 o k, w.2)
def ex_go (c : List Instr) (pl st : List Value) (w : PW) : Option (ER ⊕ ES) := some (.inr (c, pl, st, w))
def ex_ii (f : Int32 → Int32 → Int32) (c : List Instr) (pl st : List Value) (w : PW) : Option (ER ⊕ ES) := match st with
  | .int y :: .int x :: r => ex_go c pl (.int (f x y) :: r) w
  | _ => none
def ex_ll (f : Int64 → Int64 → Int64) (c : List Instr) (pl st : List Value) (w : PW) : Option (ER ⊕ ES) := match st with
  | .long y :: .long x :: r => ex_go c pl (.long (f x y) :: r) w
  | _ => none
def ex_lis (f : Int64 → Int32 → Int64) (c : List Instr) (pl st : List Value) (w : PW) : Option (ER ⊕ ES) := match st with
  | .int y :: .long x :: r => ex_go c pl (.long (f x y) :: r) w
  | _ => none
def ex_store (k : Nat) (v : Value) (c : List Instr) (pl r : List Value) (w : PW) : Option (ER ⊕ ES) := match pl.getD k (.retAddr 0) with
  | .retAddr _ => none
  | _ => ex_go c (pl.set k v) r w
def ex_cnd (c : ClassFile.Cond) (x y : Int32) : Prop := match c with
  | .eq => x = y
  | .ne => ¬ x = y
  | .lt => x < y
  | .ge => y ≤ x
  | .gt => y < x
  | .le => x ≤ y
noncomputable def ex_dec (P : Prop) : Decidable P := Classical.propDecidable P
def ex_cnb (c : ClassFile.Cond) (x y : Int32) : Bool := match c with
  | .eq => decide (x = y)
  | .ne => decide (¬ x = y)
  | .lt => decide (x < y)
  | .ge => decide (y ≤ x)
  | .gt => decide (y < x)
  | .le => decide (x ≤ y)
def ex_back (r : Option ER) (c : List Instr) (pl st : List Value) : Option (ER ⊕ ES) := match r with
  | some (v, w) => ex_go c pl (v.toList ++ st) w
  | none => none
def ex_call (cal : Nat → List Value → PW → Option ER) (y n : Nat) (c : List Instr) (pl st : List Value) (w : PW) : Option (ER ⊕ ES) := match ex_spl n [] st with
  | some (as, r) => if ex_low r then ex_back (cal y as w) c pl r else none
  | none => none
def ex_vcall (cal : Nat → List Value → PW → Option ER) (x n : Nat) (c : List Instr) (pl st : List Value) (w : PW) : Option (ER ⊕ ES) := match ex_spl (n + 1) [] st with
  | some (as, r) => match as with
    | .ref o :: _ => match ex_dsp x (ex_cls o) with
      | some y => if ex_low r then ex_back (cal y as w) c pl r else none
      | none => none
    | _ => none
  | none => none
def ex_gf (e : Nat) (c : List Instr) (pl st : List Value) (w : PW) : Option (ER ⊕ ES) := match st with
  | .ref o :: r => match ex_fk o e with
    | some 0 => ex_go c pl (.int (w.1 o (e % 64)) :: r) w
    | some 1 => ex_go c pl (.long w.2 :: r) w
    | some 2 => ex_go c pl (.int (w.1 o (e % 64)) :: r) w
    | some (n + 3) => ex_go c pl (.ref n :: r) w
    | none => none
  | _ => none
def ex_pf (e : Nat) (c : List Instr) (pl st : List Value) (w : PW) : Option (ER ⊕ ES) := match st with
  | .int x :: .ref o :: r => match ex_fk o e with
    | some 0 => ex_go c pl r (ex_up w o (e % 64) x)
    | some 2 => if x = 0 ∨ x = 1 then ex_go c pl r (ex_up w o (e % 64) x) else none
    | _ => none
  | .long x :: .ref o :: r => match ex_fk o e with
    | some 1 => ex_go c pl r (w.1, x)
    | _ => none
  | _ => none
def ex_nat (d k : Nat) (c : List Instr) (pl st : List Value) (w : PW) : Option (ER ⊕ ES) := if d < 2 then none else match k, st with
  | 0, .int y :: .int x :: r => if ex_low r then ex_go c pl (.int (if x < y then y else x) :: r) w else none
  | 1, .int y :: .int x :: r => if ex_low r then ex_go c pl (.int (if y < x then y else x) :: r) w else none
  | 2, .int n :: .int dp :: .ref b :: .int sp :: .ref a :: [] => if sp = 0 ∧ dp = 0 ∧ ex_cls a = 12 ∧ ex_cls b = 12 ∧ ¬ n < 0 ∧ n.toNatClampNeg ≤ ex_len a ∧ n.toNatClampNeg ≤ ex_len b then ex_go c pl [] (ex_cpy w a b n.toNatClampNeg) else none
  | _, _ => none
def ex_nx (d : Nat) (cal : Nat → List Value → PW → Option ER) (y : Nat) : ES → Option (ER ⊕ ES) := fun s => match s with
  | ([], _) => none
  | (i :: c, pl, st, w) => match i with
    | .iload k => (match pl.getD k .null with | .int x => ex_go c pl (.int x :: st) w | _ => none)
    | .aload k => (match pl.getD k .null with | .ref x => ex_go c pl (.ref x :: st) w | _ => none)
    | .lload k => (match pl.getD k .null with | .long x => ex_go c pl (.long x :: st) w | _ => none)
    | .istore k => (match st with | .int x :: r => ex_store k (.int x) c pl r w | _ => none)
    | .astore k => (match st with | .ref x :: r => ex_store k (.ref x) c pl r w | _ => none)
    | .lstore k => (match st with | .long x :: r => if k + 1 < pl.length then ex_store k (.long x) c (pl.set (k + 1) (.retAddr 0)) r w else none | _ => none)
    | .iinc k n => (match pl.getD k .null with | .int x => ex_go c (pl.set k (.int (x + Int32.ofInt n))) st w | _ => none)
    | .sipush n => ex_go c pl (.int (Int32.ofInt n) :: st) w
    | .goto_w n => ex_go c pl (.long (Int64.ofInt n) :: st) w
    | .iadd => ex_ii (fun x y => x + y) c pl st w
    | .isub => ex_ii (fun x y => x - y) c pl st w
    | .imul => ex_ii (fun x y => x * y) c pl st w
    | .iand => ex_ii (fun x y => x &&& y) c pl st w
    | .ior => ex_ii (fun x y => x ||| y) c pl st w
    | .ixor => ex_ii (fun x y => x ^^^ y) c pl st w
    | .ishl => ex_ii (fun x y => x <<< (y &&& 31)) c pl st w
    | .ishr => ex_ii (fun x y => x >>> (y &&& 31)) c pl st w
    | .idiv => (match st with | .int y :: .int x :: r => if y = 0 then none else ex_go c pl (.int (x / y) :: r) w | _ => none)
    | .irem => (match st with | .int y :: .int x :: r => if y = 0 then none else ex_go c pl (.int (x - x / y * y) :: r) w | _ => none)
    | .ladd => ex_ll (fun x y => x + y) c pl st w
    | .lmul => ex_ll (fun x y => x * y) c pl st w
    | .land => ex_ll (fun x y => x &&& y) c pl st w
    | .lshr => ex_lis (fun x y => x >>> (y.toInt64 &&& 63)) c pl st w
    | .lushr => ex_lis (fun x y => (x.toUInt64 >>> (y.toInt64.toUInt64 &&& Int64.toUInt64 63)).toInt64) c pl st w
    | .i2l => (match st with | .int x :: r => ex_go c pl (.long x.toInt64 :: r) w | _ => none)
    | .l2i => (match st with | .long x :: r => ex_go c pl (.int x.toInt32 :: r) w | _ => none)
    | .i2b => (match st with | .int x :: r => ex_go c pl (.int x.toInt8.toInt32 :: r) w | _ => none)
    | .dup => (match st with | .ref x :: r => ex_go c pl (.ref x :: .ref x :: r) w | .int x :: r => ex_go c pl (.int x :: .int x :: r) w | _ => none)
    | .dup2 => (match st with | .int x :: .ref o :: r => ex_go c pl (.int x :: .ref o :: .int x :: .ref o :: r) w | _ => none)
    | .pop => (match st with | .int _ :: r => ex_go c pl r w | _ => none)
    | .goto L => ex_go (ex_blk y L.toNat) pl st w
    | .jsr L => ex_go (ex_blk y L.toNat) pl st w
    | .if_icmp cd L => (match st with | .int b :: .int a :: r => if ex_cnb cd a b = true then ex_go (ex_blk y L.toNat) pl r w else ex_go c pl r w | _ => none)
    | .ifCond cd L => (match st with | .int a :: r => if ex_cnb cd a 0 = true then ex_go (ex_blk y L.toNat) pl r w else ex_go c pl r w | _ => none)
    | .tableswitch df lo hi offs => (match st with | .int a :: r => if a.toInt < lo ∨ hi < a.toInt then ex_go (ex_blk y df.toNat) pl r w else ex_go (ex_blk y ((offs.toList.getD (a.toInt - lo).toNat 0).toNat)) pl r w | _ => none)
    | .lookupswitch df ps => (match st with | .int a :: r => ex_go (ex_blk y (ex_lks ps.toList df a.toInt).toNat) pl r w | _ => none)
    | .getfield e => ex_gf e c pl st w
    | .putfield e => ex_pf e c pl st w
    | .getstatic o => if o = 1000 ∨ o = 1001 then ex_go c pl (.ref o :: st) w else none
    | .iaload => (match st with | .int i :: .ref o :: r => (match ex_ald w o i with | some x => ex_go c pl (.int x :: r) w | none => none) | _ => none)
    | .baload => (match st with | .int i :: .ref o :: r => if ex_cls o = 13 ∧ ¬ (i < 0 ∨ ex_len o ≤ i.toNatClampNeg) then ex_go c pl (.int (w.1 o i.toNatClampNeg) :: r) w else none | _ => none)
    | .iastore => (match st with | .int x :: .int i :: .ref o :: r => if ex_cls o = 12 ∧ ¬ (i < 0 ∨ ex_len o ≤ i.toNatClampNeg) then ex_go c pl r (ex_up w o i.toNatClampNeg x) else none | _ => none)
    | .bastore => (match st with | .int x :: .int i :: .ref o :: r => if ex_cls o = 13 ∧ ¬ (i < 0 ∨ ex_len o ≤ i.toNatClampNeg) then ex_go c pl r (ex_up w o i.toNatClampNeg x.toInt8.toInt32) else none | _ => none)
    | .arraylength => (match st with | .ref o :: r => if ex_cls o = 12 then ex_go c pl (.int (Int32.ofNat (ex_len o)) :: r) w else none | _ => none)
    | .invokestatic e => ex_call cal (e / 8) (e % 8) c pl st w
    | .invokevirtual e => ex_call cal (e / 8) (e % 8 + 1) c pl st w
    | .invokeinterface x n => ex_vcall cal x n c pl st w
    | .invokedynamic k => ex_nat d k c pl st w
    | .ireturn => (match st with | [.int x] => if ex_ret y = some .int then some (.inl (some (.int x), w)) else none | _ => none)
    | .areturn => (match st with | [.int x] => if x = 0 ∨ x = 1 then (if ex_ret y = some .boolean then some (.inl (some (.int x), w)) else none) else none | _ => none)
    | .lreturn => (match st with | [.long x] => if ex_ret y = some .long then some (.inl (some (.long x), w)) else none | _ => none)
    | .return_ => (match st with | [] => if ex_ret y = none then some (.inl (none, w)) else none | _ => none)
    | _ => none
def ex_run (d : Nat) (cal : Nat → List Value → PW → Option ER) (y : Nat) : Nat → ES → Option ER
  | 0, _ => none
  | n + 1, s => match ex_nx d cal y s with
    | some (.inl r) => some r
    | some (.inr s') => ex_run d cal y n s'
    | none => none
noncomputable def ex_ev (d : Nat) (cal : Nat → List Value → PW → Option ER) (y : Nat) (s : ES) : Option ER :=
  @ite _ (∃ n, ex_run d cal y n s ≠ none) (Classical.propDecidable _) (ex_run d cal y (Classical.epsilon fun n => ex_run d cal y n s ≠ none) s) none
theorem ex_run_succ {d : Nat} {cal : Nat → List Value → PW → Option ER} {y n : Nat} {s : ES} {r : ER} (h : ex_run d cal y n s = some r) : ex_run d cal y (n + 1) s = some r := by
  induction n generalizing s with
  | zero => cases h
  | succ n ih =>
    cases h0 : ex_nx d cal y s with
    | none => rw [ex_run, h0] at h; cases h
    | some q =>
      cases q with
      | inl r0 =>
        rw [ex_run, h0] at h
        rw [ex_run, h0]; exact h
      | inr s' =>
        rw [ex_run, h0] at h
        rw [ex_run, h0]; exact ih h
theorem ex_run_le {d : Nat} {cal : Nat → List Value → PW → Option ER} {y n k : Nat} {s : ES} {r : ER} (h : ex_run d cal y n s = some r) : ex_run d cal y (n + k) s = some r := by
  induction k with
  | zero => exact h
  | succ k ih => exact ex_run_succ ih
theorem ex_run_det {d : Nat} {cal : Nat → List Value → PW → Option ER} {y n k : Nat} {s : ES} {r r' : ER} (h : ex_run d cal y n s = some r) (h' : ex_run d cal y k s = some r') : r = r' := by
  have h1 := ex_run_le (k := k) h
  have h2 := ex_run_le (k := n) h'
  rw [Nat.add_comm] at h2
  rw [h1] at h2
  exact Option.some.inj h2
theorem ex_ev_of {d : Nat} {cal : Nat → List Value → PW → Option ER} {y n : Nat} {s : ES} {r : ER} (h : ex_run d cal y n s = some r) : ex_ev d cal y s = some r := by
  have hx : ∃ n, ex_run d cal y n s ≠ none := ⟨n, by rw [h]; exact fun h => by cases h⟩
  have he := Classical.epsilon_spec hx
  unfold ex_ev
  rw [@if_pos _ (Classical.propDecidable _) hx]
  cases h2 : ex_run d cal y (Classical.epsilon fun n => ex_run d cal y n s ≠ none) s with
  | none => exact absurd h2 he
  | some r' => rw [ex_run_det h h2]
theorem ex_ev_run {d : Nat} {cal : Nat → List Value → PW → Option ER} {y : Nat} {s : ES} {r : ER} (h : ex_ev d cal y s = some r) : ∃ n, ex_run d cal y n s = some r := by
  unfold ex_ev at h
  by_cases hx : ∃ n, ex_run d cal y n s ≠ none
  · rw [@if_pos _ (Classical.propDecidable _) hx] at h
    exact ⟨_, h⟩
  · rw [@if_neg _ (Classical.propDecidable _) hx] at h
    cases h
theorem ex_ev_eq (d : Nat) (cal : Nat → List Value → PW → Option ER) (y : Nat) (s : ES) : ex_ev d cal y s = match ex_nx d cal y s with
    | some (.inl r) => some r
    | some (.inr s') => ex_ev d cal y s'
    | none => none := by
  cases h : ex_nx d cal y s with
  | none =>
    have : ¬ ∃ n, ex_run d cal y n s ≠ none := by
      rintro ⟨n, hn⟩
      cases n with
      | zero => exact hn rfl
      | succ n => rw [ex_run, h] at hn; exact hn rfl
    unfold ex_ev
    rw [@if_neg _ (Classical.propDecidable _) this]
  | some q =>
    cases q with
    | inl r => exact ex_ev_of (n := 1) (by rw [ex_run, h])
    | inr s' =>
      show ex_ev d cal y s = ex_ev d cal y s'
      cases h2 : ex_ev d cal y s' with
      | some r =>
        obtain ⟨n, hn⟩ := ex_ev_run h2
        exact ex_ev_of (n := n + 1) (by rw [ex_run, h]; exact hn)
      | none =>
        cases h3 : ex_ev d cal y s with
        | none => rfl
        | some r =>
          obtain ⟨n, hn⟩ := ex_ev_run h3
          cases n with
          | zero => cases hn
          | succ n =>
            rw [ex_run, h] at hn
            have := ex_ev_of hn
            rw [h2] at this
            cases this
def ex_okR (y : Nat) (as : List Value) : Bool := match as with
  | .ref o :: _ => ex_cls o == ex_C y || (ex_C y == 9 && (ex_cls o == 2 || ex_cls o == 4))
  | _ => true
def ex_lay : List Value → List Value
  | [] => []
  | .long x :: r => .long x :: .retAddr 0 :: ex_lay r
  | v :: r => v :: ex_lay r
def ex_ent (y : Nat) (as : List Value) : List Value := ex_lay as ++ List.replicate (ex_L y - (ex_lay as).length) .null
noncomputable def ex_cal : Nat → Nat → List Value → PW → Option ER
  | 0 => fun _ _ _ => none
  | d + 1 => fun y as w => if ex_okR y as then ex_ev d (ex_cal d) y (ex_blk y 0, ex_ent y as, [], w) else none
end
section
/-! the machine, instruction by instruction, as equations -/
theorem ev_iload {d : Nat} {cal : Nat → List Value → PW → Option ER} {y : Nat} {c : List Instr} {pl st : List Value} {w : PW} {k : Nat} : ex_ev d cal y (.iload k :: c, pl, st, w) = (match pl.getD k .null with | .int x => ex_ev d cal y (c, pl, .int x :: st, w) | _ => none) := by
  rw [ex_ev_eq]
  show (match (match pl.getD k .null with | .int x => ex_go c pl (.int x :: st) w | _ => none) with | some (.inl r) => some r | some (.inr s') => ex_ev d cal y s' | none => none) = _
  cases pl.getD k .null <;> rfl
theorem ev_aload {d : Nat} {cal : Nat → List Value → PW → Option ER} {y : Nat} {c : List Instr} {pl st : List Value} {w : PW} {k : Nat} : ex_ev d cal y (.aload k :: c, pl, st, w) = (match pl.getD k .null with | .ref x => ex_ev d cal y (c, pl, .ref x :: st, w) | _ => none) := by
  rw [ex_ev_eq]
  show (match (match pl.getD k .null with | .ref x => ex_go c pl (.ref x :: st) w | _ => none) with | some (.inl r) => some r | some (.inr s') => ex_ev d cal y s' | none => none) = _
  cases pl.getD k .null <;> rfl
theorem ev_lload {d : Nat} {cal : Nat → List Value → PW → Option ER} {y : Nat} {c : List Instr} {pl st : List Value} {w : PW} {k : Nat} : ex_ev d cal y (.lload k :: c, pl, st, w) = (match pl.getD k .null with | .long x => ex_ev d cal y (c, pl, .long x :: st, w) | _ => none) := by
  rw [ex_ev_eq]
  show (match (match pl.getD k .null with | .long x => ex_go c pl (.long x :: st) w | _ => none) with | some (.inl r) => some r | some (.inr s') => ex_ev d cal y s' | none => none) = _
  cases pl.getD k .null <;> rfl
theorem ev_istore {d : Nat} {cal : Nat → List Value → PW → Option ER} {y : Nat} {c : List Instr} {pl st : List Value} {w : PW} {k : Nat} {x : Int32} : ex_ev d cal y (.istore k :: c, pl, .int x :: st, w) = (match pl.getD k (.retAddr 0) with | .retAddr _ => none | _ => ex_ev d cal y (c, pl.set k (.int x), st, w)) := by
  rw [ex_ev_eq]
  show (match (ex_store k (.int x) c pl st w) with | some (.inl r) => some r | some (.inr s') => ex_ev d cal y s' | none => none) = _
  unfold ex_store
  cases pl.getD k (.retAddr 0) <;> rfl
theorem ev_astore {d : Nat} {cal : Nat → List Value → PW → Option ER} {y : Nat} {c : List Instr} {pl st : List Value} {w : PW} {k : Nat} {x : Nat} : ex_ev d cal y (.astore k :: c, pl, .ref x :: st, w) = (match pl.getD k (.retAddr 0) with | .retAddr _ => none | _ => ex_ev d cal y (c, pl.set k (.ref x), st, w)) := by
  rw [ex_ev_eq]
  show (match (ex_store k (.ref x) c pl st w) with | some (.inl r) => some r | some (.inr s') => ex_ev d cal y s' | none => none) = _
  unfold ex_store
  cases pl.getD k (.retAddr 0) <;> rfl
theorem ev_lstore {d : Nat} {cal : Nat → List Value → PW → Option ER} {y : Nat} {c : List Instr} {pl st : List Value} {w : PW} {k : Nat} {x : Int64} : ex_ev d cal y (.lstore k :: c, pl, .long x :: st, w) = (if k + 1 < pl.length then (match (pl.set (k + 1) (.retAddr 0)).getD k (.retAddr 0) with | .retAddr _ => none | _ => ex_ev d cal y (c, (pl.set (k + 1) (.retAddr 0)).set k (.long x), st, w)) else none) := by
  rw [ex_ev_eq]
  show (match (if k + 1 < pl.length then ex_store k (.long x) c (pl.set (k + 1) (.retAddr 0)) st w else none) with | some (.inl r) => some r | some (.inr s') => ex_ev d cal y s' | none => none) = _
  unfold ex_store
  by_cases hk : k + 1 < pl.length
  · rw [if_pos hk, if_pos hk]
    cases (pl.set (k + 1) (.retAddr 0)).getD k (.retAddr 0) <;> rfl
  · rw [if_neg hk, if_neg hk]
theorem ev_iinc {d : Nat} {cal : Nat → List Value → PW → Option ER} {y : Nat} {c : List Instr} {pl st : List Value} {w : PW} {k : Nat} {n : Int} : ex_ev d cal y (.iinc k n :: c, pl, st, w) = (match pl.getD k .null with | .int x => ex_ev d cal y (c, pl.set k (.int (x + Int32.ofInt n)), st, w) | _ => none) := by
  rw [ex_ev_eq]
  show (match (match pl.getD k .null with | .int x => ex_go c (pl.set k (.int (x + Int32.ofInt n))) st w | _ => none) with | some (.inl r) => some r | some (.inr s') => ex_ev d cal y s' | none => none) = _
  cases pl.getD k .null <;> rfl
theorem ev_push {d : Nat} {cal : Nat → List Value → PW → Option ER} {y : Nat} {c : List Instr} {pl st : List Value} {w : PW} {n : Int} : ex_ev d cal y (.sipush n :: c, pl, st, w) = ex_ev d cal y (c, pl, .int (Int32.ofInt n) :: st, w) := by
  rw [ex_ev_eq]
  rfl
theorem ev_lpush {d : Nat} {cal : Nat → List Value → PW → Option ER} {y : Nat} {c : List Instr} {pl st : List Value} {w : PW} {n : Int} : ex_ev d cal y (.goto_w n :: c, pl, st, w) = ex_ev d cal y (c, pl, .long (Int64.ofInt n) :: st, w) := by
  rw [ex_ev_eq]
  rfl
theorem ev_iadd {d : Nat} {cal : Nat → List Value → PW → Option ER} {y : Nat} {c : List Instr} {pl st : List Value} {w : PW} {a b : Int32} : ex_ev d cal y (.iadd :: c, pl, .int b :: .int a :: st, w) = ex_ev d cal y (c, pl, .int (a + b) :: st, w) := by
  rw [ex_ev_eq]
  rfl
theorem ev_isub {d : Nat} {cal : Nat → List Value → PW → Option ER} {y : Nat} {c : List Instr} {pl st : List Value} {w : PW} {a b : Int32} : ex_ev d cal y (.isub :: c, pl, .int b :: .int a :: st, w) = ex_ev d cal y (c, pl, .int (a - b) :: st, w) := by
  rw [ex_ev_eq]
  rfl
theorem ev_imul {d : Nat} {cal : Nat → List Value → PW → Option ER} {y : Nat} {c : List Instr} {pl st : List Value} {w : PW} {a b : Int32} : ex_ev d cal y (.imul :: c, pl, .int b :: .int a :: st, w) = ex_ev d cal y (c, pl, .int (a * b) :: st, w) := by
  rw [ex_ev_eq]
  rfl
theorem ev_iand {d : Nat} {cal : Nat → List Value → PW → Option ER} {y : Nat} {c : List Instr} {pl st : List Value} {w : PW} {a b : Int32} : ex_ev d cal y (.iand :: c, pl, .int b :: .int a :: st, w) = ex_ev d cal y (c, pl, .int (a &&& b) :: st, w) := by
  rw [ex_ev_eq]
  rfl
theorem ev_ior {d : Nat} {cal : Nat → List Value → PW → Option ER} {y : Nat} {c : List Instr} {pl st : List Value} {w : PW} {a b : Int32} : ex_ev d cal y (.ior :: c, pl, .int b :: .int a :: st, w) = ex_ev d cal y (c, pl, .int (a ||| b) :: st, w) := by
  rw [ex_ev_eq]
  rfl
theorem ev_ixor {d : Nat} {cal : Nat → List Value → PW → Option ER} {y : Nat} {c : List Instr} {pl st : List Value} {w : PW} {a b : Int32} : ex_ev d cal y (.ixor :: c, pl, .int b :: .int a :: st, w) = ex_ev d cal y (c, pl, .int (a ^^^ b) :: st, w) := by
  rw [ex_ev_eq]
  rfl
theorem ev_ishl {d : Nat} {cal : Nat → List Value → PW → Option ER} {y : Nat} {c : List Instr} {pl st : List Value} {w : PW} {a b : Int32} : ex_ev d cal y (.ishl :: c, pl, .int b :: .int a :: st, w) = ex_ev d cal y (c, pl, .int (a <<< (b &&& 31)) :: st, w) := by
  rw [ex_ev_eq]
  rfl
theorem ev_ishr {d : Nat} {cal : Nat → List Value → PW → Option ER} {y : Nat} {c : List Instr} {pl st : List Value} {w : PW} {a b : Int32} : ex_ev d cal y (.ishr :: c, pl, .int b :: .int a :: st, w) = ex_ev d cal y (c, pl, .int (a >>> (b &&& 31)) :: st, w) := by
  rw [ex_ev_eq]
  rfl
theorem ev_idiv {d : Nat} {cal : Nat → List Value → PW → Option ER} {y : Nat} {c : List Instr} {pl st : List Value} {w : PW} {a b : Int32} : ex_ev d cal y (.idiv :: c, pl, .int b :: .int a :: st, w) = (if b = 0 then none else ex_ev d cal y (c, pl, .int (a / b) :: st, w)) := by
  rw [ex_ev_eq]
  show (match (if b = 0 then none else ex_go c pl (.int (a / b) :: st) w) with | some (.inl r) => some r | some (.inr s') => ex_ev d cal y s' | none => none) = _
  split <;> rfl
theorem ev_irem {d : Nat} {cal : Nat → List Value → PW → Option ER} {y : Nat} {c : List Instr} {pl st : List Value} {w : PW} {a b : Int32} : ex_ev d cal y (.irem :: c, pl, .int b :: .int a :: st, w) = (if b = 0 then none else ex_ev d cal y (c, pl, .int (a - a / b * b) :: st, w)) := by
  rw [ex_ev_eq]
  show (match (if b = 0 then none else ex_go c pl (.int (a - a / b * b) :: st) w) with | some (.inl r) => some r | some (.inr s') => ex_ev d cal y s' | none => none) = _
  split <;> rfl
theorem ev_ladd {d : Nat} {cal : Nat → List Value → PW → Option ER} {y : Nat} {c : List Instr} {pl st : List Value} {w : PW} {a b : Int64} : ex_ev d cal y (.ladd :: c, pl, .long b :: .long a :: st, w) = ex_ev d cal y (c, pl, .long (a + b) :: st, w) := by
  rw [ex_ev_eq]
  rfl
theorem ev_lmul {d : Nat} {cal : Nat → List Value → PW → Option ER} {y : Nat} {c : List Instr} {pl st : List Value} {w : PW} {a b : Int64} : ex_ev d cal y (.lmul :: c, pl, .long b :: .long a :: st, w) = ex_ev d cal y (c, pl, .long (a * b) :: st, w) := by
  rw [ex_ev_eq]
  rfl
theorem ev_land {d : Nat} {cal : Nat → List Value → PW → Option ER} {y : Nat} {c : List Instr} {pl st : List Value} {w : PW} {a b : Int64} : ex_ev d cal y (.land :: c, pl, .long b :: .long a :: st, w) = ex_ev d cal y (c, pl, .long (a &&& b) :: st, w) := by
  rw [ex_ev_eq]
  rfl
theorem ev_lshr {d : Nat} {cal : Nat → List Value → PW → Option ER} {y : Nat} {c : List Instr} {pl st : List Value} {w : PW} {a : Int64} {b : Int32} : ex_ev d cal y (.lshr :: c, pl, .int b :: .long a :: st, w) = ex_ev d cal y (c, pl, .long (a >>> (b.toInt64 &&& 63)) :: st, w) := by
  rw [ex_ev_eq]
  rfl
theorem ev_lushr {d : Nat} {cal : Nat → List Value → PW → Option ER} {y : Nat} {c : List Instr} {pl st : List Value} {w : PW} {a : Int64} {b : Int32} : ex_ev d cal y (.lushr :: c, pl, .int b :: .long a :: st, w) = ex_ev d cal y (c, pl, .long (a.toUInt64 >>> (b.toInt64.toUInt64 &&& Int64.toUInt64 63)).toInt64 :: st, w) := by
  rw [ex_ev_eq]
  rfl
theorem ev_i2l {d : Nat} {cal : Nat → List Value → PW → Option ER} {y : Nat} {c : List Instr} {pl st : List Value} {w : PW} {a : Int32} : ex_ev d cal y (.i2l :: c, pl, .int a :: st, w) = ex_ev d cal y (c, pl, .long a.toInt64 :: st, w) := by
  rw [ex_ev_eq]
  rfl
theorem ev_l2i {d : Nat} {cal : Nat → List Value → PW → Option ER} {y : Nat} {c : List Instr} {pl st : List Value} {w : PW} {a : Int64} : ex_ev d cal y (.l2i :: c, pl, .long a :: st, w) = ex_ev d cal y (c, pl, .int a.toInt32 :: st, w) := by
  rw [ex_ev_eq]
  rfl
theorem ev_i2b {d : Nat} {cal : Nat → List Value → PW → Option ER} {y : Nat} {c : List Instr} {pl st : List Value} {w : PW} {a : Int32} : ex_ev d cal y (.i2b :: c, pl, .int a :: st, w) = ex_ev d cal y (c, pl, .int a.toInt8.toInt32 :: st, w) := by
  rw [ex_ev_eq]
  rfl
theorem ev_dup_r {d : Nat} {cal : Nat → List Value → PW → Option ER} {y : Nat} {c : List Instr} {pl st : List Value} {w : PW} {a : Nat} : ex_ev d cal y (.dup :: c, pl, .ref a :: st, w) = ex_ev d cal y (c, pl, .ref a :: .ref a :: st, w) := by
  rw [ex_ev_eq]
  rfl
theorem ev_dup_i {d : Nat} {cal : Nat → List Value → PW → Option ER} {y : Nat} {c : List Instr} {pl st : List Value} {w : PW} {a : Int32} : ex_ev d cal y (.dup :: c, pl, .int a :: st, w) = ex_ev d cal y (c, pl, .int a :: .int a :: st, w) := by
  rw [ex_ev_eq]
  rfl
theorem ev_dup2 {d : Nat} {cal : Nat → List Value → PW → Option ER} {y : Nat} {c : List Instr} {pl st : List Value} {w : PW} {a : Int32} {b : Nat} : ex_ev d cal y (.dup2 :: c, pl, .int a :: .ref b :: st, w) = ex_ev d cal y (c, pl, .int a :: .ref b :: .int a :: .ref b :: st, w) := by
  rw [ex_ev_eq]
  rfl
theorem ev_pop {d : Nat} {cal : Nat → List Value → PW → Option ER} {y : Nat} {c : List Instr} {pl st : List Value} {w : PW} {a : Int32} : ex_ev d cal y (.pop :: c, pl, .int a :: st, w) = ex_ev d cal y (c, pl, st, w) := by
  rw [ex_ev_eq]
  rfl
theorem ev_goto {d : Nat} {cal : Nat → List Value → PW → Option ER} {y : Nat} {c : List Instr} {pl st : List Value} {w : PW} {L : Int} : ex_ev d cal y (.goto L :: c, pl, st, w) = ex_ev d cal y (ex_blk y L.toNat, pl, st, w) := by
  rw [ex_ev_eq]
  rfl
theorem ev_jsr {d : Nat} {cal : Nat → List Value → PW → Option ER} {y : Nat} {c : List Instr} {pl st : List Value} {w : PW} {L : Int} : ex_ev d cal y (.jsr L :: c, pl, st, w) = ex_ev d cal y (ex_blk y L.toNat, pl, st, w) := by
  rw [ex_ev_eq]
  rfl
theorem ev_icmp_eq {d : Nat} {cal : Nat → List Value → PW → Option ER} {y : Nat} {c : List Instr} {pl st : List Value} {w : PW} {a b : Int32} {L : Int} : ex_ev d cal y (.if_icmp .eq L :: c, pl, .int b :: .int a :: st, w) = (if a = b then ex_ev d cal y (ex_blk y L.toNat, pl, st, w) else ex_ev d cal y (c, pl, st, w)) := by
  rw [ex_ev_eq]
  show (match (if decide (a = b) = true then ex_go (ex_blk y L.toNat) pl st w else ex_go c pl st w) with | some (.inl r) => some r | some (.inr s') => ex_ev d cal y s' | none => none) = _
  by_cases h : a = b
  · rw [if_pos h, if_pos (decide_eq_true h)]; rfl
  · rw [if_neg h, if_neg (by simpa using h)]; rfl
theorem ev_if_eq {d : Nat} {cal : Nat → List Value → PW → Option ER} {y : Nat} {c : List Instr} {pl st : List Value} {w : PW} {a : Int32} {L : Int} : ex_ev d cal y (.ifCond .eq L :: c, pl, .int a :: st, w) = (if a = 0 then ex_ev d cal y (ex_blk y L.toNat, pl, st, w) else ex_ev d cal y (c, pl, st, w)) := by
  rw [ex_ev_eq]
  show (match (if decide (a = 0) = true then ex_go (ex_blk y L.toNat) pl st w else ex_go c pl st w) with | some (.inl r) => some r | some (.inr s') => ex_ev d cal y s' | none => none) = _
  by_cases h : a = 0
  · rw [if_pos h, if_pos (decide_eq_true h)]; rfl
  · rw [if_neg h, if_neg (by simpa using h)]; rfl
theorem ev_icmp_ne {d : Nat} {cal : Nat → List Value → PW → Option ER} {y : Nat} {c : List Instr} {pl st : List Value} {w : PW} {a b : Int32} {L : Int} : ex_ev d cal y (.if_icmp .ne L :: c, pl, .int b :: .int a :: st, w) = (if ¬ a = b then ex_ev d cal y (ex_blk y L.toNat, pl, st, w) else ex_ev d cal y (c, pl, st, w)) := by
  rw [ex_ev_eq]
  show (match (if decide (¬ a = b) = true then ex_go (ex_blk y L.toNat) pl st w else ex_go c pl st w) with | some (.inl r) => some r | some (.inr s') => ex_ev d cal y s' | none => none) = _
  by_cases h : ¬ a = b
  · rw [if_pos h, if_pos (decide_eq_true h)]; rfl
  · rw [if_neg h, if_neg (by simpa using h)]; rfl
theorem ev_if_ne {d : Nat} {cal : Nat → List Value → PW → Option ER} {y : Nat} {c : List Instr} {pl st : List Value} {w : PW} {a : Int32} {L : Int} : ex_ev d cal y (.ifCond .ne L :: c, pl, .int a :: st, w) = (if ¬ a = 0 then ex_ev d cal y (ex_blk y L.toNat, pl, st, w) else ex_ev d cal y (c, pl, st, w)) := by
  rw [ex_ev_eq]
  show (match (if decide (¬ a = 0) = true then ex_go (ex_blk y L.toNat) pl st w else ex_go c pl st w) with | some (.inl r) => some r | some (.inr s') => ex_ev d cal y s' | none => none) = _
  by_cases h : ¬ a = 0
  · rw [if_pos h, if_pos (decide_eq_true h)]; rfl
  · rw [if_neg h, if_neg (by simpa using h)]; rfl
theorem ev_icmp_lt {d : Nat} {cal : Nat → List Value → PW → Option ER} {y : Nat} {c : List Instr} {pl st : List Value} {w : PW} {a b : Int32} {L : Int} : ex_ev d cal y (.if_icmp .lt L :: c, pl, .int b :: .int a :: st, w) = (if a < b then ex_ev d cal y (ex_blk y L.toNat, pl, st, w) else ex_ev d cal y (c, pl, st, w)) := by
  rw [ex_ev_eq]
  show (match (if decide (a < b) = true then ex_go (ex_blk y L.toNat) pl st w else ex_go c pl st w) with | some (.inl r) => some r | some (.inr s') => ex_ev d cal y s' | none => none) = _
  by_cases h : a < b
  · rw [if_pos h, if_pos (decide_eq_true h)]; rfl
  · rw [if_neg h, if_neg (by simpa using h)]; rfl
theorem ev_if_lt {d : Nat} {cal : Nat → List Value → PW → Option ER} {y : Nat} {c : List Instr} {pl st : List Value} {w : PW} {a : Int32} {L : Int} : ex_ev d cal y (.ifCond .lt L :: c, pl, .int a :: st, w) = (if a < 0 then ex_ev d cal y (ex_blk y L.toNat, pl, st, w) else ex_ev d cal y (c, pl, st, w)) := by
  rw [ex_ev_eq]
  show (match (if decide (a < 0) = true then ex_go (ex_blk y L.toNat) pl st w else ex_go c pl st w) with | some (.inl r) => some r | some (.inr s') => ex_ev d cal y s' | none => none) = _
  by_cases h : a < 0
  · rw [if_pos h, if_pos (decide_eq_true h)]; rfl
  · rw [if_neg h, if_neg (by simpa using h)]; rfl
theorem ev_icmp_ge {d : Nat} {cal : Nat → List Value → PW → Option ER} {y : Nat} {c : List Instr} {pl st : List Value} {w : PW} {a b : Int32} {L : Int} : ex_ev d cal y (.if_icmp .ge L :: c, pl, .int b :: .int a :: st, w) = (if b ≤ a then ex_ev d cal y (ex_blk y L.toNat, pl, st, w) else ex_ev d cal y (c, pl, st, w)) := by
  rw [ex_ev_eq]
  show (match (if decide (b ≤ a) = true then ex_go (ex_blk y L.toNat) pl st w else ex_go c pl st w) with | some (.inl r) => some r | some (.inr s') => ex_ev d cal y s' | none => none) = _
  by_cases h : b ≤ a
  · rw [if_pos h, if_pos (decide_eq_true h)]; rfl
  · rw [if_neg h, if_neg (by simpa using h)]; rfl
theorem ev_if_ge {d : Nat} {cal : Nat → List Value → PW → Option ER} {y : Nat} {c : List Instr} {pl st : List Value} {w : PW} {a : Int32} {L : Int} : ex_ev d cal y (.ifCond .ge L :: c, pl, .int a :: st, w) = (if 0 ≤ a then ex_ev d cal y (ex_blk y L.toNat, pl, st, w) else ex_ev d cal y (c, pl, st, w)) := by
  rw [ex_ev_eq]
  show (match (if decide (0 ≤ a) = true then ex_go (ex_blk y L.toNat) pl st w else ex_go c pl st w) with | some (.inl r) => some r | some (.inr s') => ex_ev d cal y s' | none => none) = _
  by_cases h : 0 ≤ a
  · rw [if_pos h, if_pos (decide_eq_true h)]; rfl
  · rw [if_neg h, if_neg (by simpa using h)]; rfl
theorem ev_icmp_gt {d : Nat} {cal : Nat → List Value → PW → Option ER} {y : Nat} {c : List Instr} {pl st : List Value} {w : PW} {a b : Int32} {L : Int} : ex_ev d cal y (.if_icmp .gt L :: c, pl, .int b :: .int a :: st, w) = (if b < a then ex_ev d cal y (ex_blk y L.toNat, pl, st, w) else ex_ev d cal y (c, pl, st, w)) := by
  rw [ex_ev_eq]
  show (match (if decide (b < a) = true then ex_go (ex_blk y L.toNat) pl st w else ex_go c pl st w) with | some (.inl r) => some r | some (.inr s') => ex_ev d cal y s' | none => none) = _
  by_cases h : b < a
  · rw [if_pos h, if_pos (decide_eq_true h)]; rfl
  · rw [if_neg h, if_neg (by simpa using h)]; rfl
theorem ev_if_gt {d : Nat} {cal : Nat → List Value → PW → Option ER} {y : Nat} {c : List Instr} {pl st : List Value} {w : PW} {a : Int32} {L : Int} : ex_ev d cal y (.ifCond .gt L :: c, pl, .int a :: st, w) = (if 0 < a then ex_ev d cal y (ex_blk y L.toNat, pl, st, w) else ex_ev d cal y (c, pl, st, w)) := by
  rw [ex_ev_eq]
  show (match (if decide (0 < a) = true then ex_go (ex_blk y L.toNat) pl st w else ex_go c pl st w) with | some (.inl r) => some r | some (.inr s') => ex_ev d cal y s' | none => none) = _
  by_cases h : 0 < a
  · rw [if_pos h, if_pos (decide_eq_true h)]; rfl
  · rw [if_neg h, if_neg (by simpa using h)]; rfl
theorem ev_icmp_le {d : Nat} {cal : Nat → List Value → PW → Option ER} {y : Nat} {c : List Instr} {pl st : List Value} {w : PW} {a b : Int32} {L : Int} : ex_ev d cal y (.if_icmp .le L :: c, pl, .int b :: .int a :: st, w) = (if a ≤ b then ex_ev d cal y (ex_blk y L.toNat, pl, st, w) else ex_ev d cal y (c, pl, st, w)) := by
  rw [ex_ev_eq]
  show (match (if decide (a ≤ b) = true then ex_go (ex_blk y L.toNat) pl st w else ex_go c pl st w) with | some (.inl r) => some r | some (.inr s') => ex_ev d cal y s' | none => none) = _
  by_cases h : a ≤ b
  · rw [if_pos h, if_pos (decide_eq_true h)]; rfl
  · rw [if_neg h, if_neg (by simpa using h)]; rfl
theorem ev_if_le {d : Nat} {cal : Nat → List Value → PW → Option ER} {y : Nat} {c : List Instr} {pl st : List Value} {w : PW} {a : Int32} {L : Int} : ex_ev d cal y (.ifCond .le L :: c, pl, .int a :: st, w) = (if a ≤ 0 then ex_ev d cal y (ex_blk y L.toNat, pl, st, w) else ex_ev d cal y (c, pl, st, w)) := by
  rw [ex_ev_eq]
  show (match (if decide (a ≤ 0) = true then ex_go (ex_blk y L.toNat) pl st w else ex_go c pl st w) with | some (.inl r) => some r | some (.inr s') => ex_ev d cal y s' | none => none) = _
  by_cases h : a ≤ 0
  · rw [if_pos h, if_pos (decide_eq_true h)]; rfl
  · rw [if_neg h, if_neg (by simpa using h)]; rfl
theorem ev_tswitch {d : Nat} {cal : Nat → List Value → PW → Option ER} {y : Nat} {c : List Instr} {pl st : List Value} {w : PW} {df lo hi : Int} {offs : Array Int} {a : Int32} : ex_ev d cal y (.tableswitch df lo hi offs :: c, pl, .int a :: st, w) = (if a.toInt < lo ∨ hi < a.toInt then ex_ev d cal y (ex_blk y df.toNat, pl, st, w) else ex_ev d cal y (ex_blk y ((offs.toList.getD (a.toInt - lo).toNat 0).toNat), pl, st, w)) := by
  rw [ex_ev_eq]
  show (match (if a.toInt < lo ∨ hi < a.toInt then ex_go (ex_blk y df.toNat) pl st w else ex_go (ex_blk y ((offs.toList.getD (a.toInt - lo).toNat 0).toNat)) pl st w) with | some (.inl r) => some r | some (.inr s') => ex_ev d cal y s' | none => none) = _
  split <;> rfl
theorem ev_lswitch {d : Nat} {cal : Nat → List Value → PW → Option ER} {y : Nat} {c : List Instr} {pl st : List Value} {w : PW} {df : Int} {ps : Array (Int × Int)} {a : Int32} : ex_ev d cal y (.lookupswitch df ps :: c, pl, .int a :: st, w) = ex_ev d cal y (ex_blk y (ex_lks ps.toList df a.toInt).toNat, pl, st, w) := by
  rw [ex_ev_eq]
  rfl
def ex_fv (w : PW) (o e : Nat) : Option Value := match ex_fk o e with
  | some 0 => some (.int (w.1 o (e % 64)))
  | some 1 => some (.long w.2)
  | some 2 => some (.int (w.1 o (e % 64)))
  | some (n + 3) => some (.ref n)
  | none => none
theorem ev_getf {d : Nat} {cal : Nat → List Value → PW → Option ER} {y : Nat} {c : List Instr} {pl st : List Value} {w : PW} {o e : Nat} : ex_ev d cal y (.getfield e :: c, pl, .ref o :: st, w) = (match ex_fv w o e with | some v => ex_ev d cal y (c, pl, v :: st, w) | none => none) := by
  rw [ex_ev_eq]
  show (match ex_gf e c pl (.ref o :: st) w with | some (.inl r) => some r | some (.inr s') => ex_ev d cal y s' | none => none) = _
  unfold ex_gf ex_fv
  dsimp only
  cases ex_fk o e with
  | none => rfl
  | some k =>
    match k with
    | 0 => rfl
    | 1 => rfl
    | 2 => rfl
    | n + 3 => rfl
theorem ev_putf {d : Nat} {cal : Nat → List Value → PW → Option ER} {y : Nat} {c : List Instr} {pl st : List Value} {w : PW} {o e : Nat} {x : Int32} : ex_ev d cal y (.putfield e :: c, pl, .int x :: .ref o :: st, w) = (match ex_fk o e with | some 0 => ex_ev d cal y (c, pl, st, ex_up w o (e % 64) x) | some 2 => (if x = 0 ∨ x = 1 then ex_ev d cal y (c, pl, st, ex_up w o (e % 64) x) else none) | _ => none) := by
  rw [ex_ev_eq]
  show (match ex_pf e c pl (.int x :: .ref o :: st) w with | some (.inl r) => some r | some (.inr s') => ex_ev d cal y s' | none => none) = _
  unfold ex_pf
  dsimp only
  cases ex_fk o e with
  | none => rfl
  | some k =>
    match k with
    | 0 => rfl
    | 1 => rfl
    | 2 =>
      dsimp only
      split <;> rfl
    | n + 3 => rfl
theorem ev_putl {d : Nat} {cal : Nat → List Value → PW → Option ER} {y : Nat} {c : List Instr} {pl st : List Value} {w : PW} {o e : Nat} {x : Int64} : ex_ev d cal y (.putfield e :: c, pl, .long x :: .ref o :: st, w) = (match ex_fk o e with | some 1 => ex_ev d cal y (c, pl, st, (w.1, x)) | _ => none) := by
  rw [ex_ev_eq]
  show (match ex_pf e c pl (.long x :: .ref o :: st) w with | some (.inl r) => some r | some (.inr s') => ex_ev d cal y s' | none => none) = _
  unfold ex_pf
  dsimp only
  cases ex_fk o e with
  | none => rfl
  | some k =>
    match k with
    | 0 => rfl
    | 1 => rfl
    | n + 2 => rfl
theorem ev_gets {d : Nat} {cal : Nat → List Value → PW → Option ER} {y : Nat} {c : List Instr} {pl st : List Value} {w : PW} {o : Nat} : ex_ev d cal y (.getstatic o :: c, pl, st, w) = (if o = 1000 ∨ o = 1001 then ex_ev d cal y (c, pl, .ref o :: st, w) else none) := by
  rw [ex_ev_eq]
  show (match (if o = 1000 ∨ o = 1001 then ex_go c pl (.ref o :: st) w else none) with | some (.inl r) => some r | some (.inr s') => ex_ev d cal y s' | none => none) = _
  split <;> rfl
theorem ev_iald {d : Nat} {cal : Nat → List Value → PW → Option ER} {y : Nat} {c : List Instr} {pl st : List Value} {w : PW} {o : Nat} {i : Int32} : ex_ev d cal y (.iaload :: c, pl, .int i :: .ref o :: st, w) = (match ex_ald w o i with | some x => ex_ev d cal y (c, pl, .int x :: st, w) | none => none) := by
  rw [ex_ev_eq]
  show (match (match ex_ald w o i with | some x => ex_go c pl (.int x :: st) w | none => none) with | some (.inl r) => some r | some (.inr s') => ex_ev d cal y s' | none => none) = _
  cases ex_ald w o i <;> rfl
theorem ev_bald {d : Nat} {cal : Nat → List Value → PW → Option ER} {y : Nat} {c : List Instr} {pl st : List Value} {w : PW} {o : Nat} {i : Int32} : ex_ev d cal y (.baload :: c, pl, .int i :: .ref o :: st, w) = (if ex_cls o = 13 ∧ ¬ (i < 0 ∨ ex_len o ≤ i.toNatClampNeg) then ex_ev d cal y (c, pl, .int (w.1 o i.toNatClampNeg) :: st, w) else none) := by
  rw [ex_ev_eq]
  show (match (if ex_cls o = 13 ∧ ¬ (i < 0 ∨ ex_len o ≤ i.toNatClampNeg) then ex_go c pl (.int (w.1 o i.toNatClampNeg) :: st) w else none) with | some (.inl r) => some r | some (.inr s') => ex_ev d cal y s' | none => none) = _
  split <;> rfl
theorem ev_iast {d : Nat} {cal : Nat → List Value → PW → Option ER} {y : Nat} {c : List Instr} {pl st : List Value} {w : PW} {o : Nat} {i x : Int32} : ex_ev d cal y (.iastore :: c, pl, .int x :: .int i :: .ref o :: st, w) = (if ex_cls o = 12 ∧ ¬ (i < 0 ∨ ex_len o ≤ i.toNatClampNeg) then ex_ev d cal y (c, pl, st, ex_up w o i.toNatClampNeg x) else none) := by
  rw [ex_ev_eq]
  show (match (if ex_cls o = 12 ∧ ¬ (i < 0 ∨ ex_len o ≤ i.toNatClampNeg) then ex_go c pl st (ex_up w o i.toNatClampNeg x) else none) with | some (.inl r) => some r | some (.inr s') => ex_ev d cal y s' | none => none) = _
  split <;> rfl
theorem ev_bast {d : Nat} {cal : Nat → List Value → PW → Option ER} {y : Nat} {c : List Instr} {pl st : List Value} {w : PW} {o : Nat} {i x : Int32} : ex_ev d cal y (.bastore :: c, pl, .int x :: .int i :: .ref o :: st, w) = (if ex_cls o = 13 ∧ ¬ (i < 0 ∨ ex_len o ≤ i.toNatClampNeg) then ex_ev d cal y (c, pl, st, ex_up w o i.toNatClampNeg (x.toInt8.toInt32)) else none) := by
  rw [ex_ev_eq]
  show (match (if ex_cls o = 13 ∧ ¬ (i < 0 ∨ ex_len o ≤ i.toNatClampNeg) then ex_go c pl st (ex_up w o i.toNatClampNeg (x.toInt8.toInt32)) else none) with | some (.inl r) => some r | some (.inr s') => ex_ev d cal y s' | none => none) = _
  split <;> rfl
theorem ev_alen {d : Nat} {cal : Nat → List Value → PW → Option ER} {y : Nat} {c : List Instr} {pl st : List Value} {w : PW} {o : Nat} : ex_ev d cal y (.arraylength :: c, pl, .ref o :: st, w) = (if ex_cls o = 12 then ex_ev d cal y (c, pl, .int (Int32.ofNat (ex_len o)) :: st, w) else none) := by
  rw [ex_ev_eq]
  show (match (if ex_cls o = 12 then ex_go c pl (.int (Int32.ofNat (ex_len o)) :: st) w else none) with | some (.inl r) => some r | some (.inr s') => ex_ev d cal y s' | none => none) = _
  split <;> rfl
theorem ev_call {d : Nat} {cal : Nat → List Value → PW → Option ER} {y : Nat} {c : List Instr} {pl st : List Value} {w : PW} {e : Nat} : ex_ev d cal y (.invokestatic e :: c, pl, st, w) = (match ex_spl (e % 8) [] st with | some (as, r) => (if ex_low r = true then (match cal (e / 8) as w with | some (v, w1) => ex_ev d cal y (c, pl, v.toList ++ r, w1) | none => none) else none) | none => none) := by
  rw [ex_ev_eq]
  show (match ex_call cal (e / 8) (e % 8) c pl st w with | some (.inl r) => some r | some (.inr s') => ex_ev d cal y s' | none => none) = _
  unfold ex_call
  cases ex_spl (e % 8) [] st with
  | none => rfl
  | some q =>
    obtain ⟨as, r⟩ := q
    dsimp only
    split
    · unfold ex_back
      cases cal (e / 8) as w with
      | none => rfl
      | some q => rfl
    · rfl
theorem ev_callv {d : Nat} {cal : Nat → List Value → PW → Option ER} {y : Nat} {c : List Instr} {pl st : List Value} {w : PW} {e : Nat} : ex_ev d cal y (.invokevirtual e :: c, pl, st, w) = (match ex_spl (e % 8 + 1) [] st with | some (as, r) => (if ex_low r = true then (match cal (e / 8) as w with | some (v, w1) => ex_ev d cal y (c, pl, v.toList ++ r, w1) | none => none) else none) | none => none) := by
  rw [ex_ev_eq]
  show (match ex_call cal (e / 8) (e % 8 + 1) c pl st w with | some (.inl r) => some r | some (.inr s') => ex_ev d cal y s' | none => none) = _
  unfold ex_call
  cases ex_spl (e % 8 + 1) [] st with
  | none => rfl
  | some q =>
    obtain ⟨as, r⟩ := q
    dsimp only
    split
    · unfold ex_back
      cases cal (e / 8) as w with
      | none => rfl
      | some q => rfl
    · rfl
theorem ev_calli {d : Nat} {cal : Nat → List Value → PW → Option ER} {y : Nat} {c : List Instr} {pl st : List Value} {w : PW} {x n : Nat} : ex_ev d cal y (.invokeinterface x n :: c, pl, st, w) = (match ex_vcall cal x n c pl st w with | some (.inl r) => some r | some (.inr s') => ex_ev d cal y s' | none => none) := by
  rw [ex_ev_eq]
  rfl
theorem ev_native {d : Nat} {cal : Nat → List Value → PW → Option ER} {y : Nat} {c : List Instr} {pl st : List Value} {w : PW} {k : Nat} : ex_ev d cal y (.invokedynamic k :: c, pl, st, w) = (match ex_nat d k c pl st w with | some (.inl r) => some r | some (.inr s') => ex_ev d cal y s' | none => none) := by
  rw [ex_ev_eq]
  rfl
theorem ev_iret {d : Nat} {cal : Nat → List Value → PW → Option ER} {y : Nat} {c : List Instr} {pl st : List Value} {w : PW} {x : Int32} : ex_ev d cal y (.ireturn :: c, pl, [.int x], w) = (if ex_ret y = some .int then some (some (.int x), w) else none) := by
  rw [ex_ev_eq]
  show (match (if ex_ret y = some .int then some (.inl (some (.int x), w)) else none) with | some (.inl r) => some r | some (.inr s') => ex_ev d cal y s' | none => none) = _
  split <;> rfl
theorem ev_zret {d : Nat} {cal : Nat → List Value → PW → Option ER} {y : Nat} {c : List Instr} {pl st : List Value} {w : PW} {x : Int32} : ex_ev d cal y (.areturn :: c, pl, [.int x], w) = (if x = 0 ∨ x = 1 then (if ex_ret y = some .boolean then some (some (.int x), w) else none) else none) := by
  rw [ex_ev_eq]
  show (match (if x = 0 ∨ x = 1 then (if ex_ret y = some .boolean then some (.inl (some (.int x), w)) else none) else none) with | some (.inl r) => some r | some (.inr s') => ex_ev d cal y s' | none => none) = _
  split
  · split <;> rfl
  · rfl
theorem ev_lret {d : Nat} {cal : Nat → List Value → PW → Option ER} {y : Nat} {c : List Instr} {pl st : List Value} {w : PW} {x : Int64} : ex_ev d cal y (.lreturn :: c, pl, [.long x], w) = (if ex_ret y = some .long then some (some (.long x), w) else none) := by
  rw [ex_ev_eq]
  show (match (if ex_ret y = some .long then some (.inl (some (.long x), w)) else none) with | some (.inl r) => some r | some (.inr s') => ex_ev d cal y s' | none => none) = _
  split <;> rfl
theorem ev_vret {d : Nat} {cal : Nat → List Value → PW → Option ER} {y : Nat} {c : List Instr} {pl st : List Value} {w : PW}  : ex_ev d cal y (.return_ :: c, pl, [], w) = (if ex_ret y = none then some (none, w) else none) := by
  rw [ex_ev_eq]
  show (match (if ex_ret y = none then some (.inl (none, w)) else none) with | some (.inl r) => some r | some (.inr s') => ex_ev d cal y s' | none => none) = _
  split <;> rfl
theorem ex_cal_s {d y : Nat} {as : List Value} {w : PW} (h : ex_okR y as = true) : ex_cal (d + 1) y as w = ex_ev d (ex_cal d) y (ex_blk y 0, ex_ent y as, [], w) := by
  show (if ex_okR y as = true then _ else _) = _
  rw [if_pos h]
end
